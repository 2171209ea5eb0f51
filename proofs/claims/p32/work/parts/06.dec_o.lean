theorem dgX0_init_0 : (decode cX0_init 0 = .ok (.aload_n 0, 1)) ∧ (decode cX0_init 1 = .ok (.invokespecial 3, 3)) ∧ (decode cX0_init 4 = .ok (.aload_n 0, 1)) ∧ (decode cX0_init 5 = .ok (.new 9, 3)) ∧ (decode cX0_init 8 = .ok (.dup, 1)) ∧ (decode cX0_init 9 = .ok (.invokespecial 11, 3)) ∧ (decode cX0_init 12 = .ok (.putfield 12, 3)) ∧ (decode cX0_init 15 = .ok (.aload_n 0, 1)) ∧ (decode cX0_init 16 = .ok (.ldc 18, 2)) ∧ (decode cX0_init 18 = .ok (.putfield 19, 3)) ∧ (decode cX0_init 21 = .ok (.aload_n 0, 1)) ∧ (decode cX0_init 22 = .ok (.iconst (-1), 1)) ∧ (decode cX0_init 23 = .ok (.putfield 23, 3)) ∧ (decode cX0_init 26 = .ok (.aload_n 0, 1)) ∧ (decode cX0_init 27 = .ok (.iconst (-1), 1)) ∧ (decode cX0_init 28 = .ok (.putfield 26, 3)) := by decide +kernel
theorem dX0_init_0 : decode cX0_init 0 = .ok (.aload_n 0, 1) := dgX0_init_0.1
theorem dX0_init_1 : decode cX0_init 1 = .ok (.invokespecial 3, 3) := dgX0_init_0.2.1
theorem dX0_init_4 : decode cX0_init 4 = .ok (.aload_n 0, 1) := dgX0_init_0.2.2.1
theorem dX0_init_5 : decode cX0_init 5 = .ok (.new 9, 3) := dgX0_init_0.2.2.2.1
theorem dX0_init_8 : decode cX0_init 8 = .ok (.dup, 1) := dgX0_init_0.2.2.2.2.1
theorem dX0_init_9 : decode cX0_init 9 = .ok (.invokespecial 11, 3) := dgX0_init_0.2.2.2.2.2.1
theorem dX0_init_12 : decode cX0_init 12 = .ok (.putfield 12, 3) := dgX0_init_0.2.2.2.2.2.2.1
theorem dX0_init_15 : decode cX0_init 15 = .ok (.aload_n 0, 1) := dgX0_init_0.2.2.2.2.2.2.2.1
theorem dX0_init_16 : decode cX0_init 16 = .ok (.ldc 18, 2) := dgX0_init_0.2.2.2.2.2.2.2.2.1
theorem dX0_init_18 : decode cX0_init 18 = .ok (.putfield 19, 3) := dgX0_init_0.2.2.2.2.2.2.2.2.2.1
theorem dX0_init_21 : decode cX0_init 21 = .ok (.aload_n 0, 1) := dgX0_init_0.2.2.2.2.2.2.2.2.2.2.1
theorem dX0_init_22 : decode cX0_init 22 = .ok (.iconst (-1), 1) := dgX0_init_0.2.2.2.2.2.2.2.2.2.2.2.1
theorem dX0_init_23 : decode cX0_init 23 = .ok (.putfield 23, 3) := dgX0_init_0.2.2.2.2.2.2.2.2.2.2.2.2.1
theorem dX0_init_26 : decode cX0_init 26 = .ok (.aload_n 0, 1) := dgX0_init_0.2.2.2.2.2.2.2.2.2.2.2.2.2.1
theorem dX0_init_27 : decode cX0_init 27 = .ok (.iconst (-1), 1) := dgX0_init_0.2.2.2.2.2.2.2.2.2.2.2.2.2.2.1
theorem dX0_init_28 : decode cX0_init 28 = .ok (.putfield 26, 3) := dgX0_init_0.2.2.2.2.2.2.2.2.2.2.2.2.2.2.2
theorem dgX0_init_16 : (decode cX0_init 31 = .ok (.aload_n 0, 1)) ∧ (decode cX0_init 32 = .ok (.iload_n 1, 1)) ∧ (decode cX0_init 33 = .ok (.putfield 29, 3)) ∧ (decode cX0_init 36 = .ok (.return_, 1)) := by decide +kernel
theorem dX0_init_31 : decode cX0_init 31 = .ok (.aload_n 0, 1) := dgX0_init_16.1
theorem dX0_init_32 : decode cX0_init 32 = .ok (.iload_n 1, 1) := dgX0_init_16.2.1
theorem dX0_init_33 : decode cX0_init 33 = .ok (.putfield 29, 3) := dgX0_init_16.2.2.1
theorem dX0_init_36 : decode cX0_init 36 = .ok (.return_, 1) := dgX0_init_16.2.2.2
theorem dgX0_cookOver_0 : (decode cX0_cookOver 0 = .ok (.aload_n 0, 1)) ∧ (decode cX0_cookOver 1 = .ok (.iconst 1, 1)) ∧ (decode cX0_cookOver 2 = .ok (.putfield 32, 3)) ∧ (decode cX0_cookOver 5 = .ok (.iload_n 1, 1)) ∧ (decode cX0_cookOver 6 = .ok (.aload_n 0, 1)) ∧ (decode cX0_cookOver 7 = .ok (.getfield 12, 3)) ∧ (decode cX0_cookOver 10 = .ok (.getfield 36, 3)) ∧ (decode cX0_cookOver 13 = .ok (.invokestatic 39, 3)) ∧ (decode cX0_cookOver 16 = .ok (.istore_n 3, 1)) ∧ (decode cX0_cookOver 17 = .ok (.iload_n 3, 1)) ∧ (decode cX0_cookOver 18 = .ok (.iload_n 1, 1)) ∧ (decode cX0_cookOver 19 = .ok (.if_icmp .ge 8, 3)) ∧ (decode cX0_cookOver 22 = .ok (.aload_n 0, 1)) ∧ (decode cX0_cookOver 23 = .ok (.iload_n 3, 1)) ∧ (decode cX0_cookOver 24 = .ok (.putfield 23, 3)) ∧ (decode cX0_cookOver 27 = .ok (.aload_n 0, 1)) := by decide +kernel
theorem dX0_cookOver_0 : decode cX0_cookOver 0 = .ok (.aload_n 0, 1) := dgX0_cookOver_0.1
theorem dX0_cookOver_1 : decode cX0_cookOver 1 = .ok (.iconst 1, 1) := dgX0_cookOver_0.2.1
theorem dX0_cookOver_2 : decode cX0_cookOver 2 = .ok (.putfield 32, 3) := dgX0_cookOver_0.2.2.1
theorem dX0_cookOver_5 : decode cX0_cookOver 5 = .ok (.iload_n 1, 1) := dgX0_cookOver_0.2.2.2.1
theorem dX0_cookOver_6 : decode cX0_cookOver 6 = .ok (.aload_n 0, 1) := dgX0_cookOver_0.2.2.2.2.1
theorem dX0_cookOver_7 : decode cX0_cookOver 7 = .ok (.getfield 12, 3) := dgX0_cookOver_0.2.2.2.2.2.1
theorem dX0_cookOver_10 : decode cX0_cookOver 10 = .ok (.getfield 36, 3) := dgX0_cookOver_0.2.2.2.2.2.2.1
theorem dX0_cookOver_13 : decode cX0_cookOver 13 = .ok (.invokestatic 39, 3) := dgX0_cookOver_0.2.2.2.2.2.2.2.1
theorem dX0_cookOver_16 : decode cX0_cookOver 16 = .ok (.istore_n 3, 1) := dgX0_cookOver_0.2.2.2.2.2.2.2.2.1
theorem dX0_cookOver_17 : decode cX0_cookOver 17 = .ok (.iload_n 3, 1) := dgX0_cookOver_0.2.2.2.2.2.2.2.2.2.1
theorem dX0_cookOver_18 : decode cX0_cookOver 18 = .ok (.iload_n 1, 1) := dgX0_cookOver_0.2.2.2.2.2.2.2.2.2.2.1
theorem dX0_cookOver_19 : decode cX0_cookOver 19 = .ok (.if_icmp .ge 8, 3) := dgX0_cookOver_0.2.2.2.2.2.2.2.2.2.2.2.1
theorem dX0_cookOver_22 : decode cX0_cookOver 22 = .ok (.aload_n 0, 1) := dgX0_cookOver_0.2.2.2.2.2.2.2.2.2.2.2.2.1
theorem dX0_cookOver_23 : decode cX0_cookOver 23 = .ok (.iload_n 3, 1) := dgX0_cookOver_0.2.2.2.2.2.2.2.2.2.2.2.2.2.1
theorem dX0_cookOver_24 : decode cX0_cookOver 24 = .ok (.putfield 23, 3) := dgX0_cookOver_0.2.2.2.2.2.2.2.2.2.2.2.2.2.2.1
theorem dX0_cookOver_27 : decode cX0_cookOver 27 = .ok (.aload_n 0, 1) := dgX0_cookOver_0.2.2.2.2.2.2.2.2.2.2.2.2.2.2.2
theorem dgX0_cookOver_16 : (decode cX0_cookOver 28 = .ok (.iload_n 3, 1)) ∧ (decode cX0_cookOver 29 = .ok (.invokevirtual 45, 3)) ∧ (decode cX0_cookOver 32 = .ok (.istore 4, 2)) ∧ (decode cX0_cookOver 34 = .ok (.iload 4, 2)) ∧ (decode cX0_cookOver 36 = .ok (.iconst (-1), 1)) ∧ (decode cX0_cookOver 37 = .ok (.if_icmp .eq 42, 3)) ∧ (decode cX0_cookOver 40 = .ok (.aload_n 0, 1)) ∧ (decode cX0_cookOver 41 = .ok (.aload_n 0, 1)) ∧ (decode cX0_cookOver 42 = .ok (.getfield 12, 3)) ∧ (decode cX0_cookOver 45 = .ok (.iload 4, 2)) ∧ (decode cX0_cookOver 47 = .ok (.invokevirtual 49, 3)) ∧ (decode cX0_cookOver 50 = .ok (.putfield 19, 3)) ∧ (decode cX0_cookOver 53 = .ok (.aload_n 0, 1)) ∧ (decode cX0_cookOver 54 = .ok (.aload_n 2, 1)) ∧ (decode cX0_cookOver 55 = .ok (.aload_n 0, 1)) ∧ (decode cX0_cookOver 56 = .ok (.getfield 19, 3)) := by decide +kernel
theorem dX0_cookOver_28 : decode cX0_cookOver 28 = .ok (.iload_n 3, 1) := dgX0_cookOver_16.1
theorem dX0_cookOver_29 : decode cX0_cookOver 29 = .ok (.invokevirtual 45, 3) := dgX0_cookOver_16.2.1
theorem dX0_cookOver_32 : decode cX0_cookOver 32 = .ok (.istore 4, 2) := dgX0_cookOver_16.2.2.1
theorem dX0_cookOver_34 : decode cX0_cookOver 34 = .ok (.iload 4, 2) := dgX0_cookOver_16.2.2.2.1
theorem dX0_cookOver_36 : decode cX0_cookOver 36 = .ok (.iconst (-1), 1) := dgX0_cookOver_16.2.2.2.2.1
theorem dX0_cookOver_37 : decode cX0_cookOver 37 = .ok (.if_icmp .eq 42, 3) := dgX0_cookOver_16.2.2.2.2.2.1
theorem dX0_cookOver_40 : decode cX0_cookOver 40 = .ok (.aload_n 0, 1) := dgX0_cookOver_16.2.2.2.2.2.2.1
theorem dX0_cookOver_41 : decode cX0_cookOver 41 = .ok (.aload_n 0, 1) := dgX0_cookOver_16.2.2.2.2.2.2.2.1
theorem dX0_cookOver_42 : decode cX0_cookOver 42 = .ok (.getfield 12, 3) := dgX0_cookOver_16.2.2.2.2.2.2.2.2.1
theorem dX0_cookOver_45 : decode cX0_cookOver 45 = .ok (.iload 4, 2) := dgX0_cookOver_16.2.2.2.2.2.2.2.2.2.1
theorem dX0_cookOver_47 : decode cX0_cookOver 47 = .ok (.invokevirtual 49, 3) := dgX0_cookOver_16.2.2.2.2.2.2.2.2.2.2.1
theorem dX0_cookOver_50 : decode cX0_cookOver 50 = .ok (.putfield 19, 3) := dgX0_cookOver_16.2.2.2.2.2.2.2.2.2.2.2.1
theorem dX0_cookOver_53 : decode cX0_cookOver 53 = .ok (.aload_n 0, 1) := dgX0_cookOver_16.2.2.2.2.2.2.2.2.2.2.2.2.1
theorem dX0_cookOver_54 : decode cX0_cookOver 54 = .ok (.aload_n 2, 1) := dgX0_cookOver_16.2.2.2.2.2.2.2.2.2.2.2.2.2.1
theorem dX0_cookOver_55 : decode cX0_cookOver 55 = .ok (.aload_n 0, 1) := dgX0_cookOver_16.2.2.2.2.2.2.2.2.2.2.2.2.2.2.1
theorem dX0_cookOver_56 : decode cX0_cookOver 56 = .ok (.getfield 19, 3) := dgX0_cookOver_16.2.2.2.2.2.2.2.2.2.2.2.2.2.2.2
theorem dgX0_cookOver_32 : (decode cX0_cookOver 59 = .ok (.invokevirtual 52, 3)) ∧ (decode cX0_cookOver 62 = .ok (.putfield 57, 3)) ∧ (decode cX0_cookOver 65 = .ok (.aload_n 0, 1)) ∧ (decode cX0_cookOver 66 = .ok (.aload_n 0, 1)) ∧ (decode cX0_cookOver 67 = .ok (.iload 4, 2)) ∧ (decode cX0_cookOver 69 = .ok (.iconst 1, 1)) ∧ (decode cX0_cookOver 70 = .ok (.iadd, 1)) ∧ (decode cX0_cookOver 71 = .ok (.iload_n 3, 1)) ∧ (decode cX0_cookOver 72 = .ok (.aload_n 2, 1)) ∧ (decode cX0_cookOver 73 = .ok (.invokevirtual 60, 3)) ∧ (decode cX0_cookOver 76 = .ok (.putfield 26, 3)) ∧ (decode cX0_cookOver 79 = .ok (.aload_n 0, 1)) ∧ (decode cX0_cookOver 80 = .ok (.aload_n 0, 1)) ∧ (decode cX0_cookOver 81 = .ok (.getfield 64, 3)) ∧ (decode cX0_cookOver 84 = .ok (.i2l, 1)) ∧ (decode cX0_cookOver 85 = .ok (.aload_n 0, 1)) := by decide +kernel
theorem dX0_cookOver_59 : decode cX0_cookOver 59 = .ok (.invokevirtual 52, 3) := dgX0_cookOver_32.1
theorem dX0_cookOver_62 : decode cX0_cookOver 62 = .ok (.putfield 57, 3) := dgX0_cookOver_32.2.1
theorem dX0_cookOver_65 : decode cX0_cookOver 65 = .ok (.aload_n 0, 1) := dgX0_cookOver_32.2.2.1
theorem dX0_cookOver_66 : decode cX0_cookOver 66 = .ok (.aload_n 0, 1) := dgX0_cookOver_32.2.2.2.1
theorem dX0_cookOver_67 : decode cX0_cookOver 67 = .ok (.iload 4, 2) := dgX0_cookOver_32.2.2.2.2.1
theorem dX0_cookOver_69 : decode cX0_cookOver 69 = .ok (.iconst 1, 1) := dgX0_cookOver_32.2.2.2.2.2.1
theorem dX0_cookOver_70 : decode cX0_cookOver 70 = .ok (.iadd, 1) := dgX0_cookOver_32.2.2.2.2.2.2.1
theorem dX0_cookOver_71 : decode cX0_cookOver 71 = .ok (.iload_n 3, 1) := dgX0_cookOver_32.2.2.2.2.2.2.2.1
theorem dX0_cookOver_72 : decode cX0_cookOver 72 = .ok (.aload_n 2, 1) := dgX0_cookOver_32.2.2.2.2.2.2.2.2.1
theorem dX0_cookOver_73 : decode cX0_cookOver 73 = .ok (.invokevirtual 60, 3) := dgX0_cookOver_32.2.2.2.2.2.2.2.2.2.1
theorem dX0_cookOver_76 : decode cX0_cookOver 76 = .ok (.putfield 26, 3) := dgX0_cookOver_32.2.2.2.2.2.2.2.2.2.2.1
theorem dX0_cookOver_79 : decode cX0_cookOver 79 = .ok (.aload_n 0, 1) := dgX0_cookOver_32.2.2.2.2.2.2.2.2.2.2.2.1
theorem dX0_cookOver_80 : decode cX0_cookOver 80 = .ok (.aload_n 0, 1) := dgX0_cookOver_32.2.2.2.2.2.2.2.2.2.2.2.2.1
theorem dX0_cookOver_81 : decode cX0_cookOver 81 = .ok (.getfield 64, 3) := dgX0_cookOver_32.2.2.2.2.2.2.2.2.2.2.2.2.2.1
theorem dX0_cookOver_84 : decode cX0_cookOver 84 = .ok (.i2l, 1) := dgX0_cookOver_32.2.2.2.2.2.2.2.2.2.2.2.2.2.2.1
theorem dX0_cookOver_85 : decode cX0_cookOver 85 = .ok (.aload_n 0, 1) := dgX0_cookOver_32.2.2.2.2.2.2.2.2.2.2.2.2.2.2.2
theorem dgX0_cookOver_48 : (decode cX0_cookOver 86 = .ok (.getfield 57, 3)) ∧ (decode cX0_cookOver 89 = .ok (.i2l, 1)) ∧ (decode cX0_cookOver 90 = .ok (.lmul, 1)) ∧ (decode cX0_cookOver 91 = .ok (.ldc2_w 67, 3)) ∧ (decode cX0_cookOver 94 = .ok (.ldiv, 1)) ∧ (decode cX0_cookOver 95 = .ok (.l2i, 1)) ∧ (decode cX0_cookOver 96 = .ok (.putfield 69, 3)) ∧ (decode cX0_cookOver 99 = .ok (.aload_n 0, 1)) ∧ (decode cX0_cookOver 100 = .ok (.dup, 1)) ∧ (decode cX0_cookOver 101 = .ok (.getfield 64, 3)) ∧ (decode cX0_cookOver 104 = .ok (.aload_n 0, 1)) ∧ (decode cX0_cookOver 105 = .ok (.getfield 69, 3)) ∧ (decode cX0_cookOver 108 = .ok (.isub, 1)) ∧ (decode cX0_cookOver 109 = .ok (.putfield 64, 3)) ∧ (decode cX0_cookOver 112 = .ok (.return_, 1)) := by decide +kernel
theorem dX0_cookOver_86 : decode cX0_cookOver 86 = .ok (.getfield 57, 3) := dgX0_cookOver_48.1
theorem dX0_cookOver_89 : decode cX0_cookOver 89 = .ok (.i2l, 1) := dgX0_cookOver_48.2.1
theorem dX0_cookOver_90 : decode cX0_cookOver 90 = .ok (.lmul, 1) := dgX0_cookOver_48.2.2.1
theorem dX0_cookOver_91 : decode cX0_cookOver 91 = .ok (.ldc2_w 67, 3) := dgX0_cookOver_48.2.2.2.1
theorem dX0_cookOver_94 : decode cX0_cookOver 94 = .ok (.ldiv, 1) := dgX0_cookOver_48.2.2.2.2.1
theorem dX0_cookOver_95 : decode cX0_cookOver 95 = .ok (.l2i, 1) := dgX0_cookOver_48.2.2.2.2.2.1
theorem dX0_cookOver_96 : decode cX0_cookOver 96 = .ok (.putfield 69, 3) := dgX0_cookOver_48.2.2.2.2.2.2.1
theorem dX0_cookOver_99 : decode cX0_cookOver 99 = .ok (.aload_n 0, 1) := dgX0_cookOver_48.2.2.2.2.2.2.2.1
theorem dX0_cookOver_100 : decode cX0_cookOver 100 = .ok (.dup, 1) := dgX0_cookOver_48.2.2.2.2.2.2.2.2.1
theorem dX0_cookOver_101 : decode cX0_cookOver 101 = .ok (.getfield 64, 3) := dgX0_cookOver_48.2.2.2.2.2.2.2.2.2.1
theorem dX0_cookOver_104 : decode cX0_cookOver 104 = .ok (.aload_n 0, 1) := dgX0_cookOver_48.2.2.2.2.2.2.2.2.2.2.1
theorem dX0_cookOver_105 : decode cX0_cookOver 105 = .ok (.getfield 69, 3) := dgX0_cookOver_48.2.2.2.2.2.2.2.2.2.2.2.1
theorem dX0_cookOver_108 : decode cX0_cookOver 108 = .ok (.isub, 1) := dgX0_cookOver_48.2.2.2.2.2.2.2.2.2.2.2.2.1
theorem dX0_cookOver_109 : decode cX0_cookOver 109 = .ok (.putfield 64, 3) := dgX0_cookOver_48.2.2.2.2.2.2.2.2.2.2.2.2.2.1
theorem dX0_cookOver_112 : decode cX0_cookOver 112 = .ok (.return_, 1) := dgX0_cookOver_48.2.2.2.2.2.2.2.2.2.2.2.2.2.2
theorem dgX0_findTop_0 : (decode cX0_findTop 0 = .ok (.iconst (-1), 1)) ∧ (decode cX0_findTop 1 = .ok (.istore_n 2, 1)) ∧ (decode cX0_findTop 2 = .ok (.iconst 0, 1)) ∧ (decode cX0_findTop 3 = .ok (.istore_n 3, 1)) ∧ (decode cX0_findTop 4 = .ok (.iconst 0, 1)) ∧ (decode cX0_findTop 5 = .ok (.istore 4, 2)) ∧ (decode cX0_findTop 7 = .ok (.iload 4, 2)) ∧ (decode cX0_findTop 9 = .ok (.iload_n 1, 1)) ∧ (decode cX0_findTop 10 = .ok (.if_icmp .ge 49, 3)) ∧ (decode cX0_findTop 13 = .ok (.aload_n 0, 1)) ∧ (decode cX0_findTop 14 = .ok (.getfield 12, 3)) ∧ (decode cX0_findTop 17 = .ok (.iload 4, 2)) ∧ (decode cX0_findTop 19 = .ok (.invokevirtual 72, 3)) ∧ (decode cX0_findTop 22 = .ok (.ifCond .eq 31, 3)) ∧ (decode cX0_findTop 25 = .ok (.aload_n 0, 1)) ∧ (decode cX0_findTop 26 = .ok (.getfield 12, 3)) := by decide +kernel
theorem dX0_findTop_0 : decode cX0_findTop 0 = .ok (.iconst (-1), 1) := dgX0_findTop_0.1
theorem dX0_findTop_1 : decode cX0_findTop 1 = .ok (.istore_n 2, 1) := dgX0_findTop_0.2.1
theorem dX0_findTop_2 : decode cX0_findTop 2 = .ok (.iconst 0, 1) := dgX0_findTop_0.2.2.1
theorem dX0_findTop_3 : decode cX0_findTop 3 = .ok (.istore_n 3, 1) := dgX0_findTop_0.2.2.2.1
theorem dX0_findTop_4 : decode cX0_findTop 4 = .ok (.iconst 0, 1) := dgX0_findTop_0.2.2.2.2.1
theorem dX0_findTop_5 : decode cX0_findTop 5 = .ok (.istore 4, 2) := dgX0_findTop_0.2.2.2.2.2.1
theorem dX0_findTop_7 : decode cX0_findTop 7 = .ok (.iload 4, 2) := dgX0_findTop_0.2.2.2.2.2.2.1
theorem dX0_findTop_9 : decode cX0_findTop 9 = .ok (.iload_n 1, 1) := dgX0_findTop_0.2.2.2.2.2.2.2.1
theorem dX0_findTop_10 : decode cX0_findTop 10 = .ok (.if_icmp .ge 49, 3) := dgX0_findTop_0.2.2.2.2.2.2.2.2.1
theorem dX0_findTop_13 : decode cX0_findTop 13 = .ok (.aload_n 0, 1) := dgX0_findTop_0.2.2.2.2.2.2.2.2.2.1
theorem dX0_findTop_14 : decode cX0_findTop 14 = .ok (.getfield 12, 3) := dgX0_findTop_0.2.2.2.2.2.2.2.2.2.2.1
theorem dX0_findTop_17 : decode cX0_findTop 17 = .ok (.iload 4, 2) := dgX0_findTop_0.2.2.2.2.2.2.2.2.2.2.2.1
theorem dX0_findTop_19 : decode cX0_findTop 19 = .ok (.invokevirtual 72, 3) := dgX0_findTop_0.2.2.2.2.2.2.2.2.2.2.2.2.1
theorem dX0_findTop_22 : decode cX0_findTop 22 = .ok (.ifCond .eq 31, 3) := dgX0_findTop_0.2.2.2.2.2.2.2.2.2.2.2.2.2.1
theorem dX0_findTop_25 : decode cX0_findTop 25 = .ok (.aload_n 0, 1) := dgX0_findTop_0.2.2.2.2.2.2.2.2.2.2.2.2.2.2.1
theorem dX0_findTop_26 : decode cX0_findTop 26 = .ok (.getfield 12, 3) := dgX0_findTop_0.2.2.2.2.2.2.2.2.2.2.2.2.2.2.2
theorem dgX0_findTop_16 : (decode cX0_findTop 29 = .ok (.iload 4, 2)) ∧ (decode cX0_findTop 31 = .ok (.invokevirtual 49, 3)) ∧ (decode cX0_findTop 34 = .ok (.istore 5, 2)) ∧ (decode cX0_findTop 36 = .ok (.iload_n 2, 1)) ∧ (decode cX0_findTop 37 = .ok (.iconst (-1), 1)) ∧ (decode cX0_findTop 38 = .ok (.if_icmp .eq 9, 3)) ∧ (decode cX0_findTop 41 = .ok (.iload 5, 2)) ∧ (decode cX0_findTop 43 = .ok (.iload_n 3, 1)) ∧ (decode cX0_findTop 44 = .ok (.if_icmp .le 9, 3)) ∧ (decode cX0_findTop 47 = .ok (.iload 4, 2)) ∧ (decode cX0_findTop 49 = .ok (.istore_n 2, 1)) ∧ (decode cX0_findTop 50 = .ok (.iload 5, 2)) ∧ (decode cX0_findTop 52 = .ok (.istore_n 3, 1)) ∧ (decode cX0_findTop 53 = .ok (.iinc 4 1, 3)) ∧ (decode cX0_findTop 56 = .ok (.goto (-49), 3)) ∧ (decode cX0_findTop 59 = .ok (.iload_n 2, 1)) := by decide +kernel
theorem dX0_findTop_29 : decode cX0_findTop 29 = .ok (.iload 4, 2) := dgX0_findTop_16.1
theorem dX0_findTop_31 : decode cX0_findTop 31 = .ok (.invokevirtual 49, 3) := dgX0_findTop_16.2.1
theorem dX0_findTop_34 : decode cX0_findTop 34 = .ok (.istore 5, 2) := dgX0_findTop_16.2.2.1
theorem dX0_findTop_36 : decode cX0_findTop 36 = .ok (.iload_n 2, 1) := dgX0_findTop_16.2.2.2.1
theorem dX0_findTop_37 : decode cX0_findTop 37 = .ok (.iconst (-1), 1) := dgX0_findTop_16.2.2.2.2.1
theorem dX0_findTop_38 : decode cX0_findTop 38 = .ok (.if_icmp .eq 9, 3) := dgX0_findTop_16.2.2.2.2.2.1
theorem dX0_findTop_41 : decode cX0_findTop 41 = .ok (.iload 5, 2) := dgX0_findTop_16.2.2.2.2.2.2.1
theorem dX0_findTop_43 : decode cX0_findTop 43 = .ok (.iload_n 3, 1) := dgX0_findTop_16.2.2.2.2.2.2.2.1
theorem dX0_findTop_44 : decode cX0_findTop 44 = .ok (.if_icmp .le 9, 3) := dgX0_findTop_16.2.2.2.2.2.2.2.2.1
theorem dX0_findTop_47 : decode cX0_findTop 47 = .ok (.iload 4, 2) := dgX0_findTop_16.2.2.2.2.2.2.2.2.2.1
theorem dX0_findTop_49 : decode cX0_findTop 49 = .ok (.istore_n 2, 1) := dgX0_findTop_16.2.2.2.2.2.2.2.2.2.2.1
theorem dX0_findTop_50 : decode cX0_findTop 50 = .ok (.iload 5, 2) := dgX0_findTop_16.2.2.2.2.2.2.2.2.2.2.2.1
theorem dX0_findTop_52 : decode cX0_findTop 52 = .ok (.istore_n 3, 1) := dgX0_findTop_16.2.2.2.2.2.2.2.2.2.2.2.2.1
theorem dX0_findTop_53 : decode cX0_findTop 53 = .ok (.iinc 4 1, 3) := dgX0_findTop_16.2.2.2.2.2.2.2.2.2.2.2.2.2.1
theorem dX0_findTop_56 : decode cX0_findTop 56 = .ok (.goto (-49), 3) := dgX0_findTop_16.2.2.2.2.2.2.2.2.2.2.2.2.2.2.1
theorem dX0_findTop_59 : decode cX0_findTop 59 = .ok (.iload_n 2, 1) := dgX0_findTop_16.2.2.2.2.2.2.2.2.2.2.2.2.2.2.2
theorem dX0_findTop_60 : decode cX0_findTop 60 = .ok (.ireturn, 1) := by decide +kernel
theorem dgX0_findGrained_0 : (decode cX0_findGrained 0 = .ok (.iload_n 1, 1)) ∧ (decode cX0_findGrained 1 = .ok (.istore 4, 2)) ∧ (decode cX0_findGrained 3 = .ok (.iload 4, 2)) ∧ (decode cX0_findGrained 5 = .ok (.iload_n 2, 1)) ∧ (decode cX0_findGrained 6 = .ok (.if_icmp .ge 52, 3)) ∧ (decode cX0_findGrained 9 = .ok (.aload_n 0, 1)) ∧ (decode cX0_findGrained 10 = .ok (.getfield 12, 3)) ∧ (decode cX0_findGrained 13 = .ok (.iload 4, 2)) ∧ (decode cX0_findGrained 15 = .ok (.invokevirtual 76, 3)) ∧ (decode cX0_findGrained 18 = .ok (.ifCond .eq 34, 3)) ∧ (decode cX0_findGrained 21 = .ok (.aload_n 0, 1)) ∧ (decode cX0_findGrained 22 = .ok (.getfield 12, 3)) ∧ (decode cX0_findGrained 25 = .ok (.iload 4, 2)) ∧ (decode cX0_findGrained 27 = .ok (.invokevirtual 72, 3)) ∧ (decode cX0_findGrained 30 = .ok (.ifCond .eq 22, 3)) ∧ (decode cX0_findGrained 33 = .ok (.aload_n 3, 1)) := by decide +kernel
theorem dX0_findGrained_0 : decode cX0_findGrained 0 = .ok (.iload_n 1, 1) := dgX0_findGrained_0.1
theorem dX0_findGrained_1 : decode cX0_findGrained 1 = .ok (.istore 4, 2) := dgX0_findGrained_0.2.1
theorem dX0_findGrained_3 : decode cX0_findGrained 3 = .ok (.iload 4, 2) := dgX0_findGrained_0.2.2.1
theorem dX0_findGrained_5 : decode cX0_findGrained 5 = .ok (.iload_n 2, 1) := dgX0_findGrained_0.2.2.2.1
theorem dX0_findGrained_6 : decode cX0_findGrained 6 = .ok (.if_icmp .ge 52, 3) := dgX0_findGrained_0.2.2.2.2.1
theorem dX0_findGrained_9 : decode cX0_findGrained 9 = .ok (.aload_n 0, 1) := dgX0_findGrained_0.2.2.2.2.2.1
theorem dX0_findGrained_10 : decode cX0_findGrained 10 = .ok (.getfield 12, 3) := dgX0_findGrained_0.2.2.2.2.2.2.1
theorem dX0_findGrained_13 : decode cX0_findGrained 13 = .ok (.iload 4, 2) := dgX0_findGrained_0.2.2.2.2.2.2.2.1
theorem dX0_findGrained_15 : decode cX0_findGrained 15 = .ok (.invokevirtual 76, 3) := dgX0_findGrained_0.2.2.2.2.2.2.2.2.1
theorem dX0_findGrained_18 : decode cX0_findGrained 18 = .ok (.ifCond .eq 34, 3) := dgX0_findGrained_0.2.2.2.2.2.2.2.2.2.1
theorem dX0_findGrained_21 : decode cX0_findGrained 21 = .ok (.aload_n 0, 1) := dgX0_findGrained_0.2.2.2.2.2.2.2.2.2.2.1
theorem dX0_findGrained_22 : decode cX0_findGrained 22 = .ok (.getfield 12, 3) := dgX0_findGrained_0.2.2.2.2.2.2.2.2.2.2.2.1
theorem dX0_findGrained_25 : decode cX0_findGrained 25 = .ok (.iload 4, 2) := dgX0_findGrained_0.2.2.2.2.2.2.2.2.2.2.2.2.1
theorem dX0_findGrained_27 : decode cX0_findGrained 27 = .ok (.invokevirtual 72, 3) := dgX0_findGrained_0.2.2.2.2.2.2.2.2.2.2.2.2.2.1
theorem dX0_findGrained_30 : decode cX0_findGrained 30 = .ok (.ifCond .eq 22, 3) := dgX0_findGrained_0.2.2.2.2.2.2.2.2.2.2.2.2.2.2.1
theorem dX0_findGrained_33 : decode cX0_findGrained 33 = .ok (.aload_n 3, 1) := dgX0_findGrained_0.2.2.2.2.2.2.2.2.2.2.2.2.2.2.2
theorem dgX0_findGrained_16 : (decode cX0_findGrained 34 = .ok (.aload_n 0, 1)) ∧ (decode cX0_findGrained 35 = .ok (.getfield 12, 3)) ∧ (decode cX0_findGrained 38 = .ok (.iload 4, 2)) ∧ (decode cX0_findGrained 40 = .ok (.invokevirtual 49, 3)) ∧ (decode cX0_findGrained 43 = .ok (.invokevirtual 79, 3)) ∧ (decode cX0_findGrained 46 = .ok (.ifCond .eq 6, 3)) ∧ (decode cX0_findGrained 49 = .ok (.iload 4, 2)) ∧ (decode cX0_findGrained 51 = .ok (.ireturn, 1)) ∧ (decode cX0_findGrained 52 = .ok (.iinc 4 1, 3)) ∧ (decode cX0_findGrained 55 = .ok (.goto (-52), 3)) ∧ (decode cX0_findGrained 58 = .ok (.iconst (-1), 1)) ∧ (decode cX0_findGrained 59 = .ok (.ireturn, 1)) := by decide +kernel
theorem dX0_findGrained_34 : decode cX0_findGrained 34 = .ok (.aload_n 0, 1) := dgX0_findGrained_16.1
theorem dX0_findGrained_35 : decode cX0_findGrained 35 = .ok (.getfield 12, 3) := dgX0_findGrained_16.2.1
theorem dX0_findGrained_38 : decode cX0_findGrained 38 = .ok (.iload 4, 2) := dgX0_findGrained_16.2.2.1
theorem dX0_findGrained_40 : decode cX0_findGrained 40 = .ok (.invokevirtual 49, 3) := dgX0_findGrained_16.2.2.2.1
theorem dX0_findGrained_43 : decode cX0_findGrained 43 = .ok (.invokevirtual 79, 3) := dgX0_findGrained_16.2.2.2.2.1
theorem dX0_findGrained_46 : decode cX0_findGrained 46 = .ok (.ifCond .eq 6, 3) := dgX0_findGrained_16.2.2.2.2.2.1
theorem dX0_findGrained_49 : decode cX0_findGrained 49 = .ok (.iload 4, 2) := dgX0_findGrained_16.2.2.2.2.2.2.1
theorem dX0_findGrained_51 : decode cX0_findGrained 51 = .ok (.ireturn, 1) := dgX0_findGrained_16.2.2.2.2.2.2.2.1
theorem dX0_findGrained_52 : decode cX0_findGrained 52 = .ok (.iinc 4 1, 3) := dgX0_findGrained_16.2.2.2.2.2.2.2.2.1
theorem dX0_findGrained_55 : decode cX0_findGrained 55 = .ok (.goto (-52), 3) := dgX0_findGrained_16.2.2.2.2.2.2.2.2.2.1
theorem dX0_findGrained_58 : decode cX0_findGrained 58 = .ok (.iconst (-1), 1) := dgX0_findGrained_16.2.2.2.2.2.2.2.2.2.2.1
theorem dX0_findGrained_59 : decode cX0_findGrained 59 = .ok (.ireturn, 1) := dgX0_findGrained_16.2.2.2.2.2.2.2.2.2.2.2
theorem dgX0_fault_0 : (decode cX0_fault 0 = .ok (.aload_n 0, 1)) ∧ (decode cX0_fault 1 = .ok (.getfield 32, 3)) ∧ (decode cX0_fault 4 = .ok (.ifCond .ne 5, 3)) ∧ (decode cX0_fault 7 = .ok (.iconst 1, 1)) ∧ (decode cX0_fault 8 = .ok (.ireturn, 1)) ∧ (decode cX0_fault 9 = .ok (.aload_n 0, 1)) ∧ (decode cX0_fault 10 = .ok (.getfield 82, 3)) ∧ (decode cX0_fault 13 = .ok (.ifCond .eq 5, 3)) ∧ (decode cX0_fault 16 = .ok (.iconst 0, 1)) ∧ (decode cX0_fault 17 = .ok (.ireturn, 1)) ∧ (decode cX0_fault 18 = .ok (.aload_n 0, 1)) ∧ (decode cX0_fault 19 = .ok (.getfield 23, 3)) ∧ (decode cX0_fault 22 = .ok (.iconst (-1), 1)) ∧ (decode cX0_fault 23 = .ok (.if_icmp .eq 5, 3)) ∧ (decode cX0_fault 26 = .ok (.iconst 2, 1)) ∧ (decode cX0_fault 27 = .ok (.ireturn, 1)) := by decide +kernel
theorem dX0_fault_0 : decode cX0_fault 0 = .ok (.aload_n 0, 1) := dgX0_fault_0.1
theorem dX0_fault_1 : decode cX0_fault 1 = .ok (.getfield 32, 3) := dgX0_fault_0.2.1
theorem dX0_fault_4 : decode cX0_fault 4 = .ok (.ifCond .ne 5, 3) := dgX0_fault_0.2.2.1
theorem dX0_fault_7 : decode cX0_fault 7 = .ok (.iconst 1, 1) := dgX0_fault_0.2.2.2.1
theorem dX0_fault_8 : decode cX0_fault 8 = .ok (.ireturn, 1) := dgX0_fault_0.2.2.2.2.1
theorem dX0_fault_9 : decode cX0_fault 9 = .ok (.aload_n 0, 1) := dgX0_fault_0.2.2.2.2.2.1
theorem dX0_fault_10 : decode cX0_fault 10 = .ok (.getfield 82, 3) := dgX0_fault_0.2.2.2.2.2.2.1
theorem dX0_fault_13 : decode cX0_fault 13 = .ok (.ifCond .eq 5, 3) := dgX0_fault_0.2.2.2.2.2.2.2.1
theorem dX0_fault_16 : decode cX0_fault 16 = .ok (.iconst 0, 1) := dgX0_fault_0.2.2.2.2.2.2.2.2.1
theorem dX0_fault_17 : decode cX0_fault 17 = .ok (.ireturn, 1) := dgX0_fault_0.2.2.2.2.2.2.2.2.2.1
theorem dX0_fault_18 : decode cX0_fault 18 = .ok (.aload_n 0, 1) := dgX0_fault_0.2.2.2.2.2.2.2.2.2.2.1
theorem dX0_fault_19 : decode cX0_fault 19 = .ok (.getfield 23, 3) := dgX0_fault_0.2.2.2.2.2.2.2.2.2.2.2.1
theorem dX0_fault_22 : decode cX0_fault 22 = .ok (.iconst (-1), 1) := dgX0_fault_0.2.2.2.2.2.2.2.2.2.2.2.2.1
theorem dX0_fault_23 : decode cX0_fault 23 = .ok (.if_icmp .eq 5, 3) := dgX0_fault_0.2.2.2.2.2.2.2.2.2.2.2.2.2.1
theorem dX0_fault_26 : decode cX0_fault 26 = .ok (.iconst 2, 1) := dgX0_fault_0.2.2.2.2.2.2.2.2.2.2.2.2.2.2.1
theorem dX0_fault_27 : decode cX0_fault 27 = .ok (.ireturn, 1) := dgX0_fault_0.2.2.2.2.2.2.2.2.2.2.2.2.2.2.2
theorem dgX0_fault_16 : (decode cX0_fault 28 = .ok (.aload_n 0, 1)) ∧ (decode cX0_fault 29 = .ok (.getfield 57, 3)) ∧ (decode cX0_fault 32 = .ok (.aload_n 1, 1)) ∧ (decode cX0_fault 33 = .ok (.getfield 85, 3)) ∧ (decode cX0_fault 36 = .ok (.aload_n 0, 1)) ∧ (decode cX0_fault 37 = .ok (.getfield 29, 3)) ∧ (decode cX0_fault 40 = .ok (.iaload, 1)) ∧ (decode cX0_fault 41 = .ok (.if_icmp .ge 5, 3)) ∧ (decode cX0_fault 44 = .ok (.iconst 3, 1)) ∧ (decode cX0_fault 45 = .ok (.ireturn, 1)) ∧ (decode cX0_fault 46 = .ok (.aload_n 0, 1)) ∧ (decode cX0_fault 47 = .ok (.getfield 57, 3)) ∧ (decode cX0_fault 50 = .ok (.aload_n 1, 1)) ∧ (decode cX0_fault 51 = .ok (.getfield 89, 3)) ∧ (decode cX0_fault 54 = .ok (.aload_n 0, 1)) ∧ (decode cX0_fault 55 = .ok (.getfield 29, 3)) := by decide +kernel
theorem dX0_fault_28 : decode cX0_fault 28 = .ok (.aload_n 0, 1) := dgX0_fault_16.1
theorem dX0_fault_29 : decode cX0_fault 29 = .ok (.getfield 57, 3) := dgX0_fault_16.2.1
theorem dX0_fault_32 : decode cX0_fault 32 = .ok (.aload_n 1, 1) := dgX0_fault_16.2.2.1
theorem dX0_fault_33 : decode cX0_fault 33 = .ok (.getfield 85, 3) := dgX0_fault_16.2.2.2.1
theorem dX0_fault_36 : decode cX0_fault 36 = .ok (.aload_n 0, 1) := dgX0_fault_16.2.2.2.2.1
theorem dX0_fault_37 : decode cX0_fault 37 = .ok (.getfield 29, 3) := dgX0_fault_16.2.2.2.2.2.1
theorem dX0_fault_40 : decode cX0_fault 40 = .ok (.iaload, 1) := dgX0_fault_16.2.2.2.2.2.2.1
theorem dX0_fault_41 : decode cX0_fault 41 = .ok (.if_icmp .ge 5, 3) := dgX0_fault_16.2.2.2.2.2.2.2.1
theorem dX0_fault_44 : decode cX0_fault 44 = .ok (.iconst 3, 1) := dgX0_fault_16.2.2.2.2.2.2.2.2.1
theorem dX0_fault_45 : decode cX0_fault 45 = .ok (.ireturn, 1) := dgX0_fault_16.2.2.2.2.2.2.2.2.2.1
theorem dX0_fault_46 : decode cX0_fault 46 = .ok (.aload_n 0, 1) := dgX0_fault_16.2.2.2.2.2.2.2.2.2.2.1
theorem dX0_fault_47 : decode cX0_fault 47 = .ok (.getfield 57, 3) := dgX0_fault_16.2.2.2.2.2.2.2.2.2.2.2.1
theorem dX0_fault_50 : decode cX0_fault 50 = .ok (.aload_n 1, 1) := dgX0_fault_16.2.2.2.2.2.2.2.2.2.2.2.2.1
theorem dX0_fault_51 : decode cX0_fault 51 = .ok (.getfield 89, 3) := dgX0_fault_16.2.2.2.2.2.2.2.2.2.2.2.2.2.1
theorem dX0_fault_54 : decode cX0_fault 54 = .ok (.aload_n 0, 1) := dgX0_fault_16.2.2.2.2.2.2.2.2.2.2.2.2.2.2.1
theorem dX0_fault_55 : decode cX0_fault 55 = .ok (.getfield 29, 3) := dgX0_fault_16.2.2.2.2.2.2.2.2.2.2.2.2.2.2.2
theorem dgX0_fault_32 : (decode cX0_fault 58 = .ok (.iaload, 1)) ∧ (decode cX0_fault 59 = .ok (.if_icmp .le 5, 3)) ∧ (decode cX0_fault 62 = .ok (.iconst 4, 1)) ∧ (decode cX0_fault 63 = .ok (.ireturn, 1)) ∧ (decode cX0_fault 64 = .ok (.aload_n 0, 1)) ∧ (decode cX0_fault 65 = .ok (.getfield 26, 3)) ∧ (decode cX0_fault 68 = .ok (.iconst (-1), 1)) ∧ (decode cX0_fault 69 = .ok (.if_icmp .eq 7, 3)) ∧ (decode cX0_fault 72 = .ok (.iconst 1, 1)) ∧ (decode cX0_fault 73 = .ok (.goto 4, 3)) ∧ (decode cX0_fault 76 = .ok (.iconst 0, 1)) ∧ (decode cX0_fault 77 = .ok (.istore_n 2, 1)) ∧ (decode cX0_fault 78 = .ok (.iload_n 2, 1)) ∧ (decode cX0_fault 79 = .ok (.ifCond .ne 23, 3)) ∧ (decode cX0_fault 82 = .ok (.aload_n 0, 1)) ∧ (decode cX0_fault 83 = .ok (.getfield 29, 3)) := by decide +kernel
theorem dX0_fault_58 : decode cX0_fault 58 = .ok (.iaload, 1) := dgX0_fault_32.1
theorem dX0_fault_59 : decode cX0_fault 59 = .ok (.if_icmp .le 5, 3) := dgX0_fault_32.2.1
theorem dX0_fault_62 : decode cX0_fault 62 = .ok (.iconst 4, 1) := dgX0_fault_32.2.2.1
theorem dX0_fault_63 : decode cX0_fault 63 = .ok (.ireturn, 1) := dgX0_fault_32.2.2.2.1
theorem dX0_fault_64 : decode cX0_fault 64 = .ok (.aload_n 0, 1) := dgX0_fault_32.2.2.2.2.1
theorem dX0_fault_65 : decode cX0_fault 65 = .ok (.getfield 26, 3) := dgX0_fault_32.2.2.2.2.2.1
theorem dX0_fault_68 : decode cX0_fault 68 = .ok (.iconst (-1), 1) := dgX0_fault_32.2.2.2.2.2.2.1
theorem dX0_fault_69 : decode cX0_fault 69 = .ok (.if_icmp .eq 7, 3) := dgX0_fault_32.2.2.2.2.2.2.2.1
theorem dX0_fault_72 : decode cX0_fault 72 = .ok (.iconst 1, 1) := dgX0_fault_32.2.2.2.2.2.2.2.2.1
theorem dX0_fault_73 : decode cX0_fault 73 = .ok (.goto 4, 3) := dgX0_fault_32.2.2.2.2.2.2.2.2.2.1
theorem dX0_fault_76 : decode cX0_fault 76 = .ok (.iconst 0, 1) := dgX0_fault_32.2.2.2.2.2.2.2.2.2.2.1
theorem dX0_fault_77 : decode cX0_fault 77 = .ok (.istore_n 2, 1) := dgX0_fault_32.2.2.2.2.2.2.2.2.2.2.2.1
theorem dX0_fault_78 : decode cX0_fault 78 = .ok (.iload_n 2, 1) := dgX0_fault_32.2.2.2.2.2.2.2.2.2.2.2.2.1
theorem dX0_fault_79 : decode cX0_fault 79 = .ok (.ifCond .ne 23, 3) := dgX0_fault_32.2.2.2.2.2.2.2.2.2.2.2.2.2.1
theorem dX0_fault_82 : decode cX0_fault 82 = .ok (.aload_n 0, 1) := dgX0_fault_32.2.2.2.2.2.2.2.2.2.2.2.2.2.2.1
theorem dX0_fault_83 : decode cX0_fault 83 = .ok (.getfield 29, 3) := dgX0_fault_32.2.2.2.2.2.2.2.2.2.2.2.2.2.2.2
theorem dgX0_fault_48 : (decode cX0_fault 86 = .ok (.iconst 1, 1)) ∧ (decode cX0_fault 87 = .ok (.if_icmp .eq 13, 3)) ∧ (decode cX0_fault 90 = .ok (.aload_n 0, 1)) ∧ (decode cX0_fault 91 = .ok (.getfield 29, 3)) ∧ (decode cX0_fault 94 = .ok (.invokestatic 92, 3)) ∧ (decode cX0_fault 97 = .ok (.ifCond .eq 5, 3)) ∧ (decode cX0_fault 100 = .ok (.iconst 5, 1)) ∧ (decode cX0_fault 101 = .ok (.ireturn, 1)) ∧ (decode cX0_fault 102 = .ok (.iload_n 2, 1)) ∧ (decode cX0_fault 103 = .ok (.ifCond .eq 16, 3)) ∧ (decode cX0_fault 106 = .ok (.aload_n 0, 1)) ∧ (decode cX0_fault 107 = .ok (.getfield 29, 3)) ∧ (decode cX0_fault 110 = .ok (.iconst 2, 1)) ∧ (decode cX0_fault 111 = .ok (.if_icmp .ne 8, 3)) ∧ (decode cX0_fault 114 = .ok (.bipush 6, 2)) ∧ (decode cX0_fault 116 = .ok (.goto 4, 3)) := by decide +kernel
theorem dX0_fault_86 : decode cX0_fault 86 = .ok (.iconst 1, 1) := dgX0_fault_48.1
theorem dX0_fault_87 : decode cX0_fault 87 = .ok (.if_icmp .eq 13, 3) := dgX0_fault_48.2.1
theorem dX0_fault_90 : decode cX0_fault 90 = .ok (.aload_n 0, 1) := dgX0_fault_48.2.2.1
theorem dX0_fault_91 : decode cX0_fault 91 = .ok (.getfield 29, 3) := dgX0_fault_48.2.2.2.1
theorem dX0_fault_94 : decode cX0_fault 94 = .ok (.invokestatic 92, 3) := dgX0_fault_48.2.2.2.2.1
theorem dX0_fault_97 : decode cX0_fault 97 = .ok (.ifCond .eq 5, 3) := dgX0_fault_48.2.2.2.2.2.1
theorem dX0_fault_100 : decode cX0_fault 100 = .ok (.iconst 5, 1) := dgX0_fault_48.2.2.2.2.2.2.1
theorem dX0_fault_101 : decode cX0_fault 101 = .ok (.ireturn, 1) := dgX0_fault_48.2.2.2.2.2.2.2.1
theorem dX0_fault_102 : decode cX0_fault 102 = .ok (.iload_n 2, 1) := dgX0_fault_48.2.2.2.2.2.2.2.2.1
theorem dX0_fault_103 : decode cX0_fault 103 = .ok (.ifCond .eq 16, 3) := dgX0_fault_48.2.2.2.2.2.2.2.2.2.1
theorem dX0_fault_106 : decode cX0_fault 106 = .ok (.aload_n 0, 1) := dgX0_fault_48.2.2.2.2.2.2.2.2.2.2.1
theorem dX0_fault_107 : decode cX0_fault 107 = .ok (.getfield 29, 3) := dgX0_fault_48.2.2.2.2.2.2.2.2.2.2.2.1
theorem dX0_fault_110 : decode cX0_fault 110 = .ok (.iconst 2, 1) := dgX0_fault_48.2.2.2.2.2.2.2.2.2.2.2.2.1
theorem dX0_fault_111 : decode cX0_fault 111 = .ok (.if_icmp .ne 8, 3) := dgX0_fault_48.2.2.2.2.2.2.2.2.2.2.2.2.2.1
theorem dX0_fault_114 : decode cX0_fault 114 = .ok (.bipush 6, 2) := dgX0_fault_48.2.2.2.2.2.2.2.2.2.2.2.2.2.2.1
theorem dX0_fault_116 : decode cX0_fault 116 = .ok (.goto 4, 3) := dgX0_fault_48.2.2.2.2.2.2.2.2.2.2.2.2.2.2.2
theorem dgX0_fault_64 : (decode cX0_fault 119 = .ok (.iconst 0, 1)) ∧ (decode cX0_fault 120 = .ok (.ireturn, 1)) := by decide +kernel
theorem dX0_fault_119 : decode cX0_fault 119 = .ok (.iconst 0, 1) := dgX0_fault_64.1
theorem dX0_fault_120 : decode cX0_fault 120 = .ok (.ireturn, 1) := dgX0_fault_64.2
theorem dgX0_tell_0 : (decode cX0_tell 0 = .ok (.iload_n 1, 1)) ∧ (decode cX0_tell 1 = .ok (.tableswitch 164 0 12 #[67, 72, 77, 82, 87, 92, 97, 111, 131, 144, 149, 154, 159], 67)) ∧ (decode cX0_tell 68 = .ok (.aload_n 0, 1)) ∧ (decode cX0_tell 69 = .ok (.getfield 29, 3)) ∧ (decode cX0_tell 72 = .ok (.ireturn, 1)) ∧ (decode cX0_tell 73 = .ok (.aload_n 0, 1)) ∧ (decode cX0_tell 74 = .ok (.getfield 64, 3)) ∧ (decode cX0_tell 77 = .ok (.ireturn, 1)) ∧ (decode cX0_tell 78 = .ok (.aload_n 0, 1)) ∧ (decode cX0_tell 79 = .ok (.getfield 95, 3)) ∧ (decode cX0_tell 82 = .ok (.ireturn, 1)) ∧ (decode cX0_tell 83 = .ok (.aload_n 0, 1)) ∧ (decode cX0_tell 84 = .ok (.getfield 69, 3)) ∧ (decode cX0_tell 87 = .ok (.ireturn, 1)) ∧ (decode cX0_tell 88 = .ok (.aload_n 0, 1)) ∧ (decode cX0_tell 89 = .ok (.getfield 57, 3)) := by decide +kernel
theorem dX0_tell_0 : decode cX0_tell 0 = .ok (.iload_n 1, 1) := dgX0_tell_0.1
theorem dX0_tell_1 : decode cX0_tell 1 = .ok (.tableswitch 164 0 12 #[67, 72, 77, 82, 87, 92, 97, 111, 131, 144, 149, 154, 159], 67) := dgX0_tell_0.2.1
theorem dX0_tell_68 : decode cX0_tell 68 = .ok (.aload_n 0, 1) := dgX0_tell_0.2.2.1
theorem dX0_tell_69 : decode cX0_tell 69 = .ok (.getfield 29, 3) := dgX0_tell_0.2.2.2.1
theorem dX0_tell_72 : decode cX0_tell 72 = .ok (.ireturn, 1) := dgX0_tell_0.2.2.2.2.1
theorem dX0_tell_73 : decode cX0_tell 73 = .ok (.aload_n 0, 1) := dgX0_tell_0.2.2.2.2.2.1
theorem dX0_tell_74 : decode cX0_tell 74 = .ok (.getfield 64, 3) := dgX0_tell_0.2.2.2.2.2.2.1
theorem dX0_tell_77 : decode cX0_tell 77 = .ok (.ireturn, 1) := dgX0_tell_0.2.2.2.2.2.2.2.1
theorem dX0_tell_78 : decode cX0_tell 78 = .ok (.aload_n 0, 1) := dgX0_tell_0.2.2.2.2.2.2.2.2.1
theorem dX0_tell_79 : decode cX0_tell 79 = .ok (.getfield 95, 3) := dgX0_tell_0.2.2.2.2.2.2.2.2.2.1
theorem dX0_tell_82 : decode cX0_tell 82 = .ok (.ireturn, 1) := dgX0_tell_0.2.2.2.2.2.2.2.2.2.2.1
theorem dX0_tell_83 : decode cX0_tell 83 = .ok (.aload_n 0, 1) := dgX0_tell_0.2.2.2.2.2.2.2.2.2.2.2.1
theorem dX0_tell_84 : decode cX0_tell 84 = .ok (.getfield 69, 3) := dgX0_tell_0.2.2.2.2.2.2.2.2.2.2.2.2.1
theorem dX0_tell_87 : decode cX0_tell 87 = .ok (.ireturn, 1) := dgX0_tell_0.2.2.2.2.2.2.2.2.2.2.2.2.2.1
theorem dX0_tell_88 : decode cX0_tell 88 = .ok (.aload_n 0, 1) := dgX0_tell_0.2.2.2.2.2.2.2.2.2.2.2.2.2.2.1
theorem dX0_tell_89 : decode cX0_tell 89 = .ok (.getfield 57, 3) := dgX0_tell_0.2.2.2.2.2.2.2.2.2.2.2.2.2.2.2
theorem dgX0_tell_16 : (decode cX0_tell 92 = .ok (.ireturn, 1)) ∧ (decode cX0_tell 93 = .ok (.aload_n 0, 1)) ∧ (decode cX0_tell 94 = .ok (.getfield 19, 3)) ∧ (decode cX0_tell 97 = .ok (.ireturn, 1)) ∧ (decode cX0_tell 98 = .ok (.aload_n 0, 1)) ∧ (decode cX0_tell 99 = .ok (.getfield 26, 3)) ∧ (decode cX0_tell 102 = .ok (.iconst (-1), 1)) ∧ (decode cX0_tell 103 = .ok (.if_icmp .eq 7, 3)) ∧ (decode cX0_tell 106 = .ok (.iconst 1, 1)) ∧ (decode cX0_tell 107 = .ok (.goto 4, 3)) ∧ (decode cX0_tell 110 = .ok (.iconst 0, 1)) ∧ (decode cX0_tell 111 = .ok (.ireturn, 1)) ∧ (decode cX0_tell 112 = .ok (.aload_n 0, 1)) ∧ (decode cX0_tell 113 = .ok (.getfield 23, 3)) ∧ (decode cX0_tell 116 = .ok (.iconst (-1), 1)) ∧ (decode cX0_tell 117 = .ok (.if_icmp .eq 10, 3)) := by decide +kernel
theorem dX0_tell_92 : decode cX0_tell 92 = .ok (.ireturn, 1) := dgX0_tell_16.1
theorem dX0_tell_93 : decode cX0_tell 93 = .ok (.aload_n 0, 1) := dgX0_tell_16.2.1
theorem dX0_tell_94 : decode cX0_tell 94 = .ok (.getfield 19, 3) := dgX0_tell_16.2.2.1
theorem dX0_tell_97 : decode cX0_tell 97 = .ok (.ireturn, 1) := dgX0_tell_16.2.2.2.1
theorem dX0_tell_98 : decode cX0_tell 98 = .ok (.aload_n 0, 1) := dgX0_tell_16.2.2.2.2.1
theorem dX0_tell_99 : decode cX0_tell 99 = .ok (.getfield 26, 3) := dgX0_tell_16.2.2.2.2.2.1
theorem dX0_tell_102 : decode cX0_tell 102 = .ok (.iconst (-1), 1) := dgX0_tell_16.2.2.2.2.2.2.1
theorem dX0_tell_103 : decode cX0_tell 103 = .ok (.if_icmp .eq 7, 3) := dgX0_tell_16.2.2.2.2.2.2.2.1
theorem dX0_tell_106 : decode cX0_tell 106 = .ok (.iconst 1, 1) := dgX0_tell_16.2.2.2.2.2.2.2.2.1
theorem dX0_tell_107 : decode cX0_tell 107 = .ok (.goto 4, 3) := dgX0_tell_16.2.2.2.2.2.2.2.2.2.1
theorem dX0_tell_110 : decode cX0_tell 110 = .ok (.iconst 0, 1) := dgX0_tell_16.2.2.2.2.2.2.2.2.2.2.1
theorem dX0_tell_111 : decode cX0_tell 111 = .ok (.ireturn, 1) := dgX0_tell_16.2.2.2.2.2.2.2.2.2.2.2.1
theorem dX0_tell_112 : decode cX0_tell 112 = .ok (.aload_n 0, 1) := dgX0_tell_16.2.2.2.2.2.2.2.2.2.2.2.2.1
theorem dX0_tell_113 : decode cX0_tell 113 = .ok (.getfield 23, 3) := dgX0_tell_16.2.2.2.2.2.2.2.2.2.2.2.2.2.1
theorem dX0_tell_116 : decode cX0_tell 116 = .ok (.iconst (-1), 1) := dgX0_tell_16.2.2.2.2.2.2.2.2.2.2.2.2.2.2.1
theorem dX0_tell_117 : decode cX0_tell 117 = .ok (.if_icmp .eq 10, 3) := dgX0_tell_16.2.2.2.2.2.2.2.2.2.2.2.2.2.2.2
theorem dgX0_tell_32 : (decode cX0_tell 120 = .ok (.aload_n 0, 1)) ∧ (decode cX0_tell 121 = .ok (.getfield 23, 3)) ∧ (decode cX0_tell 124 = .ok (.goto 7, 3)) ∧ (decode cX0_tell 127 = .ok (.aload_n 0, 1)) ∧ (decode cX0_tell 128 = .ok (.getfield 26, 3)) ∧ (decode cX0_tell 131 = .ok (.ireturn, 1)) ∧ (decode cX0_tell 132 = .ok (.aload_n 0, 1)) ∧ (decode cX0_tell 133 = .ok (.getfield 82, 3)) ∧ (decode cX0_tell 136 = .ok (.ifCond .eq 7, 3)) ∧ (decode cX0_tell 139 = .ok (.iconst 1, 1)) ∧ (decode cX0_tell 140 = .ok (.goto 4, 3)) ∧ (decode cX0_tell 143 = .ok (.iconst 0, 1)) ∧ (decode cX0_tell 144 = .ok (.ireturn, 1)) ∧ (decode cX0_tell 145 = .ok (.aload_n 0, 1)) ∧ (decode cX0_tell 146 = .ok (.getfield 98, 3)) ∧ (decode cX0_tell 149 = .ok (.ireturn, 1)) := by decide +kernel
theorem dX0_tell_120 : decode cX0_tell 120 = .ok (.aload_n 0, 1) := dgX0_tell_32.1
theorem dX0_tell_121 : decode cX0_tell 121 = .ok (.getfield 23, 3) := dgX0_tell_32.2.1
theorem dX0_tell_124 : decode cX0_tell 124 = .ok (.goto 7, 3) := dgX0_tell_32.2.2.1
theorem dX0_tell_127 : decode cX0_tell 127 = .ok (.aload_n 0, 1) := dgX0_tell_32.2.2.2.1
theorem dX0_tell_128 : decode cX0_tell 128 = .ok (.getfield 26, 3) := dgX0_tell_32.2.2.2.2.1
theorem dX0_tell_131 : decode cX0_tell 131 = .ok (.ireturn, 1) := dgX0_tell_32.2.2.2.2.2.1
theorem dX0_tell_132 : decode cX0_tell 132 = .ok (.aload_n 0, 1) := dgX0_tell_32.2.2.2.2.2.2.1
theorem dX0_tell_133 : decode cX0_tell 133 = .ok (.getfield 82, 3) := dgX0_tell_32.2.2.2.2.2.2.2.1
theorem dX0_tell_136 : decode cX0_tell 136 = .ok (.ifCond .eq 7, 3) := dgX0_tell_32.2.2.2.2.2.2.2.2.1
theorem dX0_tell_139 : decode cX0_tell 139 = .ok (.iconst 1, 1) := dgX0_tell_32.2.2.2.2.2.2.2.2.2.1
theorem dX0_tell_140 : decode cX0_tell 140 = .ok (.goto 4, 3) := dgX0_tell_32.2.2.2.2.2.2.2.2.2.2.1
theorem dX0_tell_143 : decode cX0_tell 143 = .ok (.iconst 0, 1) := dgX0_tell_32.2.2.2.2.2.2.2.2.2.2.2.1
theorem dX0_tell_144 : decode cX0_tell 144 = .ok (.ireturn, 1) := dgX0_tell_32.2.2.2.2.2.2.2.2.2.2.2.2.1
theorem dX0_tell_145 : decode cX0_tell 145 = .ok (.aload_n 0, 1) := dgX0_tell_32.2.2.2.2.2.2.2.2.2.2.2.2.2.1
theorem dX0_tell_146 : decode cX0_tell 146 = .ok (.getfield 98, 3) := dgX0_tell_32.2.2.2.2.2.2.2.2.2.2.2.2.2.2.1
theorem dX0_tell_149 : decode cX0_tell 149 = .ok (.ireturn, 1) := dgX0_tell_32.2.2.2.2.2.2.2.2.2.2.2.2.2.2.2
theorem dgX0_tell_48 : (decode cX0_tell 150 = .ok (.aload_n 0, 1)) ∧ (decode cX0_tell 151 = .ok (.getfield 101, 3)) ∧ (decode cX0_tell 154 = .ok (.ireturn, 1)) ∧ (decode cX0_tell 155 = .ok (.aload_n 0, 1)) ∧ (decode cX0_tell 156 = .ok (.getfield 104, 3)) ∧ (decode cX0_tell 159 = .ok (.ireturn, 1)) ∧ (decode cX0_tell 160 = .ok (.aload_n 0, 1)) ∧ (decode cX0_tell 161 = .ok (.getfield 107, 3)) ∧ (decode cX0_tell 164 = .ok (.ireturn, 1)) ∧ (decode cX0_tell 165 = .ok (.iconst (-1), 1)) ∧ (decode cX0_tell 166 = .ok (.ireturn, 1)) := by decide +kernel
theorem dX0_tell_150 : decode cX0_tell 150 = .ok (.aload_n 0, 1) := dgX0_tell_48.1
theorem dX0_tell_151 : decode cX0_tell 151 = .ok (.getfield 101, 3) := dgX0_tell_48.2.1
theorem dX0_tell_154 : decode cX0_tell 154 = .ok (.ireturn, 1) := dgX0_tell_48.2.2.1
theorem dX0_tell_155 : decode cX0_tell 155 = .ok (.aload_n 0, 1) := dgX0_tell_48.2.2.2.1
theorem dX0_tell_156 : decode cX0_tell 156 = .ok (.getfield 104, 3) := dgX0_tell_48.2.2.2.2.1
theorem dX0_tell_159 : decode cX0_tell 159 = .ok (.ireturn, 1) := dgX0_tell_48.2.2.2.2.2.1
theorem dX0_tell_160 : decode cX0_tell 160 = .ok (.aload_n 0, 1) := dgX0_tell_48.2.2.2.2.2.2.1
theorem dX0_tell_161 : decode cX0_tell 161 = .ok (.getfield 107, 3) := dgX0_tell_48.2.2.2.2.2.2.2.1
theorem dX0_tell_164 : decode cX0_tell 164 = .ok (.ireturn, 1) := dgX0_tell_48.2.2.2.2.2.2.2.2.1
theorem dX0_tell_165 : decode cX0_tell 165 = .ok (.iconst (-1), 1) := dgX0_tell_48.2.2.2.2.2.2.2.2.2.1
theorem dX0_tell_166 : decode cX0_tell 166 = .ok (.ireturn, 1) := dgX0_tell_48.2.2.2.2.2.2.2.2.2.2
theorem dgX1_init_0 : (decode cX1_init 0 = .ok (.aload_n 0, 1)) ∧ (decode cX1_init 1 = .ok (.invokespecial 3, 3)) ∧ (decode cX1_init 4 = .ok (.aload_n 0, 1)) ∧ (decode cX1_init 5 = .ok (.iload_n 1, 1)) ∧ (decode cX1_init 6 = .ok (.putfield 9, 3)) ∧ (decode cX1_init 9 = .ok (.aload_n 0, 1)) ∧ (decode cX1_init 10 = .ok (.iload_n 2, 1)) ∧ (decode cX1_init 11 = .ok (.putfield 15, 3)) ∧ (decode cX1_init 14 = .ok (.aload_n 0, 1)) ∧ (decode cX1_init 15 = .ok (.iload_n 3, 1)) ∧ (decode cX1_init 16 = .ok (.iconst 0, 1)) ∧ (decode cX1_init 17 = .ok (.invokestatic 18, 3)) ∧ (decode cX1_init 20 = .ok (.newarray .int, 2)) ∧ (decode cX1_init 22 = .ok (.putfield 24, 3)) ∧ (decode cX1_init 25 = .ok (.return_, 1)) := by decide +kernel
theorem dX1_init_0 : decode cX1_init 0 = .ok (.aload_n 0, 1) := dgX1_init_0.1
theorem dX1_init_1 : decode cX1_init 1 = .ok (.invokespecial 3, 3) := dgX1_init_0.2.1
theorem dX1_init_4 : decode cX1_init 4 = .ok (.aload_n 0, 1) := dgX1_init_0.2.2.1
theorem dX1_init_5 : decode cX1_init 5 = .ok (.iload_n 1, 1) := dgX1_init_0.2.2.2.1
theorem dX1_init_6 : decode cX1_init 6 = .ok (.putfield 9, 3) := dgX1_init_0.2.2.2.2.1
theorem dX1_init_9 : decode cX1_init 9 = .ok (.aload_n 0, 1) := dgX1_init_0.2.2.2.2.2.1
theorem dX1_init_10 : decode cX1_init 10 = .ok (.iload_n 2, 1) := dgX1_init_0.2.2.2.2.2.2.1
theorem dX1_init_11 : decode cX1_init 11 = .ok (.putfield 15, 3) := dgX1_init_0.2.2.2.2.2.2.2.1
theorem dX1_init_14 : decode cX1_init 14 = .ok (.aload_n 0, 1) := dgX1_init_0.2.2.2.2.2.2.2.2.1
theorem dX1_init_15 : decode cX1_init 15 = .ok (.iload_n 3, 1) := dgX1_init_0.2.2.2.2.2.2.2.2.2.1
theorem dX1_init_16 : decode cX1_init 16 = .ok (.iconst 0, 1) := dgX1_init_0.2.2.2.2.2.2.2.2.2.2.1
theorem dX1_init_17 : decode cX1_init 17 = .ok (.invokestatic 18, 3) := dgX1_init_0.2.2.2.2.2.2.2.2.2.2.2.1
theorem dX1_init_20 : decode cX1_init 20 = .ok (.newarray .int, 2) := dgX1_init_0.2.2.2.2.2.2.2.2.2.2.2.2.1
theorem dX1_init_22 : decode cX1_init 22 = .ok (.putfield 24, 3) := dgX1_init_0.2.2.2.2.2.2.2.2.2.2.2.2.2.1
theorem dX1_init_25 : decode cX1_init 25 = .ok (.return_, 1) := dgX1_init_0.2.2.2.2.2.2.2.2.2.2.2.2.2.2
theorem dgX1_add_0 : (decode cX1_add 0 = .ok (.aload_n 0, 1)) ∧ (decode cX1_add 1 = .ok (.getfield 28, 3)) ∧ (decode cX1_add 4 = .ok (.aload_n 0, 1)) ∧ (decode cX1_add 5 = .ok (.getfield 24, 3)) ∧ (decode cX1_add 8 = .ok (.arraylength, 1)) ∧ (decode cX1_add 9 = .ok (.if_icmp .lt 4, 3)) ∧ (decode cX1_add 12 = .ok (.return_, 1)) ∧ (decode cX1_add 13 = .ok (.aload_n 0, 1)) ∧ (decode cX1_add 14 = .ok (.getfield 28, 3)) ∧ (decode cX1_add 17 = .ok (.istore 4, 2)) ∧ (decode cX1_add 19 = .ok (.iload 4, 2)) ∧ (decode cX1_add 21 = .ok (.ifCond .le 38, 3)) ∧ (decode cX1_add 24 = .ok (.aload_n 0, 1)) ∧ (decode cX1_add 25 = .ok (.getfield 24, 3)) ∧ (decode cX1_add 28 = .ok (.iload 4, 2)) ∧ (decode cX1_add 30 = .ok (.iconst 1, 1)) := by decide +kernel
theorem dX1_add_0 : decode cX1_add 0 = .ok (.aload_n 0, 1) := dgX1_add_0.1
theorem dX1_add_1 : decode cX1_add 1 = .ok (.getfield 28, 3) := dgX1_add_0.2.1
theorem dX1_add_4 : decode cX1_add 4 = .ok (.aload_n 0, 1) := dgX1_add_0.2.2.1
theorem dX1_add_5 : decode cX1_add 5 = .ok (.getfield 24, 3) := dgX1_add_0.2.2.2.1
theorem dX1_add_8 : decode cX1_add 8 = .ok (.arraylength, 1) := dgX1_add_0.2.2.2.2.1
theorem dX1_add_9 : decode cX1_add 9 = .ok (.if_icmp .lt 4, 3) := dgX1_add_0.2.2.2.2.2.1
theorem dX1_add_12 : decode cX1_add 12 = .ok (.return_, 1) := dgX1_add_0.2.2.2.2.2.2.1
theorem dX1_add_13 : decode cX1_add 13 = .ok (.aload_n 0, 1) := dgX1_add_0.2.2.2.2.2.2.2.1
theorem dX1_add_14 : decode cX1_add 14 = .ok (.getfield 28, 3) := dgX1_add_0.2.2.2.2.2.2.2.2.1
theorem dX1_add_17 : decode cX1_add 17 = .ok (.istore 4, 2) := dgX1_add_0.2.2.2.2.2.2.2.2.2.1
theorem dX1_add_19 : decode cX1_add 19 = .ok (.iload 4, 2) := dgX1_add_0.2.2.2.2.2.2.2.2.2.2.1
theorem dX1_add_21 : decode cX1_add 21 = .ok (.ifCond .le 38, 3) := dgX1_add_0.2.2.2.2.2.2.2.2.2.2.2.1
theorem dX1_add_24 : decode cX1_add 24 = .ok (.aload_n 0, 1) := dgX1_add_0.2.2.2.2.2.2.2.2.2.2.2.2.1
theorem dX1_add_25 : decode cX1_add 25 = .ok (.getfield 24, 3) := dgX1_add_0.2.2.2.2.2.2.2.2.2.2.2.2.2.1
theorem dX1_add_28 : decode cX1_add 28 = .ok (.iload 4, 2) := dgX1_add_0.2.2.2.2.2.2.2.2.2.2.2.2.2.2.1
theorem dX1_add_30 : decode cX1_add 30 = .ok (.iconst 1, 1) := dgX1_add_0.2.2.2.2.2.2.2.2.2.2.2.2.2.2.2
theorem dgX1_add_16 : (decode cX1_add 31 = .ok (.isub, 1)) ∧ (decode cX1_add 32 = .ok (.iaload, 1)) ∧ (decode cX1_add 33 = .ok (.iload_n 1, 1)) ∧ (decode cX1_add 34 = .ok (.if_icmp .le 25, 3)) ∧ (decode cX1_add 37 = .ok (.aload_n 0, 1)) ∧ (decode cX1_add 38 = .ok (.getfield 24, 3)) ∧ (decode cX1_add 41 = .ok (.iload 4, 2)) ∧ (decode cX1_add 43 = .ok (.aload_n 0, 1)) ∧ (decode cX1_add 44 = .ok (.getfield 24, 3)) ∧ (decode cX1_add 47 = .ok (.iload 4, 2)) ∧ (decode cX1_add 49 = .ok (.iconst 1, 1)) ∧ (decode cX1_add 50 = .ok (.isub, 1)) ∧ (decode cX1_add 51 = .ok (.iaload, 1)) ∧ (decode cX1_add 52 = .ok (.iastore, 1)) ∧ (decode cX1_add 53 = .ok (.iinc 4 (-1), 3)) ∧ (decode cX1_add 56 = .ok (.goto (-37), 3)) := by decide +kernel
theorem dX1_add_31 : decode cX1_add 31 = .ok (.isub, 1) := dgX1_add_16.1
theorem dX1_add_32 : decode cX1_add 32 = .ok (.iaload, 1) := dgX1_add_16.2.1
theorem dX1_add_33 : decode cX1_add 33 = .ok (.iload_n 1, 1) := dgX1_add_16.2.2.1
theorem dX1_add_34 : decode cX1_add 34 = .ok (.if_icmp .le 25, 3) := dgX1_add_16.2.2.2.1
theorem dX1_add_37 : decode cX1_add 37 = .ok (.aload_n 0, 1) := dgX1_add_16.2.2.2.2.1
theorem dX1_add_38 : decode cX1_add 38 = .ok (.getfield 24, 3) := dgX1_add_16.2.2.2.2.2.1
theorem dX1_add_41 : decode cX1_add 41 = .ok (.iload 4, 2) := dgX1_add_16.2.2.2.2.2.2.1
theorem dX1_add_43 : decode cX1_add 43 = .ok (.aload_n 0, 1) := dgX1_add_16.2.2.2.2.2.2.2.1
theorem dX1_add_44 : decode cX1_add 44 = .ok (.getfield 24, 3) := dgX1_add_16.2.2.2.2.2.2.2.2.1
theorem dX1_add_47 : decode cX1_add 47 = .ok (.iload 4, 2) := dgX1_add_16.2.2.2.2.2.2.2.2.2.1
theorem dX1_add_49 : decode cX1_add 49 = .ok (.iconst 1, 1) := dgX1_add_16.2.2.2.2.2.2.2.2.2.2.1
theorem dX1_add_50 : decode cX1_add 50 = .ok (.isub, 1) := dgX1_add_16.2.2.2.2.2.2.2.2.2.2.2.1
theorem dX1_add_51 : decode cX1_add 51 = .ok (.iaload, 1) := dgX1_add_16.2.2.2.2.2.2.2.2.2.2.2.2.1
theorem dX1_add_52 : decode cX1_add 52 = .ok (.iastore, 1) := dgX1_add_16.2.2.2.2.2.2.2.2.2.2.2.2.2.1
theorem dX1_add_53 : decode cX1_add 53 = .ok (.iinc 4 (-1), 3) := dgX1_add_16.2.2.2.2.2.2.2.2.2.2.2.2.2.2.1
theorem dX1_add_56 : decode cX1_add 56 = .ok (.goto (-37), 3) := dgX1_add_16.2.2.2.2.2.2.2.2.2.2.2.2.2.2.2
theorem dgX1_add_32 : (decode cX1_add 59 = .ok (.aload_n 0, 1)) ∧ (decode cX1_add 60 = .ok (.getfield 24, 3)) ∧ (decode cX1_add 63 = .ok (.iload 4, 2)) ∧ (decode cX1_add 65 = .ok (.iload_n 1, 1)) ∧ (decode cX1_add 66 = .ok (.iastore, 1)) ∧ (decode cX1_add 67 = .ok (.aload_n 0, 1)) ∧ (decode cX1_add 68 = .ok (.dup, 1)) ∧ (decode cX1_add 69 = .ok (.getfield 28, 3)) ∧ (decode cX1_add 72 = .ok (.iconst 1, 1)) ∧ (decode cX1_add 73 = .ok (.iadd, 1)) ∧ (decode cX1_add 74 = .ok (.putfield 28, 3)) ∧ (decode cX1_add 77 = .ok (.aload_n 0, 1)) ∧ (decode cX1_add 78 = .ok (.dup, 1)) ∧ (decode cX1_add 79 = .ok (.getfield 31, 3)) ∧ (decode cX1_add 82 = .ok (.lload_n 2, 1)) ∧ (decode cX1_add 83 = .ok (.lor, 1)) := by decide +kernel
theorem dX1_add_59 : decode cX1_add 59 = .ok (.aload_n 0, 1) := dgX1_add_32.1
theorem dX1_add_60 : decode cX1_add 60 = .ok (.getfield 24, 3) := dgX1_add_32.2.1
theorem dX1_add_63 : decode cX1_add 63 = .ok (.iload 4, 2) := dgX1_add_32.2.2.1
theorem dX1_add_65 : decode cX1_add 65 = .ok (.iload_n 1, 1) := dgX1_add_32.2.2.2.1
theorem dX1_add_66 : decode cX1_add 66 = .ok (.iastore, 1) := dgX1_add_32.2.2.2.2.1
theorem dX1_add_67 : decode cX1_add 67 = .ok (.aload_n 0, 1) := dgX1_add_32.2.2.2.2.2.1
theorem dX1_add_68 : decode cX1_add 68 = .ok (.dup, 1) := dgX1_add_32.2.2.2.2.2.2.1
theorem dX1_add_69 : decode cX1_add 69 = .ok (.getfield 28, 3) := dgX1_add_32.2.2.2.2.2.2.2.1
theorem dX1_add_72 : decode cX1_add 72 = .ok (.iconst 1, 1) := dgX1_add_32.2.2.2.2.2.2.2.2.1
theorem dX1_add_73 : decode cX1_add 73 = .ok (.iadd, 1) := dgX1_add_32.2.2.2.2.2.2.2.2.2.1
theorem dX1_add_74 : decode cX1_add 74 = .ok (.putfield 28, 3) := dgX1_add_32.2.2.2.2.2.2.2.2.2.2.1
theorem dX1_add_77 : decode cX1_add 77 = .ok (.aload_n 0, 1) := dgX1_add_32.2.2.2.2.2.2.2.2.2.2.2.1
theorem dX1_add_78 : decode cX1_add 78 = .ok (.dup, 1) := dgX1_add_32.2.2.2.2.2.2.2.2.2.2.2.2.1
theorem dX1_add_79 : decode cX1_add 79 = .ok (.getfield 31, 3) := dgX1_add_32.2.2.2.2.2.2.2.2.2.2.2.2.2.1
theorem dX1_add_82 : decode cX1_add 82 = .ok (.lload_n 2, 1) := dgX1_add_32.2.2.2.2.2.2.2.2.2.2.2.2.2.2.1
theorem dX1_add_83 : decode cX1_add 83 = .ok (.lor, 1) := dgX1_add_32.2.2.2.2.2.2.2.2.2.2.2.2.2.2.2
theorem dgX1_add_48 : (decode cX1_add 84 = .ok (.putfield 31, 3)) ∧ (decode cX1_add 87 = .ok (.return_, 1)) := by decide +kernel
theorem dX1_add_84 : decode cX1_add 84 = .ok (.putfield 31, 3) := dgX1_add_48.1
theorem dX1_add_87 : decode cX1_add 87 = .ok (.return_, 1) := dgX1_add_48.2
theorem dgX1_tell_0 : (decode cX1_tell 0 = .ok (.iload_n 1, 1)) ∧ (decode cX1_tell 1 = .ok (.bipush 100, 2)) ∧ (decode cX1_tell 3 = .ok (.sipush 199, 3)) ∧ (decode cX1_tell 6 = .ok (.invokestatic 35, 3)) ∧ (decode cX1_tell 9 = .ok (.ifCond .eq 28, 3)) ∧ (decode cX1_tell 12 = .ok (.iload_n 1, 1)) ∧ (decode cX1_tell 13 = .ok (.bipush 100, 2)) ∧ (decode cX1_tell 15 = .ok (.isub, 1)) ∧ (decode cX1_tell 16 = .ok (.aload_n 0, 1)) ∧ (decode cX1_tell 17 = .ok (.getfield 28, 3)) ∧ (decode cX1_tell 20 = .ok (.if_icmp .ge 15, 3)) ∧ (decode cX1_tell 23 = .ok (.aload_n 0, 1)) ∧ (decode cX1_tell 24 = .ok (.getfield 24, 3)) ∧ (decode cX1_tell 27 = .ok (.iload_n 1, 1)) ∧ (decode cX1_tell 28 = .ok (.bipush 100, 2)) ∧ (decode cX1_tell 30 = .ok (.isub, 1)) := by decide +kernel
theorem dX1_tell_0 : decode cX1_tell 0 = .ok (.iload_n 1, 1) := dgX1_tell_0.1
theorem dX1_tell_1 : decode cX1_tell 1 = .ok (.bipush 100, 2) := dgX1_tell_0.2.1
theorem dX1_tell_3 : decode cX1_tell 3 = .ok (.sipush 199, 3) := dgX1_tell_0.2.2.1
theorem dX1_tell_6 : decode cX1_tell 6 = .ok (.invokestatic 35, 3) := dgX1_tell_0.2.2.2.1
theorem dX1_tell_9 : decode cX1_tell 9 = .ok (.ifCond .eq 28, 3) := dgX1_tell_0.2.2.2.2.1
theorem dX1_tell_12 : decode cX1_tell 12 = .ok (.iload_n 1, 1) := dgX1_tell_0.2.2.2.2.2.1
theorem dX1_tell_13 : decode cX1_tell 13 = .ok (.bipush 100, 2) := dgX1_tell_0.2.2.2.2.2.2.1
theorem dX1_tell_15 : decode cX1_tell 15 = .ok (.isub, 1) := dgX1_tell_0.2.2.2.2.2.2.2.1
theorem dX1_tell_16 : decode cX1_tell 16 = .ok (.aload_n 0, 1) := dgX1_tell_0.2.2.2.2.2.2.2.2.1
theorem dX1_tell_17 : decode cX1_tell 17 = .ok (.getfield 28, 3) := dgX1_tell_0.2.2.2.2.2.2.2.2.2.1
theorem dX1_tell_20 : decode cX1_tell 20 = .ok (.if_icmp .ge 15, 3) := dgX1_tell_0.2.2.2.2.2.2.2.2.2.2.1
theorem dX1_tell_23 : decode cX1_tell 23 = .ok (.aload_n 0, 1) := dgX1_tell_0.2.2.2.2.2.2.2.2.2.2.2.1
theorem dX1_tell_24 : decode cX1_tell 24 = .ok (.getfield 24, 3) := dgX1_tell_0.2.2.2.2.2.2.2.2.2.2.2.2.1
theorem dX1_tell_27 : decode cX1_tell 27 = .ok (.iload_n 1, 1) := dgX1_tell_0.2.2.2.2.2.2.2.2.2.2.2.2.2.1
theorem dX1_tell_28 : decode cX1_tell 28 = .ok (.bipush 100, 2) := dgX1_tell_0.2.2.2.2.2.2.2.2.2.2.2.2.2.2.1
theorem dX1_tell_30 : decode cX1_tell 30 = .ok (.isub, 1) := dgX1_tell_0.2.2.2.2.2.2.2.2.2.2.2.2.2.2.2
theorem dgX1_tell_16 : (decode cX1_tell 31 = .ok (.iaload, 1)) ∧ (decode cX1_tell 32 = .ok (.goto 4, 3)) ∧ (decode cX1_tell 35 = .ok (.iconst (-1), 1)) ∧ (decode cX1_tell 36 = .ok (.ireturn, 1)) ∧ (decode cX1_tell 37 = .ok (.iload_n 1, 1)) ∧ (decode cX1_tell 38 = .ok (.sipush 200, 3)) ∧ (decode cX1_tell 41 = .ok (.if_icmp .lt 13, 3)) ∧ (decode cX1_tell 44 = .ok (.aload_n 0, 1)) ∧ (decode cX1_tell 45 = .ok (.iload_n 1, 1)) ∧ (decode cX1_tell 46 = .ok (.sipush 200, 3)) ∧ (decode cX1_tell 49 = .ok (.isub, 1)) ∧ (decode cX1_tell 50 = .ok (.invokevirtual 39, 3)) ∧ (decode cX1_tell 53 = .ok (.ireturn, 1)) ∧ (decode cX1_tell 54 = .ok (.iload_n 1, 1)) ∧ (decode cX1_tell 55 = .ok (.tableswitch 61 0 4 #[33, 38, 43, 48, 53], 33)) ∧ (decode cX1_tell 88 = .ok (.aload_n 0, 1)) := by decide +kernel
theorem dX1_tell_31 : decode cX1_tell 31 = .ok (.iaload, 1) := dgX1_tell_16.1
theorem dX1_tell_32 : decode cX1_tell 32 = .ok (.goto 4, 3) := dgX1_tell_16.2.1
theorem dX1_tell_35 : decode cX1_tell 35 = .ok (.iconst (-1), 1) := dgX1_tell_16.2.2.1
theorem dX1_tell_36 : decode cX1_tell 36 = .ok (.ireturn, 1) := dgX1_tell_16.2.2.2.1
theorem dX1_tell_37 : decode cX1_tell 37 = .ok (.iload_n 1, 1) := dgX1_tell_16.2.2.2.2.1
theorem dX1_tell_38 : decode cX1_tell 38 = .ok (.sipush 200, 3) := dgX1_tell_16.2.2.2.2.2.1
theorem dX1_tell_41 : decode cX1_tell 41 = .ok (.if_icmp .lt 13, 3) := dgX1_tell_16.2.2.2.2.2.2.1
theorem dX1_tell_44 : decode cX1_tell 44 = .ok (.aload_n 0, 1) := dgX1_tell_16.2.2.2.2.2.2.2.1
theorem dX1_tell_45 : decode cX1_tell 45 = .ok (.iload_n 1, 1) := dgX1_tell_16.2.2.2.2.2.2.2.2.1
theorem dX1_tell_46 : decode cX1_tell 46 = .ok (.sipush 200, 3) := dgX1_tell_16.2.2.2.2.2.2.2.2.2.1
theorem dX1_tell_49 : decode cX1_tell 49 = .ok (.isub, 1) := dgX1_tell_16.2.2.2.2.2.2.2.2.2.2.1
theorem dX1_tell_50 : decode cX1_tell 50 = .ok (.invokevirtual 39, 3) := dgX1_tell_16.2.2.2.2.2.2.2.2.2.2.2.1
theorem dX1_tell_53 : decode cX1_tell 53 = .ok (.ireturn, 1) := dgX1_tell_16.2.2.2.2.2.2.2.2.2.2.2.2.1
theorem dX1_tell_54 : decode cX1_tell 54 = .ok (.iload_n 1, 1) := dgX1_tell_16.2.2.2.2.2.2.2.2.2.2.2.2.2.1
theorem dX1_tell_55 : decode cX1_tell 55 = .ok (.tableswitch 61 0 4 #[33, 38, 43, 48, 53], 33) := dgX1_tell_16.2.2.2.2.2.2.2.2.2.2.2.2.2.2.1
theorem dX1_tell_88 : decode cX1_tell 88 = .ok (.aload_n 0, 1) := dgX1_tell_16.2.2.2.2.2.2.2.2.2.2.2.2.2.2.2
theorem dgX1_tell_32 : (decode cX1_tell 89 = .ok (.getfield 28, 3)) ∧ (decode cX1_tell 92 = .ok (.ireturn, 1)) ∧ (decode cX1_tell 93 = .ok (.aload_n 0, 1)) ∧ (decode cX1_tell 94 = .ok (.getfield 15, 3)) ∧ (decode cX1_tell 97 = .ok (.ireturn, 1)) ∧ (decode cX1_tell 98 = .ok (.aload_n 0, 1)) ∧ (decode cX1_tell 99 = .ok (.getfield 9, 3)) ∧ (decode cX1_tell 102 = .ok (.ireturn, 1)) ∧ (decode cX1_tell 103 = .ok (.aload_n 0, 1)) ∧ (decode cX1_tell 104 = .ok (.getfield 43, 3)) ∧ (decode cX1_tell 107 = .ok (.ireturn, 1)) ∧ (decode cX1_tell 108 = .ok (.aload_n 0, 1)) ∧ (decode cX1_tell 109 = .ok (.getfield 31, 3)) ∧ (decode cX1_tell 112 = .ok (.invokestatic 46, 3)) ∧ (decode cX1_tell 115 = .ok (.ireturn, 1)) ∧ (decode cX1_tell 116 = .ok (.iconst (-1), 1)) := by decide +kernel
theorem dX1_tell_89 : decode cX1_tell 89 = .ok (.getfield 28, 3) := dgX1_tell_32.1
theorem dX1_tell_92 : decode cX1_tell 92 = .ok (.ireturn, 1) := dgX1_tell_32.2.1
theorem dX1_tell_93 : decode cX1_tell 93 = .ok (.aload_n 0, 1) := dgX1_tell_32.2.2.1
theorem dX1_tell_94 : decode cX1_tell 94 = .ok (.getfield 15, 3) := dgX1_tell_32.2.2.2.1
theorem dX1_tell_97 : decode cX1_tell 97 = .ok (.ireturn, 1) := dgX1_tell_32.2.2.2.2.1
theorem dX1_tell_98 : decode cX1_tell 98 = .ok (.aload_n 0, 1) := dgX1_tell_32.2.2.2.2.2.1
theorem dX1_tell_99 : decode cX1_tell 99 = .ok (.getfield 9, 3) := dgX1_tell_32.2.2.2.2.2.2.1
theorem dX1_tell_102 : decode cX1_tell 102 = .ok (.ireturn, 1) := dgX1_tell_32.2.2.2.2.2.2.2.1
theorem dX1_tell_103 : decode cX1_tell 103 = .ok (.aload_n 0, 1) := dgX1_tell_32.2.2.2.2.2.2.2.2.1
theorem dX1_tell_104 : decode cX1_tell 104 = .ok (.getfield 43, 3) := dgX1_tell_32.2.2.2.2.2.2.2.2.2.1
theorem dX1_tell_107 : decode cX1_tell 107 = .ok (.ireturn, 1) := dgX1_tell_32.2.2.2.2.2.2.2.2.2.2.1
theorem dX1_tell_108 : decode cX1_tell 108 = .ok (.aload_n 0, 1) := dgX1_tell_32.2.2.2.2.2.2.2.2.2.2.2.1
theorem dX1_tell_109 : decode cX1_tell 109 = .ok (.getfield 31, 3) := dgX1_tell_32.2.2.2.2.2.2.2.2.2.2.2.2.1
theorem dX1_tell_112 : decode cX1_tell 112 = .ok (.invokestatic 46, 3) := dgX1_tell_32.2.2.2.2.2.2.2.2.2.2.2.2.2.1
theorem dX1_tell_115 : decode cX1_tell 115 = .ok (.ireturn, 1) := dgX1_tell_32.2.2.2.2.2.2.2.2.2.2.2.2.2.2.1
theorem dX1_tell_116 : decode cX1_tell 116 = .ok (.iconst (-1), 1) := dgX1_tell_32.2.2.2.2.2.2.2.2.2.2.2.2.2.2.2
theorem dX1_tell_117 : decode cX1_tell 117 = .ok (.ireturn, 1) := by decide +kernel
theorem dgX1_lotAt_0 : (decode cX1_lotAt 0 = .ok (.iconst 0, 1)) ∧ (decode cX1_lotAt 1 = .ok (.istore_n 2, 1)) ∧ (decode cX1_lotAt 2 = .ok (.iconst 0, 1)) ∧ (decode cX1_lotAt 3 = .ok (.istore_n 3, 1)) ∧ (decode cX1_lotAt 4 = .ok (.iload_n 3, 1)) ∧ (decode cX1_lotAt 5 = .ok (.bipush 40, 2)) ∧ (decode cX1_lotAt 7 = .ok (.if_icmp .ge 32, 3)) ∧ (decode cX1_lotAt 10 = .ok (.aload_n 0, 1)) ∧ (decode cX1_lotAt 11 = .ok (.getfield 31, 3)) ∧ (decode cX1_lotAt 14 = .ok (.iload_n 3, 1)) ∧ (decode cX1_lotAt 15 = .ok (.lshr, 1)) ∧ (decode cX1_lotAt 16 = .ok (.lconst 1, 1)) ∧ (decode cX1_lotAt 17 = .ok (.land, 1)) ∧ (decode cX1_lotAt 18 = .ok (.lconst 0, 1)) ∧ (decode cX1_lotAt 19 = .ok (.lcmp, 1)) ∧ (decode cX1_lotAt 20 = .ok (.ifCond .eq 13, 3)) := by decide +kernel
theorem dX1_lotAt_0 : decode cX1_lotAt 0 = .ok (.iconst 0, 1) := dgX1_lotAt_0.1
theorem dX1_lotAt_1 : decode cX1_lotAt 1 = .ok (.istore_n 2, 1) := dgX1_lotAt_0.2.1
theorem dX1_lotAt_2 : decode cX1_lotAt 2 = .ok (.iconst 0, 1) := dgX1_lotAt_0.2.2.1
theorem dX1_lotAt_3 : decode cX1_lotAt 3 = .ok (.istore_n 3, 1) := dgX1_lotAt_0.2.2.2.1
theorem dX1_lotAt_4 : decode cX1_lotAt 4 = .ok (.iload_n 3, 1) := dgX1_lotAt_0.2.2.2.2.1
theorem dX1_lotAt_5 : decode cX1_lotAt 5 = .ok (.bipush 40, 2) := dgX1_lotAt_0.2.2.2.2.2.1
theorem dX1_lotAt_7 : decode cX1_lotAt 7 = .ok (.if_icmp .ge 32, 3) := dgX1_lotAt_0.2.2.2.2.2.2.1
theorem dX1_lotAt_10 : decode cX1_lotAt 10 = .ok (.aload_n 0, 1) := dgX1_lotAt_0.2.2.2.2.2.2.2.1
theorem dX1_lotAt_11 : decode cX1_lotAt 11 = .ok (.getfield 31, 3) := dgX1_lotAt_0.2.2.2.2.2.2.2.2.1
theorem dX1_lotAt_14 : decode cX1_lotAt 14 = .ok (.iload_n 3, 1) := dgX1_lotAt_0.2.2.2.2.2.2.2.2.2.1
theorem dX1_lotAt_15 : decode cX1_lotAt 15 = .ok (.lshr, 1) := dgX1_lotAt_0.2.2.2.2.2.2.2.2.2.2.1
theorem dX1_lotAt_16 : decode cX1_lotAt 16 = .ok (.lconst 1, 1) := dgX1_lotAt_0.2.2.2.2.2.2.2.2.2.2.2.1
theorem dX1_lotAt_17 : decode cX1_lotAt 17 = .ok (.land, 1) := dgX1_lotAt_0.2.2.2.2.2.2.2.2.2.2.2.2.1
theorem dX1_lotAt_18 : decode cX1_lotAt 18 = .ok (.lconst 0, 1) := dgX1_lotAt_0.2.2.2.2.2.2.2.2.2.2.2.2.2.1
theorem dX1_lotAt_19 : decode cX1_lotAt 19 = .ok (.lcmp, 1) := dgX1_lotAt_0.2.2.2.2.2.2.2.2.2.2.2.2.2.2.1
theorem dX1_lotAt_20 : decode cX1_lotAt 20 = .ok (.ifCond .eq 13, 3) := dgX1_lotAt_0.2.2.2.2.2.2.2.2.2.2.2.2.2.2.2
theorem dgX1_lotAt_16 : (decode cX1_lotAt 23 = .ok (.iload_n 2, 1)) ∧ (decode cX1_lotAt 24 = .ok (.iload_n 1, 1)) ∧ (decode cX1_lotAt 25 = .ok (.if_icmp .ne 5, 3)) ∧ (decode cX1_lotAt 28 = .ok (.iload_n 3, 1)) ∧ (decode cX1_lotAt 29 = .ok (.ireturn, 1)) ∧ (decode cX1_lotAt 30 = .ok (.iinc 2 1, 3)) ∧ (decode cX1_lotAt 33 = .ok (.iinc 3 1, 3)) ∧ (decode cX1_lotAt 36 = .ok (.goto (-32), 3)) ∧ (decode cX1_lotAt 39 = .ok (.iconst (-1), 1)) ∧ (decode cX1_lotAt 40 = .ok (.ireturn, 1)) := by decide +kernel
theorem dX1_lotAt_23 : decode cX1_lotAt 23 = .ok (.iload_n 2, 1) := dgX1_lotAt_16.1
theorem dX1_lotAt_24 : decode cX1_lotAt 24 = .ok (.iload_n 1, 1) := dgX1_lotAt_16.2.1
theorem dX1_lotAt_25 : decode cX1_lotAt 25 = .ok (.if_icmp .ne 5, 3) := dgX1_lotAt_16.2.2.1
theorem dX1_lotAt_28 : decode cX1_lotAt 28 = .ok (.iload_n 3, 1) := dgX1_lotAt_16.2.2.2.1
theorem dX1_lotAt_29 : decode cX1_lotAt 29 = .ok (.ireturn, 1) := dgX1_lotAt_16.2.2.2.2.1
theorem dX1_lotAt_30 : decode cX1_lotAt 30 = .ok (.iinc 2 1, 3) := dgX1_lotAt_16.2.2.2.2.2.1
theorem dX1_lotAt_33 : decode cX1_lotAt 33 = .ok (.iinc 3 1, 3) := dgX1_lotAt_16.2.2.2.2.2.2.1
theorem dX1_lotAt_36 : decode cX1_lotAt 36 = .ok (.goto (-32), 3) := dgX1_lotAt_16.2.2.2.2.2.2.2.1
theorem dX1_lotAt_39 : decode cX1_lotAt 39 = .ok (.iconst (-1), 1) := dgX1_lotAt_16.2.2.2.2.2.2.2.2.1
theorem dX1_lotAt_40 : decode cX1_lotAt 40 = .ok (.ireturn, 1) := dgX1_lotAt_16.2.2.2.2.2.2.2.2.2
theorem dgX2_init_0 : (decode cX2_init 0 = .ok (.aload_n 0, 1)) ∧ (decode cX2_init 1 = .ok (.invokespecial 3, 3)) ∧ (decode cX2_init 4 = .ok (.aload_n 0, 1)) ∧ (decode cX2_init 5 = .ok (.bipush 40, 2)) ∧ (decode cX2_init 7 = .ok (.newarray .int, 2)) ∧ (decode cX2_init 9 = .ok (.putfield 9, 3)) ∧ (decode cX2_init 12 = .ok (.aload_n 0, 1)) ∧ (decode cX2_init 13 = .ok (.bipush 40, 2)) ∧ (decode cX2_init 15 = .ok (.newarray .int, 2)) ∧ (decode cX2_init 17 = .ok (.putfield 15, 3)) ∧ (decode cX2_init 20 = .ok (.aload_n 0, 1)) ∧ (decode cX2_init 21 = .ok (.bipush 40, 2)) ∧ (decode cX2_init 23 = .ok (.newarray .boolean, 2)) ∧ (decode cX2_init 25 = .ok (.putfield 18, 3)) ∧ (decode cX2_init 28 = .ok (.return_, 1)) := by decide +kernel
theorem dX2_init_0 : decode cX2_init 0 = .ok (.aload_n 0, 1) := dgX2_init_0.1
theorem dX2_init_1 : decode cX2_init 1 = .ok (.invokespecial 3, 3) := dgX2_init_0.2.1
theorem dX2_init_4 : decode cX2_init 4 = .ok (.aload_n 0, 1) := dgX2_init_0.2.2.1
theorem dX2_init_5 : decode cX2_init 5 = .ok (.bipush 40, 2) := dgX2_init_0.2.2.2.1
theorem dX2_init_7 : decode cX2_init 7 = .ok (.newarray .int, 2) := dgX2_init_0.2.2.2.2.1
theorem dX2_init_9 : decode cX2_init 9 = .ok (.putfield 9, 3) := dgX2_init_0.2.2.2.2.2.1
theorem dX2_init_12 : decode cX2_init 12 = .ok (.aload_n 0, 1) := dgX2_init_0.2.2.2.2.2.2.1
theorem dX2_init_13 : decode cX2_init 13 = .ok (.bipush 40, 2) := dgX2_init_0.2.2.2.2.2.2.2.1
theorem dX2_init_15 : decode cX2_init 15 = .ok (.newarray .int, 2) := dgX2_init_0.2.2.2.2.2.2.2.2.1
theorem dX2_init_17 : decode cX2_init 17 = .ok (.putfield 15, 3) := dgX2_init_0.2.2.2.2.2.2.2.2.2.1
theorem dX2_init_20 : decode cX2_init 20 = .ok (.aload_n 0, 1) := dgX2_init_0.2.2.2.2.2.2.2.2.2.2.1
theorem dX2_init_21 : decode cX2_init 21 = .ok (.bipush 40, 2) := dgX2_init_0.2.2.2.2.2.2.2.2.2.2.2.1
theorem dX2_init_23 : decode cX2_init 23 = .ok (.newarray .boolean, 2) := dgX2_init_0.2.2.2.2.2.2.2.2.2.2.2.2.1
theorem dX2_init_25 : decode cX2_init 25 = .ok (.putfield 18, 3) := dgX2_init_0.2.2.2.2.2.2.2.2.2.2.2.2.2.1
theorem dX2_init_28 : decode cX2_init 28 = .ok (.return_, 1) := dgX2_init_0.2.2.2.2.2.2.2.2.2.2.2.2.2.2
theorem dgX2_add_0 : (decode cX2_add 0 = .ok (.aload_n 0, 1)) ∧ (decode cX2_add 1 = .ok (.getfield 22, 3)) ∧ (decode cX2_add 4 = .ok (.bipush 40, 2)) ∧ (decode cX2_add 6 = .ok (.if_icmp .ge 33, 3)) ∧ (decode cX2_add 9 = .ok (.aload_n 0, 1)) ∧ (decode cX2_add 10 = .ok (.getfield 9, 3)) ∧ (decode cX2_add 13 = .ok (.aload_n 0, 1)) ∧ (decode cX2_add 14 = .ok (.getfield 22, 3)) ∧ (decode cX2_add 17 = .ok (.iload_n 1, 1)) ∧ (decode cX2_add 18 = .ok (.iastore, 1)) ∧ (decode cX2_add 19 = .ok (.aload_n 0, 1)) ∧ (decode cX2_add 20 = .ok (.getfield 15, 3)) ∧ (decode cX2_add 23 = .ok (.aload_n 0, 1)) ∧ (decode cX2_add 24 = .ok (.getfield 22, 3)) ∧ (decode cX2_add 27 = .ok (.iload_n 2, 1)) ∧ (decode cX2_add 28 = .ok (.iastore, 1)) := by decide +kernel
theorem dX2_add_0 : decode cX2_add 0 = .ok (.aload_n 0, 1) := dgX2_add_0.1
theorem dX2_add_1 : decode cX2_add 1 = .ok (.getfield 22, 3) := dgX2_add_0.2.1
theorem dX2_add_4 : decode cX2_add 4 = .ok (.bipush 40, 2) := dgX2_add_0.2.2.1
theorem dX2_add_6 : decode cX2_add 6 = .ok (.if_icmp .ge 33, 3) := dgX2_add_0.2.2.2.1
theorem dX2_add_9 : decode cX2_add 9 = .ok (.aload_n 0, 1) := dgX2_add_0.2.2.2.2.1
theorem dX2_add_10 : decode cX2_add 10 = .ok (.getfield 9, 3) := dgX2_add_0.2.2.2.2.2.1
theorem dX2_add_13 : decode cX2_add 13 = .ok (.aload_n 0, 1) := dgX2_add_0.2.2.2.2.2.2.1
theorem dX2_add_14 : decode cX2_add 14 = .ok (.getfield 22, 3) := dgX2_add_0.2.2.2.2.2.2.2.1
theorem dX2_add_17 : decode cX2_add 17 = .ok (.iload_n 1, 1) := dgX2_add_0.2.2.2.2.2.2.2.2.1
theorem dX2_add_18 : decode cX2_add 18 = .ok (.iastore, 1) := dgX2_add_0.2.2.2.2.2.2.2.2.2.1
theorem dX2_add_19 : decode cX2_add 19 = .ok (.aload_n 0, 1) := dgX2_add_0.2.2.2.2.2.2.2.2.2.2.1
theorem dX2_add_20 : decode cX2_add 20 = .ok (.getfield 15, 3) := dgX2_add_0.2.2.2.2.2.2.2.2.2.2.2.1
theorem dX2_add_23 : decode cX2_add 23 = .ok (.aload_n 0, 1) := dgX2_add_0.2.2.2.2.2.2.2.2.2.2.2.2.1
theorem dX2_add_24 : decode cX2_add 24 = .ok (.getfield 22, 3) := dgX2_add_0.2.2.2.2.2.2.2.2.2.2.2.2.2.1
theorem dX2_add_27 : decode cX2_add 27 = .ok (.iload_n 2, 1) := dgX2_add_0.2.2.2.2.2.2.2.2.2.2.2.2.2.2.1
theorem dX2_add_28 : decode cX2_add 28 = .ok (.iastore, 1) := dgX2_add_0.2.2.2.2.2.2.2.2.2.2.2.2.2.2.2
theorem dgX2_add_16 : (decode cX2_add 29 = .ok (.aload_n 0, 1)) ∧ (decode cX2_add 30 = .ok (.dup, 1)) ∧ (decode cX2_add 31 = .ok (.getfield 22, 3)) ∧ (decode cX2_add 34 = .ok (.iconst 1, 1)) ∧ (decode cX2_add 35 = .ok (.iadd, 1)) ∧ (decode cX2_add 36 = .ok (.putfield 22, 3)) ∧ (decode cX2_add 39 = .ok (.return_, 1)) := by decide +kernel
theorem dX2_add_29 : decode cX2_add 29 = .ok (.aload_n 0, 1) := dgX2_add_16.1
theorem dX2_add_30 : decode cX2_add 30 = .ok (.dup, 1) := dgX2_add_16.2.1
theorem dX2_add_31 : decode cX2_add 31 = .ok (.getfield 22, 3) := dgX2_add_16.2.2.1
theorem dX2_add_34 : decode cX2_add 34 = .ok (.iconst 1, 1) := dgX2_add_16.2.2.2.1
theorem dX2_add_35 : decode cX2_add 35 = .ok (.iadd, 1) := dgX2_add_16.2.2.2.2.1
theorem dX2_add_36 : decode cX2_add 36 = .ok (.putfield 22, 3) := dgX2_add_16.2.2.2.2.2.1
theorem dX2_add_39 : decode cX2_add 39 = .ok (.return_, 1) := dgX2_add_16.2.2.2.2.2.2
theorem dgX2_choose_0 : (decode cX2_choose 0 = .ok (.aload_n 0, 1)) ∧ (decode cX2_choose 1 = .ok (.invokevirtual 26, 3)) ∧ (decode cX2_choose 4 = .ok (.iload_n 1, 1)) ∧ (decode cX2_choose 5 = .ok (.if_icmp .ge 5, 3)) ∧ (decode cX2_choose 8 = .ok (.iconst (-1), 1)) ∧ (decode cX2_choose 9 = .ok (.ireturn, 1)) ∧ (decode cX2_choose 10 = .ok (.iload_n 1, 1)) ∧ (decode cX2_choose 11 = .ok (.iload_n 2, 1)) ∧ (decode cX2_choose 12 = .ok (.iadd, 1)) ∧ (decode cX2_choose 13 = .ok (.sipush 8511, 3)) ∧ (decode cX2_choose 16 = .ok (.invokestatic 30, 3)) ∧ (decode cX2_choose 19 = .ok (.istore_n 3, 1)) ∧ (decode cX2_choose 20 = .ok (.aload_n 0, 1)) ∧ (decode cX2_choose 21 = .ok (.iload_n 3, 1)) ∧ (decode cX2_choose 22 = .ok (.invokevirtual 36, 3)) ∧ (decode cX2_choose 25 = .ok (.iload_n 1, 1)) := by decide +kernel
theorem dX2_choose_0 : decode cX2_choose 0 = .ok (.aload_n 0, 1) := dgX2_choose_0.1
theorem dX2_choose_1 : decode cX2_choose 1 = .ok (.invokevirtual 26, 3) := dgX2_choose_0.2.1
theorem dX2_choose_4 : decode cX2_choose 4 = .ok (.iload_n 1, 1) := dgX2_choose_0.2.2.1
theorem dX2_choose_5 : decode cX2_choose 5 = .ok (.if_icmp .ge 5, 3) := dgX2_choose_0.2.2.2.1
theorem dX2_choose_8 : decode cX2_choose 8 = .ok (.iconst (-1), 1) := dgX2_choose_0.2.2.2.2.1
theorem dX2_choose_9 : decode cX2_choose 9 = .ok (.ireturn, 1) := dgX2_choose_0.2.2.2.2.2.1
theorem dX2_choose_10 : decode cX2_choose 10 = .ok (.iload_n 1, 1) := dgX2_choose_0.2.2.2.2.2.2.1
theorem dX2_choose_11 : decode cX2_choose 11 = .ok (.iload_n 2, 1) := dgX2_choose_0.2.2.2.2.2.2.2.1
theorem dX2_choose_12 : decode cX2_choose 12 = .ok (.iadd, 1) := dgX2_choose_0.2.2.2.2.2.2.2.2.1
theorem dX2_choose_13 : decode cX2_choose 13 = .ok (.sipush 8511, 3) := dgX2_choose_0.2.2.2.2.2.2.2.2.2.1
theorem dX2_choose_16 : decode cX2_choose 16 = .ok (.invokestatic 30, 3) := dgX2_choose_0.2.2.2.2.2.2.2.2.2.2.1
theorem dX2_choose_19 : decode cX2_choose 19 = .ok (.istore_n 3, 1) := dgX2_choose_0.2.2.2.2.2.2.2.2.2.2.2.1
theorem dX2_choose_20 : decode cX2_choose 20 = .ok (.aload_n 0, 1) := dgX2_choose_0.2.2.2.2.2.2.2.2.2.2.2.2.1
theorem dX2_choose_21 : decode cX2_choose 21 = .ok (.iload_n 3, 1) := dgX2_choose_0.2.2.2.2.2.2.2.2.2.2.2.2.2.1
theorem dX2_choose_22 : decode cX2_choose 22 = .ok (.invokevirtual 36, 3) := dgX2_choose_0.2.2.2.2.2.2.2.2.2.2.2.2.2.2.1
theorem dX2_choose_25 : decode cX2_choose 25 = .ok (.iload_n 1, 1) := dgX2_choose_0.2.2.2.2.2.2.2.2.2.2.2.2.2.2.2
theorem dgX2_choose_16 : (decode cX2_choose 26 = .ok (.iconst 0, 1)) ∧ (decode cX2_choose 27 = .ok (.invokestatic 40, 3)) ∧ (decode cX2_choose 30 = .ok (.istore 4, 2)) ∧ (decode cX2_choose 32 = .ok (.iload 4, 2)) ∧ (decode cX2_choose 34 = .ok (.iload_n 3, 1)) ∧ (decode cX2_choose 35 = .ok (.if_icmp .gt 28, 3)) ∧ (decode cX2_choose 38 = .ok (.aload_n 0, 1)) ∧ (decode cX2_choose 39 = .ok (.iconst 0, 1)) ∧ (decode cX2_choose 40 = .ok (.iload 4, 2)) ∧ (decode cX2_choose 42 = .ok (.invokevirtual 43, 3)) ∧ (decode cX2_choose 45 = .ok (.ifCond .eq 12, 3)) ∧ (decode cX2_choose 48 = .ok (.aload_n 0, 1)) ∧ (decode cX2_choose 49 = .ok (.iload 4, 2)) ∧ (decode cX2_choose 51 = .ok (.invokevirtual 47, 3)) ∧ (decode cX2_choose 54 = .ok (.iload 4, 2)) ∧ (decode cX2_choose 56 = .ok (.ireturn, 1)) := by decide +kernel
theorem dX2_choose_26 : decode cX2_choose 26 = .ok (.iconst 0, 1) := dgX2_choose_16.1
theorem dX2_choose_27 : decode cX2_choose 27 = .ok (.invokestatic 40, 3) := dgX2_choose_16.2.1
theorem dX2_choose_30 : decode cX2_choose 30 = .ok (.istore 4, 2) := dgX2_choose_16.2.2.1
theorem dX2_choose_32 : decode cX2_choose 32 = .ok (.iload 4, 2) := dgX2_choose_16.2.2.2.1
theorem dX2_choose_34 : decode cX2_choose 34 = .ok (.iload_n 3, 1) := dgX2_choose_16.2.2.2.2.1
theorem dX2_choose_35 : decode cX2_choose 35 = .ok (.if_icmp .gt 28, 3) := dgX2_choose_16.2.2.2.2.2.1
theorem dX2_choose_38 : decode cX2_choose 38 = .ok (.aload_n 0, 1) := dgX2_choose_16.2.2.2.2.2.2.1
theorem dX2_choose_39 : decode cX2_choose 39 = .ok (.iconst 0, 1) := dgX2_choose_16.2.2.2.2.2.2.2.1
theorem dX2_choose_40 : decode cX2_choose 40 = .ok (.iload 4, 2) := dgX2_choose_16.2.2.2.2.2.2.2.2.1
theorem dX2_choose_42 : decode cX2_choose 42 = .ok (.invokevirtual 43, 3) := dgX2_choose_16.2.2.2.2.2.2.2.2.2.1
theorem dX2_choose_45 : decode cX2_choose 45 = .ok (.ifCond .eq 12, 3) := dgX2_choose_16.2.2.2.2.2.2.2.2.2.2.1
theorem dX2_choose_48 : decode cX2_choose 48 = .ok (.aload_n 0, 1) := dgX2_choose_16.2.2.2.2.2.2.2.2.2.2.2.1
theorem dX2_choose_49 : decode cX2_choose 49 = .ok (.iload 4, 2) := dgX2_choose_16.2.2.2.2.2.2.2.2.2.2.2.2.1
theorem dX2_choose_51 : decode cX2_choose 51 = .ok (.invokevirtual 47, 3) := dgX2_choose_16.2.2.2.2.2.2.2.2.2.2.2.2.2.1
theorem dX2_choose_54 : decode cX2_choose 54 = .ok (.iload 4, 2) := dgX2_choose_16.2.2.2.2.2.2.2.2.2.2.2.2.2.2.1
theorem dX2_choose_56 : decode cX2_choose 56 = .ok (.ireturn, 1) := dgX2_choose_16.2.2.2.2.2.2.2.2.2.2.2.2.2.2.2
theorem dgX2_choose_32 : (decode cX2_choose 57 = .ok (.iinc 4 1, 3)) ∧ (decode cX2_choose 60 = .ok (.goto (-28), 3)) ∧ (decode cX2_choose 63 = .ok (.iconst (-1), 1)) ∧ (decode cX2_choose 64 = .ok (.ireturn, 1)) := by decide +kernel
theorem dX2_choose_57 : decode cX2_choose 57 = .ok (.iinc 4 1, 3) := dgX2_choose_32.1
theorem dX2_choose_60 : decode cX2_choose 60 = .ok (.goto (-28), 3) := dgX2_choose_32.2.1
theorem dX2_choose_63 : decode cX2_choose 63 = .ok (.iconst (-1), 1) := dgX2_choose_32.2.2.1
theorem dX2_choose_64 : decode cX2_choose 64 = .ok (.ireturn, 1) := dgX2_choose_32.2.2.2
theorem dgX2_countChosen_0 : (decode cX2_countChosen 0 = .ok (.iconst 0, 1)) ∧ (decode cX2_countChosen 1 = .ok (.istore_n 1, 1)) ∧ (decode cX2_countChosen 2 = .ok (.iconst 0, 1)) ∧ (decode cX2_countChosen 3 = .ok (.istore_n 2, 1)) ∧ (decode cX2_countChosen 4 = .ok (.iload_n 2, 1)) ∧ (decode cX2_countChosen 5 = .ok (.aload_n 0, 1)) ∧ (decode cX2_countChosen 6 = .ok (.getfield 22, 3)) ∧ (decode cX2_countChosen 9 = .ok (.if_icmp .ge 21, 3)) ∧ (decode cX2_countChosen 12 = .ok (.aload_n 0, 1)) ∧ (decode cX2_countChosen 13 = .ok (.getfield 18, 3)) ∧ (decode cX2_countChosen 16 = .ok (.iload_n 2, 1)) ∧ (decode cX2_countChosen 17 = .ok (.baload, 1)) ∧ (decode cX2_countChosen 18 = .ok (.ifCond .eq 6, 3)) ∧ (decode cX2_countChosen 21 = .ok (.iinc 1 1, 3)) ∧ (decode cX2_countChosen 24 = .ok (.iinc 2 1, 3)) ∧ (decode cX2_countChosen 27 = .ok (.goto (-23), 3)) := by decide +kernel
theorem dX2_countChosen_0 : decode cX2_countChosen 0 = .ok (.iconst 0, 1) := dgX2_countChosen_0.1
theorem dX2_countChosen_1 : decode cX2_countChosen 1 = .ok (.istore_n 1, 1) := dgX2_countChosen_0.2.1
theorem dX2_countChosen_2 : decode cX2_countChosen 2 = .ok (.iconst 0, 1) := dgX2_countChosen_0.2.2.1
theorem dX2_countChosen_3 : decode cX2_countChosen 3 = .ok (.istore_n 2, 1) := dgX2_countChosen_0.2.2.2.1
theorem dX2_countChosen_4 : decode cX2_countChosen 4 = .ok (.iload_n 2, 1) := dgX2_countChosen_0.2.2.2.2.1
theorem dX2_countChosen_5 : decode cX2_countChosen 5 = .ok (.aload_n 0, 1) := dgX2_countChosen_0.2.2.2.2.2.1
theorem dX2_countChosen_6 : decode cX2_countChosen 6 = .ok (.getfield 22, 3) := dgX2_countChosen_0.2.2.2.2.2.2.1
theorem dX2_countChosen_9 : decode cX2_countChosen 9 = .ok (.if_icmp .ge 21, 3) := dgX2_countChosen_0.2.2.2.2.2.2.2.1
theorem dX2_countChosen_12 : decode cX2_countChosen 12 = .ok (.aload_n 0, 1) := dgX2_countChosen_0.2.2.2.2.2.2.2.2.1
theorem dX2_countChosen_13 : decode cX2_countChosen 13 = .ok (.getfield 18, 3) := dgX2_countChosen_0.2.2.2.2.2.2.2.2.2.1
theorem dX2_countChosen_16 : decode cX2_countChosen 16 = .ok (.iload_n 2, 1) := dgX2_countChosen_0.2.2.2.2.2.2.2.2.2.2.1
theorem dX2_countChosen_17 : decode cX2_countChosen 17 = .ok (.baload, 1) := dgX2_countChosen_0.2.2.2.2.2.2.2.2.2.2.2.1
theorem dX2_countChosen_18 : decode cX2_countChosen 18 = .ok (.ifCond .eq 6, 3) := dgX2_countChosen_0.2.2.2.2.2.2.2.2.2.2.2.2.1
theorem dX2_countChosen_21 : decode cX2_countChosen 21 = .ok (.iinc 1 1, 3) := dgX2_countChosen_0.2.2.2.2.2.2.2.2.2.2.2.2.2.1
theorem dX2_countChosen_24 : decode cX2_countChosen 24 = .ok (.iinc 2 1, 3) := dgX2_countChosen_0.2.2.2.2.2.2.2.2.2.2.2.2.2.2.1
theorem dX2_countChosen_27 : decode cX2_countChosen 27 = .ok (.goto (-23), 3) := dgX2_countChosen_0.2.2.2.2.2.2.2.2.2.2.2.2.2.2.2
theorem dgX2_countChosen_16 : (decode cX2_countChosen 30 = .ok (.iload_n 1, 1)) ∧ (decode cX2_countChosen 31 = .ok (.ireturn, 1)) := by decide +kernel
theorem dX2_countChosen_30 : decode cX2_countChosen 30 = .ok (.iload_n 1, 1) := dgX2_countChosen_16.1
theorem dX2_countChosen_31 : decode cX2_countChosen 31 = .ok (.ireturn, 1) := dgX2_countChosen_16.2
theorem dgX2_total_0 : (decode cX2_total 0 = .ok (.iconst 0, 1)) ∧ (decode cX2_total 1 = .ok (.istore_n 1, 1)) ∧ (decode cX2_total 2 = .ok (.iconst 0, 1)) ∧ (decode cX2_total 3 = .ok (.istore_n 2, 1)) ∧ (decode cX2_total 4 = .ok (.iload_n 2, 1)) ∧ (decode cX2_total 5 = .ok (.aload_n 0, 1)) ∧ (decode cX2_total 6 = .ok (.getfield 22, 3)) ∧ (decode cX2_total 9 = .ok (.if_icmp .ge 18, 3)) ∧ (decode cX2_total 12 = .ok (.iload_n 1, 1)) ∧ (decode cX2_total 13 = .ok (.aload_n 0, 1)) ∧ (decode cX2_total 14 = .ok (.getfield 15, 3)) ∧ (decode cX2_total 17 = .ok (.iload_n 2, 1)) ∧ (decode cX2_total 18 = .ok (.iaload, 1)) ∧ (decode cX2_total 19 = .ok (.iadd, 1)) ∧ (decode cX2_total 20 = .ok (.istore_n 1, 1)) ∧ (decode cX2_total 21 = .ok (.iinc 2 1, 3)) := by decide +kernel
theorem dX2_total_0 : decode cX2_total 0 = .ok (.iconst 0, 1) := dgX2_total_0.1
theorem dX2_total_1 : decode cX2_total 1 = .ok (.istore_n 1, 1) := dgX2_total_0.2.1
theorem dX2_total_2 : decode cX2_total 2 = .ok (.iconst 0, 1) := dgX2_total_0.2.2.1
theorem dX2_total_3 : decode cX2_total 3 = .ok (.istore_n 2, 1) := dgX2_total_0.2.2.2.1
theorem dX2_total_4 : decode cX2_total 4 = .ok (.iload_n 2, 1) := dgX2_total_0.2.2.2.2.1
theorem dX2_total_5 : decode cX2_total 5 = .ok (.aload_n 0, 1) := dgX2_total_0.2.2.2.2.2.1
theorem dX2_total_6 : decode cX2_total 6 = .ok (.getfield 22, 3) := dgX2_total_0.2.2.2.2.2.2.1
theorem dX2_total_9 : decode cX2_total 9 = .ok (.if_icmp .ge 18, 3) := dgX2_total_0.2.2.2.2.2.2.2.1
theorem dX2_total_12 : decode cX2_total 12 = .ok (.iload_n 1, 1) := dgX2_total_0.2.2.2.2.2.2.2.2.1
theorem dX2_total_13 : decode cX2_total 13 = .ok (.aload_n 0, 1) := dgX2_total_0.2.2.2.2.2.2.2.2.2.1
theorem dX2_total_14 : decode cX2_total 14 = .ok (.getfield 15, 3) := dgX2_total_0.2.2.2.2.2.2.2.2.2.2.1
theorem dX2_total_17 : decode cX2_total 17 = .ok (.iload_n 2, 1) := dgX2_total_0.2.2.2.2.2.2.2.2.2.2.2.1
theorem dX2_total_18 : decode cX2_total 18 = .ok (.iaload, 1) := dgX2_total_0.2.2.2.2.2.2.2.2.2.2.2.2.1
theorem dX2_total_19 : decode cX2_total 19 = .ok (.iadd, 1) := dgX2_total_0.2.2.2.2.2.2.2.2.2.2.2.2.2.1
theorem dX2_total_20 : decode cX2_total 20 = .ok (.istore_n 1, 1) := dgX2_total_0.2.2.2.2.2.2.2.2.2.2.2.2.2.2.1
theorem dX2_total_21 : decode cX2_total 21 = .ok (.iinc 2 1, 3) := dgX2_total_0.2.2.2.2.2.2.2.2.2.2.2.2.2.2.2
theorem dgX2_total_16 : (decode cX2_total 24 = .ok (.goto (-20), 3)) ∧ (decode cX2_total 27 = .ok (.iload_n 1, 1)) ∧ (decode cX2_total 28 = .ok (.ireturn, 1)) := by decide +kernel
theorem dX2_total_24 : decode cX2_total 24 = .ok (.goto (-20), 3) := dgX2_total_16.1
theorem dX2_total_27 : decode cX2_total 27 = .ok (.iload_n 1, 1) := dgX2_total_16.2.1
theorem dX2_total_28 : decode cX2_total 28 = .ok (.ireturn, 1) := dgX2_total_16.2.2
theorem dgX2_sumUp_0 : (decode cX2_sumUp 0 = .ok (.aload_n 0, 1)) ∧ (decode cX2_sumUp 1 = .ok (.getfield 50, 3)) ∧ (decode cX2_sumUp 4 = .ok (.ifnonnull 12, 3)) ∧ (decode cX2_sumUp 7 = .ok (.aload_n 0, 1)) ∧ (decode cX2_sumUp 8 = .ok (.sipush 5453, 3)) ∧ (decode cX2_sumUp 11 = .ok (.newarray .long, 2)) ∧ (decode cX2_sumUp 13 = .ok (.putfield 50, 3)) ∧ (decode cX2_sumUp 16 = .ok (.aload_n 0, 1)) ∧ (decode cX2_sumUp 17 = .ok (.iload_n 1, 1)) ∧ (decode cX2_sumUp 18 = .ok (.bipush 64, 2)) ∧ (decode cX2_sumUp 20 = .ok (.idiv, 1)) ∧ (decode cX2_sumUp 21 = .ok (.iconst 1, 1)) ∧ (decode cX2_sumUp 22 = .ok (.iadd, 1)) ∧ (decode cX2_sumUp 23 = .ok (.putfield 54, 3)) ∧ (decode cX2_sumUp 26 = .ok (.aload_n 0, 1)) ∧ (decode cX2_sumUp 27 = .ok (.getfield 22, 3)) := by decide +kernel
theorem dX2_sumUp_0 : decode cX2_sumUp 0 = .ok (.aload_n 0, 1) := dgX2_sumUp_0.1
theorem dX2_sumUp_1 : decode cX2_sumUp 1 = .ok (.getfield 50, 3) := dgX2_sumUp_0.2.1
theorem dX2_sumUp_4 : decode cX2_sumUp 4 = .ok (.ifnonnull 12, 3) := dgX2_sumUp_0.2.2.1
theorem dX2_sumUp_7 : decode cX2_sumUp 7 = .ok (.aload_n 0, 1) := dgX2_sumUp_0.2.2.2.1
theorem dX2_sumUp_8 : decode cX2_sumUp 8 = .ok (.sipush 5453, 3) := dgX2_sumUp_0.2.2.2.2.1
theorem dX2_sumUp_11 : decode cX2_sumUp 11 = .ok (.newarray .long, 2) := dgX2_sumUp_0.2.2.2.2.2.1
theorem dX2_sumUp_13 : decode cX2_sumUp 13 = .ok (.putfield 50, 3) := dgX2_sumUp_0.2.2.2.2.2.2.1
theorem dX2_sumUp_16 : decode cX2_sumUp 16 = .ok (.aload_n 0, 1) := dgX2_sumUp_0.2.2.2.2.2.2.2.1
theorem dX2_sumUp_17 : decode cX2_sumUp 17 = .ok (.iload_n 1, 1) := dgX2_sumUp_0.2.2.2.2.2.2.2.2.1
theorem dX2_sumUp_18 : decode cX2_sumUp 18 = .ok (.bipush 64, 2) := dgX2_sumUp_0.2.2.2.2.2.2.2.2.2.1
theorem dX2_sumUp_20 : decode cX2_sumUp 20 = .ok (.idiv, 1) := dgX2_sumUp_0.2.2.2.2.2.2.2.2.2.2.1
theorem dX2_sumUp_21 : decode cX2_sumUp 21 = .ok (.iconst 1, 1) := dgX2_sumUp_0.2.2.2.2.2.2.2.2.2.2.2.1
theorem dX2_sumUp_22 : decode cX2_sumUp 22 = .ok (.iadd, 1) := dgX2_sumUp_0.2.2.2.2.2.2.2.2.2.2.2.2.1
theorem dX2_sumUp_23 : decode cX2_sumUp 23 = .ok (.putfield 54, 3) := dgX2_sumUp_0.2.2.2.2.2.2.2.2.2.2.2.2.2.1
theorem dX2_sumUp_26 : decode cX2_sumUp 26 = .ok (.aload_n 0, 1) := dgX2_sumUp_0.2.2.2.2.2.2.2.2.2.2.2.2.2.2.1
theorem dX2_sumUp_27 : decode cX2_sumUp 27 = .ok (.getfield 22, 3) := dgX2_sumUp_0.2.2.2.2.2.2.2.2.2.2.2.2.2.2.2
theorem dgX2_sumUp_16 : (decode cX2_sumUp 30 = .ok (.aload_n 0, 1)) ∧ (decode cX2_sumUp 31 = .ok (.getfield 54, 3)) ∧ (decode cX2_sumUp 34 = .ok (.imul, 1)) ∧ (decode cX2_sumUp 35 = .ok (.istore_n 2, 1)) ∧ (decode cX2_sumUp 36 = .ok (.iconst 1, 1)) ∧ (decode cX2_sumUp 37 = .ok (.istore_n 3, 1)) ∧ (decode cX2_sumUp 38 = .ok (.iload_n 3, 1)) ∧ (decode cX2_sumUp 39 = .ok (.aload_n 0, 1)) ∧ (decode cX2_sumUp 40 = .ok (.getfield 54, 3)) ∧ (decode cX2_sumUp 43 = .ok (.if_icmp .ge 18, 3)) ∧ (decode cX2_sumUp 46 = .ok (.aload_n 0, 1)) ∧ (decode cX2_sumUp 47 = .ok (.getfield 50, 3)) ∧ (decode cX2_sumUp 50 = .ok (.iload_n 2, 1)) ∧ (decode cX2_sumUp 51 = .ok (.iload_n 3, 1)) ∧ (decode cX2_sumUp 52 = .ok (.iadd, 1)) ∧ (decode cX2_sumUp 53 = .ok (.lconst 0, 1)) := by decide +kernel
theorem dX2_sumUp_30 : decode cX2_sumUp 30 = .ok (.aload_n 0, 1) := dgX2_sumUp_16.1
theorem dX2_sumUp_31 : decode cX2_sumUp 31 = .ok (.getfield 54, 3) := dgX2_sumUp_16.2.1
theorem dX2_sumUp_34 : decode cX2_sumUp 34 = .ok (.imul, 1) := dgX2_sumUp_16.2.2.1
theorem dX2_sumUp_35 : decode cX2_sumUp 35 = .ok (.istore_n 2, 1) := dgX2_sumUp_16.2.2.2.1
theorem dX2_sumUp_36 : decode cX2_sumUp 36 = .ok (.iconst 1, 1) := dgX2_sumUp_16.2.2.2.2.1
theorem dX2_sumUp_37 : decode cX2_sumUp 37 = .ok (.istore_n 3, 1) := dgX2_sumUp_16.2.2.2.2.2.1
theorem dX2_sumUp_38 : decode cX2_sumUp 38 = .ok (.iload_n 3, 1) := dgX2_sumUp_16.2.2.2.2.2.2.1
theorem dX2_sumUp_39 : decode cX2_sumUp 39 = .ok (.aload_n 0, 1) := dgX2_sumUp_16.2.2.2.2.2.2.2.1
theorem dX2_sumUp_40 : decode cX2_sumUp 40 = .ok (.getfield 54, 3) := dgX2_sumUp_16.2.2.2.2.2.2.2.2.1
theorem dX2_sumUp_43 : decode cX2_sumUp 43 = .ok (.if_icmp .ge 18, 3) := dgX2_sumUp_16.2.2.2.2.2.2.2.2.2.1
theorem dX2_sumUp_46 : decode cX2_sumUp 46 = .ok (.aload_n 0, 1) := dgX2_sumUp_16.2.2.2.2.2.2.2.2.2.2.1
theorem dX2_sumUp_47 : decode cX2_sumUp 47 = .ok (.getfield 50, 3) := dgX2_sumUp_16.2.2.2.2.2.2.2.2.2.2.2.1
theorem dX2_sumUp_50 : decode cX2_sumUp 50 = .ok (.iload_n 2, 1) := dgX2_sumUp_16.2.2.2.2.2.2.2.2.2.2.2.2.1
theorem dX2_sumUp_51 : decode cX2_sumUp 51 = .ok (.iload_n 3, 1) := dgX2_sumUp_16.2.2.2.2.2.2.2.2.2.2.2.2.2.1
theorem dX2_sumUp_52 : decode cX2_sumUp 52 = .ok (.iadd, 1) := dgX2_sumUp_16.2.2.2.2.2.2.2.2.2.2.2.2.2.2.1
theorem dX2_sumUp_53 : decode cX2_sumUp 53 = .ok (.lconst 0, 1) := dgX2_sumUp_16.2.2.2.2.2.2.2.2.2.2.2.2.2.2.2
theorem dgX2_sumUp_32 : (decode cX2_sumUp 54 = .ok (.lastore, 1)) ∧ (decode cX2_sumUp 55 = .ok (.iinc 3 1, 3)) ∧ (decode cX2_sumUp 58 = .ok (.goto (-20), 3)) ∧ (decode cX2_sumUp 61 = .ok (.aload_n 0, 1)) ∧ (decode cX2_sumUp 62 = .ok (.getfield 50, 3)) ∧ (decode cX2_sumUp 65 = .ok (.iload_n 2, 1)) ∧ (decode cX2_sumUp 66 = .ok (.lconst 1, 1)) ∧ (decode cX2_sumUp 67 = .ok (.lastore, 1)) ∧ (decode cX2_sumUp 68 = .ok (.aload_n 0, 1)) ∧ (decode cX2_sumUp 69 = .ok (.getfield 22, 3)) ∧ (decode cX2_sumUp 72 = .ok (.iconst 1, 1)) ∧ (decode cX2_sumUp 73 = .ok (.isub, 1)) ∧ (decode cX2_sumUp 74 = .ok (.istore_n 3, 1)) ∧ (decode cX2_sumUp 75 = .ok (.iload_n 3, 1)) ∧ (decode cX2_sumUp 76 = .ok (.ifCond .lt 25, 3)) ∧ (decode cX2_sumUp 79 = .ok (.aload_n 0, 1)) := by decide +kernel
theorem dX2_sumUp_54 : decode cX2_sumUp 54 = .ok (.lastore, 1) := dgX2_sumUp_32.1
theorem dX2_sumUp_55 : decode cX2_sumUp 55 = .ok (.iinc 3 1, 3) := dgX2_sumUp_32.2.1
theorem dX2_sumUp_58 : decode cX2_sumUp 58 = .ok (.goto (-20), 3) := dgX2_sumUp_32.2.2.1
theorem dX2_sumUp_61 : decode cX2_sumUp 61 = .ok (.aload_n 0, 1) := dgX2_sumUp_32.2.2.2.1
theorem dX2_sumUp_62 : decode cX2_sumUp 62 = .ok (.getfield 50, 3) := dgX2_sumUp_32.2.2.2.2.1
theorem dX2_sumUp_65 : decode cX2_sumUp 65 = .ok (.iload_n 2, 1) := dgX2_sumUp_32.2.2.2.2.2.1
theorem dX2_sumUp_66 : decode cX2_sumUp 66 = .ok (.lconst 1, 1) := dgX2_sumUp_32.2.2.2.2.2.2.1
theorem dX2_sumUp_67 : decode cX2_sumUp 67 = .ok (.lastore, 1) := dgX2_sumUp_32.2.2.2.2.2.2.2.1
theorem dX2_sumUp_68 : decode cX2_sumUp 68 = .ok (.aload_n 0, 1) := dgX2_sumUp_32.2.2.2.2.2.2.2.2.1
theorem dX2_sumUp_69 : decode cX2_sumUp 69 = .ok (.getfield 22, 3) := dgX2_sumUp_32.2.2.2.2.2.2.2.2.2.1
theorem dX2_sumUp_72 : decode cX2_sumUp 72 = .ok (.iconst 1, 1) := dgX2_sumUp_32.2.2.2.2.2.2.2.2.2.2.1
theorem dX2_sumUp_73 : decode cX2_sumUp 73 = .ok (.isub, 1) := dgX2_sumUp_32.2.2.2.2.2.2.2.2.2.2.2.1
theorem dX2_sumUp_74 : decode cX2_sumUp 74 = .ok (.istore_n 3, 1) := dgX2_sumUp_32.2.2.2.2.2.2.2.2.2.2.2.2.1
theorem dX2_sumUp_75 : decode cX2_sumUp 75 = .ok (.iload_n 3, 1) := dgX2_sumUp_32.2.2.2.2.2.2.2.2.2.2.2.2.2.1
theorem dX2_sumUp_76 : decode cX2_sumUp 76 = .ok (.ifCond .lt 25, 3) := dgX2_sumUp_32.2.2.2.2.2.2.2.2.2.2.2.2.2.2.1
theorem dX2_sumUp_79 : decode cX2_sumUp 79 = .ok (.aload_n 0, 1) := dgX2_sumUp_32.2.2.2.2.2.2.2.2.2.2.2.2.2.2.2
theorem dgX2_sumUp_48 : (decode cX2_sumUp 80 = .ok (.iload_n 3, 1)) ∧ (decode cX2_sumUp 81 = .ok (.aload_n 0, 1)) ∧ (decode cX2_sumUp 82 = .ok (.getfield 54, 3)) ∧ (decode cX2_sumUp 85 = .ok (.imul, 1)) ∧ (decode cX2_sumUp 86 = .ok (.aload_n 0, 1)) ∧ (decode cX2_sumUp 87 = .ok (.getfield 15, 3)) ∧ (decode cX2_sumUp 90 = .ok (.iload_n 3, 1)) ∧ (decode cX2_sumUp 91 = .ok (.iaload, 1)) ∧ (decode cX2_sumUp 92 = .ok (.invokevirtual 57, 3)) ∧ (decode cX2_sumUp 95 = .ok (.iinc 3 (-1), 3)) ∧ (decode cX2_sumUp 98 = .ok (.goto (-23), 3)) ∧ (decode cX2_sumUp 101 = .ok (.return_, 1)) := by decide +kernel
theorem dX2_sumUp_80 : decode cX2_sumUp 80 = .ok (.iload_n 3, 1) := dgX2_sumUp_48.1
theorem dX2_sumUp_81 : decode cX2_sumUp 81 = .ok (.aload_n 0, 1) := dgX2_sumUp_48.2.1
theorem dX2_sumUp_82 : decode cX2_sumUp 82 = .ok (.getfield 54, 3) := dgX2_sumUp_48.2.2.1
theorem dX2_sumUp_85 : decode cX2_sumUp 85 = .ok (.imul, 1) := dgX2_sumUp_48.2.2.2.1
theorem dX2_sumUp_86 : decode cX2_sumUp 86 = .ok (.aload_n 0, 1) := dgX2_sumUp_48.2.2.2.2.1
theorem dX2_sumUp_87 : decode cX2_sumUp 87 = .ok (.getfield 15, 3) := dgX2_sumUp_48.2.2.2.2.2.1
theorem dX2_sumUp_90 : decode cX2_sumUp 90 = .ok (.iload_n 3, 1) := dgX2_sumUp_48.2.2.2.2.2.2.1
theorem dX2_sumUp_91 : decode cX2_sumUp 91 = .ok (.iaload, 1) := dgX2_sumUp_48.2.2.2.2.2.2.2.1
theorem dX2_sumUp_92 : decode cX2_sumUp 92 = .ok (.invokevirtual 57, 3) := dgX2_sumUp_48.2.2.2.2.2.2.2.2.1
theorem dX2_sumUp_95 : decode cX2_sumUp 95 = .ok (.iinc 3 (-1), 3) := dgX2_sumUp_48.2.2.2.2.2.2.2.2.2.1
theorem dX2_sumUp_98 : decode cX2_sumUp 98 = .ok (.goto (-23), 3) := dgX2_sumUp_48.2.2.2.2.2.2.2.2.2.2.1
theorem dX2_sumUp_101 : decode cX2_sumUp 101 = .ok (.return_, 1) := dgX2_sumUp_48.2.2.2.2.2.2.2.2.2.2.2
theorem dgX2_addPiece_0 : (decode cX2_addPiece 0 = .ok (.iload_n 1, 1)) ∧ (decode cX2_addPiece 1 = .ok (.aload_n 0, 1)) ∧ (decode cX2_addPiece 2 = .ok (.getfield 54, 3)) ∧ (decode cX2_addPiece 5 = .ok (.iadd, 1)) ∧ (decode cX2_addPiece 6 = .ok (.istore_n 3, 1)) ∧ (decode cX2_addPiece 7 = .ok (.iload_n 2, 1)) ∧ (decode cX2_addPiece 8 = .ok (.bipush 64, 2)) ∧ (decode cX2_addPiece 10 = .ok (.idiv, 1)) ∧ (decode cX2_addPiece 11 = .ok (.istore 4, 2)) ∧ (decode cX2_addPiece 13 = .ok (.iload_n 2, 1)) ∧ (decode cX2_addPiece 14 = .ok (.bipush 64, 2)) ∧ (decode cX2_addPiece 16 = .ok (.irem, 1)) ∧ (decode cX2_addPiece 17 = .ok (.istore 5, 2)) ∧ (decode cX2_addPiece 19 = .ok (.iload 4, 2)) ∧ (decode cX2_addPiece 21 = .ok (.aload_n 0, 1)) ∧ (decode cX2_addPiece 22 = .ok (.getfield 54, 3)) := by decide +kernel
theorem dX2_addPiece_0 : decode cX2_addPiece 0 = .ok (.iload_n 1, 1) := dgX2_addPiece_0.1
theorem dX2_addPiece_1 : decode cX2_addPiece 1 = .ok (.aload_n 0, 1) := dgX2_addPiece_0.2.1
theorem dX2_addPiece_2 : decode cX2_addPiece 2 = .ok (.getfield 54, 3) := dgX2_addPiece_0.2.2.1
theorem dX2_addPiece_5 : decode cX2_addPiece 5 = .ok (.iadd, 1) := dgX2_addPiece_0.2.2.2.1
theorem dX2_addPiece_6 : decode cX2_addPiece 6 = .ok (.istore_n 3, 1) := dgX2_addPiece_0.2.2.2.2.1
theorem dX2_addPiece_7 : decode cX2_addPiece 7 = .ok (.iload_n 2, 1) := dgX2_addPiece_0.2.2.2.2.2.1
theorem dX2_addPiece_8 : decode cX2_addPiece 8 = .ok (.bipush 64, 2) := dgX2_addPiece_0.2.2.2.2.2.2.1
theorem dX2_addPiece_10 : decode cX2_addPiece 10 = .ok (.idiv, 1) := dgX2_addPiece_0.2.2.2.2.2.2.2.1
theorem dX2_addPiece_11 : decode cX2_addPiece 11 = .ok (.istore 4, 2) := dgX2_addPiece_0.2.2.2.2.2.2.2.2.1
theorem dX2_addPiece_13 : decode cX2_addPiece 13 = .ok (.iload_n 2, 1) := dgX2_addPiece_0.2.2.2.2.2.2.2.2.2.1
theorem dX2_addPiece_14 : decode cX2_addPiece 14 = .ok (.bipush 64, 2) := dgX2_addPiece_0.2.2.2.2.2.2.2.2.2.2.1
theorem dX2_addPiece_16 : decode cX2_addPiece 16 = .ok (.irem, 1) := dgX2_addPiece_0.2.2.2.2.2.2.2.2.2.2.2.1
theorem dX2_addPiece_17 : decode cX2_addPiece 17 = .ok (.istore 5, 2) := dgX2_addPiece_0.2.2.2.2.2.2.2.2.2.2.2.2.1
theorem dX2_addPiece_19 : decode cX2_addPiece 19 = .ok (.iload 4, 2) := dgX2_addPiece_0.2.2.2.2.2.2.2.2.2.2.2.2.2.1
theorem dX2_addPiece_21 : decode cX2_addPiece 21 = .ok (.aload_n 0, 1) := dgX2_addPiece_0.2.2.2.2.2.2.2.2.2.2.2.2.2.2.1
theorem dX2_addPiece_22 : decode cX2_addPiece 22 = .ok (.getfield 54, 3) := dgX2_addPiece_0.2.2.2.2.2.2.2.2.2.2.2.2.2.2.2
theorem dgX2_addPiece_16 : (decode cX2_addPiece 25 = .ok (.invokestatic 30, 3)) ∧ (decode cX2_addPiece 28 = .ok (.istore 6, 2)) ∧ (decode cX2_addPiece 30 = .ok (.aload_n 0, 1)) ∧ (decode cX2_addPiece 31 = .ok (.getfield 50, 3)) ∧ (decode cX2_addPiece 34 = .ok (.iload_n 3, 1)) ∧ (decode cX2_addPiece 35 = .ok (.aload_n 0, 1)) ∧ (decode cX2_addPiece 36 = .ok (.getfield 50, 3)) ∧ (decode cX2_addPiece 39 = .ok (.iload_n 1, 1)) ∧ (decode cX2_addPiece 40 = .ok (.iload 6, 2)) ∧ (decode cX2_addPiece 42 = .ok (.invokestatic 61, 3)) ∧ (decode cX2_addPiece 45 = .ok (.iload 6, 2)) ∧ (decode cX2_addPiece 47 = .ok (.istore 7, 2)) ∧ (decode cX2_addPiece 49 = .ok (.iload 7, 2)) ∧ (decode cX2_addPiece 51 = .ok (.aload_n 0, 1)) ∧ (decode cX2_addPiece 52 = .ok (.getfield 54, 3)) ∧ (decode cX2_addPiece 55 = .ok (.if_icmp .ge 83, 3)) := by decide +kernel
theorem dX2_addPiece_25 : decode cX2_addPiece 25 = .ok (.invokestatic 30, 3) := dgX2_addPiece_16.1
theorem dX2_addPiece_28 : decode cX2_addPiece 28 = .ok (.istore 6, 2) := dgX2_addPiece_16.2.1
theorem dX2_addPiece_30 : decode cX2_addPiece 30 = .ok (.aload_n 0, 1) := dgX2_addPiece_16.2.2.1
theorem dX2_addPiece_31 : decode cX2_addPiece 31 = .ok (.getfield 50, 3) := dgX2_addPiece_16.2.2.2.1
theorem dX2_addPiece_34 : decode cX2_addPiece 34 = .ok (.iload_n 3, 1) := dgX2_addPiece_16.2.2.2.2.1
theorem dX2_addPiece_35 : decode cX2_addPiece 35 = .ok (.aload_n 0, 1) := dgX2_addPiece_16.2.2.2.2.2.1
theorem dX2_addPiece_36 : decode cX2_addPiece 36 = .ok (.getfield 50, 3) := dgX2_addPiece_16.2.2.2.2.2.2.1
theorem dX2_addPiece_39 : decode cX2_addPiece 39 = .ok (.iload_n 1, 1) := dgX2_addPiece_16.2.2.2.2.2.2.2.1
theorem dX2_addPiece_40 : decode cX2_addPiece 40 = .ok (.iload 6, 2) := dgX2_addPiece_16.2.2.2.2.2.2.2.2.1
theorem dX2_addPiece_42 : decode cX2_addPiece 42 = .ok (.invokestatic 61, 3) := dgX2_addPiece_16.2.2.2.2.2.2.2.2.2.1
theorem dX2_addPiece_45 : decode cX2_addPiece 45 = .ok (.iload 6, 2) := dgX2_addPiece_16.2.2.2.2.2.2.2.2.2.2.1
theorem dX2_addPiece_47 : decode cX2_addPiece 47 = .ok (.istore 7, 2) := dgX2_addPiece_16.2.2.2.2.2.2.2.2.2.2.2.1
theorem dX2_addPiece_49 : decode cX2_addPiece 49 = .ok (.iload 7, 2) := dgX2_addPiece_16.2.2.2.2.2.2.2.2.2.2.2.2.1
theorem dX2_addPiece_51 : decode cX2_addPiece 51 = .ok (.aload_n 0, 1) := dgX2_addPiece_16.2.2.2.2.2.2.2.2.2.2.2.2.2.1
theorem dX2_addPiece_52 : decode cX2_addPiece 52 = .ok (.getfield 54, 3) := dgX2_addPiece_16.2.2.2.2.2.2.2.2.2.2.2.2.2.2.1
theorem dX2_addPiece_55 : decode cX2_addPiece 55 = .ok (.if_icmp .ge 83, 3) := dgX2_addPiece_16.2.2.2.2.2.2.2.2.2.2.2.2.2.2.2
theorem dgX2_addPiece_32 : (decode cX2_addPiece 58 = .ok (.iload_n 3, 1)) ∧ (decode cX2_addPiece 59 = .ok (.iload 7, 2)) ∧ (decode cX2_addPiece 61 = .ok (.iadd, 1)) ∧ (decode cX2_addPiece 62 = .ok (.iload 4, 2)) ∧ (decode cX2_addPiece 64 = .ok (.isub, 1)) ∧ (decode cX2_addPiece 65 = .ok (.istore 8, 2)) ∧ (decode cX2_addPiece 67 = .ok (.aload_n 0, 1)) ∧ (decode cX2_addPiece 68 = .ok (.getfield 50, 3)) ∧ (decode cX2_addPiece 71 = .ok (.iload 8, 2)) ∧ (decode cX2_addPiece 73 = .ok (.laload, 1)) ∧ (decode cX2_addPiece 74 = .ok (.iload 5, 2)) ∧ (decode cX2_addPiece 76 = .ok (.lshl, 1)) ∧ (decode cX2_addPiece 77 = .ok (.lstore 9, 2)) ∧ (decode cX2_addPiece 79 = .ok (.iload 5, 2)) ∧ (decode cX2_addPiece 81 = .ok (.ifCond .le 30, 3)) ∧ (decode cX2_addPiece 84 = .ok (.iload 7, 2)) := by decide +kernel
theorem dX2_addPiece_58 : decode cX2_addPiece 58 = .ok (.iload_n 3, 1) := dgX2_addPiece_32.1
theorem dX2_addPiece_59 : decode cX2_addPiece 59 = .ok (.iload 7, 2) := dgX2_addPiece_32.2.1
theorem dX2_addPiece_61 : decode cX2_addPiece 61 = .ok (.iadd, 1) := dgX2_addPiece_32.2.2.1
theorem dX2_addPiece_62 : decode cX2_addPiece 62 = .ok (.iload 4, 2) := dgX2_addPiece_32.2.2.2.1
theorem dX2_addPiece_64 : decode cX2_addPiece 64 = .ok (.isub, 1) := dgX2_addPiece_32.2.2.2.2.1
theorem dX2_addPiece_65 : decode cX2_addPiece 65 = .ok (.istore 8, 2) := dgX2_addPiece_32.2.2.2.2.2.1
theorem dX2_addPiece_67 : decode cX2_addPiece 67 = .ok (.aload_n 0, 1) := dgX2_addPiece_32.2.2.2.2.2.2.1
theorem dX2_addPiece_68 : decode cX2_addPiece 68 = .ok (.getfield 50, 3) := dgX2_addPiece_32.2.2.2.2.2.2.2.1
theorem dX2_addPiece_71 : decode cX2_addPiece 71 = .ok (.iload 8, 2) := dgX2_addPiece_32.2.2.2.2.2.2.2.2.1
theorem dX2_addPiece_73 : decode cX2_addPiece 73 = .ok (.laload, 1) := dgX2_addPiece_32.2.2.2.2.2.2.2.2.2.1
theorem dX2_addPiece_74 : decode cX2_addPiece 74 = .ok (.iload 5, 2) := dgX2_addPiece_32.2.2.2.2.2.2.2.2.2.2.1
theorem dX2_addPiece_76 : decode cX2_addPiece 76 = .ok (.lshl, 1) := dgX2_addPiece_32.2.2.2.2.2.2.2.2.2.2.2.1
theorem dX2_addPiece_77 : decode cX2_addPiece 77 = .ok (.lstore 9, 2) := dgX2_addPiece_32.2.2.2.2.2.2.2.2.2.2.2.2.1
theorem dX2_addPiece_79 : decode cX2_addPiece 79 = .ok (.iload 5, 2) := dgX2_addPiece_32.2.2.2.2.2.2.2.2.2.2.2.2.2.1
theorem dX2_addPiece_81 : decode cX2_addPiece 81 = .ok (.ifCond .le 30, 3) := dgX2_addPiece_32.2.2.2.2.2.2.2.2.2.2.2.2.2.2.1
theorem dX2_addPiece_84 : decode cX2_addPiece 84 = .ok (.iload 7, 2) := dgX2_addPiece_32.2.2.2.2.2.2.2.2.2.2.2.2.2.2.2
theorem dgX2_addPiece_48 : (decode cX2_addPiece 86 = .ok (.iload 4, 2)) ∧ (decode cX2_addPiece 88 = .ok (.if_icmp .le 23, 3)) ∧ (decode cX2_addPiece 91 = .ok (.lload 9, 2)) ∧ (decode cX2_addPiece 93 = .ok (.aload_n 0, 1)) ∧ (decode cX2_addPiece 94 = .ok (.getfield 50, 3)) ∧ (decode cX2_addPiece 97 = .ok (.iload 8, 2)) ∧ (decode cX2_addPiece 99 = .ok (.iconst 1, 1)) ∧ (decode cX2_addPiece 100 = .ok (.isub, 1)) ∧ (decode cX2_addPiece 101 = .ok (.laload, 1)) ∧ (decode cX2_addPiece 102 = .ok (.bipush 64, 2)) ∧ (decode cX2_addPiece 104 = .ok (.iload 5, 2)) ∧ (decode cX2_addPiece 106 = .ok (.isub, 1)) ∧ (decode cX2_addPiece 107 = .ok (.lushr, 1)) ∧ (decode cX2_addPiece 108 = .ok (.lor, 1)) ∧ (decode cX2_addPiece 109 = .ok (.lstore 9, 2)) ∧ (decode cX2_addPiece 111 = .ok (.aload_n 0, 1)) := by decide +kernel
theorem dX2_addPiece_86 : decode cX2_addPiece 86 = .ok (.iload 4, 2) := dgX2_addPiece_48.1
theorem dX2_addPiece_88 : decode cX2_addPiece 88 = .ok (.if_icmp .le 23, 3) := dgX2_addPiece_48.2.1
theorem dX2_addPiece_91 : decode cX2_addPiece 91 = .ok (.lload 9, 2) := dgX2_addPiece_48.2.2.1
theorem dX2_addPiece_93 : decode cX2_addPiece 93 = .ok (.aload_n 0, 1) := dgX2_addPiece_48.2.2.2.1
theorem dX2_addPiece_94 : decode cX2_addPiece 94 = .ok (.getfield 50, 3) := dgX2_addPiece_48.2.2.2.2.1
theorem dX2_addPiece_97 : decode cX2_addPiece 97 = .ok (.iload 8, 2) := dgX2_addPiece_48.2.2.2.2.2.1
theorem dX2_addPiece_99 : decode cX2_addPiece 99 = .ok (.iconst 1, 1) := dgX2_addPiece_48.2.2.2.2.2.2.1
theorem dX2_addPiece_100 : decode cX2_addPiece 100 = .ok (.isub, 1) := dgX2_addPiece_48.2.2.2.2.2.2.2.1
theorem dX2_addPiece_101 : decode cX2_addPiece 101 = .ok (.laload, 1) := dgX2_addPiece_48.2.2.2.2.2.2.2.2.1
theorem dX2_addPiece_102 : decode cX2_addPiece 102 = .ok (.bipush 64, 2) := dgX2_addPiece_48.2.2.2.2.2.2.2.2.2.1
theorem dX2_addPiece_104 : decode cX2_addPiece 104 = .ok (.iload 5, 2) := dgX2_addPiece_48.2.2.2.2.2.2.2.2.2.2.1
theorem dX2_addPiece_106 : decode cX2_addPiece 106 = .ok (.isub, 1) := dgX2_addPiece_48.2.2.2.2.2.2.2.2.2.2.2.1
theorem dX2_addPiece_107 : decode cX2_addPiece 107 = .ok (.lushr, 1) := dgX2_addPiece_48.2.2.2.2.2.2.2.2.2.2.2.2.1
theorem dX2_addPiece_108 : decode cX2_addPiece 108 = .ok (.lor, 1) := dgX2_addPiece_48.2.2.2.2.2.2.2.2.2.2.2.2.2.1
theorem dX2_addPiece_109 : decode cX2_addPiece 109 = .ok (.lstore 9, 2) := dgX2_addPiece_48.2.2.2.2.2.2.2.2.2.2.2.2.2.2.1
theorem dX2_addPiece_111 : decode cX2_addPiece 111 = .ok (.aload_n 0, 1) := dgX2_addPiece_48.2.2.2.2.2.2.2.2.2.2.2.2.2.2.2
theorem dgX2_addPiece_64 : (decode cX2_addPiece 112 = .ok (.getfield 50, 3)) ∧ (decode cX2_addPiece 115 = .ok (.iload_n 1, 1)) ∧ (decode cX2_addPiece 116 = .ok (.iload 7, 2)) ∧ (decode cX2_addPiece 118 = .ok (.iadd, 1)) ∧ (decode cX2_addPiece 119 = .ok (.aload_n 0, 1)) ∧ (decode cX2_addPiece 120 = .ok (.getfield 50, 3)) ∧ (decode cX2_addPiece 123 = .ok (.iload_n 3, 1)) ∧ (decode cX2_addPiece 124 = .ok (.iload 7, 2)) ∧ (decode cX2_addPiece 126 = .ok (.iadd, 1)) ∧ (decode cX2_addPiece 127 = .ok (.laload, 1)) ∧ (decode cX2_addPiece 128 = .ok (.lload 9, 2)) ∧ (decode cX2_addPiece 130 = .ok (.lor, 1)) ∧ (decode cX2_addPiece 131 = .ok (.lastore, 1)) ∧ (decode cX2_addPiece 132 = .ok (.iinc 7 1, 3)) ∧ (decode cX2_addPiece 135 = .ok (.goto (-86), 3)) ∧ (decode cX2_addPiece 138 = .ok (.return_, 1)) := by decide +kernel
theorem dX2_addPiece_112 : decode cX2_addPiece 112 = .ok (.getfield 50, 3) := dgX2_addPiece_64.1
theorem dX2_addPiece_115 : decode cX2_addPiece 115 = .ok (.iload_n 1, 1) := dgX2_addPiece_64.2.1
theorem dX2_addPiece_116 : decode cX2_addPiece 116 = .ok (.iload 7, 2) := dgX2_addPiece_64.2.2.1
theorem dX2_addPiece_118 : decode cX2_addPiece 118 = .ok (.iadd, 1) := dgX2_addPiece_64.2.2.2.1
theorem dX2_addPiece_119 : decode cX2_addPiece 119 = .ok (.aload_n 0, 1) := dgX2_addPiece_64.2.2.2.2.1
theorem dX2_addPiece_120 : decode cX2_addPiece 120 = .ok (.getfield 50, 3) := dgX2_addPiece_64.2.2.2.2.2.1
theorem dX2_addPiece_123 : decode cX2_addPiece 123 = .ok (.iload_n 3, 1) := dgX2_addPiece_64.2.2.2.2.2.2.1
theorem dX2_addPiece_124 : decode cX2_addPiece 124 = .ok (.iload 7, 2) := dgX2_addPiece_64.2.2.2.2.2.2.2.1
theorem dX2_addPiece_126 : decode cX2_addPiece 126 = .ok (.iadd, 1) := dgX2_addPiece_64.2.2.2.2.2.2.2.2.1
theorem dX2_addPiece_127 : decode cX2_addPiece 127 = .ok (.laload, 1) := dgX2_addPiece_64.2.2.2.2.2.2.2.2.2.1
theorem dX2_addPiece_128 : decode cX2_addPiece 128 = .ok (.lload 9, 2) := dgX2_addPiece_64.2.2.2.2.2.2.2.2.2.2.1
theorem dX2_addPiece_130 : decode cX2_addPiece 130 = .ok (.lor, 1) := dgX2_addPiece_64.2.2.2.2.2.2.2.2.2.2.2.1
theorem dX2_addPiece_131 : decode cX2_addPiece 131 = .ok (.lastore, 1) := dgX2_addPiece_64.2.2.2.2.2.2.2.2.2.2.2.2.1
theorem dX2_addPiece_132 : decode cX2_addPiece 132 = .ok (.iinc 7 1, 3) := dgX2_addPiece_64.2.2.2.2.2.2.2.2.2.2.2.2.2.1
theorem dX2_addPiece_135 : decode cX2_addPiece 135 = .ok (.goto (-86), 3) := dgX2_addPiece_64.2.2.2.2.2.2.2.2.2.2.2.2.2.2.1
theorem dX2_addPiece_138 : decode cX2_addPiece 138 = .ok (.return_, 1) := dgX2_addPiece_64.2.2.2.2.2.2.2.2.2.2.2.2.2.2.2
theorem dgX2_canWeigh_0 : (decode cX2_canWeigh 0 = .ok (.iload_n 2, 1)) ∧ (decode cX2_canWeigh 1 = .ok (.ifCond .lt 35, 3)) ∧ (decode cX2_canWeigh 4 = .ok (.aload_n 0, 1)) ∧ (decode cX2_canWeigh 5 = .ok (.getfield 50, 3)) ∧ (decode cX2_canWeigh 8 = .ok (.iload_n 1, 1)) ∧ (decode cX2_canWeigh 9 = .ok (.aload_n 0, 1)) ∧ (decode cX2_canWeigh 10 = .ok (.getfield 54, 3)) ∧ (decode cX2_canWeigh 13 = .ok (.imul, 1)) ∧ (decode cX2_canWeigh 14 = .ok (.iload_n 2, 1)) ∧ (decode cX2_canWeigh 15 = .ok (.bipush 64, 2)) ∧ (decode cX2_canWeigh 17 = .ok (.idiv, 1)) ∧ (decode cX2_canWeigh 18 = .ok (.iadd, 1)) ∧ (decode cX2_canWeigh 19 = .ok (.laload, 1)) ∧ (decode cX2_canWeigh 20 = .ok (.iload_n 2, 1)) ∧ (decode cX2_canWeigh 21 = .ok (.bipush 64, 2)) ∧ (decode cX2_canWeigh 23 = .ok (.irem, 1)) := by decide +kernel
theorem dX2_canWeigh_0 : decode cX2_canWeigh 0 = .ok (.iload_n 2, 1) := dgX2_canWeigh_0.1
theorem dX2_canWeigh_1 : decode cX2_canWeigh 1 = .ok (.ifCond .lt 35, 3) := dgX2_canWeigh_0.2.1
theorem dX2_canWeigh_4 : decode cX2_canWeigh 4 = .ok (.aload_n 0, 1) := dgX2_canWeigh_0.2.2.1
theorem dX2_canWeigh_5 : decode cX2_canWeigh 5 = .ok (.getfield 50, 3) := dgX2_canWeigh_0.2.2.2.1
theorem dX2_canWeigh_8 : decode cX2_canWeigh 8 = .ok (.iload_n 1, 1) := dgX2_canWeigh_0.2.2.2.2.1
theorem dX2_canWeigh_9 : decode cX2_canWeigh 9 = .ok (.aload_n 0, 1) := dgX2_canWeigh_0.2.2.2.2.2.1
theorem dX2_canWeigh_10 : decode cX2_canWeigh 10 = .ok (.getfield 54, 3) := dgX2_canWeigh_0.2.2.2.2.2.2.1
theorem dX2_canWeigh_13 : decode cX2_canWeigh 13 = .ok (.imul, 1) := dgX2_canWeigh_0.2.2.2.2.2.2.2.1
theorem dX2_canWeigh_14 : decode cX2_canWeigh 14 = .ok (.iload_n 2, 1) := dgX2_canWeigh_0.2.2.2.2.2.2.2.2.1
theorem dX2_canWeigh_15 : decode cX2_canWeigh 15 = .ok (.bipush 64, 2) := dgX2_canWeigh_0.2.2.2.2.2.2.2.2.2.1
theorem dX2_canWeigh_17 : decode cX2_canWeigh 17 = .ok (.idiv, 1) := dgX2_canWeigh_0.2.2.2.2.2.2.2.2.2.2.1
theorem dX2_canWeigh_18 : decode cX2_canWeigh 18 = .ok (.iadd, 1) := dgX2_canWeigh_0.2.2.2.2.2.2.2.2.2.2.2.1
theorem dX2_canWeigh_19 : decode cX2_canWeigh 19 = .ok (.laload, 1) := dgX2_canWeigh_0.2.2.2.2.2.2.2.2.2.2.2.2.1
theorem dX2_canWeigh_20 : decode cX2_canWeigh 20 = .ok (.iload_n 2, 1) := dgX2_canWeigh_0.2.2.2.2.2.2.2.2.2.2.2.2.2.1
theorem dX2_canWeigh_21 : decode cX2_canWeigh 21 = .ok (.bipush 64, 2) := dgX2_canWeigh_0.2.2.2.2.2.2.2.2.2.2.2.2.2.2.1
theorem dX2_canWeigh_23 : decode cX2_canWeigh 23 = .ok (.irem, 1) := dgX2_canWeigh_0.2.2.2.2.2.2.2.2.2.2.2.2.2.2.2
theorem dgX2_canWeigh_16 : (decode cX2_canWeigh 24 = .ok (.lushr, 1)) ∧ (decode cX2_canWeigh 25 = .ok (.lconst 1, 1)) ∧ (decode cX2_canWeigh 26 = .ok (.land, 1)) ∧ (decode cX2_canWeigh 27 = .ok (.lconst 0, 1)) ∧ (decode cX2_canWeigh 28 = .ok (.lcmp, 1)) ∧ (decode cX2_canWeigh 29 = .ok (.ifCond .eq 7, 3)) ∧ (decode cX2_canWeigh 32 = .ok (.iconst 1, 1)) ∧ (decode cX2_canWeigh 33 = .ok (.goto 4, 3)) ∧ (decode cX2_canWeigh 36 = .ok (.iconst 0, 1)) ∧ (decode cX2_canWeigh 37 = .ok (.ireturn, 1)) := by decide +kernel
theorem dX2_canWeigh_24 : decode cX2_canWeigh 24 = .ok (.lushr, 1) := dgX2_canWeigh_16.1
theorem dX2_canWeigh_25 : decode cX2_canWeigh 25 = .ok (.lconst 1, 1) := dgX2_canWeigh_16.2.1
theorem dX2_canWeigh_26 : decode cX2_canWeigh 26 = .ok (.land, 1) := dgX2_canWeigh_16.2.2.1
theorem dX2_canWeigh_27 : decode cX2_canWeigh 27 = .ok (.lconst 0, 1) := dgX2_canWeigh_16.2.2.2.1
theorem dX2_canWeigh_28 : decode cX2_canWeigh 28 = .ok (.lcmp, 1) := dgX2_canWeigh_16.2.2.2.2.1
theorem dX2_canWeigh_29 : decode cX2_canWeigh 29 = .ok (.ifCond .eq 7, 3) := dgX2_canWeigh_16.2.2.2.2.2.1
theorem dX2_canWeigh_32 : decode cX2_canWeigh 32 = .ok (.iconst 1, 1) := dgX2_canWeigh_16.2.2.2.2.2.2.1
theorem dX2_canWeigh_33 : decode cX2_canWeigh 33 = .ok (.goto 4, 3) := dgX2_canWeigh_16.2.2.2.2.2.2.2.1
theorem dX2_canWeigh_36 : decode cX2_canWeigh 36 = .ok (.iconst 0, 1) := dgX2_canWeigh_16.2.2.2.2.2.2.2.2.1
theorem dX2_canWeigh_37 : decode cX2_canWeigh 37 = .ok (.ireturn, 1) := dgX2_canWeigh_16.2.2.2.2.2.2.2.2.2
theorem dgX2_markFirst_0 : (decode cX2_markFirst 0 = .ok (.iload_n 1, 1)) ∧ (decode cX2_markFirst 1 = .ok (.istore_n 2, 1)) ∧ (decode cX2_markFirst 2 = .ok (.iconst 0, 1)) ∧ (decode cX2_markFirst 3 = .ok (.istore_n 3, 1)) ∧ (decode cX2_markFirst 4 = .ok (.iload_n 3, 1)) ∧ (decode cX2_markFirst 5 = .ok (.aload_n 0, 1)) ∧ (decode cX2_markFirst 6 = .ok (.getfield 22, 3)) ∧ (decode cX2_markFirst 9 = .ok (.if_icmp .ge 48, 3)) ∧ (decode cX2_markFirst 12 = .ok (.aload_n 0, 1)) ∧ (decode cX2_markFirst 13 = .ok (.getfield 18, 3)) ∧ (decode cX2_markFirst 16 = .ok (.iload_n 3, 1)) ∧ (decode cX2_markFirst 17 = .ok (.aload_n 0, 1)) ∧ (decode cX2_markFirst 18 = .ok (.iload_n 3, 1)) ∧ (decode cX2_markFirst 19 = .ok (.iconst 1, 1)) ∧ (decode cX2_markFirst 20 = .ok (.iadd, 1)) ∧ (decode cX2_markFirst 21 = .ok (.iload_n 2, 1)) := by decide +kernel
theorem dX2_markFirst_0 : decode cX2_markFirst 0 = .ok (.iload_n 1, 1) := dgX2_markFirst_0.1
theorem dX2_markFirst_1 : decode cX2_markFirst 1 = .ok (.istore_n 2, 1) := dgX2_markFirst_0.2.1
theorem dX2_markFirst_2 : decode cX2_markFirst 2 = .ok (.iconst 0, 1) := dgX2_markFirst_0.2.2.1
theorem dX2_markFirst_3 : decode cX2_markFirst 3 = .ok (.istore_n 3, 1) := dgX2_markFirst_0.2.2.2.1
theorem dX2_markFirst_4 : decode cX2_markFirst 4 = .ok (.iload_n 3, 1) := dgX2_markFirst_0.2.2.2.2.1
theorem dX2_markFirst_5 : decode cX2_markFirst 5 = .ok (.aload_n 0, 1) := dgX2_markFirst_0.2.2.2.2.2.1
theorem dX2_markFirst_6 : decode cX2_markFirst 6 = .ok (.getfield 22, 3) := dgX2_markFirst_0.2.2.2.2.2.2.1
theorem dX2_markFirst_9 : decode cX2_markFirst 9 = .ok (.if_icmp .ge 48, 3) := dgX2_markFirst_0.2.2.2.2.2.2.2.1
theorem dX2_markFirst_12 : decode cX2_markFirst 12 = .ok (.aload_n 0, 1) := dgX2_markFirst_0.2.2.2.2.2.2.2.2.1
theorem dX2_markFirst_13 : decode cX2_markFirst 13 = .ok (.getfield 18, 3) := dgX2_markFirst_0.2.2.2.2.2.2.2.2.2.1
theorem dX2_markFirst_16 : decode cX2_markFirst 16 = .ok (.iload_n 3, 1) := dgX2_markFirst_0.2.2.2.2.2.2.2.2.2.2.1
theorem dX2_markFirst_17 : decode cX2_markFirst 17 = .ok (.aload_n 0, 1) := dgX2_markFirst_0.2.2.2.2.2.2.2.2.2.2.2.1
theorem dX2_markFirst_18 : decode cX2_markFirst 18 = .ok (.iload_n 3, 1) := dgX2_markFirst_0.2.2.2.2.2.2.2.2.2.2.2.2.1
theorem dX2_markFirst_19 : decode cX2_markFirst 19 = .ok (.iconst 1, 1) := dgX2_markFirst_0.2.2.2.2.2.2.2.2.2.2.2.2.2.1
theorem dX2_markFirst_20 : decode cX2_markFirst 20 = .ok (.iadd, 1) := dgX2_markFirst_0.2.2.2.2.2.2.2.2.2.2.2.2.2.2.1
theorem dX2_markFirst_21 : decode cX2_markFirst 21 = .ok (.iload_n 2, 1) := dgX2_markFirst_0.2.2.2.2.2.2.2.2.2.2.2.2.2.2.2
theorem dgX2_markFirst_16 : (decode cX2_markFirst 22 = .ok (.aload_n 0, 1)) ∧ (decode cX2_markFirst 23 = .ok (.getfield 15, 3)) ∧ (decode cX2_markFirst 26 = .ok (.iload_n 3, 1)) ∧ (decode cX2_markFirst 27 = .ok (.iaload, 1)) ∧ (decode cX2_markFirst 28 = .ok (.isub, 1)) ∧ (decode cX2_markFirst 29 = .ok (.invokevirtual 43, 3)) ∧ (decode cX2_markFirst 32 = .ok (.bastore, 1)) ∧ (decode cX2_markFirst 33 = .ok (.aload_n 0, 1)) ∧ (decode cX2_markFirst 34 = .ok (.getfield 18, 3)) ∧ (decode cX2_markFirst 37 = .ok (.iload_n 3, 1)) ∧ (decode cX2_markFirst 38 = .ok (.baload, 1)) ∧ (decode cX2_markFirst 39 = .ok (.ifCond .eq 12, 3)) ∧ (decode cX2_markFirst 42 = .ok (.iload_n 2, 1)) ∧ (decode cX2_markFirst 43 = .ok (.aload_n 0, 1)) ∧ (decode cX2_markFirst 44 = .ok (.getfield 15, 3)) ∧ (decode cX2_markFirst 47 = .ok (.iload_n 3, 1)) := by decide +kernel
theorem dX2_markFirst_22 : decode cX2_markFirst 22 = .ok (.aload_n 0, 1) := dgX2_markFirst_16.1
theorem dX2_markFirst_23 : decode cX2_markFirst 23 = .ok (.getfield 15, 3) := dgX2_markFirst_16.2.1
theorem dX2_markFirst_26 : decode cX2_markFirst 26 = .ok (.iload_n 3, 1) := dgX2_markFirst_16.2.2.1
theorem dX2_markFirst_27 : decode cX2_markFirst 27 = .ok (.iaload, 1) := dgX2_markFirst_16.2.2.2.1
theorem dX2_markFirst_28 : decode cX2_markFirst 28 = .ok (.isub, 1) := dgX2_markFirst_16.2.2.2.2.1
theorem dX2_markFirst_29 : decode cX2_markFirst 29 = .ok (.invokevirtual 43, 3) := dgX2_markFirst_16.2.2.2.2.2.1
theorem dX2_markFirst_32 : decode cX2_markFirst 32 = .ok (.bastore, 1) := dgX2_markFirst_16.2.2.2.2.2.2.1
theorem dX2_markFirst_33 : decode cX2_markFirst 33 = .ok (.aload_n 0, 1) := dgX2_markFirst_16.2.2.2.2.2.2.2.1
theorem dX2_markFirst_34 : decode cX2_markFirst 34 = .ok (.getfield 18, 3) := dgX2_markFirst_16.2.2.2.2.2.2.2.2.1
theorem dX2_markFirst_37 : decode cX2_markFirst 37 = .ok (.iload_n 3, 1) := dgX2_markFirst_16.2.2.2.2.2.2.2.2.2.1
theorem dX2_markFirst_38 : decode cX2_markFirst 38 = .ok (.baload, 1) := dgX2_markFirst_16.2.2.2.2.2.2.2.2.2.2.1
theorem dX2_markFirst_39 : decode cX2_markFirst 39 = .ok (.ifCond .eq 12, 3) := dgX2_markFirst_16.2.2.2.2.2.2.2.2.2.2.2.1
theorem dX2_markFirst_42 : decode cX2_markFirst 42 = .ok (.iload_n 2, 1) := dgX2_markFirst_16.2.2.2.2.2.2.2.2.2.2.2.2.1
theorem dX2_markFirst_43 : decode cX2_markFirst 43 = .ok (.aload_n 0, 1) := dgX2_markFirst_16.2.2.2.2.2.2.2.2.2.2.2.2.2.1
theorem dX2_markFirst_44 : decode cX2_markFirst 44 = .ok (.getfield 15, 3) := dgX2_markFirst_16.2.2.2.2.2.2.2.2.2.2.2.2.2.2.1
theorem dX2_markFirst_47 : decode cX2_markFirst 47 = .ok (.iload_n 3, 1) := dgX2_markFirst_16.2.2.2.2.2.2.2.2.2.2.2.2.2.2.2
theorem dgX2_markFirst_32 : (decode cX2_markFirst 48 = .ok (.iaload, 1)) ∧ (decode cX2_markFirst 49 = .ok (.isub, 1)) ∧ (decode cX2_markFirst 50 = .ok (.istore_n 2, 1)) ∧ (decode cX2_markFirst 51 = .ok (.iinc 3 1, 3)) ∧ (decode cX2_markFirst 54 = .ok (.goto (-50), 3)) ∧ (decode cX2_markFirst 57 = .ok (.return_, 1)) := by decide +kernel
theorem dX2_markFirst_48 : decode cX2_markFirst 48 = .ok (.iaload, 1) := dgX2_markFirst_32.1
theorem dX2_markFirst_49 : decode cX2_markFirst 49 = .ok (.isub, 1) := dgX2_markFirst_32.2.1
theorem dX2_markFirst_50 : decode cX2_markFirst 50 = .ok (.istore_n 2, 1) := dgX2_markFirst_32.2.2.1
theorem dX2_markFirst_51 : decode cX2_markFirst 51 = .ok (.iinc 3 1, 3) := dgX2_markFirst_32.2.2.2.1
theorem dX2_markFirst_54 : decode cX2_markFirst 54 = .ok (.goto (-50), 3) := dgX2_markFirst_32.2.2.2.2.1
theorem dX2_markFirst_57 : decode cX2_markFirst 57 = .ok (.return_, 1) := dgX2_markFirst_32.2.2.2.2.2
theorem dgX3_init_0 : (decode cX3_init 0 = .ok (.aload_n 0, 1)) ∧ (decode cX3_init 1 = .ok (.invokespecial 3, 3)) ∧ (decode cX3_init 4 = .ok (.aload_n 0, 1)) ∧ (decode cX3_init 5 = .ok (.bipush 36, 2)) ∧ (decode cX3_init 7 = .ok (.newarray .int, 2)) ∧ (decode cX3_init 9 = .ok (.putfield 9, 3)) ∧ (decode cX3_init 12 = .ok (.aload_n 0, 1)) ∧ (decode cX3_init 13 = .ok (.bipush 10, 2)) ∧ (decode cX3_init 15 = .ok (.newarray .int, 2)) ∧ (decode cX3_init 17 = .ok (.putfield 15, 3)) ∧ (decode cX3_init 20 = .ok (.aload_n 0, 1)) ∧ (decode cX3_init 21 = .ok (.bipush 10, 2)) ∧ (decode cX3_init 23 = .ok (.newarray .int, 2)) ∧ (decode cX3_init 25 = .ok (.putfield 18, 3)) ∧ (decode cX3_init 28 = .ok (.aload_n 0, 1)) ∧ (decode cX3_init 29 = .ok (.bipush 10, 2)) := by decide +kernel
theorem dX3_init_0 : decode cX3_init 0 = .ok (.aload_n 0, 1) := dgX3_init_0.1
theorem dX3_init_1 : decode cX3_init 1 = .ok (.invokespecial 3, 3) := dgX3_init_0.2.1
theorem dX3_init_4 : decode cX3_init 4 = .ok (.aload_n 0, 1) := dgX3_init_0.2.2.1
theorem dX3_init_5 : decode cX3_init 5 = .ok (.bipush 36, 2) := dgX3_init_0.2.2.2.1
theorem dX3_init_7 : decode cX3_init 7 = .ok (.newarray .int, 2) := dgX3_init_0.2.2.2.2.1
theorem dX3_init_9 : decode cX3_init 9 = .ok (.putfield 9, 3) := dgX3_init_0.2.2.2.2.2.1
theorem dX3_init_12 : decode cX3_init 12 = .ok (.aload_n 0, 1) := dgX3_init_0.2.2.2.2.2.2.1
theorem dX3_init_13 : decode cX3_init 13 = .ok (.bipush 10, 2) := dgX3_init_0.2.2.2.2.2.2.2.1
theorem dX3_init_15 : decode cX3_init 15 = .ok (.newarray .int, 2) := dgX3_init_0.2.2.2.2.2.2.2.2.1
theorem dX3_init_17 : decode cX3_init 17 = .ok (.putfield 15, 3) := dgX3_init_0.2.2.2.2.2.2.2.2.2.1
theorem dX3_init_20 : decode cX3_init 20 = .ok (.aload_n 0, 1) := dgX3_init_0.2.2.2.2.2.2.2.2.2.2.1
theorem dX3_init_21 : decode cX3_init 21 = .ok (.bipush 10, 2) := dgX3_init_0.2.2.2.2.2.2.2.2.2.2.2.1
theorem dX3_init_23 : decode cX3_init 23 = .ok (.newarray .int, 2) := dgX3_init_0.2.2.2.2.2.2.2.2.2.2.2.2.1
theorem dX3_init_25 : decode cX3_init 25 = .ok (.putfield 18, 3) := dgX3_init_0.2.2.2.2.2.2.2.2.2.2.2.2.2.1
theorem dX3_init_28 : decode cX3_init 28 = .ok (.aload_n 0, 1) := dgX3_init_0.2.2.2.2.2.2.2.2.2.2.2.2.2.2.1
theorem dX3_init_29 : decode cX3_init 29 = .ok (.bipush 10, 2) := dgX3_init_0.2.2.2.2.2.2.2.2.2.2.2.2.2.2.2
theorem dgX3_init_16 : (decode cX3_init 31 = .ok (.newarray .int, 2)) ∧ (decode cX3_init 33 = .ok (.putfield 21, 3)) ∧ (decode cX3_init 36 = .ok (.aload_n 0, 1)) ∧ (decode cX3_init 37 = .ok (.bipush 10, 2)) ∧ (decode cX3_init 39 = .ok (.newarray .boolean, 2)) ∧ (decode cX3_init 41 = .ok (.putfield 24, 3)) ∧ (decode cX3_init 44 = .ok (.aload_n 0, 1)) ∧ (decode cX3_init 45 = .ok (.bipush 6, 2)) ∧ (decode cX3_init 47 = .ok (.newarray .int, 2)) ∧ (decode cX3_init 49 = .ok (.putfield 28, 3)) ∧ (decode cX3_init 52 = .ok (.aload_n 0, 1)) ∧ (decode cX3_init 53 = .ok (.bipush 6, 2)) ∧ (decode cX3_init 55 = .ok (.newarray .int, 2)) ∧ (decode cX3_init 57 = .ok (.putfield 31, 3)) ∧ (decode cX3_init 60 = .ok (.aload_n 0, 1)) ∧ (decode cX3_init 61 = .ok (.bipush 6, 2)) := by decide +kernel
theorem dX3_init_31 : decode cX3_init 31 = .ok (.newarray .int, 2) := dgX3_init_16.1
theorem dX3_init_33 : decode cX3_init 33 = .ok (.putfield 21, 3) := dgX3_init_16.2.1
theorem dX3_init_36 : decode cX3_init 36 = .ok (.aload_n 0, 1) := dgX3_init_16.2.2.1
theorem dX3_init_37 : decode cX3_init 37 = .ok (.bipush 10, 2) := dgX3_init_16.2.2.2.1
theorem dX3_init_39 : decode cX3_init 39 = .ok (.newarray .boolean, 2) := dgX3_init_16.2.2.2.2.1
theorem dX3_init_41 : decode cX3_init 41 = .ok (.putfield 24, 3) := dgX3_init_16.2.2.2.2.2.1
theorem dX3_init_44 : decode cX3_init 44 = .ok (.aload_n 0, 1) := dgX3_init_16.2.2.2.2.2.2.1
theorem dX3_init_45 : decode cX3_init 45 = .ok (.bipush 6, 2) := dgX3_init_16.2.2.2.2.2.2.2.1
theorem dX3_init_47 : decode cX3_init 47 = .ok (.newarray .int, 2) := dgX3_init_16.2.2.2.2.2.2.2.2.1
theorem dX3_init_49 : decode cX3_init 49 = .ok (.putfield 28, 3) := dgX3_init_16.2.2.2.2.2.2.2.2.2.1
theorem dX3_init_52 : decode cX3_init 52 = .ok (.aload_n 0, 1) := dgX3_init_16.2.2.2.2.2.2.2.2.2.2.1
theorem dX3_init_53 : decode cX3_init 53 = .ok (.bipush 6, 2) := dgX3_init_16.2.2.2.2.2.2.2.2.2.2.2.1
theorem dX3_init_55 : decode cX3_init 55 = .ok (.newarray .int, 2) := dgX3_init_16.2.2.2.2.2.2.2.2.2.2.2.2.1
theorem dX3_init_57 : decode cX3_init 57 = .ok (.putfield 31, 3) := dgX3_init_16.2.2.2.2.2.2.2.2.2.2.2.2.2.1
theorem dX3_init_60 : decode cX3_init 60 = .ok (.aload_n 0, 1) := dgX3_init_16.2.2.2.2.2.2.2.2.2.2.2.2.2.2.1
theorem dX3_init_61 : decode cX3_init 61 = .ok (.bipush 6, 2) := dgX3_init_16.2.2.2.2.2.2.2.2.2.2.2.2.2.2.2
theorem dgX3_init_32 : (decode cX3_init 63 = .ok (.newarray .int, 2)) ∧ (decode cX3_init 65 = .ok (.putfield 34, 3)) ∧ (decode cX3_init 68 = .ok (.return_, 1)) := by decide +kernel
theorem dX3_init_63 : decode cX3_init 63 = .ok (.newarray .int, 2) := dgX3_init_32.1
theorem dX3_init_65 : decode cX3_init 65 = .ok (.putfield 34, 3) := dgX3_init_32.2.1
theorem dX3_init_68 : decode cX3_init 68 = .ok (.return_, 1) := dgX3_init_32.2.2
theorem dgX3_setWashing_0 : (decode cX3_setWashing 0 = .ok (.aload_n 0, 1)) ∧ (decode cX3_setWashing 1 = .ok (.getfield 9, 3)) ∧ (decode cX3_setWashing 4 = .ok (.iload_n 1, 1)) ∧ (decode cX3_setWashing 5 = .ok (.bipush 6, 2)) ∧ (decode cX3_setWashing 7 = .ok (.imul, 1)) ∧ (decode cX3_setWashing 8 = .ok (.iload_n 2, 1)) ∧ (decode cX3_setWashing 9 = .ok (.iadd, 1)) ∧ (decode cX3_setWashing 10 = .ok (.iload_n 3, 1)) ∧ (decode cX3_setWashing 11 = .ok (.iastore, 1)) ∧ (decode cX3_setWashing 12 = .ok (.aload_n 0, 1)) ∧ (decode cX3_setWashing 13 = .ok (.iconst 0, 1)) ∧ (decode cX3_setWashing 14 = .ok (.putfield 37, 3)) ∧ (decode cX3_setWashing 17 = .ok (.return_, 1)) := by decide +kernel
theorem dX3_setWashing_0 : decode cX3_setWashing 0 = .ok (.aload_n 0, 1) := dgX3_setWashing_0.1
theorem dX3_setWashing_1 : decode cX3_setWashing 1 = .ok (.getfield 9, 3) := dgX3_setWashing_0.2.1
theorem dX3_setWashing_4 : decode cX3_setWashing 4 = .ok (.iload_n 1, 1) := dgX3_setWashing_0.2.2.1
theorem dX3_setWashing_5 : decode cX3_setWashing 5 = .ok (.bipush 6, 2) := dgX3_setWashing_0.2.2.2.1
theorem dX3_setWashing_7 : decode cX3_setWashing 7 = .ok (.imul, 1) := dgX3_setWashing_0.2.2.2.2.1
theorem dX3_setWashing_8 : decode cX3_setWashing 8 = .ok (.iload_n 2, 1) := dgX3_setWashing_0.2.2.2.2.2.1
theorem dX3_setWashing_9 : decode cX3_setWashing 9 = .ok (.iadd, 1) := dgX3_setWashing_0.2.2.2.2.2.2.1
theorem dX3_setWashing_10 : decode cX3_setWashing 10 = .ok (.iload_n 3, 1) := dgX3_setWashing_0.2.2.2.2.2.2.2.1
theorem dX3_setWashing_11 : decode cX3_setWashing 11 = .ok (.iastore, 1) := dgX3_setWashing_0.2.2.2.2.2.2.2.2.1
theorem dX3_setWashing_12 : decode cX3_setWashing 12 = .ok (.aload_n 0, 1) := dgX3_setWashing_0.2.2.2.2.2.2.2.2.2.1
theorem dX3_setWashing_13 : decode cX3_setWashing 13 = .ok (.iconst 0, 1) := dgX3_setWashing_0.2.2.2.2.2.2.2.2.2.2.1
theorem dX3_setWashing_14 : decode cX3_setWashing 14 = .ok (.putfield 37, 3) := dgX3_setWashing_0.2.2.2.2.2.2.2.2.2.2.2.1
theorem dX3_setWashing_17 : decode cX3_setWashing 17 = .ok (.return_, 1) := dgX3_setWashing_0.2.2.2.2.2.2.2.2.2.2.2.2
theorem dgX3_empty_0 : (decode cX3_empty 0 = .ok (.aload_n 0, 1)) ∧ (decode cX3_empty 1 = .ok (.iconst 0, 1)) ∧ (decode cX3_empty 2 = .ok (.putfield 41, 3)) ∧ (decode cX3_empty 5 = .ok (.aload_n 0, 1)) ∧ (decode cX3_empty 6 = .ok (.iconst 0, 1)) ∧ (decode cX3_empty 7 = .ok (.putfield 37, 3)) ∧ (decode cX3_empty 10 = .ok (.return_, 1)) := by decide +kernel
theorem dX3_empty_0 : decode cX3_empty 0 = .ok (.aload_n 0, 1) := dgX3_empty_0.1
theorem dX3_empty_1 : decode cX3_empty 1 = .ok (.iconst 0, 1) := dgX3_empty_0.2.1
theorem dX3_empty_2 : decode cX3_empty 2 = .ok (.putfield 41, 3) := dgX3_empty_0.2.2.1
theorem dX3_empty_5 : decode cX3_empty 5 = .ok (.aload_n 0, 1) := dgX3_empty_0.2.2.2.1
theorem dX3_empty_6 : decode cX3_empty 6 = .ok (.iconst 0, 1) := dgX3_empty_0.2.2.2.2.1
theorem dX3_empty_7 : decode cX3_empty 7 = .ok (.putfield 37, 3) := dgX3_empty_0.2.2.2.2.2.1
theorem dX3_empty_10 : decode cX3_empty 10 = .ok (.return_, 1) := dgX3_empty_0.2.2.2.2.2.2
theorem dgX3_add_0 : (decode cX3_add 0 = .ok (.iconst 0, 1)) ∧ (decode cX3_add 1 = .ok (.istore_n 3, 1)) ∧ (decode cX3_add 2 = .ok (.iload_n 3, 1)) ∧ (decode cX3_add 3 = .ok (.aload_n 0, 1)) ∧ (decode cX3_add 4 = .ok (.getfield 41, 3)) ∧ (decode cX3_add 7 = .ok (.if_icmp .ge 21, 3)) ∧ (decode cX3_add 10 = .ok (.aload_n 0, 1)) ∧ (decode cX3_add 11 = .ok (.getfield 15, 3)) ∧ (decode cX3_add 14 = .ok (.iload_n 3, 1)) ∧ (decode cX3_add 15 = .ok (.iaload, 1)) ∧ (decode cX3_add 16 = .ok (.iload_n 1, 1)) ∧ (decode cX3_add 17 = .ok (.if_icmp .ne 5, 3)) ∧ (decode cX3_add 20 = .ok (.iconst (-1), 1)) ∧ (decode cX3_add 21 = .ok (.ireturn, 1)) ∧ (decode cX3_add 22 = .ok (.iinc 3 1, 3)) ∧ (decode cX3_add 25 = .ok (.goto (-23), 3)) := by decide +kernel
theorem dX3_add_0 : decode cX3_add 0 = .ok (.iconst 0, 1) := dgX3_add_0.1
theorem dX3_add_1 : decode cX3_add 1 = .ok (.istore_n 3, 1) := dgX3_add_0.2.1
theorem dX3_add_2 : decode cX3_add 2 = .ok (.iload_n 3, 1) := dgX3_add_0.2.2.1
theorem dX3_add_3 : decode cX3_add 3 = .ok (.aload_n 0, 1) := dgX3_add_0.2.2.2.1
theorem dX3_add_4 : decode cX3_add 4 = .ok (.getfield 41, 3) := dgX3_add_0.2.2.2.2.1
theorem dX3_add_7 : decode cX3_add 7 = .ok (.if_icmp .ge 21, 3) := dgX3_add_0.2.2.2.2.2.1
theorem dX3_add_10 : decode cX3_add 10 = .ok (.aload_n 0, 1) := dgX3_add_0.2.2.2.2.2.2.1
theorem dX3_add_11 : decode cX3_add 11 = .ok (.getfield 15, 3) := dgX3_add_0.2.2.2.2.2.2.2.1
theorem dX3_add_14 : decode cX3_add 14 = .ok (.iload_n 3, 1) := dgX3_add_0.2.2.2.2.2.2.2.2.1
theorem dX3_add_15 : decode cX3_add 15 = .ok (.iaload, 1) := dgX3_add_0.2.2.2.2.2.2.2.2.2.1
theorem dX3_add_16 : decode cX3_add 16 = .ok (.iload_n 1, 1) := dgX3_add_0.2.2.2.2.2.2.2.2.2.2.1
theorem dX3_add_17 : decode cX3_add 17 = .ok (.if_icmp .ne 5, 3) := dgX3_add_0.2.2.2.2.2.2.2.2.2.2.2.1
theorem dX3_add_20 : decode cX3_add 20 = .ok (.iconst (-1), 1) := dgX3_add_0.2.2.2.2.2.2.2.2.2.2.2.2.1
theorem dX3_add_21 : decode cX3_add 21 = .ok (.ireturn, 1) := dgX3_add_0.2.2.2.2.2.2.2.2.2.2.2.2.2.1
theorem dX3_add_22 : decode cX3_add 22 = .ok (.iinc 3 1, 3) := dgX3_add_0.2.2.2.2.2.2.2.2.2.2.2.2.2.2.1
theorem dX3_add_25 : decode cX3_add 25 = .ok (.goto (-23), 3) := dgX3_add_0.2.2.2.2.2.2.2.2.2.2.2.2.2.2.2
theorem dgX3_add_16 : (decode cX3_add 28 = .ok (.aload_n 0, 1)) ∧ (decode cX3_add 29 = .ok (.getfield 41, 3)) ∧ (decode cX3_add 32 = .ok (.bipush 10, 2)) ∧ (decode cX3_add 34 = .ok (.if_icmp .lt 5, 3)) ∧ (decode cX3_add 37 = .ok (.iconst (-1), 1)) ∧ (decode cX3_add 38 = .ok (.ireturn, 1)) ∧ (decode cX3_add 39 = .ok (.aload_n 0, 1)) ∧ (decode cX3_add 40 = .ok (.getfield 15, 3)) ∧ (decode cX3_add 43 = .ok (.aload_n 0, 1)) ∧ (decode cX3_add 44 = .ok (.getfield 41, 3)) ∧ (decode cX3_add 47 = .ok (.iload_n 1, 1)) ∧ (decode cX3_add 48 = .ok (.iastore, 1)) ∧ (decode cX3_add 49 = .ok (.aload_n 0, 1)) ∧ (decode cX3_add 50 = .ok (.getfield 18, 3)) ∧ (decode cX3_add 53 = .ok (.aload_n 0, 1)) ∧ (decode cX3_add 54 = .ok (.getfield 41, 3)) := by decide +kernel
theorem dX3_add_28 : decode cX3_add 28 = .ok (.aload_n 0, 1) := dgX3_add_16.1
theorem dX3_add_29 : decode cX3_add 29 = .ok (.getfield 41, 3) := dgX3_add_16.2.1
theorem dX3_add_32 : decode cX3_add 32 = .ok (.bipush 10, 2) := dgX3_add_16.2.2.1
theorem dX3_add_34 : decode cX3_add 34 = .ok (.if_icmp .lt 5, 3) := dgX3_add_16.2.2.2.1
theorem dX3_add_37 : decode cX3_add 37 = .ok (.iconst (-1), 1) := dgX3_add_16.2.2.2.2.1
theorem dX3_add_38 : decode cX3_add 38 = .ok (.ireturn, 1) := dgX3_add_16.2.2.2.2.2.1
theorem dX3_add_39 : decode cX3_add 39 = .ok (.aload_n 0, 1) := dgX3_add_16.2.2.2.2.2.2.1
theorem dX3_add_40 : decode cX3_add 40 = .ok (.getfield 15, 3) := dgX3_add_16.2.2.2.2.2.2.2.1
theorem dX3_add_43 : decode cX3_add 43 = .ok (.aload_n 0, 1) := dgX3_add_16.2.2.2.2.2.2.2.2.1
theorem dX3_add_44 : decode cX3_add 44 = .ok (.getfield 41, 3) := dgX3_add_16.2.2.2.2.2.2.2.2.2.1
theorem dX3_add_47 : decode cX3_add 47 = .ok (.iload_n 1, 1) := dgX3_add_16.2.2.2.2.2.2.2.2.2.2.1
theorem dX3_add_48 : decode cX3_add 48 = .ok (.iastore, 1) := dgX3_add_16.2.2.2.2.2.2.2.2.2.2.2.1
theorem dX3_add_49 : decode cX3_add 49 = .ok (.aload_n 0, 1) := dgX3_add_16.2.2.2.2.2.2.2.2.2.2.2.2.1
theorem dX3_add_50 : decode cX3_add 50 = .ok (.getfield 18, 3) := dgX3_add_16.2.2.2.2.2.2.2.2.2.2.2.2.2.1
theorem dX3_add_53 : decode cX3_add 53 = .ok (.aload_n 0, 1) := dgX3_add_16.2.2.2.2.2.2.2.2.2.2.2.2.2.2.1
theorem dX3_add_54 : decode cX3_add 54 = .ok (.getfield 41, 3) := dgX3_add_16.2.2.2.2.2.2.2.2.2.2.2.2.2.2.2
theorem dgX3_add_32 : (decode cX3_add 57 = .ok (.iload_n 2, 1)) ∧ (decode cX3_add 58 = .ok (.iastore, 1)) ∧ (decode cX3_add 59 = .ok (.aload_n 0, 1)) ∧ (decode cX3_add 60 = .ok (.dup, 1)) ∧ (decode cX3_add 61 = .ok (.getfield 41, 3)) ∧ (decode cX3_add 64 = .ok (.iconst 1, 1)) ∧ (decode cX3_add 65 = .ok (.iadd, 1)) ∧ (decode cX3_add 66 = .ok (.putfield 41, 3)) ∧ (decode cX3_add 69 = .ok (.aload_n 0, 1)) ∧ (decode cX3_add 70 = .ok (.iconst 0, 1)) ∧ (decode cX3_add 71 = .ok (.putfield 37, 3)) ∧ (decode cX3_add 74 = .ok (.aload_n 0, 1)) ∧ (decode cX3_add 75 = .ok (.getfield 41, 3)) ∧ (decode cX3_add 78 = .ok (.ireturn, 1)) := by decide +kernel
theorem dX3_add_57 : decode cX3_add 57 = .ok (.iload_n 2, 1) := dgX3_add_32.1
theorem dX3_add_58 : decode cX3_add 58 = .ok (.iastore, 1) := dgX3_add_32.2.1
theorem dX3_add_59 : decode cX3_add 59 = .ok (.aload_n 0, 1) := dgX3_add_32.2.2.1
theorem dX3_add_60 : decode cX3_add 60 = .ok (.dup, 1) := dgX3_add_32.2.2.2.1
theorem dX3_add_61 : decode cX3_add 61 = .ok (.getfield 41, 3) := dgX3_add_32.2.2.2.2.1
theorem dX3_add_64 : decode cX3_add 64 = .ok (.iconst 1, 1) := dgX3_add_32.2.2.2.2.2.1
theorem dX3_add_65 : decode cX3_add 65 = .ok (.iadd, 1) := dgX3_add_32.2.2.2.2.2.2.1
theorem dX3_add_66 : decode cX3_add 66 = .ok (.putfield 41, 3) := dgX3_add_32.2.2.2.2.2.2.2.1
theorem dX3_add_69 : decode cX3_add 69 = .ok (.aload_n 0, 1) := dgX3_add_32.2.2.2.2.2.2.2.2.1
theorem dX3_add_70 : decode cX3_add 70 = .ok (.iconst 0, 1) := dgX3_add_32.2.2.2.2.2.2.2.2.2.1
theorem dX3_add_71 : decode cX3_add 71 = .ok (.putfield 37, 3) := dgX3_add_32.2.2.2.2.2.2.2.2.2.2.1
theorem dX3_add_74 : decode cX3_add 74 = .ok (.aload_n 0, 1) := dgX3_add_32.2.2.2.2.2.2.2.2.2.2.2.1
theorem dX3_add_75 : decode cX3_add 75 = .ok (.getfield 41, 3) := dgX3_add_32.2.2.2.2.2.2.2.2.2.2.2.2.1
theorem dX3_add_78 : decode cX3_add 78 = .ok (.ireturn, 1) := dgX3_add_32.2.2.2.2.2.2.2.2.2.2.2.2.2
theorem dgX3_findOrder_0 : (decode cX3_findOrder 0 = .ok (.aload_n 0, 1)) ∧ (decode cX3_findOrder 1 = .ok (.getfield 37, 3)) ∧ (decode cX3_findOrder 4 = .ok (.ifCond .eq 12, 3)) ∧ (decode cX3_findOrder 7 = .ok (.aload_n 0, 1)) ∧ (decode cX3_findOrder 8 = .ok (.getfield 45, 3)) ∧ (decode cX3_findOrder 11 = .ok (.iload_n 1, 1)) ∧ (decode cX3_findOrder 12 = .ok (.if_icmp .ne 4, 3)) ∧ (decode cX3_findOrder 15 = .ok (.return_, 1)) ∧ (decode cX3_findOrder 16 = .ok (.aload_n 0, 1)) ∧ (decode cX3_findOrder 17 = .ok (.iconst 0, 1)) ∧ (decode cX3_findOrder 18 = .ok (.putfield 48, 3)) ∧ (decode cX3_findOrder 21 = .ok (.aload_n 0, 1)) ∧ (decode cX3_findOrder 22 = .ok (.getfield 41, 3)) ∧ (decode cX3_findOrder 25 = .ok (.ifCond .le 22, 3)) ∧ (decode cX3_findOrder 28 = .ok (.aload_n 0, 1)) ∧ (decode cX3_findOrder 29 = .ok (.invokevirtual 51, 3)) := by decide +kernel
theorem dX3_findOrder_0 : decode cX3_findOrder 0 = .ok (.aload_n 0, 1) := dgX3_findOrder_0.1
theorem dX3_findOrder_1 : decode cX3_findOrder 1 = .ok (.getfield 37, 3) := dgX3_findOrder_0.2.1
theorem dX3_findOrder_4 : decode cX3_findOrder 4 = .ok (.ifCond .eq 12, 3) := dgX3_findOrder_0.2.2.1
theorem dX3_findOrder_7 : decode cX3_findOrder 7 = .ok (.aload_n 0, 1) := dgX3_findOrder_0.2.2.2.1
theorem dX3_findOrder_8 : decode cX3_findOrder 8 = .ok (.getfield 45, 3) := dgX3_findOrder_0.2.2.2.2.1
theorem dX3_findOrder_11 : decode cX3_findOrder 11 = .ok (.iload_n 1, 1) := dgX3_findOrder_0.2.2.2.2.2.1
theorem dX3_findOrder_12 : decode cX3_findOrder 12 = .ok (.if_icmp .ne 4, 3) := dgX3_findOrder_0.2.2.2.2.2.2.1
theorem dX3_findOrder_15 : decode cX3_findOrder 15 = .ok (.return_, 1) := dgX3_findOrder_0.2.2.2.2.2.2.2.1
theorem dX3_findOrder_16 : decode cX3_findOrder 16 = .ok (.aload_n 0, 1) := dgX3_findOrder_0.2.2.2.2.2.2.2.2.1
theorem dX3_findOrder_17 : decode cX3_findOrder 17 = .ok (.iconst 0, 1) := dgX3_findOrder_0.2.2.2.2.2.2.2.2.2.1
theorem dX3_findOrder_18 : decode cX3_findOrder 18 = .ok (.putfield 48, 3) := dgX3_findOrder_0.2.2.2.2.2.2.2.2.2.2.1
theorem dX3_findOrder_21 : decode cX3_findOrder 21 = .ok (.aload_n 0, 1) := dgX3_findOrder_0.2.2.2.2.2.2.2.2.2.2.2.1
theorem dX3_findOrder_22 : decode cX3_findOrder 22 = .ok (.getfield 41, 3) := dgX3_findOrder_0.2.2.2.2.2.2.2.2.2.2.2.2.1
theorem dX3_findOrder_25 : decode cX3_findOrder 25 = .ok (.ifCond .le 22, 3) := dgX3_findOrder_0.2.2.2.2.2.2.2.2.2.2.2.2.2.1
theorem dX3_findOrder_28 : decode cX3_findOrder 28 = .ok (.aload_n 0, 1) := dgX3_findOrder_0.2.2.2.2.2.2.2.2.2.2.2.2.2.2.1
theorem dX3_findOrder_29 : decode cX3_findOrder 29 = .ok (.invokevirtual 51, 3) := dgX3_findOrder_0.2.2.2.2.2.2.2.2.2.2.2.2.2.2.2
theorem dgX3_findOrder_16 : (decode cX3_findOrder 32 = .ok (.istore_n 2, 1)) ∧ (decode cX3_findOrder 33 = .ok (.aload_n 0, 1)) ∧ (decode cX3_findOrder 34 = .ok (.iload_n 2, 1)) ∧ (decode cX3_findOrder 35 = .ok (.iload_n 1, 1)) ∧ (decode cX3_findOrder 36 = .ok (.invokevirtual 55, 3)) ∧ (decode cX3_findOrder 39 = .ok (.aload_n 0, 1)) ∧ (decode cX3_findOrder 40 = .ok (.iload_n 2, 1)) ∧ (decode cX3_findOrder 41 = .ok (.iconst 1, 1)) ∧ (decode cX3_findOrder 42 = .ok (.isub, 1)) ∧ (decode cX3_findOrder 43 = .ok (.iload_n 1, 1)) ∧ (decode cX3_findOrder 44 = .ok (.invokevirtual 59, 3)) ∧ (decode cX3_findOrder 47 = .ok (.aload_n 0, 1)) ∧ (decode cX3_findOrder 48 = .ok (.iconst 1, 1)) ∧ (decode cX3_findOrder 49 = .ok (.putfield 37, 3)) ∧ (decode cX3_findOrder 52 = .ok (.aload_n 0, 1)) ∧ (decode cX3_findOrder 53 = .ok (.iload_n 1, 1)) := by decide +kernel
theorem dX3_findOrder_32 : decode cX3_findOrder 32 = .ok (.istore_n 2, 1) := dgX3_findOrder_16.1
theorem dX3_findOrder_33 : decode cX3_findOrder 33 = .ok (.aload_n 0, 1) := dgX3_findOrder_16.2.1
theorem dX3_findOrder_34 : decode cX3_findOrder 34 = .ok (.iload_n 2, 1) := dgX3_findOrder_16.2.2.1
theorem dX3_findOrder_35 : decode cX3_findOrder 35 = .ok (.iload_n 1, 1) := dgX3_findOrder_16.2.2.2.1
theorem dX3_findOrder_36 : decode cX3_findOrder 36 = .ok (.invokevirtual 55, 3) := dgX3_findOrder_16.2.2.2.2.1
theorem dX3_findOrder_39 : decode cX3_findOrder 39 = .ok (.aload_n 0, 1) := dgX3_findOrder_16.2.2.2.2.2.1
theorem dX3_findOrder_40 : decode cX3_findOrder 40 = .ok (.iload_n 2, 1) := dgX3_findOrder_16.2.2.2.2.2.2.1
theorem dX3_findOrder_41 : decode cX3_findOrder 41 = .ok (.iconst 1, 1) := dgX3_findOrder_16.2.2.2.2.2.2.2.1
theorem dX3_findOrder_42 : decode cX3_findOrder 42 = .ok (.isub, 1) := dgX3_findOrder_16.2.2.2.2.2.2.2.2.1
theorem dX3_findOrder_43 : decode cX3_findOrder 43 = .ok (.iload_n 1, 1) := dgX3_findOrder_16.2.2.2.2.2.2.2.2.2.1
theorem dX3_findOrder_44 : decode cX3_findOrder 44 = .ok (.invokevirtual 59, 3) := dgX3_findOrder_16.2.2.2.2.2.2.2.2.2.2.1
theorem dX3_findOrder_47 : decode cX3_findOrder 47 = .ok (.aload_n 0, 1) := dgX3_findOrder_16.2.2.2.2.2.2.2.2.2.2.2.1
theorem dX3_findOrder_48 : decode cX3_findOrder 48 = .ok (.iconst 1, 1) := dgX3_findOrder_16.2.2.2.2.2.2.2.2.2.2.2.2.1
theorem dX3_findOrder_49 : decode cX3_findOrder 49 = .ok (.putfield 37, 3) := dgX3_findOrder_16.2.2.2.2.2.2.2.2.2.2.2.2.2.1
theorem dX3_findOrder_52 : decode cX3_findOrder 52 = .ok (.aload_n 0, 1) := dgX3_findOrder_16.2.2.2.2.2.2.2.2.2.2.2.2.2.2.1
theorem dX3_findOrder_53 : decode cX3_findOrder 53 = .ok (.iload_n 1, 1) := dgX3_findOrder_16.2.2.2.2.2.2.2.2.2.2.2.2.2.2.2
theorem dgX3_findOrder_32 : (decode cX3_findOrder 54 = .ok (.putfield 45, 3)) ∧ (decode cX3_findOrder 57 = .ok (.return_, 1)) := by decide +kernel
theorem dX3_findOrder_54 : decode cX3_findOrder 54 = .ok (.putfield 45, 3) := dgX3_findOrder_32.1
theorem dX3_findOrder_57 : decode cX3_findOrder 57 = .ok (.return_, 1) := dgX3_findOrder_32.2
theorem dgX3_countKinds_0 : (decode cX3_countKinds 0 = .ok (.aload_n 0, 1)) ∧ (decode cX3_countKinds 1 = .ok (.getfield 28, 3)) ∧ (decode cX3_countKinds 4 = .ok (.iconst 0, 1)) ∧ (decode cX3_countKinds 5 = .ok (.invokestatic 62, 3)) ∧ (decode cX3_countKinds 8 = .ok (.iconst 0, 1)) ∧ (decode cX3_countKinds 9 = .ok (.istore_n 1, 1)) ∧ (decode cX3_countKinds 10 = .ok (.iload_n 1, 1)) ∧ (decode cX3_countKinds 11 = .ok (.aload_n 0, 1)) ∧ (decode cX3_countKinds 12 = .ok (.getfield 41, 3)) ∧ (decode cX3_countKinds 15 = .ok (.if_icmp .ge 24, 3)) ∧ (decode cX3_countKinds 18 = .ok (.aload_n 0, 1)) ∧ (decode cX3_countKinds 19 = .ok (.getfield 28, 3)) ∧ (decode cX3_countKinds 22 = .ok (.aload_n 0, 1)) ∧ (decode cX3_countKinds 23 = .ok (.getfield 18, 3)) ∧ (decode cX3_countKinds 26 = .ok (.iload_n 1, 1)) ∧ (decode cX3_countKinds 27 = .ok (.iaload, 1)) := by decide +kernel
theorem dX3_countKinds_0 : decode cX3_countKinds 0 = .ok (.aload_n 0, 1) := dgX3_countKinds_0.1
theorem dX3_countKinds_1 : decode cX3_countKinds 1 = .ok (.getfield 28, 3) := dgX3_countKinds_0.2.1
theorem dX3_countKinds_4 : decode cX3_countKinds 4 = .ok (.iconst 0, 1) := dgX3_countKinds_0.2.2.1
theorem dX3_countKinds_5 : decode cX3_countKinds 5 = .ok (.invokestatic 62, 3) := dgX3_countKinds_0.2.2.2.1
theorem dX3_countKinds_8 : decode cX3_countKinds 8 = .ok (.iconst 0, 1) := dgX3_countKinds_0.2.2.2.2.1
theorem dX3_countKinds_9 : decode cX3_countKinds 9 = .ok (.istore_n 1, 1) := dgX3_countKinds_0.2.2.2.2.2.1
theorem dX3_countKinds_10 : decode cX3_countKinds 10 = .ok (.iload_n 1, 1) := dgX3_countKinds_0.2.2.2.2.2.2.1
theorem dX3_countKinds_11 : decode cX3_countKinds 11 = .ok (.aload_n 0, 1) := dgX3_countKinds_0.2.2.2.2.2.2.2.1
theorem dX3_countKinds_12 : decode cX3_countKinds 12 = .ok (.getfield 41, 3) := dgX3_countKinds_0.2.2.2.2.2.2.2.2.1
theorem dX3_countKinds_15 : decode cX3_countKinds 15 = .ok (.if_icmp .ge 24, 3) := dgX3_countKinds_0.2.2.2.2.2.2.2.2.2.1
theorem dX3_countKinds_18 : decode cX3_countKinds 18 = .ok (.aload_n 0, 1) := dgX3_countKinds_0.2.2.2.2.2.2.2.2.2.2.1
theorem dX3_countKinds_19 : decode cX3_countKinds 19 = .ok (.getfield 28, 3) := dgX3_countKinds_0.2.2.2.2.2.2.2.2.2.2.2.1
theorem dX3_countKinds_22 : decode cX3_countKinds 22 = .ok (.aload_n 0, 1) := dgX3_countKinds_0.2.2.2.2.2.2.2.2.2.2.2.2.1
theorem dX3_countKinds_23 : decode cX3_countKinds 23 = .ok (.getfield 18, 3) := dgX3_countKinds_0.2.2.2.2.2.2.2.2.2.2.2.2.2.1
theorem dX3_countKinds_26 : decode cX3_countKinds 26 = .ok (.iload_n 1, 1) := dgX3_countKinds_0.2.2.2.2.2.2.2.2.2.2.2.2.2.2.1
theorem dX3_countKinds_27 : decode cX3_countKinds 27 = .ok (.iaload, 1) := dgX3_countKinds_0.2.2.2.2.2.2.2.2.2.2.2.2.2.2.2
theorem dgX3_countKinds_16 : (decode cX3_countKinds 28 = .ok (.dup2, 1)) ∧ (decode cX3_countKinds 29 = .ok (.iaload, 1)) ∧ (decode cX3_countKinds 30 = .ok (.iconst 1, 1)) ∧ (decode cX3_countKinds 31 = .ok (.iadd, 1)) ∧ (decode cX3_countKinds 32 = .ok (.iastore, 1)) ∧ (decode cX3_countKinds 33 = .ok (.iinc 1 1, 3)) ∧ (decode cX3_countKinds 36 = .ok (.goto (-26), 3)) ∧ (decode cX3_countKinds 39 = .ok (.iconst 1, 1)) ∧ (decode cX3_countKinds 40 = .ok (.istore_n 1, 1)) ∧ (decode cX3_countKinds 41 = .ok (.iconst 0, 1)) ∧ (decode cX3_countKinds 42 = .ok (.istore_n 2, 1)) ∧ (decode cX3_countKinds 43 = .ok (.iload_n 2, 1)) ∧ (decode cX3_countKinds 44 = .ok (.bipush 6, 2)) ∧ (decode cX3_countKinds 46 = .ok (.if_icmp .ge 27, 3)) ∧ (decode cX3_countKinds 49 = .ok (.aload_n 0, 1)) ∧ (decode cX3_countKinds 50 = .ok (.getfield 31, 3)) := by decide +kernel
theorem dX3_countKinds_28 : decode cX3_countKinds 28 = .ok (.dup2, 1) := dgX3_countKinds_16.1
theorem dX3_countKinds_29 : decode cX3_countKinds 29 = .ok (.iaload, 1) := dgX3_countKinds_16.2.1
theorem dX3_countKinds_30 : decode cX3_countKinds 30 = .ok (.iconst 1, 1) := dgX3_countKinds_16.2.2.1
theorem dX3_countKinds_31 : decode cX3_countKinds 31 = .ok (.iadd, 1) := dgX3_countKinds_16.2.2.2.1
theorem dX3_countKinds_32 : decode cX3_countKinds 32 = .ok (.iastore, 1) := dgX3_countKinds_16.2.2.2.2.1
theorem dX3_countKinds_33 : decode cX3_countKinds 33 = .ok (.iinc 1 1, 3) := dgX3_countKinds_16.2.2.2.2.2.1
theorem dX3_countKinds_36 : decode cX3_countKinds 36 = .ok (.goto (-26), 3) := dgX3_countKinds_16.2.2.2.2.2.2.1
theorem dX3_countKinds_39 : decode cX3_countKinds 39 = .ok (.iconst 1, 1) := dgX3_countKinds_16.2.2.2.2.2.2.2.1
theorem dX3_countKinds_40 : decode cX3_countKinds 40 = .ok (.istore_n 1, 1) := dgX3_countKinds_16.2.2.2.2.2.2.2.2.1
theorem dX3_countKinds_41 : decode cX3_countKinds 41 = .ok (.iconst 0, 1) := dgX3_countKinds_16.2.2.2.2.2.2.2.2.2.1
theorem dX3_countKinds_42 : decode cX3_countKinds 42 = .ok (.istore_n 2, 1) := dgX3_countKinds_16.2.2.2.2.2.2.2.2.2.2.1
theorem dX3_countKinds_43 : decode cX3_countKinds 43 = .ok (.iload_n 2, 1) := dgX3_countKinds_16.2.2.2.2.2.2.2.2.2.2.2.1
theorem dX3_countKinds_44 : decode cX3_countKinds 44 = .ok (.bipush 6, 2) := dgX3_countKinds_16.2.2.2.2.2.2.2.2.2.2.2.2.1
theorem dX3_countKinds_46 : decode cX3_countKinds 46 = .ok (.if_icmp .ge 27, 3) := dgX3_countKinds_16.2.2.2.2.2.2.2.2.2.2.2.2.2.1
theorem dX3_countKinds_49 : decode cX3_countKinds 49 = .ok (.aload_n 0, 1) := dgX3_countKinds_16.2.2.2.2.2.2.2.2.2.2.2.2.2.2.1
theorem dX3_countKinds_50 : decode cX3_countKinds 50 = .ok (.getfield 31, 3) := dgX3_countKinds_16.2.2.2.2.2.2.2.2.2.2.2.2.2.2.2
theorem dgX3_countKinds_32 : (decode cX3_countKinds 53 = .ok (.iload_n 2, 1)) ∧ (decode cX3_countKinds 54 = .ok (.iload_n 1, 1)) ∧ (decode cX3_countKinds 55 = .ok (.iastore, 1)) ∧ (decode cX3_countKinds 56 = .ok (.iload_n 1, 1)) ∧ (decode cX3_countKinds 57 = .ok (.aload_n 0, 1)) ∧ (decode cX3_countKinds 58 = .ok (.getfield 28, 3)) ∧ (decode cX3_countKinds 61 = .ok (.iload_n 2, 1)) ∧ (decode cX3_countKinds 62 = .ok (.iaload, 1)) ∧ (decode cX3_countKinds 63 = .ok (.iconst 1, 1)) ∧ (decode cX3_countKinds 64 = .ok (.iadd, 1)) ∧ (decode cX3_countKinds 65 = .ok (.imul, 1)) ∧ (decode cX3_countKinds 66 = .ok (.istore_n 1, 1)) ∧ (decode cX3_countKinds 67 = .ok (.iinc 2 1, 3)) ∧ (decode cX3_countKinds 70 = .ok (.goto (-27), 3)) ∧ (decode cX3_countKinds 73 = .ok (.iload_n 1, 1)) ∧ (decode cX3_countKinds 74 = .ok (.sipush 324, 3)) := by decide +kernel
theorem dX3_countKinds_53 : decode cX3_countKinds 53 = .ok (.iload_n 2, 1) := dgX3_countKinds_32.1
theorem dX3_countKinds_54 : decode cX3_countKinds 54 = .ok (.iload_n 1, 1) := dgX3_countKinds_32.2.1
theorem dX3_countKinds_55 : decode cX3_countKinds 55 = .ok (.iastore, 1) := dgX3_countKinds_32.2.2.1
theorem dX3_countKinds_56 : decode cX3_countKinds 56 = .ok (.iload_n 1, 1) := dgX3_countKinds_32.2.2.2.1
theorem dX3_countKinds_57 : decode cX3_countKinds 57 = .ok (.aload_n 0, 1) := dgX3_countKinds_32.2.2.2.2.1
theorem dX3_countKinds_58 : decode cX3_countKinds 58 = .ok (.getfield 28, 3) := dgX3_countKinds_32.2.2.2.2.2.1
theorem dX3_countKinds_61 : decode cX3_countKinds 61 = .ok (.iload_n 2, 1) := dgX3_countKinds_32.2.2.2.2.2.2.1
theorem dX3_countKinds_62 : decode cX3_countKinds 62 = .ok (.iaload, 1) := dgX3_countKinds_32.2.2.2.2.2.2.2.1
theorem dX3_countKinds_63 : decode cX3_countKinds 63 = .ok (.iconst 1, 1) := dgX3_countKinds_32.2.2.2.2.2.2.2.2.1
theorem dX3_countKinds_64 : decode cX3_countKinds 64 = .ok (.iadd, 1) := dgX3_countKinds_32.2.2.2.2.2.2.2.2.2.1
theorem dX3_countKinds_65 : decode cX3_countKinds 65 = .ok (.imul, 1) := dgX3_countKinds_32.2.2.2.2.2.2.2.2.2.2.1
theorem dX3_countKinds_66 : decode cX3_countKinds 66 = .ok (.istore_n 1, 1) := dgX3_countKinds_32.2.2.2.2.2.2.2.2.2.2.2.1
theorem dX3_countKinds_67 : decode cX3_countKinds 67 = .ok (.iinc 2 1, 3) := dgX3_countKinds_32.2.2.2.2.2.2.2.2.2.2.2.2.1
theorem dX3_countKinds_70 : decode cX3_countKinds 70 = .ok (.goto (-27), 3) := dgX3_countKinds_32.2.2.2.2.2.2.2.2.2.2.2.2.2.1
theorem dX3_countKinds_73 : decode cX3_countKinds 73 = .ok (.iload_n 1, 1) := dgX3_countKinds_32.2.2.2.2.2.2.2.2.2.2.2.2.2.2.1
theorem dX3_countKinds_74 : decode cX3_countKinds 74 = .ok (.sipush 324, 3) := dgX3_countKinds_32.2.2.2.2.2.2.2.2.2.2.2.2.2.2.2
theorem dgX3_countKinds_48 : (decode cX3_countKinds 77 = .ok (.invokestatic 68, 3)) ∧ (decode cX3_countKinds 80 = .ok (.ireturn, 1)) := by decide +kernel
theorem dX3_countKinds_77 : decode cX3_countKinds 77 = .ok (.invokestatic 68, 3) := dgX3_countKinds_48.1
theorem dX3_countKinds_80 : decode cX3_countKinds 80 = .ok (.ireturn, 1) := dgX3_countKinds_48.2
theorem dgX3_findLeast_0 : (decode cX3_findLeast 0 = .ok (.aload_n 0, 1)) ∧ (decode cX3_findLeast 1 = .ok (.getfield 74, 3)) ∧ (decode cX3_findLeast 4 = .ok (.ifnonnull 12, 3)) ∧ (decode cX3_findLeast 7 = .ok (.aload_n 0, 1)) ∧ (decode cX3_findLeast 8 = .ok (.sipush 1944, 3)) ∧ (decode cX3_findLeast 11 = .ok (.newarray .int, 2)) ∧ (decode cX3_findLeast 13 = .ok (.putfield 74, 3)) ∧ (decode cX3_findLeast 16 = .ok (.aload_n 0, 1)) ∧ (decode cX3_findLeast 17 = .ok (.getfield 34, 3)) ∧ (decode cX3_findLeast 20 = .ok (.iconst 0, 1)) ∧ (decode cX3_findLeast 21 = .ok (.invokestatic 62, 3)) ∧ (decode cX3_findLeast 24 = .ok (.iconst 0, 1)) ∧ (decode cX3_findLeast 25 = .ok (.istore_n 3, 1)) ∧ (decode cX3_findLeast 26 = .ok (.iload_n 3, 1)) ∧ (decode cX3_findLeast 27 = .ok (.bipush 6, 2)) ∧ (decode cX3_findLeast 29 = .ok (.if_icmp .ge 16, 3)) := by decide +kernel
theorem dX3_findLeast_0 : decode cX3_findLeast 0 = .ok (.aload_n 0, 1) := dgX3_findLeast_0.1
theorem dX3_findLeast_1 : decode cX3_findLeast 1 = .ok (.getfield 74, 3) := dgX3_findLeast_0.2.1
theorem dX3_findLeast_4 : decode cX3_findLeast 4 = .ok (.ifnonnull 12, 3) := dgX3_findLeast_0.2.2.1
theorem dX3_findLeast_7 : decode cX3_findLeast 7 = .ok (.aload_n 0, 1) := dgX3_findLeast_0.2.2.2.1
theorem dX3_findLeast_8 : decode cX3_findLeast 8 = .ok (.sipush 1944, 3) := dgX3_findLeast_0.2.2.2.2.1
theorem dX3_findLeast_11 : decode cX3_findLeast 11 = .ok (.newarray .int, 2) := dgX3_findLeast_0.2.2.2.2.2.1
theorem dX3_findLeast_13 : decode cX3_findLeast 13 = .ok (.putfield 74, 3) := dgX3_findLeast_0.2.2.2.2.2.2.1
theorem dX3_findLeast_16 : decode cX3_findLeast 16 = .ok (.aload_n 0, 1) := dgX3_findLeast_0.2.2.2.2.2.2.2.1
theorem dX3_findLeast_17 : decode cX3_findLeast 17 = .ok (.getfield 34, 3) := dgX3_findLeast_0.2.2.2.2.2.2.2.2.1
theorem dX3_findLeast_20 : decode cX3_findLeast 20 = .ok (.iconst 0, 1) := dgX3_findLeast_0.2.2.2.2.2.2.2.2.2.1
theorem dX3_findLeast_21 : decode cX3_findLeast 21 = .ok (.invokestatic 62, 3) := dgX3_findLeast_0.2.2.2.2.2.2.2.2.2.2.1
theorem dX3_findLeast_24 : decode cX3_findLeast 24 = .ok (.iconst 0, 1) := dgX3_findLeast_0.2.2.2.2.2.2.2.2.2.2.2.1
theorem dX3_findLeast_25 : decode cX3_findLeast 25 = .ok (.istore_n 3, 1) := dgX3_findLeast_0.2.2.2.2.2.2.2.2.2.2.2.2.1
theorem dX3_findLeast_26 : decode cX3_findLeast 26 = .ok (.iload_n 3, 1) := dgX3_findLeast_0.2.2.2.2.2.2.2.2.2.2.2.2.2.1
theorem dX3_findLeast_27 : decode cX3_findLeast 27 = .ok (.bipush 6, 2) := dgX3_findLeast_0.2.2.2.2.2.2.2.2.2.2.2.2.2.2.1
theorem dX3_findLeast_29 : decode cX3_findLeast 29 = .ok (.if_icmp .ge 16, 3) := dgX3_findLeast_0.2.2.2.2.2.2.2.2.2.2.2.2.2.2.2
theorem dgX3_findLeast_16 : (decode cX3_findLeast 32 = .ok (.aload_n 0, 1)) ∧ (decode cX3_findLeast 33 = .ok (.getfield 74, 3)) ∧ (decode cX3_findLeast 36 = .ok (.iload_n 3, 1)) ∧ (decode cX3_findLeast 37 = .ok (.iconst 0, 1)) ∧ (decode cX3_findLeast 38 = .ok (.iastore, 1)) ∧ (decode cX3_findLeast 39 = .ok (.iinc 3 1, 3)) ∧ (decode cX3_findLeast 42 = .ok (.goto (-16), 3)) ∧ (decode cX3_findLeast 45 = .ok (.iconst 1, 1)) ∧ (decode cX3_findLeast 46 = .ok (.istore_n 3, 1)) ∧ (decode cX3_findLeast 47 = .ok (.iload_n 3, 1)) ∧ (decode cX3_findLeast 48 = .ok (.iload_n 1, 1)) ∧ (decode cX3_findLeast 49 = .ok (.if_icmp .ge 19, 3)) ∧ (decode cX3_findLeast 52 = .ok (.aload_n 0, 1)) ∧ (decode cX3_findLeast 53 = .ok (.invokevirtual 77, 3)) ∧ (decode cX3_findLeast 56 = .ok (.aload_n 0, 1)) ∧ (decode cX3_findLeast 57 = .ok (.iload_n 3, 1)) := by decide +kernel
theorem dX3_findLeast_32 : decode cX3_findLeast 32 = .ok (.aload_n 0, 1) := dgX3_findLeast_16.1
theorem dX3_findLeast_33 : decode cX3_findLeast 33 = .ok (.getfield 74, 3) := dgX3_findLeast_16.2.1
theorem dX3_findLeast_36 : decode cX3_findLeast 36 = .ok (.iload_n 3, 1) := dgX3_findLeast_16.2.2.1
theorem dX3_findLeast_37 : decode cX3_findLeast 37 = .ok (.iconst 0, 1) := dgX3_findLeast_16.2.2.2.1
theorem dX3_findLeast_38 : decode cX3_findLeast 38 = .ok (.iastore, 1) := dgX3_findLeast_16.2.2.2.2.1
theorem dX3_findLeast_39 : decode cX3_findLeast 39 = .ok (.iinc 3 1, 3) := dgX3_findLeast_16.2.2.2.2.2.1
theorem dX3_findLeast_42 : decode cX3_findLeast 42 = .ok (.goto (-16), 3) := dgX3_findLeast_16.2.2.2.2.2.2.1
theorem dX3_findLeast_45 : decode cX3_findLeast 45 = .ok (.iconst 1, 1) := dgX3_findLeast_16.2.2.2.2.2.2.2.1
theorem dX3_findLeast_46 : decode cX3_findLeast 46 = .ok (.istore_n 3, 1) := dgX3_findLeast_16.2.2.2.2.2.2.2.2.1
theorem dX3_findLeast_47 : decode cX3_findLeast 47 = .ok (.iload_n 3, 1) := dgX3_findLeast_16.2.2.2.2.2.2.2.2.2.1
theorem dX3_findLeast_48 : decode cX3_findLeast 48 = .ok (.iload_n 1, 1) := dgX3_findLeast_16.2.2.2.2.2.2.2.2.2.2.1
theorem dX3_findLeast_49 : decode cX3_findLeast 49 = .ok (.if_icmp .ge 19, 3) := dgX3_findLeast_16.2.2.2.2.2.2.2.2.2.2.2.1
theorem dX3_findLeast_52 : decode cX3_findLeast 52 = .ok (.aload_n 0, 1) := dgX3_findLeast_16.2.2.2.2.2.2.2.2.2.2.2.2.1
theorem dX3_findLeast_53 : decode cX3_findLeast 53 = .ok (.invokevirtual 77, 3) := dgX3_findLeast_16.2.2.2.2.2.2.2.2.2.2.2.2.2.1
theorem dX3_findLeast_56 : decode cX3_findLeast 56 = .ok (.aload_n 0, 1) := dgX3_findLeast_16.2.2.2.2.2.2.2.2.2.2.2.2.2.2.1
theorem dX3_findLeast_57 : decode cX3_findLeast 57 = .ok (.iload_n 3, 1) := dgX3_findLeast_16.2.2.2.2.2.2.2.2.2.2.2.2.2.2.2
theorem dgX3_findLeast_32 : (decode cX3_findLeast 58 = .ok (.iload_n 2, 1)) ∧ (decode cX3_findLeast 59 = .ok (.invokevirtual 80, 3)) ∧ (decode cX3_findLeast 62 = .ok (.iinc 3 1, 3)) ∧ (decode cX3_findLeast 65 = .ok (.goto (-18), 3)) ∧ (decode cX3_findLeast 68 = .ok (.return_, 1)) := by decide +kernel
theorem dX3_findLeast_58 : decode cX3_findLeast 58 = .ok (.iload_n 2, 1) := dgX3_findLeast_32.1
theorem dX3_findLeast_59 : decode cX3_findLeast 59 = .ok (.invokevirtual 80, 3) := dgX3_findLeast_32.2.1
theorem dX3_findLeast_62 : decode cX3_findLeast 62 = .ok (.iinc 3 1, 3) := dgX3_findLeast_32.2.2.1
theorem dX3_findLeast_65 : decode cX3_findLeast 65 = .ok (.goto (-18), 3) := dgX3_findLeast_32.2.2.2.1
theorem dX3_findLeast_68 : decode cX3_findLeast 68 = .ok (.return_, 1) := dgX3_findLeast_32.2.2.2.2
theorem dgX3_countOn_0 : (decode cX3_countOn 0 = .ok (.iconst 0, 1)) ∧ (decode cX3_countOn 1 = .ok (.istore_n 1, 1)) ∧ (decode cX3_countOn 2 = .ok (.iload_n 1, 1)) ∧ (decode cX3_countOn 3 = .ok (.iconst 5, 1)) ∧ (decode cX3_countOn 4 = .ok (.if_icmp .ge 31, 3)) ∧ (decode cX3_countOn 7 = .ok (.aload_n 0, 1)) ∧ (decode cX3_countOn 8 = .ok (.getfield 34, 3)) ∧ (decode cX3_countOn 11 = .ok (.iload_n 1, 1)) ∧ (decode cX3_countOn 12 = .ok (.iaload, 1)) ∧ (decode cX3_countOn 13 = .ok (.aload_n 0, 1)) ∧ (decode cX3_countOn 14 = .ok (.getfield 28, 3)) ∧ (decode cX3_countOn 17 = .ok (.iload_n 1, 1)) ∧ (decode cX3_countOn 18 = .ok (.iaload, 1)) ∧ (decode cX3_countOn 19 = .ok (.if_icmp .lt 16, 3)) ∧ (decode cX3_countOn 22 = .ok (.aload_n 0, 1)) ∧ (decode cX3_countOn 23 = .ok (.getfield 34, 3)) := by decide +kernel
theorem dX3_countOn_0 : decode cX3_countOn 0 = .ok (.iconst 0, 1) := dgX3_countOn_0.1
theorem dX3_countOn_1 : decode cX3_countOn 1 = .ok (.istore_n 1, 1) := dgX3_countOn_0.2.1
theorem dX3_countOn_2 : decode cX3_countOn 2 = .ok (.iload_n 1, 1) := dgX3_countOn_0.2.2.1
theorem dX3_countOn_3 : decode cX3_countOn 3 = .ok (.iconst 5, 1) := dgX3_countOn_0.2.2.2.1
theorem dX3_countOn_4 : decode cX3_countOn 4 = .ok (.if_icmp .ge 31, 3) := dgX3_countOn_0.2.2.2.2.1
theorem dX3_countOn_7 : decode cX3_countOn 7 = .ok (.aload_n 0, 1) := dgX3_countOn_0.2.2.2.2.2.1
theorem dX3_countOn_8 : decode cX3_countOn 8 = .ok (.getfield 34, 3) := dgX3_countOn_0.2.2.2.2.2.2.1
theorem dX3_countOn_11 : decode cX3_countOn 11 = .ok (.iload_n 1, 1) := dgX3_countOn_0.2.2.2.2.2.2.2.1
theorem dX3_countOn_12 : decode cX3_countOn 12 = .ok (.iaload, 1) := dgX3_countOn_0.2.2.2.2.2.2.2.2.1
theorem dX3_countOn_13 : decode cX3_countOn 13 = .ok (.aload_n 0, 1) := dgX3_countOn_0.2.2.2.2.2.2.2.2.2.1
theorem dX3_countOn_14 : decode cX3_countOn 14 = .ok (.getfield 28, 3) := dgX3_countOn_0.2.2.2.2.2.2.2.2.2.2.1
theorem dX3_countOn_17 : decode cX3_countOn 17 = .ok (.iload_n 1, 1) := dgX3_countOn_0.2.2.2.2.2.2.2.2.2.2.2.1
theorem dX3_countOn_18 : decode cX3_countOn 18 = .ok (.iaload, 1) := dgX3_countOn_0.2.2.2.2.2.2.2.2.2.2.2.2.1
theorem dX3_countOn_19 : decode cX3_countOn 19 = .ok (.if_icmp .lt 16, 3) := dgX3_countOn_0.2.2.2.2.2.2.2.2.2.2.2.2.2.1
theorem dX3_countOn_22 : decode cX3_countOn 22 = .ok (.aload_n 0, 1) := dgX3_countOn_0.2.2.2.2.2.2.2.2.2.2.2.2.2.2.1
theorem dX3_countOn_23 : decode cX3_countOn 23 = .ok (.getfield 34, 3) := dgX3_countOn_0.2.2.2.2.2.2.2.2.2.2.2.2.2.2.2
theorem dgX3_countOn_16 : (decode cX3_countOn 26 = .ok (.iload_n 1, 1)) ∧ (decode cX3_countOn 27 = .ok (.iconst 0, 1)) ∧ (decode cX3_countOn 28 = .ok (.iastore, 1)) ∧ (decode cX3_countOn 29 = .ok (.iinc 1 1, 3)) ∧ (decode cX3_countOn 32 = .ok (.goto (-30), 3)) ∧ (decode cX3_countOn 35 = .ok (.aload_n 0, 1)) ∧ (decode cX3_countOn 36 = .ok (.getfield 34, 3)) ∧ (decode cX3_countOn 39 = .ok (.iload_n 1, 1)) ∧ (decode cX3_countOn 40 = .ok (.dup2, 1)) ∧ (decode cX3_countOn 41 = .ok (.iaload, 1)) ∧ (decode cX3_countOn 42 = .ok (.iconst 1, 1)) ∧ (decode cX3_countOn 43 = .ok (.iadd, 1)) ∧ (decode cX3_countOn 44 = .ok (.iastore, 1)) ∧ (decode cX3_countOn 45 = .ok (.return_, 1)) := by decide +kernel
theorem dX3_countOn_26 : decode cX3_countOn 26 = .ok (.iload_n 1, 1) := dgX3_countOn_16.1
theorem dX3_countOn_27 : decode cX3_countOn 27 = .ok (.iconst 0, 1) := dgX3_countOn_16.2.1
theorem dX3_countOn_28 : decode cX3_countOn 28 = .ok (.iastore, 1) := dgX3_countOn_16.2.2.1
theorem dX3_countOn_29 : decode cX3_countOn 29 = .ok (.iinc 1 1, 3) := dgX3_countOn_16.2.2.2.1
theorem dX3_countOn_32 : decode cX3_countOn 32 = .ok (.goto (-30), 3) := dgX3_countOn_16.2.2.2.2.1
theorem dX3_countOn_35 : decode cX3_countOn 35 = .ok (.aload_n 0, 1) := dgX3_countOn_16.2.2.2.2.2.1
theorem dX3_countOn_36 : decode cX3_countOn 36 = .ok (.getfield 34, 3) := dgX3_countOn_16.2.2.2.2.2.2.1
theorem dX3_countOn_39 : decode cX3_countOn 39 = .ok (.iload_n 1, 1) := dgX3_countOn_16.2.2.2.2.2.2.2.1
theorem dX3_countOn_40 : decode cX3_countOn 40 = .ok (.dup2, 1) := dgX3_countOn_16.2.2.2.2.2.2.2.2.1
theorem dX3_countOn_41 : decode cX3_countOn 41 = .ok (.iaload, 1) := dgX3_countOn_16.2.2.2.2.2.2.2.2.2.1
theorem dX3_countOn_42 : decode cX3_countOn 42 = .ok (.iconst 1, 1) := dgX3_countOn_16.2.2.2.2.2.2.2.2.2.2.1
theorem dX3_countOn_43 : decode cX3_countOn 43 = .ok (.iadd, 1) := dgX3_countOn_16.2.2.2.2.2.2.2.2.2.2.2.1
theorem dX3_countOn_44 : decode cX3_countOn 44 = .ok (.iastore, 1) := dgX3_countOn_16.2.2.2.2.2.2.2.2.2.2.2.2.1
theorem dX3_countOn_45 : decode cX3_countOn 45 = .ok (.return_, 1) := dgX3_countOn_16.2.2.2.2.2.2.2.2.2.2.2.2.2
theorem dgX3_findLeastOf_0 : (decode cX3_findLeastOf 0 = .ok (.iload_n 1, 1)) ∧ (decode cX3_findLeastOf 1 = .ok (.bipush 6, 2)) ∧ (decode cX3_findLeastOf 3 = .ok (.imul, 1)) ∧ (decode cX3_findLeastOf 4 = .ok (.istore_n 3, 1)) ∧ (decode cX3_findLeastOf 5 = .ok (.iconst 0, 1)) ∧ (decode cX3_findLeastOf 6 = .ok (.istore 4, 2)) ∧ (decode cX3_findLeastOf 8 = .ok (.iload 4, 2)) ∧ (decode cX3_findLeastOf 10 = .ok (.bipush 6, 2)) ∧ (decode cX3_findLeastOf 12 = .ok (.if_icmp .ge 20, 3)) ∧ (decode cX3_findLeastOf 15 = .ok (.aload_n 0, 1)) ∧ (decode cX3_findLeastOf 16 = .ok (.getfield 74, 3)) ∧ (decode cX3_findLeastOf 19 = .ok (.iload_n 3, 1)) ∧ (decode cX3_findLeastOf 20 = .ok (.iload 4, 2)) ∧ (decode cX3_findLeastOf 22 = .ok (.iadd, 1)) ∧ (decode cX3_findLeastOf 23 = .ok (.ldc 83, 2)) ∧ (decode cX3_findLeastOf 25 = .ok (.iastore, 1)) := by decide +kernel
theorem dX3_findLeastOf_0 : decode cX3_findLeastOf 0 = .ok (.iload_n 1, 1) := dgX3_findLeastOf_0.1
theorem dX3_findLeastOf_1 : decode cX3_findLeastOf 1 = .ok (.bipush 6, 2) := dgX3_findLeastOf_0.2.1
theorem dX3_findLeastOf_3 : decode cX3_findLeastOf 3 = .ok (.imul, 1) := dgX3_findLeastOf_0.2.2.1
theorem dX3_findLeastOf_4 : decode cX3_findLeastOf 4 = .ok (.istore_n 3, 1) := dgX3_findLeastOf_0.2.2.2.1
theorem dX3_findLeastOf_5 : decode cX3_findLeastOf 5 = .ok (.iconst 0, 1) := dgX3_findLeastOf_0.2.2.2.2.1
theorem dX3_findLeastOf_6 : decode cX3_findLeastOf 6 = .ok (.istore 4, 2) := dgX3_findLeastOf_0.2.2.2.2.2.1
theorem dX3_findLeastOf_8 : decode cX3_findLeastOf 8 = .ok (.iload 4, 2) := dgX3_findLeastOf_0.2.2.2.2.2.2.1
theorem dX3_findLeastOf_10 : decode cX3_findLeastOf 10 = .ok (.bipush 6, 2) := dgX3_findLeastOf_0.2.2.2.2.2.2.2.1
theorem dX3_findLeastOf_12 : decode cX3_findLeastOf 12 = .ok (.if_icmp .ge 20, 3) := dgX3_findLeastOf_0.2.2.2.2.2.2.2.2.1
theorem dX3_findLeastOf_15 : decode cX3_findLeastOf 15 = .ok (.aload_n 0, 1) := dgX3_findLeastOf_0.2.2.2.2.2.2.2.2.2.1
theorem dX3_findLeastOf_16 : decode cX3_findLeastOf 16 = .ok (.getfield 74, 3) := dgX3_findLeastOf_0.2.2.2.2.2.2.2.2.2.2.1
theorem dX3_findLeastOf_19 : decode cX3_findLeastOf 19 = .ok (.iload_n 3, 1) := dgX3_findLeastOf_0.2.2.2.2.2.2.2.2.2.2.2.1
theorem dX3_findLeastOf_20 : decode cX3_findLeastOf 20 = .ok (.iload 4, 2) := dgX3_findLeastOf_0.2.2.2.2.2.2.2.2.2.2.2.2.1
theorem dX3_findLeastOf_22 : decode cX3_findLeastOf 22 = .ok (.iadd, 1) := dgX3_findLeastOf_0.2.2.2.2.2.2.2.2.2.2.2.2.2.1
theorem dX3_findLeastOf_23 : decode cX3_findLeastOf 23 = .ok (.ldc 83, 2) := dgX3_findLeastOf_0.2.2.2.2.2.2.2.2.2.2.2.2.2.2.1
theorem dX3_findLeastOf_25 : decode cX3_findLeastOf 25 = .ok (.iastore, 1) := dgX3_findLeastOf_0.2.2.2.2.2.2.2.2.2.2.2.2.2.2.2
theorem dgX3_findLeastOf_16 : (decode cX3_findLeastOf 26 = .ok (.iinc 4 1, 3)) ∧ (decode cX3_findLeastOf 29 = .ok (.goto (-21), 3)) ∧ (decode cX3_findLeastOf 32 = .ok (.iconst 0, 1)) ∧ (decode cX3_findLeastOf 33 = .ok (.istore 4, 2)) ∧ (decode cX3_findLeastOf 35 = .ok (.iload 4, 2)) ∧ (decode cX3_findLeastOf 37 = .ok (.bipush 6, 2)) ∧ (decode cX3_findLeastOf 39 = .ok (.if_icmp .ge 85, 3)) ∧ (decode cX3_findLeastOf 42 = .ok (.aload_n 0, 1)) ∧ (decode cX3_findLeastOf 43 = .ok (.iload 4, 2)) ∧ (decode cX3_findLeastOf 45 = .ok (.iload_n 2, 1)) ∧ (decode cX3_findLeastOf 46 = .ok (.invokevirtual 84, 3)) ∧ (decode cX3_findLeastOf 49 = .ok (.ifCond .eq 69, 3)) ∧ (decode cX3_findLeastOf 52 = .ok (.aload_n 0, 1)) ∧ (decode cX3_findLeastOf 53 = .ok (.iload_n 1, 1)) ∧ (decode cX3_findLeastOf 54 = .ok (.iload 4, 2)) ∧ (decode cX3_findLeastOf 56 = .ok (.invokevirtual 88, 3)) := by decide +kernel
theorem dX3_findLeastOf_26 : decode cX3_findLeastOf 26 = .ok (.iinc 4 1, 3) := dgX3_findLeastOf_16.1
theorem dX3_findLeastOf_29 : decode cX3_findLeastOf 29 = .ok (.goto (-21), 3) := dgX3_findLeastOf_16.2.1
theorem dX3_findLeastOf_32 : decode cX3_findLeastOf 32 = .ok (.iconst 0, 1) := dgX3_findLeastOf_16.2.2.1
theorem dX3_findLeastOf_33 : decode cX3_findLeastOf 33 = .ok (.istore 4, 2) := dgX3_findLeastOf_16.2.2.2.1
theorem dX3_findLeastOf_35 : decode cX3_findLeastOf 35 = .ok (.iload 4, 2) := dgX3_findLeastOf_16.2.2.2.2.1
theorem dX3_findLeastOf_37 : decode cX3_findLeastOf 37 = .ok (.bipush 6, 2) := dgX3_findLeastOf_16.2.2.2.2.2.1
theorem dX3_findLeastOf_39 : decode cX3_findLeastOf 39 = .ok (.if_icmp .ge 85, 3) := dgX3_findLeastOf_16.2.2.2.2.2.2.1
theorem dX3_findLeastOf_42 : decode cX3_findLeastOf 42 = .ok (.aload_n 0, 1) := dgX3_findLeastOf_16.2.2.2.2.2.2.2.1
theorem dX3_findLeastOf_43 : decode cX3_findLeastOf 43 = .ok (.iload 4, 2) := dgX3_findLeastOf_16.2.2.2.2.2.2.2.2.1
theorem dX3_findLeastOf_45 : decode cX3_findLeastOf 45 = .ok (.iload_n 2, 1) := dgX3_findLeastOf_16.2.2.2.2.2.2.2.2.2.1
theorem dX3_findLeastOf_46 : decode cX3_findLeastOf 46 = .ok (.invokevirtual 84, 3) := dgX3_findLeastOf_16.2.2.2.2.2.2.2.2.2.2.1
theorem dX3_findLeastOf_49 : decode cX3_findLeastOf 49 = .ok (.ifCond .eq 69, 3) := dgX3_findLeastOf_16.2.2.2.2.2.2.2.2.2.2.2.1
theorem dX3_findLeastOf_52 : decode cX3_findLeastOf 52 = .ok (.aload_n 0, 1) := dgX3_findLeastOf_16.2.2.2.2.2.2.2.2.2.2.2.2.1
theorem dX3_findLeastOf_53 : decode cX3_findLeastOf 53 = .ok (.iload_n 1, 1) := dgX3_findLeastOf_16.2.2.2.2.2.2.2.2.2.2.2.2.2.1
theorem dX3_findLeastOf_54 : decode cX3_findLeastOf 54 = .ok (.iload 4, 2) := dgX3_findLeastOf_16.2.2.2.2.2.2.2.2.2.2.2.2.2.2.1
theorem dX3_findLeastOf_56 : decode cX3_findLeastOf 56 = .ok (.invokevirtual 88, 3) := dgX3_findLeastOf_16.2.2.2.2.2.2.2.2.2.2.2.2.2.2.2
theorem dgX3_findLeastOf_32 : (decode cX3_findLeastOf 59 = .ok (.istore 5, 2)) ∧ (decode cX3_findLeastOf 61 = .ok (.iconst 0, 1)) ∧ (decode cX3_findLeastOf 62 = .ok (.istore 6, 2)) ∧ (decode cX3_findLeastOf 64 = .ok (.iload 6, 2)) ∧ (decode cX3_findLeastOf 66 = .ok (.bipush 6, 2)) ∧ (decode cX3_findLeastOf 68 = .ok (.if_icmp .ge 50, 3)) ∧ (decode cX3_findLeastOf 71 = .ok (.aload_n 0, 1)) ∧ (decode cX3_findLeastOf 72 = .ok (.getfield 9, 3)) ∧ (decode cX3_findLeastOf 75 = .ok (.iload 6, 2)) ∧ (decode cX3_findLeastOf 77 = .ok (.bipush 6, 2)) ∧ (decode cX3_findLeastOf 79 = .ok (.imul, 1)) ∧ (decode cX3_findLeastOf 80 = .ok (.iload 4, 2)) ∧ (decode cX3_findLeastOf 82 = .ok (.iadd, 1)) ∧ (decode cX3_findLeastOf 83 = .ok (.iaload, 1)) ∧ (decode cX3_findLeastOf 84 = .ok (.iload 5, 2)) ∧ (decode cX3_findLeastOf 86 = .ok (.iadd, 1)) := by decide +kernel
theorem dX3_findLeastOf_59 : decode cX3_findLeastOf 59 = .ok (.istore 5, 2) := dgX3_findLeastOf_32.1
theorem dX3_findLeastOf_61 : decode cX3_findLeastOf 61 = .ok (.iconst 0, 1) := dgX3_findLeastOf_32.2.1
theorem dX3_findLeastOf_62 : decode cX3_findLeastOf 62 = .ok (.istore 6, 2) := dgX3_findLeastOf_32.2.2.1
theorem dX3_findLeastOf_64 : decode cX3_findLeastOf 64 = .ok (.iload 6, 2) := dgX3_findLeastOf_32.2.2.2.1
theorem dX3_findLeastOf_66 : decode cX3_findLeastOf 66 = .ok (.bipush 6, 2) := dgX3_findLeastOf_32.2.2.2.2.1
theorem dX3_findLeastOf_68 : decode cX3_findLeastOf 68 = .ok (.if_icmp .ge 50, 3) := dgX3_findLeastOf_32.2.2.2.2.2.1
theorem dX3_findLeastOf_71 : decode cX3_findLeastOf 71 = .ok (.aload_n 0, 1) := dgX3_findLeastOf_32.2.2.2.2.2.2.1
theorem dX3_findLeastOf_72 : decode cX3_findLeastOf 72 = .ok (.getfield 9, 3) := dgX3_findLeastOf_32.2.2.2.2.2.2.2.1
theorem dX3_findLeastOf_75 : decode cX3_findLeastOf 75 = .ok (.iload 6, 2) := dgX3_findLeastOf_32.2.2.2.2.2.2.2.2.1
theorem dX3_findLeastOf_77 : decode cX3_findLeastOf 77 = .ok (.bipush 6, 2) := dgX3_findLeastOf_32.2.2.2.2.2.2.2.2.2.1
theorem dX3_findLeastOf_79 : decode cX3_findLeastOf 79 = .ok (.imul, 1) := dgX3_findLeastOf_32.2.2.2.2.2.2.2.2.2.2.1
theorem dX3_findLeastOf_80 : decode cX3_findLeastOf 80 = .ok (.iload 4, 2) := dgX3_findLeastOf_32.2.2.2.2.2.2.2.2.2.2.2.1
theorem dX3_findLeastOf_82 : decode cX3_findLeastOf 82 = .ok (.iadd, 1) := dgX3_findLeastOf_32.2.2.2.2.2.2.2.2.2.2.2.2.1
theorem dX3_findLeastOf_83 : decode cX3_findLeastOf 83 = .ok (.iaload, 1) := dgX3_findLeastOf_32.2.2.2.2.2.2.2.2.2.2.2.2.2.1
theorem dX3_findLeastOf_84 : decode cX3_findLeastOf 84 = .ok (.iload 5, 2) := dgX3_findLeastOf_32.2.2.2.2.2.2.2.2.2.2.2.2.2.2.1
theorem dX3_findLeastOf_86 : decode cX3_findLeastOf 86 = .ok (.iadd, 1) := dgX3_findLeastOf_32.2.2.2.2.2.2.2.2.2.2.2.2.2.2.2
theorem dgX3_findLeastOf_48 : (decode cX3_findLeastOf 87 = .ok (.istore 7, 2)) ∧ (decode cX3_findLeastOf 89 = .ok (.aload_n 0, 1)) ∧ (decode cX3_findLeastOf 90 = .ok (.getfield 74, 3)) ∧ (decode cX3_findLeastOf 93 = .ok (.iload_n 3, 1)) ∧ (decode cX3_findLeastOf 94 = .ok (.iload 6, 2)) ∧ (decode cX3_findLeastOf 96 = .ok (.iadd, 1)) ∧ (decode cX3_findLeastOf 97 = .ok (.aload_n 0, 1)) ∧ (decode cX3_findLeastOf 98 = .ok (.getfield 74, 3)) ∧ (decode cX3_findLeastOf 101 = .ok (.iload_n 3, 1)) ∧ (decode cX3_findLeastOf 102 = .ok (.iload 6, 2)) ∧ (decode cX3_findLeastOf 104 = .ok (.iadd, 1)) ∧ (decode cX3_findLeastOf 105 = .ok (.iaload, 1)) ∧ (decode cX3_findLeastOf 106 = .ok (.iload 7, 2)) ∧ (decode cX3_findLeastOf 108 = .ok (.invokestatic 68, 3)) ∧ (decode cX3_findLeastOf 111 = .ok (.iastore, 1)) ∧ (decode cX3_findLeastOf 112 = .ok (.iinc 6 1, 3)) := by decide +kernel
theorem dX3_findLeastOf_87 : decode cX3_findLeastOf 87 = .ok (.istore 7, 2) := dgX3_findLeastOf_48.1
theorem dX3_findLeastOf_89 : decode cX3_findLeastOf 89 = .ok (.aload_n 0, 1) := dgX3_findLeastOf_48.2.1
theorem dX3_findLeastOf_90 : decode cX3_findLeastOf 90 = .ok (.getfield 74, 3) := dgX3_findLeastOf_48.2.2.1
theorem dX3_findLeastOf_93 : decode cX3_findLeastOf 93 = .ok (.iload_n 3, 1) := dgX3_findLeastOf_48.2.2.2.1
theorem dX3_findLeastOf_94 : decode cX3_findLeastOf 94 = .ok (.iload 6, 2) := dgX3_findLeastOf_48.2.2.2.2.1
theorem dX3_findLeastOf_96 : decode cX3_findLeastOf 96 = .ok (.iadd, 1) := dgX3_findLeastOf_48.2.2.2.2.2.1
theorem dX3_findLeastOf_97 : decode cX3_findLeastOf 97 = .ok (.aload_n 0, 1) := dgX3_findLeastOf_48.2.2.2.2.2.2.1
theorem dX3_findLeastOf_98 : decode cX3_findLeastOf 98 = .ok (.getfield 74, 3) := dgX3_findLeastOf_48.2.2.2.2.2.2.2.1
theorem dX3_findLeastOf_101 : decode cX3_findLeastOf 101 = .ok (.iload_n 3, 1) := dgX3_findLeastOf_48.2.2.2.2.2.2.2.2.1
theorem dX3_findLeastOf_102 : decode cX3_findLeastOf 102 = .ok (.iload 6, 2) := dgX3_findLeastOf_48.2.2.2.2.2.2.2.2.2.1
theorem dX3_findLeastOf_104 : decode cX3_findLeastOf 104 = .ok (.iadd, 1) := dgX3_findLeastOf_48.2.2.2.2.2.2.2.2.2.2.1
theorem dX3_findLeastOf_105 : decode cX3_findLeastOf 105 = .ok (.iaload, 1) := dgX3_findLeastOf_48.2.2.2.2.2.2.2.2.2.2.2.1
theorem dX3_findLeastOf_106 : decode cX3_findLeastOf 106 = .ok (.iload 7, 2) := dgX3_findLeastOf_48.2.2.2.2.2.2.2.2.2.2.2.2.1
theorem dX3_findLeastOf_108 : decode cX3_findLeastOf 108 = .ok (.invokestatic 68, 3) := dgX3_findLeastOf_48.2.2.2.2.2.2.2.2.2.2.2.2.2.1
theorem dX3_findLeastOf_111 : decode cX3_findLeastOf 111 = .ok (.iastore, 1) := dgX3_findLeastOf_48.2.2.2.2.2.2.2.2.2.2.2.2.2.2.1
theorem dX3_findLeastOf_112 : decode cX3_findLeastOf 112 = .ok (.iinc 6 1, 3) := dgX3_findLeastOf_48.2.2.2.2.2.2.2.2.2.2.2.2.2.2.2
theorem dgX3_findLeastOf_64 : (decode cX3_findLeastOf 115 = .ok (.goto (-51), 3)) ∧ (decode cX3_findLeastOf 118 = .ok (.iinc 4 1, 3)) ∧ (decode cX3_findLeastOf 121 = .ok (.goto (-86), 3)) ∧ (decode cX3_findLeastOf 124 = .ok (.return_, 1)) := by decide +kernel
theorem dX3_findLeastOf_115 : decode cX3_findLeastOf 115 = .ok (.goto (-51), 3) := dgX3_findLeastOf_64.1
theorem dX3_findLeastOf_118 : decode cX3_findLeastOf 118 = .ok (.iinc 4 1, 3) := dgX3_findLeastOf_64.2.1
theorem dX3_findLeastOf_121 : decode cX3_findLeastOf 121 = .ok (.goto (-86), 3) := dgX3_findLeastOf_64.2.2.1
theorem dX3_findLeastOf_124 : decode cX3_findLeastOf 124 = .ok (.return_, 1) := dgX3_findLeastOf_64.2.2.2
theorem dgX3_leastOnce_0 : (decode cX3_leastOnce 0 = .ok (.iload_n 1, 1)) ∧ (decode cX3_leastOnce 1 = .ok (.aload_n 0, 1)) ∧ (decode cX3_leastOnce 2 = .ok (.getfield 31, 3)) ∧ (decode cX3_leastOnce 5 = .ok (.iload_n 2, 1)) ∧ (decode cX3_leastOnce 6 = .ok (.iaload, 1)) ∧ (decode cX3_leastOnce 7 = .ok (.isub, 1)) ∧ (decode cX3_leastOnce 8 = .ok (.istore_n 3, 1)) ∧ (decode cX3_leastOnce 9 = .ok (.iload_n 3, 1)) ∧ (decode cX3_leastOnce 10 = .ok (.ifCond .lt 17, 3)) ∧ (decode cX3_leastOnce 13 = .ok (.aload_n 0, 1)) ∧ (decode cX3_leastOnce 14 = .ok (.getfield 74, 3)) ∧ (decode cX3_leastOnce 17 = .ok (.iload_n 3, 1)) ∧ (decode cX3_leastOnce 18 = .ok (.bipush 6, 2)) ∧ (decode cX3_leastOnce 20 = .ok (.imul, 1)) ∧ (decode cX3_leastOnce 21 = .ok (.iload_n 2, 1)) ∧ (decode cX3_leastOnce 22 = .ok (.iadd, 1)) := by decide +kernel
theorem dX3_leastOnce_0 : decode cX3_leastOnce 0 = .ok (.iload_n 1, 1) := dgX3_leastOnce_0.1
theorem dX3_leastOnce_1 : decode cX3_leastOnce 1 = .ok (.aload_n 0, 1) := dgX3_leastOnce_0.2.1
theorem dX3_leastOnce_2 : decode cX3_leastOnce 2 = .ok (.getfield 31, 3) := dgX3_leastOnce_0.2.2.1
theorem dX3_leastOnce_5 : decode cX3_leastOnce 5 = .ok (.iload_n 2, 1) := dgX3_leastOnce_0.2.2.2.1
theorem dX3_leastOnce_6 : decode cX3_leastOnce 6 = .ok (.iaload, 1) := dgX3_leastOnce_0.2.2.2.2.1
theorem dX3_leastOnce_7 : decode cX3_leastOnce 7 = .ok (.isub, 1) := dgX3_leastOnce_0.2.2.2.2.2.1
theorem dX3_leastOnce_8 : decode cX3_leastOnce 8 = .ok (.istore_n 3, 1) := dgX3_leastOnce_0.2.2.2.2.2.2.1
theorem dX3_leastOnce_9 : decode cX3_leastOnce 9 = .ok (.iload_n 3, 1) := dgX3_leastOnce_0.2.2.2.2.2.2.2.1
theorem dX3_leastOnce_10 : decode cX3_leastOnce 10 = .ok (.ifCond .lt 17, 3) := dgX3_leastOnce_0.2.2.2.2.2.2.2.2.1
theorem dX3_leastOnce_13 : decode cX3_leastOnce 13 = .ok (.aload_n 0, 1) := dgX3_leastOnce_0.2.2.2.2.2.2.2.2.2.1
theorem dX3_leastOnce_14 : decode cX3_leastOnce 14 = .ok (.getfield 74, 3) := dgX3_leastOnce_0.2.2.2.2.2.2.2.2.2.2.1
theorem dX3_leastOnce_17 : decode cX3_leastOnce 17 = .ok (.iload_n 3, 1) := dgX3_leastOnce_0.2.2.2.2.2.2.2.2.2.2.2.1
theorem dX3_leastOnce_18 : decode cX3_leastOnce 18 = .ok (.bipush 6, 2) := dgX3_leastOnce_0.2.2.2.2.2.2.2.2.2.2.2.2.1
theorem dX3_leastOnce_20 : decode cX3_leastOnce 20 = .ok (.imul, 1) := dgX3_leastOnce_0.2.2.2.2.2.2.2.2.2.2.2.2.2.1
theorem dX3_leastOnce_21 : decode cX3_leastOnce 21 = .ok (.iload_n 2, 1) := dgX3_leastOnce_0.2.2.2.2.2.2.2.2.2.2.2.2.2.2.1
theorem dX3_leastOnce_22 : decode cX3_leastOnce 22 = .ok (.iadd, 1) := dgX3_leastOnce_0.2.2.2.2.2.2.2.2.2.2.2.2.2.2.2
theorem dgX3_leastOnce_16 : (decode cX3_leastOnce 23 = .ok (.iaload, 1)) ∧ (decode cX3_leastOnce 24 = .ok (.goto 4, 3)) ∧ (decode cX3_leastOnce 27 = .ok (.iconst 0, 1)) ∧ (decode cX3_leastOnce 28 = .ok (.ireturn, 1)) := by decide +kernel
theorem dX3_leastOnce_23 : decode cX3_leastOnce 23 = .ok (.iaload, 1) := dgX3_leastOnce_16.1
theorem dX3_leastOnce_24 : decode cX3_leastOnce 24 = .ok (.goto 4, 3) := dgX3_leastOnce_16.2.1
theorem dX3_leastOnce_27 : decode cX3_leastOnce 27 = .ok (.iconst 0, 1) := dgX3_leastOnce_16.2.2.1
theorem dX3_leastOnce_28 : decode cX3_leastOnce 28 = .ok (.ireturn, 1) := dgX3_leastOnce_16.2.2.2
theorem dgX3_mayCome_0 : (decode cX3_mayCome 0 = .ok (.aload_n 0, 1)) ∧ (decode cX3_mayCome 1 = .ok (.getfield 34, 3)) ∧ (decode cX3_mayCome 4 = .ok (.iload_n 1, 1)) ∧ (decode cX3_mayCome 5 = .ok (.iaload, 1)) ∧ (decode cX3_mayCome 6 = .ok (.ifCond .gt 5, 3)) ∧ (decode cX3_mayCome 9 = .ok (.iconst 0, 1)) ∧ (decode cX3_mayCome 10 = .ok (.ireturn, 1)) ∧ (decode cX3_mayCome 11 = .ok (.iload_n 1, 1)) ∧ (decode cX3_mayCome 12 = .ok (.iconst 4, 1)) ∧ (decode cX3_mayCome 13 = .ok (.if_icmp .ne 14, 3)) ∧ (decode cX3_mayCome 16 = .ok (.iload_n 2, 1)) ∧ (decode cX3_mayCome 17 = .ok (.ifCond .eq 10, 3)) ∧ (decode cX3_mayCome 20 = .ok (.aload_n 0, 1)) ∧ (decode cX3_mayCome 21 = .ok (.invokevirtual 91, 3)) ∧ (decode cX3_mayCome 24 = .ok (.ifCond .eq 7, 3)) ∧ (decode cX3_mayCome 27 = .ok (.iconst 1, 1)) := by decide +kernel
theorem dX3_mayCome_0 : decode cX3_mayCome 0 = .ok (.aload_n 0, 1) := dgX3_mayCome_0.1
theorem dX3_mayCome_1 : decode cX3_mayCome 1 = .ok (.getfield 34, 3) := dgX3_mayCome_0.2.1
theorem dX3_mayCome_4 : decode cX3_mayCome 4 = .ok (.iload_n 1, 1) := dgX3_mayCome_0.2.2.1
theorem dX3_mayCome_5 : decode cX3_mayCome 5 = .ok (.iaload, 1) := dgX3_mayCome_0.2.2.2.1
theorem dX3_mayCome_6 : decode cX3_mayCome 6 = .ok (.ifCond .gt 5, 3) := dgX3_mayCome_0.2.2.2.2.1
theorem dX3_mayCome_9 : decode cX3_mayCome 9 = .ok (.iconst 0, 1) := dgX3_mayCome_0.2.2.2.2.2.1
theorem dX3_mayCome_10 : decode cX3_mayCome 10 = .ok (.ireturn, 1) := dgX3_mayCome_0.2.2.2.2.2.2.1
theorem dX3_mayCome_11 : decode cX3_mayCome 11 = .ok (.iload_n 1, 1) := dgX3_mayCome_0.2.2.2.2.2.2.2.1
theorem dX3_mayCome_12 : decode cX3_mayCome 12 = .ok (.iconst 4, 1) := dgX3_mayCome_0.2.2.2.2.2.2.2.2.1
theorem dX3_mayCome_13 : decode cX3_mayCome 13 = .ok (.if_icmp .ne 14, 3) := dgX3_mayCome_0.2.2.2.2.2.2.2.2.2.1
theorem dX3_mayCome_16 : decode cX3_mayCome 16 = .ok (.iload_n 2, 1) := dgX3_mayCome_0.2.2.2.2.2.2.2.2.2.2.1
theorem dX3_mayCome_17 : decode cX3_mayCome 17 = .ok (.ifCond .eq 10, 3) := dgX3_mayCome_0.2.2.2.2.2.2.2.2.2.2.2.1
theorem dX3_mayCome_20 : decode cX3_mayCome 20 = .ok (.aload_n 0, 1) := dgX3_mayCome_0.2.2.2.2.2.2.2.2.2.2.2.2.1
theorem dX3_mayCome_21 : decode cX3_mayCome 21 = .ok (.invokevirtual 91, 3) := dgX3_mayCome_0.2.2.2.2.2.2.2.2.2.2.2.2.2.1
theorem dX3_mayCome_24 : decode cX3_mayCome 24 = .ok (.ifCond .eq 7, 3) := dgX3_mayCome_0.2.2.2.2.2.2.2.2.2.2.2.2.2.2.1
theorem dX3_mayCome_27 : decode cX3_mayCome 27 = .ok (.iconst 1, 1) := dgX3_mayCome_0.2.2.2.2.2.2.2.2.2.2.2.2.2.2.2
theorem dgX3_mayCome_16 : (decode cX3_mayCome 28 = .ok (.goto 4, 3)) ∧ (decode cX3_mayCome 31 = .ok (.iconst 0, 1)) ∧ (decode cX3_mayCome 32 = .ok (.ireturn, 1)) := by decide +kernel
theorem dX3_mayCome_28 : decode cX3_mayCome 28 = .ok (.goto 4, 3) := dgX3_mayCome_16.1
theorem dX3_mayCome_31 : decode cX3_mayCome 31 = .ok (.iconst 0, 1) := dgX3_mayCome_16.2.1
theorem dX3_mayCome_32 : decode cX3_mayCome 32 = .ok (.ireturn, 1) := dgX3_mayCome_16.2.2
theorem dgX3_onlyNutsWait_0 : (decode cX3_onlyNutsWait 0 = .ok (.iconst 0, 1)) ∧ (decode cX3_onlyNutsWait 1 = .ok (.istore_n 1, 1)) ∧ (decode cX3_onlyNutsWait 2 = .ok (.iload_n 1, 1)) ∧ (decode cX3_onlyNutsWait 3 = .ok (.bipush 6, 2)) ∧ (decode cX3_onlyNutsWait 5 = .ok (.if_icmp .ge 25, 3)) ∧ (decode cX3_onlyNutsWait 8 = .ok (.iload_n 1, 1)) ∧ (decode cX3_onlyNutsWait 9 = .ok (.iconst 4, 1)) ∧ (decode cX3_onlyNutsWait 10 = .ok (.if_icmp .eq 14, 3)) ∧ (decode cX3_onlyNutsWait 13 = .ok (.aload_n 0, 1)) ∧ (decode cX3_onlyNutsWait 14 = .ok (.getfield 34, 3)) ∧ (decode cX3_onlyNutsWait 17 = .ok (.iload_n 1, 1)) ∧ (decode cX3_onlyNutsWait 18 = .ok (.iaload, 1)) ∧ (decode cX3_onlyNutsWait 19 = .ok (.ifCond .le 5, 3)) ∧ (decode cX3_onlyNutsWait 22 = .ok (.iconst 0, 1)) ∧ (decode cX3_onlyNutsWait 23 = .ok (.ireturn, 1)) ∧ (decode cX3_onlyNutsWait 24 = .ok (.iinc 1 1, 3)) := by decide +kernel
theorem dX3_onlyNutsWait_0 : decode cX3_onlyNutsWait 0 = .ok (.iconst 0, 1) := dgX3_onlyNutsWait_0.1
theorem dX3_onlyNutsWait_1 : decode cX3_onlyNutsWait 1 = .ok (.istore_n 1, 1) := dgX3_onlyNutsWait_0.2.1
theorem dX3_onlyNutsWait_2 : decode cX3_onlyNutsWait 2 = .ok (.iload_n 1, 1) := dgX3_onlyNutsWait_0.2.2.1
theorem dX3_onlyNutsWait_3 : decode cX3_onlyNutsWait 3 = .ok (.bipush 6, 2) := dgX3_onlyNutsWait_0.2.2.2.1
theorem dX3_onlyNutsWait_5 : decode cX3_onlyNutsWait 5 = .ok (.if_icmp .ge 25, 3) := dgX3_onlyNutsWait_0.2.2.2.2.1
theorem dX3_onlyNutsWait_8 : decode cX3_onlyNutsWait 8 = .ok (.iload_n 1, 1) := dgX3_onlyNutsWait_0.2.2.2.2.2.1
theorem dX3_onlyNutsWait_9 : decode cX3_onlyNutsWait 9 = .ok (.iconst 4, 1) := dgX3_onlyNutsWait_0.2.2.2.2.2.2.1
theorem dX3_onlyNutsWait_10 : decode cX3_onlyNutsWait 10 = .ok (.if_icmp .eq 14, 3) := dgX3_onlyNutsWait_0.2.2.2.2.2.2.2.1
theorem dX3_onlyNutsWait_13 : decode cX3_onlyNutsWait 13 = .ok (.aload_n 0, 1) := dgX3_onlyNutsWait_0.2.2.2.2.2.2.2.2.1
theorem dX3_onlyNutsWait_14 : decode cX3_onlyNutsWait 14 = .ok (.getfield 34, 3) := dgX3_onlyNutsWait_0.2.2.2.2.2.2.2.2.2.1
theorem dX3_onlyNutsWait_17 : decode cX3_onlyNutsWait 17 = .ok (.iload_n 1, 1) := dgX3_onlyNutsWait_0.2.2.2.2.2.2.2.2.2.2.1
theorem dX3_onlyNutsWait_18 : decode cX3_onlyNutsWait 18 = .ok (.iaload, 1) := dgX3_onlyNutsWait_0.2.2.2.2.2.2.2.2.2.2.2.1
theorem dX3_onlyNutsWait_19 : decode cX3_onlyNutsWait 19 = .ok (.ifCond .le 5, 3) := dgX3_onlyNutsWait_0.2.2.2.2.2.2.2.2.2.2.2.2.1
theorem dX3_onlyNutsWait_22 : decode cX3_onlyNutsWait 22 = .ok (.iconst 0, 1) := dgX3_onlyNutsWait_0.2.2.2.2.2.2.2.2.2.2.2.2.2.1
theorem dX3_onlyNutsWait_23 : decode cX3_onlyNutsWait 23 = .ok (.ireturn, 1) := dgX3_onlyNutsWait_0.2.2.2.2.2.2.2.2.2.2.2.2.2.2.1
theorem dX3_onlyNutsWait_24 : decode cX3_onlyNutsWait 24 = .ok (.iinc 1 1, 3) := dgX3_onlyNutsWait_0.2.2.2.2.2.2.2.2.2.2.2.2.2.2.2
theorem dgX3_onlyNutsWait_16 : (decode cX3_onlyNutsWait 27 = .ok (.goto (-25), 3)) ∧ (decode cX3_onlyNutsWait 30 = .ok (.iconst 1, 1)) ∧ (decode cX3_onlyNutsWait 31 = .ok (.ireturn, 1)) := by decide +kernel
theorem dX3_onlyNutsWait_27 : decode cX3_onlyNutsWait 27 = .ok (.goto (-25), 3) := dgX3_onlyNutsWait_16.1
theorem dX3_onlyNutsWait_30 : decode cX3_onlyNutsWait 30 = .ok (.iconst 1, 1) := dgX3_onlyNutsWait_16.2.1
theorem dX3_onlyNutsWait_31 : decode cX3_onlyNutsWait 31 = .ok (.ireturn, 1) := dgX3_onlyNutsWait_16.2.2
theorem dgX3_followLeast_0 : (decode cX3_followLeast 0 = .ok (.aload_n 0, 1)) ∧ (decode cX3_followLeast 1 = .ok (.getfield 28, 3)) ∧ (decode cX3_followLeast 4 = .ok (.iconst 0, 1)) ∧ (decode cX3_followLeast 5 = .ok (.aload_n 0, 1)) ∧ (decode cX3_followLeast 6 = .ok (.getfield 34, 3)) ∧ (decode cX3_followLeast 9 = .ok (.iconst 0, 1)) ∧ (decode cX3_followLeast 10 = .ok (.bipush 6, 2)) ∧ (decode cX3_followLeast 12 = .ok (.invokestatic 95, 3)) ∧ (decode cX3_followLeast 15 = .ok (.iconst 0, 1)) ∧ (decode cX3_followLeast 16 = .ok (.istore_n 3, 1)) ∧ (decode cX3_followLeast 17 = .ok (.iload_n 3, 1)) ∧ (decode cX3_followLeast 18 = .ok (.aload_n 0, 1)) ∧ (decode cX3_followLeast 19 = .ok (.getfield 41, 3)) ∧ (decode cX3_followLeast 22 = .ok (.if_icmp .ge 16, 3)) ∧ (decode cX3_followLeast 25 = .ok (.aload_n 0, 1)) ∧ (decode cX3_followLeast 26 = .ok (.getfield 24, 3)) := by decide +kernel
theorem dX3_followLeast_0 : decode cX3_followLeast 0 = .ok (.aload_n 0, 1) := dgX3_followLeast_0.1
theorem dX3_followLeast_1 : decode cX3_followLeast 1 = .ok (.getfield 28, 3) := dgX3_followLeast_0.2.1
theorem dX3_followLeast_4 : decode cX3_followLeast 4 = .ok (.iconst 0, 1) := dgX3_followLeast_0.2.2.1
theorem dX3_followLeast_5 : decode cX3_followLeast 5 = .ok (.aload_n 0, 1) := dgX3_followLeast_0.2.2.2.1
theorem dX3_followLeast_6 : decode cX3_followLeast 6 = .ok (.getfield 34, 3) := dgX3_followLeast_0.2.2.2.2.1
theorem dX3_followLeast_9 : decode cX3_followLeast 9 = .ok (.iconst 0, 1) := dgX3_followLeast_0.2.2.2.2.2.1
theorem dX3_followLeast_10 : decode cX3_followLeast 10 = .ok (.bipush 6, 2) := dgX3_followLeast_0.2.2.2.2.2.2.1
theorem dX3_followLeast_12 : decode cX3_followLeast 12 = .ok (.invokestatic 95, 3) := dgX3_followLeast_0.2.2.2.2.2.2.2.1
theorem dX3_followLeast_15 : decode cX3_followLeast 15 = .ok (.iconst 0, 1) := dgX3_followLeast_0.2.2.2.2.2.2.2.2.1
theorem dX3_followLeast_16 : decode cX3_followLeast 16 = .ok (.istore_n 3, 1) := dgX3_followLeast_0.2.2.2.2.2.2.2.2.2.1
theorem dX3_followLeast_17 : decode cX3_followLeast 17 = .ok (.iload_n 3, 1) := dgX3_followLeast_0.2.2.2.2.2.2.2.2.2.2.1
theorem dX3_followLeast_18 : decode cX3_followLeast 18 = .ok (.aload_n 0, 1) := dgX3_followLeast_0.2.2.2.2.2.2.2.2.2.2.2.1
theorem dX3_followLeast_19 : decode cX3_followLeast 19 = .ok (.getfield 41, 3) := dgX3_followLeast_0.2.2.2.2.2.2.2.2.2.2.2.2.1
theorem dX3_followLeast_22 : decode cX3_followLeast 22 = .ok (.if_icmp .ge 16, 3) := dgX3_followLeast_0.2.2.2.2.2.2.2.2.2.2.2.2.2.1
theorem dX3_followLeast_25 : decode cX3_followLeast 25 = .ok (.aload_n 0, 1) := dgX3_followLeast_0.2.2.2.2.2.2.2.2.2.2.2.2.2.2.1
theorem dX3_followLeast_26 : decode cX3_followLeast 26 = .ok (.getfield 24, 3) := dgX3_followLeast_0.2.2.2.2.2.2.2.2.2.2.2.2.2.2.2
theorem dgX3_followLeast_16 : (decode cX3_followLeast 29 = .ok (.iload_n 3, 1)) ∧ (decode cX3_followLeast 30 = .ok (.iconst 0, 1)) ∧ (decode cX3_followLeast 31 = .ok (.bastore, 1)) ∧ (decode cX3_followLeast 32 = .ok (.iinc 3 1, 3)) ∧ (decode cX3_followLeast 35 = .ok (.goto (-18), 3)) ∧ (decode cX3_followLeast 38 = .ok (.iload_n 1, 1)) ∧ (decode cX3_followLeast 39 = .ok (.istore_n 3, 1)) ∧ (decode cX3_followLeast 40 = .ok (.iconst (-1), 1)) ∧ (decode cX3_followLeast 41 = .ok (.istore 4, 2)) ∧ (decode cX3_followLeast 43 = .ok (.iconst 0, 1)) ∧ (decode cX3_followLeast 44 = .ok (.istore 5, 2)) ∧ (decode cX3_followLeast 46 = .ok (.iload 5, 2)) ∧ (decode cX3_followLeast 48 = .ok (.aload_n 0, 1)) ∧ (decode cX3_followLeast 49 = .ok (.getfield 41, 3)) ∧ (decode cX3_followLeast 52 = .ok (.if_icmp .ge 107, 3)) ∧ (decode cX3_followLeast 55 = .ok (.aload_n 0, 1)) := by decide +kernel
theorem dX3_followLeast_29 : decode cX3_followLeast 29 = .ok (.iload_n 3, 1) := dgX3_followLeast_16.1
theorem dX3_followLeast_30 : decode cX3_followLeast 30 = .ok (.iconst 0, 1) := dgX3_followLeast_16.2.1
theorem dX3_followLeast_31 : decode cX3_followLeast 31 = .ok (.bastore, 1) := dgX3_followLeast_16.2.2.1
theorem dX3_followLeast_32 : decode cX3_followLeast 32 = .ok (.iinc 3 1, 3) := dgX3_followLeast_16.2.2.2.1
theorem dX3_followLeast_35 : decode cX3_followLeast 35 = .ok (.goto (-18), 3) := dgX3_followLeast_16.2.2.2.2.1
theorem dX3_followLeast_38 : decode cX3_followLeast 38 = .ok (.iload_n 1, 1) := dgX3_followLeast_16.2.2.2.2.2.1
theorem dX3_followLeast_39 : decode cX3_followLeast 39 = .ok (.istore_n 3, 1) := dgX3_followLeast_16.2.2.2.2.2.2.1
theorem dX3_followLeast_40 : decode cX3_followLeast 40 = .ok (.iconst (-1), 1) := dgX3_followLeast_16.2.2.2.2.2.2.2.1
theorem dX3_followLeast_41 : decode cX3_followLeast 41 = .ok (.istore 4, 2) := dgX3_followLeast_16.2.2.2.2.2.2.2.2.1
theorem dX3_followLeast_43 : decode cX3_followLeast 43 = .ok (.iconst 0, 1) := dgX3_followLeast_16.2.2.2.2.2.2.2.2.2.1
theorem dX3_followLeast_44 : decode cX3_followLeast 44 = .ok (.istore 5, 2) := dgX3_followLeast_16.2.2.2.2.2.2.2.2.2.2.1
theorem dX3_followLeast_46 : decode cX3_followLeast 46 = .ok (.iload 5, 2) := dgX3_followLeast_16.2.2.2.2.2.2.2.2.2.2.2.1
theorem dX3_followLeast_48 : decode cX3_followLeast 48 = .ok (.aload_n 0, 1) := dgX3_followLeast_16.2.2.2.2.2.2.2.2.2.2.2.2.1
theorem dX3_followLeast_49 : decode cX3_followLeast 49 = .ok (.getfield 41, 3) := dgX3_followLeast_16.2.2.2.2.2.2.2.2.2.2.2.2.2.1
theorem dX3_followLeast_52 : decode cX3_followLeast 52 = .ok (.if_icmp .ge 107, 3) := dgX3_followLeast_16.2.2.2.2.2.2.2.2.2.2.2.2.2.2.1
theorem dX3_followLeast_55 : decode cX3_followLeast 55 = .ok (.aload_n 0, 1) := dgX3_followLeast_16.2.2.2.2.2.2.2.2.2.2.2.2.2.2.2
theorem dgX3_followLeast_32 : (decode cX3_followLeast 56 = .ok (.iload_n 3, 1)) ∧ (decode cX3_followLeast 57 = .ok (.iload 4, 2)) ∧ (decode cX3_followLeast 59 = .ok (.iload_n 2, 1)) ∧ (decode cX3_followLeast 60 = .ok (.invokevirtual 101, 3)) ∧ (decode cX3_followLeast 63 = .ok (.istore 6, 2)) ∧ (decode cX3_followLeast 65 = .ok (.aload_n 0, 1)) ∧ (decode cX3_followLeast 66 = .ok (.getfield 18, 3)) ∧ (decode cX3_followLeast 69 = .ok (.iload 6, 2)) ∧ (decode cX3_followLeast 71 = .ok (.iaload, 1)) ∧ (decode cX3_followLeast 72 = .ok (.istore 7, 2)) ∧ (decode cX3_followLeast 74 = .ok (.aload_n 0, 1)) ∧ (decode cX3_followLeast 75 = .ok (.dup, 1)) ∧ (decode cX3_followLeast 76 = .ok (.getfield 48, 3)) ∧ (decode cX3_followLeast 79 = .ok (.iload 4, 2)) ∧ (decode cX3_followLeast 81 = .ok (.iconst (-1), 1)) ∧ (decode cX3_followLeast 82 = .ok (.if_icmp .ne 7, 3)) := by decide +kernel
theorem dX3_followLeast_56 : decode cX3_followLeast 56 = .ok (.iload_n 3, 1) := dgX3_followLeast_32.1
theorem dX3_followLeast_57 : decode cX3_followLeast 57 = .ok (.iload 4, 2) := dgX3_followLeast_32.2.1
theorem dX3_followLeast_59 : decode cX3_followLeast 59 = .ok (.iload_n 2, 1) := dgX3_followLeast_32.2.2.1
theorem dX3_followLeast_60 : decode cX3_followLeast 60 = .ok (.invokevirtual 101, 3) := dgX3_followLeast_32.2.2.2.1
theorem dX3_followLeast_63 : decode cX3_followLeast 63 = .ok (.istore 6, 2) := dgX3_followLeast_32.2.2.2.2.1
theorem dX3_followLeast_65 : decode cX3_followLeast 65 = .ok (.aload_n 0, 1) := dgX3_followLeast_32.2.2.2.2.2.1
theorem dX3_followLeast_66 : decode cX3_followLeast 66 = .ok (.getfield 18, 3) := dgX3_followLeast_32.2.2.2.2.2.2.1
theorem dX3_followLeast_69 : decode cX3_followLeast 69 = .ok (.iload 6, 2) := dgX3_followLeast_32.2.2.2.2.2.2.2.1
theorem dX3_followLeast_71 : decode cX3_followLeast 71 = .ok (.iaload, 1) := dgX3_followLeast_32.2.2.2.2.2.2.2.2.1
theorem dX3_followLeast_72 : decode cX3_followLeast 72 = .ok (.istore 7, 2) := dgX3_followLeast_32.2.2.2.2.2.2.2.2.2.1
theorem dX3_followLeast_74 : decode cX3_followLeast 74 = .ok (.aload_n 0, 1) := dgX3_followLeast_32.2.2.2.2.2.2.2.2.2.2.1
theorem dX3_followLeast_75 : decode cX3_followLeast 75 = .ok (.dup, 1) := dgX3_followLeast_32.2.2.2.2.2.2.2.2.2.2.2.1
theorem dX3_followLeast_76 : decode cX3_followLeast 76 = .ok (.getfield 48, 3) := dgX3_followLeast_32.2.2.2.2.2.2.2.2.2.2.2.2.1
theorem dX3_followLeast_79 : decode cX3_followLeast 79 = .ok (.iload 4, 2) := dgX3_followLeast_32.2.2.2.2.2.2.2.2.2.2.2.2.2.1
theorem dX3_followLeast_81 : decode cX3_followLeast 81 = .ok (.iconst (-1), 1) := dgX3_followLeast_32.2.2.2.2.2.2.2.2.2.2.2.2.2.2.1
theorem dX3_followLeast_82 : decode cX3_followLeast 82 = .ok (.if_icmp .ne 7, 3) := dgX3_followLeast_32.2.2.2.2.2.2.2.2.2.2.2.2.2.2.2
theorem dgX3_followLeast_48 : (decode cX3_followLeast 85 = .ok (.iconst 0, 1)) ∧ (decode cX3_followLeast 86 = .ok (.goto 16, 3)) ∧ (decode cX3_followLeast 89 = .ok (.aload_n 0, 1)) ∧ (decode cX3_followLeast 90 = .ok (.getfield 9, 3)) ∧ (decode cX3_followLeast 93 = .ok (.iload 4, 2)) ∧ (decode cX3_followLeast 95 = .ok (.bipush 6, 2)) ∧ (decode cX3_followLeast 97 = .ok (.imul, 1)) ∧ (decode cX3_followLeast 98 = .ok (.iload 7, 2)) ∧ (decode cX3_followLeast 100 = .ok (.iadd, 1)) ∧ (decode cX3_followLeast 101 = .ok (.iaload, 1)) ∧ (decode cX3_followLeast 102 = .ok (.iadd, 1)) ∧ (decode cX3_followLeast 103 = .ok (.putfield 48, 3)) ∧ (decode cX3_followLeast 106 = .ok (.aload_n 0, 1)) ∧ (decode cX3_followLeast 107 = .ok (.getfield 21, 3)) ∧ (decode cX3_followLeast 110 = .ok (.iload 5, 2)) ∧ (decode cX3_followLeast 112 = .ok (.aload_n 0, 1)) := by decide +kernel
theorem dX3_followLeast_85 : decode cX3_followLeast 85 = .ok (.iconst 0, 1) := dgX3_followLeast_48.1
theorem dX3_followLeast_86 : decode cX3_followLeast 86 = .ok (.goto 16, 3) := dgX3_followLeast_48.2.1
theorem dX3_followLeast_89 : decode cX3_followLeast 89 = .ok (.aload_n 0, 1) := dgX3_followLeast_48.2.2.1
theorem dX3_followLeast_90 : decode cX3_followLeast 90 = .ok (.getfield 9, 3) := dgX3_followLeast_48.2.2.2.1
theorem dX3_followLeast_93 : decode cX3_followLeast 93 = .ok (.iload 4, 2) := dgX3_followLeast_48.2.2.2.2.1
theorem dX3_followLeast_95 : decode cX3_followLeast 95 = .ok (.bipush 6, 2) := dgX3_followLeast_48.2.2.2.2.2.1
theorem dX3_followLeast_97 : decode cX3_followLeast 97 = .ok (.imul, 1) := dgX3_followLeast_48.2.2.2.2.2.2.1
theorem dX3_followLeast_98 : decode cX3_followLeast 98 = .ok (.iload 7, 2) := dgX3_followLeast_48.2.2.2.2.2.2.2.1
theorem dX3_followLeast_100 : decode cX3_followLeast 100 = .ok (.iadd, 1) := dgX3_followLeast_48.2.2.2.2.2.2.2.2.1
theorem dX3_followLeast_101 : decode cX3_followLeast 101 = .ok (.iaload, 1) := dgX3_followLeast_48.2.2.2.2.2.2.2.2.2.1
theorem dX3_followLeast_102 : decode cX3_followLeast 102 = .ok (.iadd, 1) := dgX3_followLeast_48.2.2.2.2.2.2.2.2.2.2.1
theorem dX3_followLeast_103 : decode cX3_followLeast 103 = .ok (.putfield 48, 3) := dgX3_followLeast_48.2.2.2.2.2.2.2.2.2.2.2.1
theorem dX3_followLeast_106 : decode cX3_followLeast 106 = .ok (.aload_n 0, 1) := dgX3_followLeast_48.2.2.2.2.2.2.2.2.2.2.2.2.1
theorem dX3_followLeast_107 : decode cX3_followLeast 107 = .ok (.getfield 21, 3) := dgX3_followLeast_48.2.2.2.2.2.2.2.2.2.2.2.2.2.1
theorem dX3_followLeast_110 : decode cX3_followLeast 110 = .ok (.iload 5, 2) := dgX3_followLeast_48.2.2.2.2.2.2.2.2.2.2.2.2.2.2.1
theorem dX3_followLeast_112 : decode cX3_followLeast 112 = .ok (.aload_n 0, 1) := dgX3_followLeast_48.2.2.2.2.2.2.2.2.2.2.2.2.2.2.2
theorem dgX3_followLeast_64 : (decode cX3_followLeast 113 = .ok (.getfield 15, 3)) ∧ (decode cX3_followLeast 116 = .ok (.iload 6, 2)) ∧ (decode cX3_followLeast 118 = .ok (.iaload, 1)) ∧ (decode cX3_followLeast 119 = .ok (.iastore, 1)) ∧ (decode cX3_followLeast 120 = .ok (.aload_n 0, 1)) ∧ (decode cX3_followLeast 121 = .ok (.getfield 24, 3)) ∧ (decode cX3_followLeast 124 = .ok (.iload 6, 2)) ∧ (decode cX3_followLeast 126 = .ok (.iconst 1, 1)) ∧ (decode cX3_followLeast 127 = .ok (.bastore, 1)) ∧ (decode cX3_followLeast 128 = .ok (.aload_n 0, 1)) ∧ (decode cX3_followLeast 129 = .ok (.getfield 34, 3)) ∧ (decode cX3_followLeast 132 = .ok (.iload 7, 2)) ∧ (decode cX3_followLeast 134 = .ok (.dup2, 1)) ∧ (decode cX3_followLeast 135 = .ok (.iaload, 1)) ∧ (decode cX3_followLeast 136 = .ok (.iconst 1, 1)) ∧ (decode cX3_followLeast 137 = .ok (.isub, 1)) := by decide +kernel
theorem dX3_followLeast_113 : decode cX3_followLeast 113 = .ok (.getfield 15, 3) := dgX3_followLeast_64.1
theorem dX3_followLeast_116 : decode cX3_followLeast 116 = .ok (.iload 6, 2) := dgX3_followLeast_64.2.1
theorem dX3_followLeast_118 : decode cX3_followLeast 118 = .ok (.iaload, 1) := dgX3_followLeast_64.2.2.1
theorem dX3_followLeast_119 : decode cX3_followLeast 119 = .ok (.iastore, 1) := dgX3_followLeast_64.2.2.2.1
theorem dX3_followLeast_120 : decode cX3_followLeast 120 = .ok (.aload_n 0, 1) := dgX3_followLeast_64.2.2.2.2.1
theorem dX3_followLeast_121 : decode cX3_followLeast 121 = .ok (.getfield 24, 3) := dgX3_followLeast_64.2.2.2.2.2.1
theorem dX3_followLeast_124 : decode cX3_followLeast 124 = .ok (.iload 6, 2) := dgX3_followLeast_64.2.2.2.2.2.2.1
theorem dX3_followLeast_126 : decode cX3_followLeast 126 = .ok (.iconst 1, 1) := dgX3_followLeast_64.2.2.2.2.2.2.2.1
theorem dX3_followLeast_127 : decode cX3_followLeast 127 = .ok (.bastore, 1) := dgX3_followLeast_64.2.2.2.2.2.2.2.2.1
theorem dX3_followLeast_128 : decode cX3_followLeast 128 = .ok (.aload_n 0, 1) := dgX3_followLeast_64.2.2.2.2.2.2.2.2.2.1
theorem dX3_followLeast_129 : decode cX3_followLeast 129 = .ok (.getfield 34, 3) := dgX3_followLeast_64.2.2.2.2.2.2.2.2.2.2.1
theorem dX3_followLeast_132 : decode cX3_followLeast 132 = .ok (.iload 7, 2) := dgX3_followLeast_64.2.2.2.2.2.2.2.2.2.2.2.1
theorem dX3_followLeast_134 : decode cX3_followLeast 134 = .ok (.dup2, 1) := dgX3_followLeast_64.2.2.2.2.2.2.2.2.2.2.2.2.1
theorem dX3_followLeast_135 : decode cX3_followLeast 135 = .ok (.iaload, 1) := dgX3_followLeast_64.2.2.2.2.2.2.2.2.2.2.2.2.2.1
theorem dX3_followLeast_136 : decode cX3_followLeast 136 = .ok (.iconst 1, 1) := dgX3_followLeast_64.2.2.2.2.2.2.2.2.2.2.2.2.2.2.1
theorem dX3_followLeast_137 : decode cX3_followLeast 137 = .ok (.isub, 1) := dgX3_followLeast_64.2.2.2.2.2.2.2.2.2.2.2.2.2.2.2
theorem dgX3_followLeast_80 : (decode cX3_followLeast 138 = .ok (.iastore, 1)) ∧ (decode cX3_followLeast 139 = .ok (.iload_n 3, 1)) ∧ (decode cX3_followLeast 140 = .ok (.aload_n 0, 1)) ∧ (decode cX3_followLeast 141 = .ok (.getfield 31, 3)) ∧ (decode cX3_followLeast 144 = .ok (.iload 7, 2)) ∧ (decode cX3_followLeast 146 = .ok (.iaload, 1)) ∧ (decode cX3_followLeast 147 = .ok (.isub, 1)) ∧ (decode cX3_followLeast 148 = .ok (.istore_n 3, 1)) ∧ (decode cX3_followLeast 149 = .ok (.iload 7, 2)) ∧ (decode cX3_followLeast 151 = .ok (.istore 4, 2)) ∧ (decode cX3_followLeast 153 = .ok (.iinc 5 1, 3)) ∧ (decode cX3_followLeast 156 = .ok (.goto (-110), 3)) ∧ (decode cX3_followLeast 159 = .ok (.return_, 1)) := by decide +kernel
theorem dX3_followLeast_138 : decode cX3_followLeast 138 = .ok (.iastore, 1) := dgX3_followLeast_80.1
theorem dX3_followLeast_139 : decode cX3_followLeast 139 = .ok (.iload_n 3, 1) := dgX3_followLeast_80.2.1
theorem dX3_followLeast_140 : decode cX3_followLeast 140 = .ok (.aload_n 0, 1) := dgX3_followLeast_80.2.2.1
theorem dX3_followLeast_141 : decode cX3_followLeast 141 = .ok (.getfield 31, 3) := dgX3_followLeast_80.2.2.2.1
theorem dX3_followLeast_144 : decode cX3_followLeast 144 = .ok (.iload 7, 2) := dgX3_followLeast_80.2.2.2.2.1
theorem dX3_followLeast_146 : decode cX3_followLeast 146 = .ok (.iaload, 1) := dgX3_followLeast_80.2.2.2.2.2.1
theorem dX3_followLeast_147 : decode cX3_followLeast 147 = .ok (.isub, 1) := dgX3_followLeast_80.2.2.2.2.2.2.1
theorem dX3_followLeast_148 : decode cX3_followLeast 148 = .ok (.istore_n 3, 1) := dgX3_followLeast_80.2.2.2.2.2.2.2.1
theorem dX3_followLeast_149 : decode cX3_followLeast 149 = .ok (.iload 7, 2) := dgX3_followLeast_80.2.2.2.2.2.2.2.2.1
theorem dX3_followLeast_151 : decode cX3_followLeast 151 = .ok (.istore 4, 2) := dgX3_followLeast_80.2.2.2.2.2.2.2.2.2.1
theorem dX3_followLeast_153 : decode cX3_followLeast 153 = .ok (.iinc 5 1, 3) := dgX3_followLeast_80.2.2.2.2.2.2.2.2.2.2.1
theorem dX3_followLeast_156 : decode cX3_followLeast 156 = .ok (.goto (-110), 3) := dgX3_followLeast_80.2.2.2.2.2.2.2.2.2.2.2.1
theorem dX3_followLeast_159 : decode cX3_followLeast 159 = .ok (.return_, 1) := dgX3_followLeast_80.2.2.2.2.2.2.2.2.2.2.2.2
theorem dgX3_findNext_0 : (decode cX3_findNext 0 = .ok (.iconst 0, 1)) ∧ (decode cX3_findNext 1 = .ok (.istore 4, 2)) ∧ (decode cX3_findNext 3 = .ok (.ldc 83, 2)) ∧ (decode cX3_findNext 5 = .ok (.istore 5, 2)) ∧ (decode cX3_findNext 7 = .ok (.iconst 0, 1)) ∧ (decode cX3_findNext 8 = .ok (.istore 6, 2)) ∧ (decode cX3_findNext 10 = .ok (.iload 6, 2)) ∧ (decode cX3_findNext 12 = .ok (.aload_n 0, 1)) ∧ (decode cX3_findNext 13 = .ok (.getfield 41, 3)) ∧ (decode cX3_findNext 16 = .ok (.if_icmp .ge 94, 3)) ∧ (decode cX3_findNext 19 = .ok (.aload_n 0, 1)) ∧ (decode cX3_findNext 20 = .ok (.getfield 24, 3)) ∧ (decode cX3_findNext 23 = .ok (.iload 6, 2)) ∧ (decode cX3_findNext 25 = .ok (.baload, 1)) ∧ (decode cX3_findNext 26 = .ok (.ifCond .ne 78, 3)) ∧ (decode cX3_findNext 29 = .ok (.aload_n 0, 1)) := by decide +kernel
theorem dX3_findNext_0 : decode cX3_findNext 0 = .ok (.iconst 0, 1) := dgX3_findNext_0.1
theorem dX3_findNext_1 : decode cX3_findNext 1 = .ok (.istore 4, 2) := dgX3_findNext_0.2.1
theorem dX3_findNext_3 : decode cX3_findNext 3 = .ok (.ldc 83, 2) := dgX3_findNext_0.2.2.1
theorem dX3_findNext_5 : decode cX3_findNext 5 = .ok (.istore 5, 2) := dgX3_findNext_0.2.2.2.1
theorem dX3_findNext_7 : decode cX3_findNext 7 = .ok (.iconst 0, 1) := dgX3_findNext_0.2.2.2.2.1
theorem dX3_findNext_8 : decode cX3_findNext 8 = .ok (.istore 6, 2) := dgX3_findNext_0.2.2.2.2.2.1
theorem dX3_findNext_10 : decode cX3_findNext 10 = .ok (.iload 6, 2) := dgX3_findNext_0.2.2.2.2.2.2.1
theorem dX3_findNext_12 : decode cX3_findNext 12 = .ok (.aload_n 0, 1) := dgX3_findNext_0.2.2.2.2.2.2.2.1
theorem dX3_findNext_13 : decode cX3_findNext 13 = .ok (.getfield 41, 3) := dgX3_findNext_0.2.2.2.2.2.2.2.2.1
theorem dX3_findNext_16 : decode cX3_findNext 16 = .ok (.if_icmp .ge 94, 3) := dgX3_findNext_0.2.2.2.2.2.2.2.2.2.1
theorem dX3_findNext_19 : decode cX3_findNext 19 = .ok (.aload_n 0, 1) := dgX3_findNext_0.2.2.2.2.2.2.2.2.2.2.1
theorem dX3_findNext_20 : decode cX3_findNext 20 = .ok (.getfield 24, 3) := dgX3_findNext_0.2.2.2.2.2.2.2.2.2.2.2.1
theorem dX3_findNext_23 : decode cX3_findNext 23 = .ok (.iload 6, 2) := dgX3_findNext_0.2.2.2.2.2.2.2.2.2.2.2.2.1
theorem dX3_findNext_25 : decode cX3_findNext 25 = .ok (.baload, 1) := dgX3_findNext_0.2.2.2.2.2.2.2.2.2.2.2.2.2.1
theorem dX3_findNext_26 : decode cX3_findNext 26 = .ok (.ifCond .ne 78, 3) := dgX3_findNext_0.2.2.2.2.2.2.2.2.2.2.2.2.2.2.1
theorem dX3_findNext_29 : decode cX3_findNext 29 = .ok (.aload_n 0, 1) := dgX3_findNext_0.2.2.2.2.2.2.2.2.2.2.2.2.2.2.2
theorem dgX3_findNext_16 : (decode cX3_findNext 30 = .ok (.aload_n 0, 1)) ∧ (decode cX3_findNext 31 = .ok (.getfield 18, 3)) ∧ (decode cX3_findNext 34 = .ok (.iload 6, 2)) ∧ (decode cX3_findNext 36 = .ok (.iaload, 1)) ∧ (decode cX3_findNext 37 = .ok (.iload_n 3, 1)) ∧ (decode cX3_findNext 38 = .ok (.invokevirtual 84, 3)) ∧ (decode cX3_findNext 41 = .ok (.ifCond .eq 63, 3)) ∧ (decode cX3_findNext 44 = .ok (.aload_n 0, 1)) ∧ (decode cX3_findNext 45 = .ok (.iload_n 1, 1)) ∧ (decode cX3_findNext 46 = .ok (.aload_n 0, 1)) ∧ (decode cX3_findNext 47 = .ok (.getfield 18, 3)) ∧ (decode cX3_findNext 50 = .ok (.iload 6, 2)) ∧ (decode cX3_findNext 52 = .ok (.iaload, 1)) ∧ (decode cX3_findNext 53 = .ok (.invokevirtual 88, 3)) ∧ (decode cX3_findNext 56 = .ok (.istore 7, 2)) ∧ (decode cX3_findNext 58 = .ok (.iload 7, 2)) := by decide +kernel
theorem dX3_findNext_30 : decode cX3_findNext 30 = .ok (.aload_n 0, 1) := dgX3_findNext_16.1
theorem dX3_findNext_31 : decode cX3_findNext 31 = .ok (.getfield 18, 3) := dgX3_findNext_16.2.1
theorem dX3_findNext_34 : decode cX3_findNext 34 = .ok (.iload 6, 2) := dgX3_findNext_16.2.2.1
theorem dX3_findNext_36 : decode cX3_findNext 36 = .ok (.iaload, 1) := dgX3_findNext_16.2.2.2.1
theorem dX3_findNext_37 : decode cX3_findNext 37 = .ok (.iload_n 3, 1) := dgX3_findNext_16.2.2.2.2.1
theorem dX3_findNext_38 : decode cX3_findNext 38 = .ok (.invokevirtual 84, 3) := dgX3_findNext_16.2.2.2.2.2.1
theorem dX3_findNext_41 : decode cX3_findNext 41 = .ok (.ifCond .eq 63, 3) := dgX3_findNext_16.2.2.2.2.2.2.1
theorem dX3_findNext_44 : decode cX3_findNext 44 = .ok (.aload_n 0, 1) := dgX3_findNext_16.2.2.2.2.2.2.2.1
theorem dX3_findNext_45 : decode cX3_findNext 45 = .ok (.iload_n 1, 1) := dgX3_findNext_16.2.2.2.2.2.2.2.2.1
theorem dX3_findNext_46 : decode cX3_findNext 46 = .ok (.aload_n 0, 1) := dgX3_findNext_16.2.2.2.2.2.2.2.2.2.1
theorem dX3_findNext_47 : decode cX3_findNext 47 = .ok (.getfield 18, 3) := dgX3_findNext_16.2.2.2.2.2.2.2.2.2.2.1
theorem dX3_findNext_50 : decode cX3_findNext 50 = .ok (.iload 6, 2) := dgX3_findNext_16.2.2.2.2.2.2.2.2.2.2.2.1
theorem dX3_findNext_52 : decode cX3_findNext 52 = .ok (.iaload, 1) := dgX3_findNext_16.2.2.2.2.2.2.2.2.2.2.2.2.1
theorem dX3_findNext_53 : decode cX3_findNext 53 = .ok (.invokevirtual 88, 3) := dgX3_findNext_16.2.2.2.2.2.2.2.2.2.2.2.2.2.1
theorem dX3_findNext_56 : decode cX3_findNext 56 = .ok (.istore 7, 2) := dgX3_findNext_16.2.2.2.2.2.2.2.2.2.2.2.2.2.2.1
theorem dX3_findNext_58 : decode cX3_findNext 58 = .ok (.iload 7, 2) := dgX3_findNext_16.2.2.2.2.2.2.2.2.2.2.2.2.2.2.2
theorem dgX3_findNext_32 : (decode cX3_findNext 60 = .ok (.iload_n 2, 1)) ∧ (decode cX3_findNext 61 = .ok (.iconst (-1), 1)) ∧ (decode cX3_findNext 62 = .ok (.if_icmp .ne 7, 3)) ∧ (decode cX3_findNext 65 = .ok (.iconst 0, 1)) ∧ (decode cX3_findNext 66 = .ok (.goto 20, 3)) ∧ (decode cX3_findNext 69 = .ok (.aload_n 0, 1)) ∧ (decode cX3_findNext 70 = .ok (.getfield 9, 3)) ∧ (decode cX3_findNext 73 = .ok (.iload_n 2, 1)) ∧ (decode cX3_findNext 74 = .ok (.bipush 6, 2)) ∧ (decode cX3_findNext 76 = .ok (.imul, 1)) ∧ (decode cX3_findNext 77 = .ok (.aload_n 0, 1)) ∧ (decode cX3_findNext 78 = .ok (.getfield 18, 3)) ∧ (decode cX3_findNext 81 = .ok (.iload 6, 2)) ∧ (decode cX3_findNext 83 = .ok (.iaload, 1)) ∧ (decode cX3_findNext 84 = .ok (.iadd, 1)) ∧ (decode cX3_findNext 85 = .ok (.iaload, 1)) := by decide +kernel
theorem dX3_findNext_60 : decode cX3_findNext 60 = .ok (.iload_n 2, 1) := dgX3_findNext_32.1
theorem dX3_findNext_61 : decode cX3_findNext 61 = .ok (.iconst (-1), 1) := dgX3_findNext_32.2.1
theorem dX3_findNext_62 : decode cX3_findNext 62 = .ok (.if_icmp .ne 7, 3) := dgX3_findNext_32.2.2.1
theorem dX3_findNext_65 : decode cX3_findNext 65 = .ok (.iconst 0, 1) := dgX3_findNext_32.2.2.2.1
theorem dX3_findNext_66 : decode cX3_findNext 66 = .ok (.goto 20, 3) := dgX3_findNext_32.2.2.2.2.1
theorem dX3_findNext_69 : decode cX3_findNext 69 = .ok (.aload_n 0, 1) := dgX3_findNext_32.2.2.2.2.2.1
theorem dX3_findNext_70 : decode cX3_findNext 70 = .ok (.getfield 9, 3) := dgX3_findNext_32.2.2.2.2.2.2.1
theorem dX3_findNext_73 : decode cX3_findNext 73 = .ok (.iload_n 2, 1) := dgX3_findNext_32.2.2.2.2.2.2.2.1
theorem dX3_findNext_74 : decode cX3_findNext 74 = .ok (.bipush 6, 2) := dgX3_findNext_32.2.2.2.2.2.2.2.2.1
theorem dX3_findNext_76 : decode cX3_findNext 76 = .ok (.imul, 1) := dgX3_findNext_32.2.2.2.2.2.2.2.2.2.1
theorem dX3_findNext_77 : decode cX3_findNext 77 = .ok (.aload_n 0, 1) := dgX3_findNext_32.2.2.2.2.2.2.2.2.2.2.1
theorem dX3_findNext_78 : decode cX3_findNext 78 = .ok (.getfield 18, 3) := dgX3_findNext_32.2.2.2.2.2.2.2.2.2.2.2.1
theorem dX3_findNext_81 : decode cX3_findNext 81 = .ok (.iload 6, 2) := dgX3_findNext_32.2.2.2.2.2.2.2.2.2.2.2.2.1
theorem dX3_findNext_83 : decode cX3_findNext 83 = .ok (.iaload, 1) := dgX3_findNext_32.2.2.2.2.2.2.2.2.2.2.2.2.2.1
theorem dX3_findNext_84 : decode cX3_findNext 84 = .ok (.iadd, 1) := dgX3_findNext_32.2.2.2.2.2.2.2.2.2.2.2.2.2.2.1
theorem dX3_findNext_85 : decode cX3_findNext 85 = .ok (.iaload, 1) := dgX3_findNext_32.2.2.2.2.2.2.2.2.2.2.2.2.2.2.2
theorem dgX3_findNext_48 : (decode cX3_findNext 86 = .ok (.iadd, 1)) ∧ (decode cX3_findNext 87 = .ok (.istore 7, 2)) ∧ (decode cX3_findNext 89 = .ok (.iload 7, 2)) ∧ (decode cX3_findNext 91 = .ok (.iload 5, 2)) ∧ (decode cX3_findNext 93 = .ok (.if_icmp .ge 11, 3)) ∧ (decode cX3_findNext 96 = .ok (.iload 7, 2)) ∧ (decode cX3_findNext 98 = .ok (.istore 5, 2)) ∧ (decode cX3_findNext 100 = .ok (.iload 6, 2)) ∧ (decode cX3_findNext 102 = .ok (.istore 4, 2)) ∧ (decode cX3_findNext 104 = .ok (.iinc 6 1, 3)) ∧ (decode cX3_findNext 107 = .ok (.goto (-97), 3)) ∧ (decode cX3_findNext 110 = .ok (.iload 4, 2)) ∧ (decode cX3_findNext 112 = .ok (.ireturn, 1)) := by decide +kernel
theorem dX3_findNext_86 : decode cX3_findNext 86 = .ok (.iadd, 1) := dgX3_findNext_48.1
theorem dX3_findNext_87 : decode cX3_findNext 87 = .ok (.istore 7, 2) := dgX3_findNext_48.2.1
theorem dX3_findNext_89 : decode cX3_findNext 89 = .ok (.iload 7, 2) := dgX3_findNext_48.2.2.1
theorem dX3_findNext_91 : decode cX3_findNext 91 = .ok (.iload 5, 2) := dgX3_findNext_48.2.2.2.1
theorem dX3_findNext_93 : decode cX3_findNext 93 = .ok (.if_icmp .ge 11, 3) := dgX3_findNext_48.2.2.2.2.1
theorem dX3_findNext_96 : decode cX3_findNext 96 = .ok (.iload 7, 2) := dgX3_findNext_48.2.2.2.2.2.1
theorem dX3_findNext_98 : decode cX3_findNext 98 = .ok (.istore 5, 2) := dgX3_findNext_48.2.2.2.2.2.2.1
theorem dX3_findNext_100 : decode cX3_findNext 100 = .ok (.iload 6, 2) := dgX3_findNext_48.2.2.2.2.2.2.2.1
theorem dX3_findNext_102 : decode cX3_findNext 102 = .ok (.istore 4, 2) := dgX3_findNext_48.2.2.2.2.2.2.2.2.1
theorem dX3_findNext_104 : decode cX3_findNext 104 = .ok (.iinc 6 1, 3) := dgX3_findNext_48.2.2.2.2.2.2.2.2.2.1
theorem dX3_findNext_107 : decode cX3_findNext 107 = .ok (.goto (-97), 3) := dgX3_findNext_48.2.2.2.2.2.2.2.2.2.2.1
theorem dX3_findNext_110 : decode cX3_findNext 110 = .ok (.iload 4, 2) := dgX3_findNext_48.2.2.2.2.2.2.2.2.2.2.2.1
theorem dX3_findNext_112 : decode cX3_findNext 112 = .ok (.ireturn, 1) := dgX3_findNext_48.2.2.2.2.2.2.2.2.2.2.2.2
theorem dgX4_init_0 : (decode cX4_init 0 = .ok (.aload_n 0, 1)) ∧ (decode cX4_init 1 = .ok (.invokespecial 1, 3)) ∧ (decode cX4_init 4 = .ok (.aload_n 0, 1)) ∧ (decode cX4_init 5 = .ok (.iload_n 1, 1)) ∧ (decode cX4_init 6 = .ok (.putfield 7, 3)) ∧ (decode cX4_init 9 = .ok (.aload_n 0, 1)) ∧ (decode cX4_init 10 = .ok (.iload_n 2, 1)) ∧ (decode cX4_init 11 = .ok (.putfield 13, 3)) ∧ (decode cX4_init 14 = .ok (.return_, 1)) := by decide +kernel
theorem dX4_init_0 : decode cX4_init 0 = .ok (.aload_n 0, 1) := dgX4_init_0.1
theorem dX4_init_1 : decode cX4_init 1 = .ok (.invokespecial 1, 3) := dgX4_init_0.2.1
theorem dX4_init_4 : decode cX4_init 4 = .ok (.aload_n 0, 1) := dgX4_init_0.2.2.1
theorem dX4_init_5 : decode cX4_init 5 = .ok (.iload_n 1, 1) := dgX4_init_0.2.2.2.1
theorem dX4_init_6 : decode cX4_init 6 = .ok (.putfield 7, 3) := dgX4_init_0.2.2.2.2.1
theorem dX4_init_9 : decode cX4_init 9 = .ok (.aload_n 0, 1) := dgX4_init_0.2.2.2.2.2.1
theorem dX4_init_10 : decode cX4_init 10 = .ok (.iload_n 2, 1) := dgX4_init_0.2.2.2.2.2.2.1
theorem dX4_init_11 : decode cX4_init 11 = .ok (.putfield 13, 3) := dgX4_init_0.2.2.2.2.2.2.2.1
theorem dX4_init_14 : decode cX4_init 14 = .ok (.return_, 1) := dgX4_init_0.2.2.2.2.2.2.2.2
theorem dgX5_init_0 : (decode cX5_init 0 = .ok (.aload_n 0, 1)) ∧ (decode cX5_init 1 = .ok (.invokespecial 3, 3)) ∧ (decode cX5_init 4 = .ok (.aload_n 0, 1)) ∧ (decode cX5_init 5 = .ok (.bipush 14, 2)) ∧ (decode cX5_init 7 = .ok (.newarray .int, 2)) ∧ (decode cX5_init 9 = .ok (.putfield 9, 3)) ∧ (decode cX5_init 12 = .ok (.return_, 1)) := by decide +kernel
theorem dX5_init_0 : decode cX5_init 0 = .ok (.aload_n 0, 1) := dgX5_init_0.1
theorem dX5_init_1 : decode cX5_init 1 = .ok (.invokespecial 3, 3) := dgX5_init_0.2.1
theorem dX5_init_4 : decode cX5_init 4 = .ok (.aload_n 0, 1) := dgX5_init_0.2.2.1
theorem dX5_init_5 : decode cX5_init 5 = .ok (.bipush 14, 2) := dgX5_init_0.2.2.2.1
theorem dX5_init_7 : decode cX5_init 7 = .ok (.newarray .int, 2) := dgX5_init_0.2.2.2.2.1
theorem dX5_init_9 : decode cX5_init 9 = .ok (.putfield 9, 3) := dgX5_init_0.2.2.2.2.2.1
theorem dX5_init_12 : decode cX5_init 12 = .ok (.return_, 1) := dgX5_init_0.2.2.2.2.2.2
theorem dgX5_mostBoxes_0 : (decode cX5_mostBoxes 0 = .ok (.aload_n 0, 1)) ∧ (decode cX5_mostBoxes 1 = .ok (.iload_n 2, 1)) ∧ (decode cX5_mostBoxes 2 = .ok (.putfield 15, 3)) ∧ (decode cX5_mostBoxes 5 = .ok (.aload_n 0, 1)) ∧ (decode cX5_mostBoxes 6 = .ok (.iload_n 2, 1)) ∧ (decode cX5_mostBoxes 7 = .ok (.iload_n 3, 1)) ∧ (decode cX5_mostBoxes 8 = .ok (.iadd, 1)) ∧ (decode cX5_mostBoxes 9 = .ok (.putfield 19, 3)) ∧ (decode cX5_mostBoxes 12 = .ok (.aload_n 0, 1)) ∧ (decode cX5_mostBoxes 13 = .ok (.iconst 0, 1)) ∧ (decode cX5_mostBoxes 14 = .ok (.putfield 22, 3)) ∧ (decode cX5_mostBoxes 17 = .ok (.iconst 0, 1)) ∧ (decode cX5_mostBoxes 18 = .ok (.istore 4, 2)) ∧ (decode cX5_mostBoxes 20 = .ok (.aload_n 1, 1)) ∧ (decode cX5_mostBoxes 21 = .ok (.getfield 25, 3)) ∧ (decode cX5_mostBoxes 24 = .ok (.bipush 14, 2)) := by decide +kernel
theorem dX5_mostBoxes_0 : decode cX5_mostBoxes 0 = .ok (.aload_n 0, 1) := dgX5_mostBoxes_0.1
theorem dX5_mostBoxes_1 : decode cX5_mostBoxes 1 = .ok (.iload_n 2, 1) := dgX5_mostBoxes_0.2.1
theorem dX5_mostBoxes_2 : decode cX5_mostBoxes 2 = .ok (.putfield 15, 3) := dgX5_mostBoxes_0.2.2.1
theorem dX5_mostBoxes_5 : decode cX5_mostBoxes 5 = .ok (.aload_n 0, 1) := dgX5_mostBoxes_0.2.2.2.1
theorem dX5_mostBoxes_6 : decode cX5_mostBoxes 6 = .ok (.iload_n 2, 1) := dgX5_mostBoxes_0.2.2.2.2.1
theorem dX5_mostBoxes_7 : decode cX5_mostBoxes 7 = .ok (.iload_n 3, 1) := dgX5_mostBoxes_0.2.2.2.2.2.1
theorem dX5_mostBoxes_8 : decode cX5_mostBoxes 8 = .ok (.iadd, 1) := dgX5_mostBoxes_0.2.2.2.2.2.2.1
theorem dX5_mostBoxes_9 : decode cX5_mostBoxes 9 = .ok (.putfield 19, 3) := dgX5_mostBoxes_0.2.2.2.2.2.2.2.1
theorem dX5_mostBoxes_12 : decode cX5_mostBoxes 12 = .ok (.aload_n 0, 1) := dgX5_mostBoxes_0.2.2.2.2.2.2.2.2.1
theorem dX5_mostBoxes_13 : decode cX5_mostBoxes 13 = .ok (.iconst 0, 1) := dgX5_mostBoxes_0.2.2.2.2.2.2.2.2.2.1
theorem dX5_mostBoxes_14 : decode cX5_mostBoxes 14 = .ok (.putfield 22, 3) := dgX5_mostBoxes_0.2.2.2.2.2.2.2.2.2.2.1
theorem dX5_mostBoxes_17 : decode cX5_mostBoxes 17 = .ok (.iconst 0, 1) := dgX5_mostBoxes_0.2.2.2.2.2.2.2.2.2.2.2.1
theorem dX5_mostBoxes_18 : decode cX5_mostBoxes 18 = .ok (.istore 4, 2) := dgX5_mostBoxes_0.2.2.2.2.2.2.2.2.2.2.2.2.1
theorem dX5_mostBoxes_20 : decode cX5_mostBoxes 20 = .ok (.aload_n 1, 1) := dgX5_mostBoxes_0.2.2.2.2.2.2.2.2.2.2.2.2.2.1
theorem dX5_mostBoxes_21 : decode cX5_mostBoxes 21 = .ok (.getfield 25, 3) := dgX5_mostBoxes_0.2.2.2.2.2.2.2.2.2.2.2.2.2.2.1
theorem dX5_mostBoxes_24 : decode cX5_mostBoxes 24 = .ok (.bipush 14, 2) := dgX5_mostBoxes_0.2.2.2.2.2.2.2.2.2.2.2.2.2.2.2
theorem dgX5_mostBoxes_16 : (decode cX5_mostBoxes 26 = .ok (.invokestatic 28, 3)) ∧ (decode cX5_mostBoxes 29 = .ok (.istore 5, 2)) ∧ (decode cX5_mostBoxes 31 = .ok (.iconst 0, 1)) ∧ (decode cX5_mostBoxes 32 = .ok (.istore 6, 2)) ∧ (decode cX5_mostBoxes 34 = .ok (.iload 6, 2)) ∧ (decode cX5_mostBoxes 36 = .ok (.iload 5, 2)) ∧ (decode cX5_mostBoxes 38 = .ok (.if_icmp .ge 32, 3)) ∧ (decode cX5_mostBoxes 41 = .ok (.aload_n 0, 1)) ∧ (decode cX5_mostBoxes 42 = .ok (.aload_n 1, 1)) ∧ (decode cX5_mostBoxes 43 = .ok (.getfield 34, 3)) ∧ (decode cX5_mostBoxes 46 = .ok (.iload 6, 2)) ∧ (decode cX5_mostBoxes 48 = .ok (.iaload, 1)) ∧ (decode cX5_mostBoxes 49 = .ok (.invokevirtual 35, 3)) ∧ (decode cX5_mostBoxes 52 = .ok (.iload 4, 2)) ∧ (decode cX5_mostBoxes 54 = .ok (.aload_n 1, 1)) ∧ (decode cX5_mostBoxes 55 = .ok (.getfield 34, 3)) := by decide +kernel
theorem dX5_mostBoxes_26 : decode cX5_mostBoxes 26 = .ok (.invokestatic 28, 3) := dgX5_mostBoxes_16.1
theorem dX5_mostBoxes_29 : decode cX5_mostBoxes 29 = .ok (.istore 5, 2) := dgX5_mostBoxes_16.2.1
theorem dX5_mostBoxes_31 : decode cX5_mostBoxes 31 = .ok (.iconst 0, 1) := dgX5_mostBoxes_16.2.2.1
theorem dX5_mostBoxes_32 : decode cX5_mostBoxes 32 = .ok (.istore 6, 2) := dgX5_mostBoxes_16.2.2.2.1
theorem dX5_mostBoxes_34 : decode cX5_mostBoxes 34 = .ok (.iload 6, 2) := dgX5_mostBoxes_16.2.2.2.2.1
theorem dX5_mostBoxes_36 : decode cX5_mostBoxes 36 = .ok (.iload 5, 2) := dgX5_mostBoxes_16.2.2.2.2.2.1
theorem dX5_mostBoxes_38 : decode cX5_mostBoxes 38 = .ok (.if_icmp .ge 32, 3) := dgX5_mostBoxes_16.2.2.2.2.2.2.1
theorem dX5_mostBoxes_41 : decode cX5_mostBoxes 41 = .ok (.aload_n 0, 1) := dgX5_mostBoxes_16.2.2.2.2.2.2.2.1
theorem dX5_mostBoxes_42 : decode cX5_mostBoxes 42 = .ok (.aload_n 1, 1) := dgX5_mostBoxes_16.2.2.2.2.2.2.2.2.1
theorem dX5_mostBoxes_43 : decode cX5_mostBoxes 43 = .ok (.getfield 34, 3) := dgX5_mostBoxes_16.2.2.2.2.2.2.2.2.2.1
theorem dX5_mostBoxes_46 : decode cX5_mostBoxes 46 = .ok (.iload 6, 2) := dgX5_mostBoxes_16.2.2.2.2.2.2.2.2.2.2.1
theorem dX5_mostBoxes_48 : decode cX5_mostBoxes 48 = .ok (.iaload, 1) := dgX5_mostBoxes_16.2.2.2.2.2.2.2.2.2.2.2.1
theorem dX5_mostBoxes_49 : decode cX5_mostBoxes 49 = .ok (.invokevirtual 35, 3) := dgX5_mostBoxes_16.2.2.2.2.2.2.2.2.2.2.2.2.1
theorem dX5_mostBoxes_52 : decode cX5_mostBoxes 52 = .ok (.iload 4, 2) := dgX5_mostBoxes_16.2.2.2.2.2.2.2.2.2.2.2.2.2.1
theorem dX5_mostBoxes_54 : decode cX5_mostBoxes 54 = .ok (.aload_n 1, 1) := dgX5_mostBoxes_16.2.2.2.2.2.2.2.2.2.2.2.2.2.2.1
theorem dX5_mostBoxes_55 : decode cX5_mostBoxes 55 = .ok (.getfield 34, 3) := dgX5_mostBoxes_16.2.2.2.2.2.2.2.2.2.2.2.2.2.2.2
theorem dgX5_mostBoxes_32 : (decode cX5_mostBoxes 58 = .ok (.iload 6, 2)) ∧ (decode cX5_mostBoxes 60 = .ok (.iaload, 1)) ∧ (decode cX5_mostBoxes 61 = .ok (.iadd, 1)) ∧ (decode cX5_mostBoxes 62 = .ok (.istore 4, 2)) ∧ (decode cX5_mostBoxes 64 = .ok (.iinc 6 1, 3)) ∧ (decode cX5_mostBoxes 67 = .ok (.goto (-33), 3)) ∧ (decode cX5_mostBoxes 70 = .ok (.iload 4, 2)) ∧ (decode cX5_mostBoxes 72 = .ok (.aload_n 0, 1)) ∧ (decode cX5_mostBoxes 73 = .ok (.getfield 15, 3)) ∧ (decode cX5_mostBoxes 76 = .ok (.if_icmp .ge 5, 3)) ∧ (decode cX5_mostBoxes 79 = .ok (.iconst 0, 1)) ∧ (decode cX5_mostBoxes 80 = .ok (.ireturn, 1)) ∧ (decode cX5_mostBoxes 81 = .ok (.aload_n 0, 1)) ∧ (decode cX5_mostBoxes 82 = .ok (.invokevirtual 39, 3)) ∧ (decode cX5_mostBoxes 85 = .ok (.aload_n 0, 1)) ∧ (decode cX5_mostBoxes 86 = .ok (.iconst 1, 1)) := by decide +kernel
theorem dX5_mostBoxes_58 : decode cX5_mostBoxes 58 = .ok (.iload 6, 2) := dgX5_mostBoxes_32.1
theorem dX5_mostBoxes_60 : decode cX5_mostBoxes 60 = .ok (.iaload, 1) := dgX5_mostBoxes_32.2.1
theorem dX5_mostBoxes_61 : decode cX5_mostBoxes 61 = .ok (.iadd, 1) := dgX5_mostBoxes_32.2.2.1
theorem dX5_mostBoxes_62 : decode cX5_mostBoxes 62 = .ok (.istore 4, 2) := dgX5_mostBoxes_32.2.2.2.1
theorem dX5_mostBoxes_64 : decode cX5_mostBoxes 64 = .ok (.iinc 6 1, 3) := dgX5_mostBoxes_32.2.2.2.2.1
theorem dX5_mostBoxes_67 : decode cX5_mostBoxes 67 = .ok (.goto (-33), 3) := dgX5_mostBoxes_32.2.2.2.2.2.1
theorem dX5_mostBoxes_70 : decode cX5_mostBoxes 70 = .ok (.iload 4, 2) := dgX5_mostBoxes_32.2.2.2.2.2.2.1
theorem dX5_mostBoxes_72 : decode cX5_mostBoxes 72 = .ok (.aload_n 0, 1) := dgX5_mostBoxes_32.2.2.2.2.2.2.2.1
theorem dX5_mostBoxes_73 : decode cX5_mostBoxes 73 = .ok (.getfield 15, 3) := dgX5_mostBoxes_32.2.2.2.2.2.2.2.2.1
theorem dX5_mostBoxes_76 : decode cX5_mostBoxes 76 = .ok (.if_icmp .ge 5, 3) := dgX5_mostBoxes_32.2.2.2.2.2.2.2.2.2.1
theorem dX5_mostBoxes_79 : decode cX5_mostBoxes 79 = .ok (.iconst 0, 1) := dgX5_mostBoxes_32.2.2.2.2.2.2.2.2.2.2.1
theorem dX5_mostBoxes_80 : decode cX5_mostBoxes 80 = .ok (.ireturn, 1) := dgX5_mostBoxes_32.2.2.2.2.2.2.2.2.2.2.2.1
theorem dX5_mostBoxes_81 : decode cX5_mostBoxes 81 = .ok (.aload_n 0, 1) := dgX5_mostBoxes_32.2.2.2.2.2.2.2.2.2.2.2.2.1
theorem dX5_mostBoxes_82 : decode cX5_mostBoxes 82 = .ok (.invokevirtual 39, 3) := dgX5_mostBoxes_32.2.2.2.2.2.2.2.2.2.2.2.2.2.1
theorem dX5_mostBoxes_85 : decode cX5_mostBoxes 85 = .ok (.aload_n 0, 1) := dgX5_mostBoxes_32.2.2.2.2.2.2.2.2.2.2.2.2.2.2.1
theorem dX5_mostBoxes_86 : decode cX5_mostBoxes 86 = .ok (.iconst 1, 1) := dgX5_mostBoxes_32.2.2.2.2.2.2.2.2.2.2.2.2.2.2.2
theorem dgX5_mostBoxes_48 : (decode cX5_mostBoxes 87 = .ok (.aload_n 0, 1)) ∧ (decode cX5_mostBoxes 88 = .ok (.getfield 22, 3)) ∧ (decode cX5_mostBoxes 91 = .ok (.ishl, 1)) ∧ (decode cX5_mostBoxes 92 = .ok (.iconst 1, 1)) ∧ (decode cX5_mostBoxes 93 = .ok (.isub, 1)) ∧ (decode cX5_mostBoxes 94 = .ok (.iload 4, 2)) ∧ (decode cX5_mostBoxes 96 = .ok (.invokevirtual 42, 3)) ∧ (decode cX5_mostBoxes 99 = .ok (.ireturn, 1)) := by decide +kernel
theorem dX5_mostBoxes_87 : decode cX5_mostBoxes 87 = .ok (.aload_n 0, 1) := dgX5_mostBoxes_48.1
theorem dX5_mostBoxes_88 : decode cX5_mostBoxes 88 = .ok (.getfield 22, 3) := dgX5_mostBoxes_48.2.1
theorem dX5_mostBoxes_91 : decode cX5_mostBoxes 91 = .ok (.ishl, 1) := dgX5_mostBoxes_48.2.2.1
theorem dX5_mostBoxes_92 : decode cX5_mostBoxes 92 = .ok (.iconst 1, 1) := dgX5_mostBoxes_48.2.2.2.1
theorem dX5_mostBoxes_93 : decode cX5_mostBoxes 93 = .ok (.isub, 1) := dgX5_mostBoxes_48.2.2.2.2.1
theorem dX5_mostBoxes_94 : decode cX5_mostBoxes 94 = .ok (.iload 4, 2) := dgX5_mostBoxes_48.2.2.2.2.2.1
theorem dX5_mostBoxes_96 : decode cX5_mostBoxes 96 = .ok (.invokevirtual 42, 3) := dgX5_mostBoxes_48.2.2.2.2.2.2.1
theorem dX5_mostBoxes_99 : decode cX5_mostBoxes 99 = .ok (.ireturn, 1) := dgX5_mostBoxes_48.2.2.2.2.2.2.2
theorem dgX5_insert_0 : (decode cX5_insert 0 = .ok (.aload_n 0, 1)) ∧ (decode cX5_insert 1 = .ok (.getfield 22, 3)) ∧ (decode cX5_insert 4 = .ok (.istore_n 2, 1)) ∧ (decode cX5_insert 5 = .ok (.iload_n 2, 1)) ∧ (decode cX5_insert 6 = .ok (.ifCond .le 35, 3)) ∧ (decode cX5_insert 9 = .ok (.aload_n 0, 1)) ∧ (decode cX5_insert 10 = .ok (.getfield 9, 3)) ∧ (decode cX5_insert 13 = .ok (.iload_n 2, 1)) ∧ (decode cX5_insert 14 = .ok (.iconst 1, 1)) ∧ (decode cX5_insert 15 = .ok (.isub, 1)) ∧ (decode cX5_insert 16 = .ok (.iaload, 1)) ∧ (decode cX5_insert 17 = .ok (.iload_n 1, 1)) ∧ (decode cX5_insert 18 = .ok (.if_icmp .ge 23, 3)) ∧ (decode cX5_insert 21 = .ok (.aload_n 0, 1)) ∧ (decode cX5_insert 22 = .ok (.getfield 9, 3)) ∧ (decode cX5_insert 25 = .ok (.iload_n 2, 1)) := by decide +kernel
theorem dX5_insert_0 : decode cX5_insert 0 = .ok (.aload_n 0, 1) := dgX5_insert_0.1
theorem dX5_insert_1 : decode cX5_insert 1 = .ok (.getfield 22, 3) := dgX5_insert_0.2.1
theorem dX5_insert_4 : decode cX5_insert 4 = .ok (.istore_n 2, 1) := dgX5_insert_0.2.2.1
theorem dX5_insert_5 : decode cX5_insert 5 = .ok (.iload_n 2, 1) := dgX5_insert_0.2.2.2.1
theorem dX5_insert_6 : decode cX5_insert 6 = .ok (.ifCond .le 35, 3) := dgX5_insert_0.2.2.2.2.1
theorem dX5_insert_9 : decode cX5_insert 9 = .ok (.aload_n 0, 1) := dgX5_insert_0.2.2.2.2.2.1
theorem dX5_insert_10 : decode cX5_insert 10 = .ok (.getfield 9, 3) := dgX5_insert_0.2.2.2.2.2.2.1
theorem dX5_insert_13 : decode cX5_insert 13 = .ok (.iload_n 2, 1) := dgX5_insert_0.2.2.2.2.2.2.2.1
theorem dX5_insert_14 : decode cX5_insert 14 = .ok (.iconst 1, 1) := dgX5_insert_0.2.2.2.2.2.2.2.2.1
theorem dX5_insert_15 : decode cX5_insert 15 = .ok (.isub, 1) := dgX5_insert_0.2.2.2.2.2.2.2.2.2.1
theorem dX5_insert_16 : decode cX5_insert 16 = .ok (.iaload, 1) := dgX5_insert_0.2.2.2.2.2.2.2.2.2.2.1
theorem dX5_insert_17 : decode cX5_insert 17 = .ok (.iload_n 1, 1) := dgX5_insert_0.2.2.2.2.2.2.2.2.2.2.2.1
theorem dX5_insert_18 : decode cX5_insert 18 = .ok (.if_icmp .ge 23, 3) := dgX5_insert_0.2.2.2.2.2.2.2.2.2.2.2.2.1
theorem dX5_insert_21 : decode cX5_insert 21 = .ok (.aload_n 0, 1) := dgX5_insert_0.2.2.2.2.2.2.2.2.2.2.2.2.2.1
theorem dX5_insert_22 : decode cX5_insert 22 = .ok (.getfield 9, 3) := dgX5_insert_0.2.2.2.2.2.2.2.2.2.2.2.2.2.2.1
theorem dX5_insert_25 : decode cX5_insert 25 = .ok (.iload_n 2, 1) := dgX5_insert_0.2.2.2.2.2.2.2.2.2.2.2.2.2.2.2
theorem dgX5_insert_16 : (decode cX5_insert 26 = .ok (.aload_n 0, 1)) ∧ (decode cX5_insert 27 = .ok (.getfield 9, 3)) ∧ (decode cX5_insert 30 = .ok (.iload_n 2, 1)) ∧ (decode cX5_insert 31 = .ok (.iconst 1, 1)) ∧ (decode cX5_insert 32 = .ok (.isub, 1)) ∧ (decode cX5_insert 33 = .ok (.iaload, 1)) ∧ (decode cX5_insert 34 = .ok (.iastore, 1)) ∧ (decode cX5_insert 35 = .ok (.iinc 2 (-1), 3)) ∧ (decode cX5_insert 38 = .ok (.goto (-33), 3)) ∧ (decode cX5_insert 41 = .ok (.aload_n 0, 1)) ∧ (decode cX5_insert 42 = .ok (.getfield 9, 3)) ∧ (decode cX5_insert 45 = .ok (.iload_n 2, 1)) ∧ (decode cX5_insert 46 = .ok (.iload_n 1, 1)) ∧ (decode cX5_insert 47 = .ok (.iastore, 1)) ∧ (decode cX5_insert 48 = .ok (.aload_n 0, 1)) ∧ (decode cX5_insert 49 = .ok (.dup, 1)) := by decide +kernel
theorem dX5_insert_26 : decode cX5_insert 26 = .ok (.aload_n 0, 1) := dgX5_insert_16.1
theorem dX5_insert_27 : decode cX5_insert 27 = .ok (.getfield 9, 3) := dgX5_insert_16.2.1
theorem dX5_insert_30 : decode cX5_insert 30 = .ok (.iload_n 2, 1) := dgX5_insert_16.2.2.1
theorem dX5_insert_31 : decode cX5_insert 31 = .ok (.iconst 1, 1) := dgX5_insert_16.2.2.2.1
theorem dX5_insert_32 : decode cX5_insert 32 = .ok (.isub, 1) := dgX5_insert_16.2.2.2.2.1
theorem dX5_insert_33 : decode cX5_insert 33 = .ok (.iaload, 1) := dgX5_insert_16.2.2.2.2.2.1
theorem dX5_insert_34 : decode cX5_insert 34 = .ok (.iastore, 1) := dgX5_insert_16.2.2.2.2.2.2.1
theorem dX5_insert_35 : decode cX5_insert 35 = .ok (.iinc 2 (-1), 3) := dgX5_insert_16.2.2.2.2.2.2.2.1
theorem dX5_insert_38 : decode cX5_insert 38 = .ok (.goto (-33), 3) := dgX5_insert_16.2.2.2.2.2.2.2.2.1
theorem dX5_insert_41 : decode cX5_insert 41 = .ok (.aload_n 0, 1) := dgX5_insert_16.2.2.2.2.2.2.2.2.2.1
theorem dX5_insert_42 : decode cX5_insert 42 = .ok (.getfield 9, 3) := dgX5_insert_16.2.2.2.2.2.2.2.2.2.2.1
theorem dX5_insert_45 : decode cX5_insert 45 = .ok (.iload_n 2, 1) := dgX5_insert_16.2.2.2.2.2.2.2.2.2.2.2.1
theorem dX5_insert_46 : decode cX5_insert 46 = .ok (.iload_n 1, 1) := dgX5_insert_16.2.2.2.2.2.2.2.2.2.2.2.2.1
theorem dX5_insert_47 : decode cX5_insert 47 = .ok (.iastore, 1) := dgX5_insert_16.2.2.2.2.2.2.2.2.2.2.2.2.2.1
theorem dX5_insert_48 : decode cX5_insert 48 = .ok (.aload_n 0, 1) := dgX5_insert_16.2.2.2.2.2.2.2.2.2.2.2.2.2.2.1
theorem dX5_insert_49 : decode cX5_insert 49 = .ok (.dup, 1) := dgX5_insert_16.2.2.2.2.2.2.2.2.2.2.2.2.2.2.2
theorem dgX5_insert_32 : (decode cX5_insert 50 = .ok (.getfield 22, 3)) ∧ (decode cX5_insert 53 = .ok (.iconst 1, 1)) ∧ (decode cX5_insert 54 = .ok (.iadd, 1)) ∧ (decode cX5_insert 55 = .ok (.putfield 22, 3)) ∧ (decode cX5_insert 58 = .ok (.return_, 1)) := by decide +kernel
theorem dX5_insert_50 : decode cX5_insert 50 = .ok (.getfield 22, 3) := dgX5_insert_32.1
theorem dX5_insert_53 : decode cX5_insert 53 = .ok (.iconst 1, 1) := dgX5_insert_32.2.1
theorem dX5_insert_54 : decode cX5_insert 54 = .ok (.iadd, 1) := dgX5_insert_32.2.2.1
theorem dX5_insert_55 : decode cX5_insert 55 = .ok (.putfield 22, 3) := dgX5_insert_32.2.2.2.1
theorem dX5_insert_58 : decode cX5_insert 58 = .ok (.return_, 1) := dgX5_insert_32.2.2.2.2
theorem dgX5_forget_0 : (decode cX5_forget 0 = .ok (.iconst 1, 1)) ∧ (decode cX5_forget 1 = .ok (.aload_n 0, 1)) ∧ (decode cX5_forget 2 = .ok (.getfield 22, 3)) ∧ (decode cX5_forget 5 = .ok (.ishl, 1)) ∧ (decode cX5_forget 6 = .ok (.istore_n 1, 1)) ∧ (decode cX5_forget 7 = .ok (.aload_n 0, 1)) ∧ (decode cX5_forget 8 = .ok (.getfield 45, 3)) ∧ (decode cX5_forget 11 = .ok (.ifnull 12, 3)) ∧ (decode cX5_forget 14 = .ok (.aload_n 0, 1)) ∧ (decode cX5_forget 15 = .ok (.getfield 45, 3)) ∧ (decode cX5_forget 18 = .ok (.arraylength, 1)) ∧ (decode cX5_forget 19 = .ok (.iload_n 1, 1)) ∧ (decode cX5_forget 20 = .ok (.if_icmp .ge 10, 3)) ∧ (decode cX5_forget 23 = .ok (.aload_n 0, 1)) ∧ (decode cX5_forget 24 = .ok (.iload_n 1, 1)) ∧ (decode cX5_forget 25 = .ok (.newarray .byte, 2)) := by decide +kernel
theorem dX5_forget_0 : decode cX5_forget 0 = .ok (.iconst 1, 1) := dgX5_forget_0.1
theorem dX5_forget_1 : decode cX5_forget 1 = .ok (.aload_n 0, 1) := dgX5_forget_0.2.1
theorem dX5_forget_2 : decode cX5_forget 2 = .ok (.getfield 22, 3) := dgX5_forget_0.2.2.1
theorem dX5_forget_5 : decode cX5_forget 5 = .ok (.ishl, 1) := dgX5_forget_0.2.2.2.1
theorem dX5_forget_6 : decode cX5_forget 6 = .ok (.istore_n 1, 1) := dgX5_forget_0.2.2.2.2.1
theorem dX5_forget_7 : decode cX5_forget 7 = .ok (.aload_n 0, 1) := dgX5_forget_0.2.2.2.2.2.1
theorem dX5_forget_8 : decode cX5_forget 8 = .ok (.getfield 45, 3) := dgX5_forget_0.2.2.2.2.2.2.1
theorem dX5_forget_11 : decode cX5_forget 11 = .ok (.ifnull 12, 3) := dgX5_forget_0.2.2.2.2.2.2.2.1
theorem dX5_forget_14 : decode cX5_forget 14 = .ok (.aload_n 0, 1) := dgX5_forget_0.2.2.2.2.2.2.2.2.1
theorem dX5_forget_15 : decode cX5_forget 15 = .ok (.getfield 45, 3) := dgX5_forget_0.2.2.2.2.2.2.2.2.2.1
theorem dX5_forget_18 : decode cX5_forget 18 = .ok (.arraylength, 1) := dgX5_forget_0.2.2.2.2.2.2.2.2.2.2.1
theorem dX5_forget_19 : decode cX5_forget 19 = .ok (.iload_n 1, 1) := dgX5_forget_0.2.2.2.2.2.2.2.2.2.2.2.1
theorem dX5_forget_20 : decode cX5_forget 20 = .ok (.if_icmp .ge 10, 3) := dgX5_forget_0.2.2.2.2.2.2.2.2.2.2.2.2.1
theorem dX5_forget_23 : decode cX5_forget 23 = .ok (.aload_n 0, 1) := dgX5_forget_0.2.2.2.2.2.2.2.2.2.2.2.2.2.1
theorem dX5_forget_24 : decode cX5_forget 24 = .ok (.iload_n 1, 1) := dgX5_forget_0.2.2.2.2.2.2.2.2.2.2.2.2.2.2.1
theorem dX5_forget_25 : decode cX5_forget 25 = .ok (.newarray .byte, 2) := dgX5_forget_0.2.2.2.2.2.2.2.2.2.2.2.2.2.2.2
theorem dgX5_forget_16 : (decode cX5_forget 27 = .ok (.putfield 45, 3)) ∧ (decode cX5_forget 30 = .ok (.iconst 0, 1)) ∧ (decode cX5_forget 31 = .ok (.istore_n 2, 1)) ∧ (decode cX5_forget 32 = .ok (.iload_n 2, 1)) ∧ (decode cX5_forget 33 = .ok (.iload_n 1, 1)) ∧ (decode cX5_forget 34 = .ok (.if_icmp .ge 16, 3)) ∧ (decode cX5_forget 37 = .ok (.aload_n 0, 1)) ∧ (decode cX5_forget 38 = .ok (.getfield 45, 3)) ∧ (decode cX5_forget 41 = .ok (.iload_n 2, 1)) ∧ (decode cX5_forget 42 = .ok (.iconst (-1), 1)) ∧ (decode cX5_forget 43 = .ok (.bastore, 1)) ∧ (decode cX5_forget 44 = .ok (.iinc 2 1, 3)) ∧ (decode cX5_forget 47 = .ok (.goto (-15), 3)) ∧ (decode cX5_forget 50 = .ok (.return_, 1)) := by decide +kernel
theorem dX5_forget_27 : decode cX5_forget 27 = .ok (.putfield 45, 3) := dgX5_forget_16.1
theorem dX5_forget_30 : decode cX5_forget 30 = .ok (.iconst 0, 1) := dgX5_forget_16.2.1
theorem dX5_forget_31 : decode cX5_forget 31 = .ok (.istore_n 2, 1) := dgX5_forget_16.2.2.1
theorem dX5_forget_32 : decode cX5_forget 32 = .ok (.iload_n 2, 1) := dgX5_forget_16.2.2.2.1
theorem dX5_forget_33 : decode cX5_forget 33 = .ok (.iload_n 1, 1) := dgX5_forget_16.2.2.2.2.1
theorem dX5_forget_34 : decode cX5_forget 34 = .ok (.if_icmp .ge 16, 3) := dgX5_forget_16.2.2.2.2.2.1
theorem dX5_forget_37 : decode cX5_forget 37 = .ok (.aload_n 0, 1) := dgX5_forget_16.2.2.2.2.2.2.1
theorem dX5_forget_38 : decode cX5_forget 38 = .ok (.getfield 45, 3) := dgX5_forget_16.2.2.2.2.2.2.2.1
theorem dX5_forget_41 : decode cX5_forget 41 = .ok (.iload_n 2, 1) := dgX5_forget_16.2.2.2.2.2.2.2.2.1
theorem dX5_forget_42 : decode cX5_forget 42 = .ok (.iconst (-1), 1) := dgX5_forget_16.2.2.2.2.2.2.2.2.2.1
theorem dX5_forget_43 : decode cX5_forget 43 = .ok (.bastore, 1) := dgX5_forget_16.2.2.2.2.2.2.2.2.2.2.1
theorem dX5_forget_44 : decode cX5_forget 44 = .ok (.iinc 2 1, 3) := dgX5_forget_16.2.2.2.2.2.2.2.2.2.2.2.1
theorem dX5_forget_47 : decode cX5_forget 47 = .ok (.goto (-15), 3) := dgX5_forget_16.2.2.2.2.2.2.2.2.2.2.2.2.1
theorem dX5_forget_50 : decode cX5_forget 50 = .ok (.return_, 1) := dgX5_forget_16.2.2.2.2.2.2.2.2.2.2.2.2.2
theorem dgX5_isFree_0 : (decode cX5_isFree 0 = .ok (.iload_n 1, 1)) ∧ (decode cX5_isFree 1 = .ok (.iload_n 2, 1)) ∧ (decode cX5_isFree 2 = .ok (.ishr, 1)) ∧ (decode cX5_isFree 3 = .ok (.iconst 1, 1)) ∧ (decode cX5_isFree 4 = .ok (.iand, 1)) ∧ (decode cX5_isFree 5 = .ok (.ifCond .eq 7, 3)) ∧ (decode cX5_isFree 8 = .ok (.iconst 1, 1)) ∧ (decode cX5_isFree 9 = .ok (.goto 4, 3)) ∧ (decode cX5_isFree 12 = .ok (.iconst 0, 1)) ∧ (decode cX5_isFree 13 = .ok (.ireturn, 1)) := by decide +kernel
theorem dX5_isFree_0 : decode cX5_isFree 0 = .ok (.iload_n 1, 1) := dgX5_isFree_0.1
theorem dX5_isFree_1 : decode cX5_isFree 1 = .ok (.iload_n 2, 1) := dgX5_isFree_0.2.1
theorem dX5_isFree_2 : decode cX5_isFree 2 = .ok (.ishr, 1) := dgX5_isFree_0.2.2.1
theorem dX5_isFree_3 : decode cX5_isFree 3 = .ok (.iconst 1, 1) := dgX5_isFree_0.2.2.2.1
theorem dX5_isFree_4 : decode cX5_isFree 4 = .ok (.iand, 1) := dgX5_isFree_0.2.2.2.2.1
theorem dX5_isFree_5 : decode cX5_isFree 5 = .ok (.ifCond .eq 7, 3) := dgX5_isFree_0.2.2.2.2.2.1
theorem dX5_isFree_8 : decode cX5_isFree 8 = .ok (.iconst 1, 1) := dgX5_isFree_0.2.2.2.2.2.2.1
theorem dX5_isFree_9 : decode cX5_isFree 9 = .ok (.goto 4, 3) := dgX5_isFree_0.2.2.2.2.2.2.2.1
theorem dX5_isFree_12 : decode cX5_isFree 12 = .ok (.iconst 0, 1) := dgX5_isFree_0.2.2.2.2.2.2.2.2.1
theorem dX5_isFree_13 : decode cX5_isFree 13 = .ok (.ireturn, 1) := dgX5_isFree_0.2.2.2.2.2.2.2.2.2
theorem dgX5_mostOf_0 : (decode cX5_mostOf 0 = .ok (.iload_n 2, 1)) ∧ (decode cX5_mostOf 1 = .ok (.aload_n 0, 1)) ∧ (decode cX5_mostOf 2 = .ok (.getfield 15, 3)) ∧ (decode cX5_mostOf 5 = .ok (.if_icmp .ge 5, 3)) ∧ (decode cX5_mostOf 8 = .ok (.iconst 0, 1)) ∧ (decode cX5_mostOf 9 = .ok (.ireturn, 1)) ∧ (decode cX5_mostOf 10 = .ok (.aload_n 0, 1)) ∧ (decode cX5_mostOf 11 = .ok (.getfield 45, 3)) ∧ (decode cX5_mostOf 14 = .ok (.iload_n 1, 1)) ∧ (decode cX5_mostOf 15 = .ok (.baload, 1)) ∧ (decode cX5_mostOf 16 = .ok (.iconst (-1), 1)) ∧ (decode cX5_mostOf 17 = .ok (.if_icmp .eq 10, 3)) ∧ (decode cX5_mostOf 20 = .ok (.aload_n 0, 1)) ∧ (decode cX5_mostOf 21 = .ok (.getfield 45, 3)) ∧ (decode cX5_mostOf 24 = .ok (.iload_n 1, 1)) ∧ (decode cX5_mostOf 25 = .ok (.baload, 1)) := by decide +kernel
theorem dX5_mostOf_0 : decode cX5_mostOf 0 = .ok (.iload_n 2, 1) := dgX5_mostOf_0.1
theorem dX5_mostOf_1 : decode cX5_mostOf 1 = .ok (.aload_n 0, 1) := dgX5_mostOf_0.2.1
theorem dX5_mostOf_2 : decode cX5_mostOf 2 = .ok (.getfield 15, 3) := dgX5_mostOf_0.2.2.1
theorem dX5_mostOf_5 : decode cX5_mostOf 5 = .ok (.if_icmp .ge 5, 3) := dgX5_mostOf_0.2.2.2.1
theorem dX5_mostOf_8 : decode cX5_mostOf 8 = .ok (.iconst 0, 1) := dgX5_mostOf_0.2.2.2.2.1
theorem dX5_mostOf_9 : decode cX5_mostOf 9 = .ok (.ireturn, 1) := dgX5_mostOf_0.2.2.2.2.2.1
theorem dX5_mostOf_10 : decode cX5_mostOf 10 = .ok (.aload_n 0, 1) := dgX5_mostOf_0.2.2.2.2.2.2.1
theorem dX5_mostOf_11 : decode cX5_mostOf 11 = .ok (.getfield 45, 3) := dgX5_mostOf_0.2.2.2.2.2.2.2.1
theorem dX5_mostOf_14 : decode cX5_mostOf 14 = .ok (.iload_n 1, 1) := dgX5_mostOf_0.2.2.2.2.2.2.2.2.1
theorem dX5_mostOf_15 : decode cX5_mostOf 15 = .ok (.baload, 1) := dgX5_mostOf_0.2.2.2.2.2.2.2.2.2.1
theorem dX5_mostOf_16 : decode cX5_mostOf 16 = .ok (.iconst (-1), 1) := dgX5_mostOf_0.2.2.2.2.2.2.2.2.2.2.1
theorem dX5_mostOf_17 : decode cX5_mostOf 17 = .ok (.if_icmp .eq 10, 3) := dgX5_mostOf_0.2.2.2.2.2.2.2.2.2.2.2.1
theorem dX5_mostOf_20 : decode cX5_mostOf 20 = .ok (.aload_n 0, 1) := dgX5_mostOf_0.2.2.2.2.2.2.2.2.2.2.2.2.1
theorem dX5_mostOf_21 : decode cX5_mostOf 21 = .ok (.getfield 45, 3) := dgX5_mostOf_0.2.2.2.2.2.2.2.2.2.2.2.2.2.1
theorem dX5_mostOf_24 : decode cX5_mostOf 24 = .ok (.iload_n 1, 1) := dgX5_mostOf_0.2.2.2.2.2.2.2.2.2.2.2.2.2.2.1
theorem dX5_mostOf_25 : decode cX5_mostOf 25 = .ok (.baload, 1) := dgX5_mostOf_0.2.2.2.2.2.2.2.2.2.2.2.2.2.2.2
theorem dgX5_mostOf_16 : (decode cX5_mostOf 26 = .ok (.ireturn, 1)) ∧ (decode cX5_mostOf 27 = .ok (.iconst 0, 1)) ∧ (decode cX5_mostOf 28 = .ok (.istore_n 3, 1)) ∧ (decode cX5_mostOf 29 = .ok (.iload_n 3, 1)) ∧ (decode cX5_mostOf 30 = .ok (.aload_n 0, 1)) ∧ (decode cX5_mostOf 31 = .ok (.getfield 22, 3)) ∧ (decode cX5_mostOf 34 = .ok (.if_icmp .ge 18, 3)) ∧ (decode cX5_mostOf 37 = .ok (.aload_n 0, 1)) ∧ (decode cX5_mostOf 38 = .ok (.iload_n 1, 1)) ∧ (decode cX5_mostOf 39 = .ok (.iload_n 3, 1)) ∧ (decode cX5_mostOf 40 = .ok (.invokevirtual 49, 3)) ∧ (decode cX5_mostOf 43 = .ok (.ifCond .ne 9, 3)) ∧ (decode cX5_mostOf 46 = .ok (.iinc 3 1, 3)) ∧ (decode cX5_mostOf 49 = .ok (.goto (-20), 3)) ∧ (decode cX5_mostOf 52 = .ok (.iload_n 3, 1)) ∧ (decode cX5_mostOf 53 = .ok (.aload_n 0, 1)) := by decide +kernel
theorem dX5_mostOf_26 : decode cX5_mostOf 26 = .ok (.ireturn, 1) := dgX5_mostOf_16.1
theorem dX5_mostOf_27 : decode cX5_mostOf 27 = .ok (.iconst 0, 1) := dgX5_mostOf_16.2.1
theorem dX5_mostOf_28 : decode cX5_mostOf 28 = .ok (.istore_n 3, 1) := dgX5_mostOf_16.2.2.1
theorem dX5_mostOf_29 : decode cX5_mostOf 29 = .ok (.iload_n 3, 1) := dgX5_mostOf_16.2.2.2.1
theorem dX5_mostOf_30 : decode cX5_mostOf 30 = .ok (.aload_n 0, 1) := dgX5_mostOf_16.2.2.2.2.1
theorem dX5_mostOf_31 : decode cX5_mostOf 31 = .ok (.getfield 22, 3) := dgX5_mostOf_16.2.2.2.2.2.1
theorem dX5_mostOf_34 : decode cX5_mostOf 34 = .ok (.if_icmp .ge 18, 3) := dgX5_mostOf_16.2.2.2.2.2.2.1
theorem dX5_mostOf_37 : decode cX5_mostOf 37 = .ok (.aload_n 0, 1) := dgX5_mostOf_16.2.2.2.2.2.2.2.1
theorem dX5_mostOf_38 : decode cX5_mostOf 38 = .ok (.iload_n 1, 1) := dgX5_mostOf_16.2.2.2.2.2.2.2.2.1
theorem dX5_mostOf_39 : decode cX5_mostOf 39 = .ok (.iload_n 3, 1) := dgX5_mostOf_16.2.2.2.2.2.2.2.2.2.1
theorem dX5_mostOf_40 : decode cX5_mostOf 40 = .ok (.invokevirtual 49, 3) := dgX5_mostOf_16.2.2.2.2.2.2.2.2.2.2.1
theorem dX5_mostOf_43 : decode cX5_mostOf 43 = .ok (.ifCond .ne 9, 3) := dgX5_mostOf_16.2.2.2.2.2.2.2.2.2.2.2.1
theorem dX5_mostOf_46 : decode cX5_mostOf 46 = .ok (.iinc 3 1, 3) := dgX5_mostOf_16.2.2.2.2.2.2.2.2.2.2.2.2.1
theorem dX5_mostOf_49 : decode cX5_mostOf 49 = .ok (.goto (-20), 3) := dgX5_mostOf_16.2.2.2.2.2.2.2.2.2.2.2.2.2.1
theorem dX5_mostOf_52 : decode cX5_mostOf 52 = .ok (.iload_n 3, 1) := dgX5_mostOf_16.2.2.2.2.2.2.2.2.2.2.2.2.2.2.1
theorem dX5_mostOf_53 : decode cX5_mostOf 53 = .ok (.aload_n 0, 1) := dgX5_mostOf_16.2.2.2.2.2.2.2.2.2.2.2.2.2.2.2
theorem dgX5_mostOf_32 : (decode cX5_mostOf 54 = .ok (.getfield 22, 3)) ∧ (decode cX5_mostOf 57 = .ok (.if_icmp .lt 5, 3)) ∧ (decode cX5_mostOf 60 = .ok (.iconst 0, 1)) ∧ (decode cX5_mostOf 61 = .ok (.ireturn, 1)) ∧ (decode cX5_mostOf 62 = .ok (.aload_n 0, 1)) ∧ (decode cX5_mostOf 63 = .ok (.getfield 9, 3)) ∧ (decode cX5_mostOf 66 = .ok (.iload_n 3, 1)) ∧ (decode cX5_mostOf 67 = .ok (.iaload, 1)) ∧ (decode cX5_mostOf 68 = .ok (.istore 4, 2)) ∧ (decode cX5_mostOf 70 = .ok (.iload_n 2, 1)) ∧ (decode cX5_mostOf 71 = .ok (.iload 4, 2)) ∧ (decode cX5_mostOf 73 = .ok (.isub, 1)) ∧ (decode cX5_mostOf 74 = .ok (.istore 5, 2)) ∧ (decode cX5_mostOf 76 = .ok (.aload_n 0, 1)) ∧ (decode cX5_mostOf 77 = .ok (.iload_n 1, 1)) ∧ (decode cX5_mostOf 78 = .ok (.iconst 1, 1)) := by decide +kernel
theorem dX5_mostOf_54 : decode cX5_mostOf 54 = .ok (.getfield 22, 3) := dgX5_mostOf_32.1
theorem dX5_mostOf_57 : decode cX5_mostOf 57 = .ok (.if_icmp .lt 5, 3) := dgX5_mostOf_32.2.1
theorem dX5_mostOf_60 : decode cX5_mostOf 60 = .ok (.iconst 0, 1) := dgX5_mostOf_32.2.2.1
theorem dX5_mostOf_61 : decode cX5_mostOf 61 = .ok (.ireturn, 1) := dgX5_mostOf_32.2.2.2.1
theorem dX5_mostOf_62 : decode cX5_mostOf 62 = .ok (.aload_n 0, 1) := dgX5_mostOf_32.2.2.2.2.1
theorem dX5_mostOf_63 : decode cX5_mostOf 63 = .ok (.getfield 9, 3) := dgX5_mostOf_32.2.2.2.2.2.1
theorem dX5_mostOf_66 : decode cX5_mostOf 66 = .ok (.iload_n 3, 1) := dgX5_mostOf_32.2.2.2.2.2.2.1
theorem dX5_mostOf_67 : decode cX5_mostOf 67 = .ok (.iaload, 1) := dgX5_mostOf_32.2.2.2.2.2.2.2.1
theorem dX5_mostOf_68 : decode cX5_mostOf 68 = .ok (.istore 4, 2) := dgX5_mostOf_32.2.2.2.2.2.2.2.2.1
theorem dX5_mostOf_70 : decode cX5_mostOf 70 = .ok (.iload_n 2, 1) := dgX5_mostOf_32.2.2.2.2.2.2.2.2.2.1
theorem dX5_mostOf_71 : decode cX5_mostOf 71 = .ok (.iload 4, 2) := dgX5_mostOf_32.2.2.2.2.2.2.2.2.2.2.1
theorem dX5_mostOf_73 : decode cX5_mostOf 73 = .ok (.isub, 1) := dgX5_mostOf_32.2.2.2.2.2.2.2.2.2.2.2.1
theorem dX5_mostOf_74 : decode cX5_mostOf 74 = .ok (.istore 5, 2) := dgX5_mostOf_32.2.2.2.2.2.2.2.2.2.2.2.2.1
theorem dX5_mostOf_76 : decode cX5_mostOf 76 = .ok (.aload_n 0, 1) := dgX5_mostOf_32.2.2.2.2.2.2.2.2.2.2.2.2.2.1
theorem dX5_mostOf_77 : decode cX5_mostOf 77 = .ok (.iload_n 1, 1) := dgX5_mostOf_32.2.2.2.2.2.2.2.2.2.2.2.2.2.2.1
theorem dX5_mostOf_78 : decode cX5_mostOf 78 = .ok (.iconst 1, 1) := dgX5_mostOf_32.2.2.2.2.2.2.2.2.2.2.2.2.2.2.2
theorem dgX5_mostOf_48 : (decode cX5_mostOf 79 = .ok (.iload_n 3, 1)) ∧ (decode cX5_mostOf 80 = .ok (.ishl, 1)) ∧ (decode cX5_mostOf 81 = .ok (.iconst (-1), 1)) ∧ (decode cX5_mostOf 82 = .ok (.ixor, 1)) ∧ (decode cX5_mostOf 83 = .ok (.iand, 1)) ∧ (decode cX5_mostOf 84 = .ok (.iload 5, 2)) ∧ (decode cX5_mostOf 86 = .ok (.iload_n 3, 1)) ∧ (decode cX5_mostOf 87 = .ok (.iconst 1, 1)) ∧ (decode cX5_mostOf 88 = .ok (.iadd, 1)) ∧ (decode cX5_mostOf 89 = .ok (.iload 5, 2)) ∧ (decode cX5_mostOf 91 = .ok (.iload 4, 2)) ∧ (decode cX5_mostOf 93 = .ok (.invokevirtual 53, 3)) ∧ (decode cX5_mostOf 96 = .ok (.istore 6, 2)) ∧ (decode cX5_mostOf 98 = .ok (.iload 6, 2)) ∧ (decode cX5_mostOf 100 = .ok (.iconst 1, 1)) ∧ (decode cX5_mostOf 101 = .ok (.iadd, 1)) := by decide +kernel
theorem dX5_mostOf_79 : decode cX5_mostOf 79 = .ok (.iload_n 3, 1) := dgX5_mostOf_48.1
theorem dX5_mostOf_80 : decode cX5_mostOf 80 = .ok (.ishl, 1) := dgX5_mostOf_48.2.1
theorem dX5_mostOf_81 : decode cX5_mostOf 81 = .ok (.iconst (-1), 1) := dgX5_mostOf_48.2.2.1
theorem dX5_mostOf_82 : decode cX5_mostOf 82 = .ok (.ixor, 1) := dgX5_mostOf_48.2.2.2.1
theorem dX5_mostOf_83 : decode cX5_mostOf 83 = .ok (.iand, 1) := dgX5_mostOf_48.2.2.2.2.1
theorem dX5_mostOf_84 : decode cX5_mostOf 84 = .ok (.iload 5, 2) := dgX5_mostOf_48.2.2.2.2.2.1
theorem dX5_mostOf_86 : decode cX5_mostOf 86 = .ok (.iload_n 3, 1) := dgX5_mostOf_48.2.2.2.2.2.2.1
theorem dX5_mostOf_87 : decode cX5_mostOf 87 = .ok (.iconst 1, 1) := dgX5_mostOf_48.2.2.2.2.2.2.2.1
theorem dX5_mostOf_88 : decode cX5_mostOf 88 = .ok (.iadd, 1) := dgX5_mostOf_48.2.2.2.2.2.2.2.2.1
theorem dX5_mostOf_89 : decode cX5_mostOf 89 = .ok (.iload 5, 2) := dgX5_mostOf_48.2.2.2.2.2.2.2.2.2.1
theorem dX5_mostOf_91 : decode cX5_mostOf 91 = .ok (.iload 4, 2) := dgX5_mostOf_48.2.2.2.2.2.2.2.2.2.2.1
theorem dX5_mostOf_93 : decode cX5_mostOf 93 = .ok (.invokevirtual 53, 3) := dgX5_mostOf_48.2.2.2.2.2.2.2.2.2.2.2.1
theorem dX5_mostOf_96 : decode cX5_mostOf 96 = .ok (.istore 6, 2) := dgX5_mostOf_48.2.2.2.2.2.2.2.2.2.2.2.2.1
theorem dX5_mostOf_98 : decode cX5_mostOf 98 = .ok (.iload 6, 2) := dgX5_mostOf_48.2.2.2.2.2.2.2.2.2.2.2.2.2.1
theorem dX5_mostOf_100 : decode cX5_mostOf 100 = .ok (.iconst 1, 1) := dgX5_mostOf_48.2.2.2.2.2.2.2.2.2.2.2.2.2.2.1
theorem dX5_mostOf_101 : decode cX5_mostOf 101 = .ok (.iadd, 1) := dgX5_mostOf_48.2.2.2.2.2.2.2.2.2.2.2.2.2.2.2
theorem dgX5_mostOf_64 : (decode cX5_mostOf 102 = .ok (.aload_n 0, 1)) ∧ (decode cX5_mostOf 103 = .ok (.getfield 15, 3)) ∧ (decode cX5_mostOf 106 = .ok (.imul, 1)) ∧ (decode cX5_mostOf 107 = .ok (.iload_n 2, 1)) ∧ (decode cX5_mostOf 108 = .ok (.if_icmp .gt 83, 3)) ∧ (decode cX5_mostOf 111 = .ok (.iload_n 1, 1)) ∧ (decode cX5_mostOf 112 = .ok (.istore 7, 2)) ∧ (decode cX5_mostOf 114 = .ok (.iload_n 2, 1)) ∧ (decode cX5_mostOf 115 = .ok (.istore 8, 2)) ∧ (decode cX5_mostOf 117 = .ok (.iload_n 3, 1)) ∧ (decode cX5_mostOf 118 = .ok (.istore 9, 2)) ∧ (decode cX5_mostOf 120 = .ok (.iload 9, 2)) ∧ (decode cX5_mostOf 122 = .ok (.aload_n 0, 1)) ∧ (decode cX5_mostOf 123 = .ok (.getfield 22, 3)) ∧ (decode cX5_mostOf 126 = .ok (.if_icmp .ge 50, 3)) ∧ (decode cX5_mostOf 129 = .ok (.aload_n 0, 1)) := by decide +kernel
theorem dX5_mostOf_102 : decode cX5_mostOf 102 = .ok (.aload_n 0, 1) := dgX5_mostOf_64.1
theorem dX5_mostOf_103 : decode cX5_mostOf 103 = .ok (.getfield 15, 3) := dgX5_mostOf_64.2.1
theorem dX5_mostOf_106 : decode cX5_mostOf 106 = .ok (.imul, 1) := dgX5_mostOf_64.2.2.1
theorem dX5_mostOf_107 : decode cX5_mostOf 107 = .ok (.iload_n 2, 1) := dgX5_mostOf_64.2.2.2.1
theorem dX5_mostOf_108 : decode cX5_mostOf 108 = .ok (.if_icmp .gt 83, 3) := dgX5_mostOf_64.2.2.2.2.1
theorem dX5_mostOf_111 : decode cX5_mostOf 111 = .ok (.iload_n 1, 1) := dgX5_mostOf_64.2.2.2.2.2.1
theorem dX5_mostOf_112 : decode cX5_mostOf 112 = .ok (.istore 7, 2) := dgX5_mostOf_64.2.2.2.2.2.2.1
theorem dX5_mostOf_114 : decode cX5_mostOf 114 = .ok (.iload_n 2, 1) := dgX5_mostOf_64.2.2.2.2.2.2.2.1
theorem dX5_mostOf_115 : decode cX5_mostOf 115 = .ok (.istore 8, 2) := dgX5_mostOf_64.2.2.2.2.2.2.2.2.1
theorem dX5_mostOf_117 : decode cX5_mostOf 117 = .ok (.iload_n 3, 1) := dgX5_mostOf_64.2.2.2.2.2.2.2.2.2.1
theorem dX5_mostOf_118 : decode cX5_mostOf 118 = .ok (.istore 9, 2) := dgX5_mostOf_64.2.2.2.2.2.2.2.2.2.2.1
theorem dX5_mostOf_120 : decode cX5_mostOf 120 = .ok (.iload 9, 2) := dgX5_mostOf_64.2.2.2.2.2.2.2.2.2.2.2.1
theorem dX5_mostOf_122 : decode cX5_mostOf 122 = .ok (.aload_n 0, 1) := dgX5_mostOf_64.2.2.2.2.2.2.2.2.2.2.2.2.1
theorem dX5_mostOf_123 : decode cX5_mostOf 123 = .ok (.getfield 22, 3) := dgX5_mostOf_64.2.2.2.2.2.2.2.2.2.2.2.2.2.1
theorem dX5_mostOf_126 : decode cX5_mostOf 126 = .ok (.if_icmp .ge 50, 3) := dgX5_mostOf_64.2.2.2.2.2.2.2.2.2.2.2.2.2.2.1
theorem dX5_mostOf_129 : decode cX5_mostOf 129 = .ok (.aload_n 0, 1) := dgX5_mostOf_64.2.2.2.2.2.2.2.2.2.2.2.2.2.2.2
theorem dgX5_mostOf_80 : (decode cX5_mostOf 130 = .ok (.getfield 9, 3)) ∧ (decode cX5_mostOf 133 = .ok (.iload 9, 2)) ∧ (decode cX5_mostOf 135 = .ok (.iaload, 1)) ∧ (decode cX5_mostOf 136 = .ok (.iload 4, 2)) ∧ (decode cX5_mostOf 138 = .ok (.if_icmp .ne 38, 3)) ∧ (decode cX5_mostOf 141 = .ok (.aload_n 0, 1)) ∧ (decode cX5_mostOf 142 = .ok (.iload 7, 2)) ∧ (decode cX5_mostOf 144 = .ok (.iload 9, 2)) ∧ (decode cX5_mostOf 146 = .ok (.invokevirtual 49, 3)) ∧ (decode cX5_mostOf 149 = .ok (.ifCond .eq 21, 3)) ∧ (decode cX5_mostOf 152 = .ok (.iload 7, 2)) ∧ (decode cX5_mostOf 154 = .ok (.iconst 1, 1)) ∧ (decode cX5_mostOf 155 = .ok (.iload 9, 2)) ∧ (decode cX5_mostOf 157 = .ok (.ishl, 1)) ∧ (decode cX5_mostOf 158 = .ok (.iconst (-1), 1)) ∧ (decode cX5_mostOf 159 = .ok (.ixor, 1)) := by decide +kernel
theorem dX5_mostOf_130 : decode cX5_mostOf 130 = .ok (.getfield 9, 3) := dgX5_mostOf_80.1
theorem dX5_mostOf_133 : decode cX5_mostOf 133 = .ok (.iload 9, 2) := dgX5_mostOf_80.2.1
theorem dX5_mostOf_135 : decode cX5_mostOf 135 = .ok (.iaload, 1) := dgX5_mostOf_80.2.2.1
theorem dX5_mostOf_136 : decode cX5_mostOf 136 = .ok (.iload 4, 2) := dgX5_mostOf_80.2.2.2.1
theorem dX5_mostOf_138 : decode cX5_mostOf 138 = .ok (.if_icmp .ne 38, 3) := dgX5_mostOf_80.2.2.2.2.1
theorem dX5_mostOf_141 : decode cX5_mostOf 141 = .ok (.aload_n 0, 1) := dgX5_mostOf_80.2.2.2.2.2.1
theorem dX5_mostOf_142 : decode cX5_mostOf 142 = .ok (.iload 7, 2) := dgX5_mostOf_80.2.2.2.2.2.2.1
theorem dX5_mostOf_144 : decode cX5_mostOf 144 = .ok (.iload 9, 2) := dgX5_mostOf_80.2.2.2.2.2.2.2.1
theorem dX5_mostOf_146 : decode cX5_mostOf 146 = .ok (.invokevirtual 49, 3) := dgX5_mostOf_80.2.2.2.2.2.2.2.2.1
theorem dX5_mostOf_149 : decode cX5_mostOf 149 = .ok (.ifCond .eq 21, 3) := dgX5_mostOf_80.2.2.2.2.2.2.2.2.2.1
theorem dX5_mostOf_152 : decode cX5_mostOf 152 = .ok (.iload 7, 2) := dgX5_mostOf_80.2.2.2.2.2.2.2.2.2.2.1
theorem dX5_mostOf_154 : decode cX5_mostOf 154 = .ok (.iconst 1, 1) := dgX5_mostOf_80.2.2.2.2.2.2.2.2.2.2.2.1
theorem dX5_mostOf_155 : decode cX5_mostOf 155 = .ok (.iload 9, 2) := dgX5_mostOf_80.2.2.2.2.2.2.2.2.2.2.2.2.1
theorem dX5_mostOf_157 : decode cX5_mostOf 157 = .ok (.ishl, 1) := dgX5_mostOf_80.2.2.2.2.2.2.2.2.2.2.2.2.2.1
theorem dX5_mostOf_158 : decode cX5_mostOf 158 = .ok (.iconst (-1), 1) := dgX5_mostOf_80.2.2.2.2.2.2.2.2.2.2.2.2.2.2.1
theorem dX5_mostOf_159 : decode cX5_mostOf 159 = .ok (.ixor, 1) := dgX5_mostOf_80.2.2.2.2.2.2.2.2.2.2.2.2.2.2.2
theorem dgX5_mostOf_96 : (decode cX5_mostOf 160 = .ok (.iand, 1)) ∧ (decode cX5_mostOf 161 = .ok (.istore 7, 2)) ∧ (decode cX5_mostOf 163 = .ok (.iload 8, 2)) ∧ (decode cX5_mostOf 165 = .ok (.iload 4, 2)) ∧ (decode cX5_mostOf 167 = .ok (.isub, 1)) ∧ (decode cX5_mostOf 168 = .ok (.istore 8, 2)) ∧ (decode cX5_mostOf 170 = .ok (.iinc 9 1, 3)) ∧ (decode cX5_mostOf 173 = .ok (.goto (-53), 3)) ∧ (decode cX5_mostOf 176 = .ok (.iload 6, 2)) ∧ (decode cX5_mostOf 178 = .ok (.aload_n 0, 1)) ∧ (decode cX5_mostOf 179 = .ok (.iload 7, 2)) ∧ (decode cX5_mostOf 181 = .ok (.iload 8, 2)) ∧ (decode cX5_mostOf 183 = .ok (.invokevirtual 42, 3)) ∧ (decode cX5_mostOf 186 = .ok (.invokestatic 57, 3)) ∧ (decode cX5_mostOf 189 = .ok (.istore 6, 2)) ∧ (decode cX5_mostOf 191 = .ok (.aload_n 0, 1)) := by decide +kernel
theorem dX5_mostOf_160 : decode cX5_mostOf 160 = .ok (.iand, 1) := dgX5_mostOf_96.1
theorem dX5_mostOf_161 : decode cX5_mostOf 161 = .ok (.istore 7, 2) := dgX5_mostOf_96.2.1
theorem dX5_mostOf_163 : decode cX5_mostOf 163 = .ok (.iload 8, 2) := dgX5_mostOf_96.2.2.1
theorem dX5_mostOf_165 : decode cX5_mostOf 165 = .ok (.iload 4, 2) := dgX5_mostOf_96.2.2.2.1
theorem dX5_mostOf_167 : decode cX5_mostOf 167 = .ok (.isub, 1) := dgX5_mostOf_96.2.2.2.2.1
theorem dX5_mostOf_168 : decode cX5_mostOf 168 = .ok (.istore 8, 2) := dgX5_mostOf_96.2.2.2.2.2.1
theorem dX5_mostOf_170 : decode cX5_mostOf 170 = .ok (.iinc 9 1, 3) := dgX5_mostOf_96.2.2.2.2.2.2.1
theorem dX5_mostOf_173 : decode cX5_mostOf 173 = .ok (.goto (-53), 3) := dgX5_mostOf_96.2.2.2.2.2.2.2.1
theorem dX5_mostOf_176 : decode cX5_mostOf 176 = .ok (.iload 6, 2) := dgX5_mostOf_96.2.2.2.2.2.2.2.2.1
theorem dX5_mostOf_178 : decode cX5_mostOf 178 = .ok (.aload_n 0, 1) := dgX5_mostOf_96.2.2.2.2.2.2.2.2.2.1
theorem dX5_mostOf_179 : decode cX5_mostOf 179 = .ok (.iload 7, 2) := dgX5_mostOf_96.2.2.2.2.2.2.2.2.2.2.1
theorem dX5_mostOf_181 : decode cX5_mostOf 181 = .ok (.iload 8, 2) := dgX5_mostOf_96.2.2.2.2.2.2.2.2.2.2.2.1
theorem dX5_mostOf_183 : decode cX5_mostOf 183 = .ok (.invokevirtual 42, 3) := dgX5_mostOf_96.2.2.2.2.2.2.2.2.2.2.2.2.1
theorem dX5_mostOf_186 : decode cX5_mostOf 186 = .ok (.invokestatic 57, 3) := dgX5_mostOf_96.2.2.2.2.2.2.2.2.2.2.2.2.2.1
theorem dX5_mostOf_189 : decode cX5_mostOf 189 = .ok (.istore 6, 2) := dgX5_mostOf_96.2.2.2.2.2.2.2.2.2.2.2.2.2.2.1
theorem dX5_mostOf_191 : decode cX5_mostOf 191 = .ok (.aload_n 0, 1) := dgX5_mostOf_96.2.2.2.2.2.2.2.2.2.2.2.2.2.2.2
theorem dgX5_mostOf_112 : (decode cX5_mostOf 192 = .ok (.getfield 45, 3)) ∧ (decode cX5_mostOf 195 = .ok (.iload_n 1, 1)) ∧ (decode cX5_mostOf 196 = .ok (.iload 6, 2)) ∧ (decode cX5_mostOf 198 = .ok (.i2b, 1)) ∧ (decode cX5_mostOf 199 = .ok (.bastore, 1)) ∧ (decode cX5_mostOf 200 = .ok (.iload 6, 2)) ∧ (decode cX5_mostOf 202 = .ok (.ireturn, 1)) := by decide +kernel
theorem dX5_mostOf_192 : decode cX5_mostOf 192 = .ok (.getfield 45, 3) := dgX5_mostOf_112.1
theorem dX5_mostOf_195 : decode cX5_mostOf 195 = .ok (.iload_n 1, 1) := dgX5_mostOf_112.2.1
theorem dX5_mostOf_196 : decode cX5_mostOf 196 = .ok (.iload 6, 2) := dgX5_mostOf_112.2.2.1
theorem dX5_mostOf_198 : decode cX5_mostOf 198 = .ok (.i2b, 1) := dgX5_mostOf_112.2.2.2.1
theorem dX5_mostOf_199 : decode cX5_mostOf 199 = .ok (.bastore, 1) := dgX5_mostOf_112.2.2.2.2.1
theorem dX5_mostOf_200 : decode cX5_mostOf 200 = .ok (.iload 6, 2) := dgX5_mostOf_112.2.2.2.2.2.1
theorem dX5_mostOf_202 : decode cX5_mostOf 202 = .ok (.ireturn, 1) := dgX5_mostOf_112.2.2.2.2.2.2
theorem dgX5_fillBox_0 : (decode cX5_fillBox 0 = .ok (.iload 5, 2)) ∧ (decode cX5_fillBox 2 = .ok (.aload_n 0, 1)) ∧ (decode cX5_fillBox 3 = .ok (.getfield 15, 3)) ∧ (decode cX5_fillBox 6 = .ok (.if_icmp .lt 25, 3)) ∧ (decode cX5_fillBox 9 = .ok (.iload 5, 2)) ∧ (decode cX5_fillBox 11 = .ok (.aload_n 0, 1)) ∧ (decode cX5_fillBox 12 = .ok (.getfield 19, 3)) ∧ (decode cX5_fillBox 15 = .ok (.if_icmp .gt 14, 3)) ∧ (decode cX5_fillBox 18 = .ok (.iconst 1, 1)) ∧ (decode cX5_fillBox 19 = .ok (.aload_n 0, 1)) ∧ (decode cX5_fillBox 20 = .ok (.iload_n 1, 1)) ∧ (decode cX5_fillBox 21 = .ok (.iload_n 2, 1)) ∧ (decode cX5_fillBox 22 = .ok (.invokevirtual 42, 3)) ∧ (decode cX5_fillBox 25 = .ok (.iadd, 1)) ∧ (decode cX5_fillBox 26 = .ok (.goto 4, 3)) ∧ (decode cX5_fillBox 29 = .ok (.iconst 0, 1)) := by decide +kernel
theorem dX5_fillBox_0 : decode cX5_fillBox 0 = .ok (.iload 5, 2) := dgX5_fillBox_0.1
theorem dX5_fillBox_2 : decode cX5_fillBox 2 = .ok (.aload_n 0, 1) := dgX5_fillBox_0.2.1
theorem dX5_fillBox_3 : decode cX5_fillBox 3 = .ok (.getfield 15, 3) := dgX5_fillBox_0.2.2.1
theorem dX5_fillBox_6 : decode cX5_fillBox 6 = .ok (.if_icmp .lt 25, 3) := dgX5_fillBox_0.2.2.2.1
theorem dX5_fillBox_9 : decode cX5_fillBox 9 = .ok (.iload 5, 2) := dgX5_fillBox_0.2.2.2.2.1
theorem dX5_fillBox_11 : decode cX5_fillBox 11 = .ok (.aload_n 0, 1) := dgX5_fillBox_0.2.2.2.2.2.1
theorem dX5_fillBox_12 : decode cX5_fillBox 12 = .ok (.getfield 19, 3) := dgX5_fillBox_0.2.2.2.2.2.2.1
theorem dX5_fillBox_15 : decode cX5_fillBox 15 = .ok (.if_icmp .gt 14, 3) := dgX5_fillBox_0.2.2.2.2.2.2.2.1
theorem dX5_fillBox_18 : decode cX5_fillBox 18 = .ok (.iconst 1, 1) := dgX5_fillBox_0.2.2.2.2.2.2.2.2.1
theorem dX5_fillBox_19 : decode cX5_fillBox 19 = .ok (.aload_n 0, 1) := dgX5_fillBox_0.2.2.2.2.2.2.2.2.2.1
theorem dX5_fillBox_20 : decode cX5_fillBox 20 = .ok (.iload_n 1, 1) := dgX5_fillBox_0.2.2.2.2.2.2.2.2.2.2.1
theorem dX5_fillBox_21 : decode cX5_fillBox 21 = .ok (.iload_n 2, 1) := dgX5_fillBox_0.2.2.2.2.2.2.2.2.2.2.2.1
theorem dX5_fillBox_22 : decode cX5_fillBox 22 = .ok (.invokevirtual 42, 3) := dgX5_fillBox_0.2.2.2.2.2.2.2.2.2.2.2.2.1
theorem dX5_fillBox_25 : decode cX5_fillBox 25 = .ok (.iadd, 1) := dgX5_fillBox_0.2.2.2.2.2.2.2.2.2.2.2.2.2.1
theorem dX5_fillBox_26 : decode cX5_fillBox 26 = .ok (.goto 4, 3) := dgX5_fillBox_0.2.2.2.2.2.2.2.2.2.2.2.2.2.2.1
theorem dX5_fillBox_29 : decode cX5_fillBox 29 = .ok (.iconst 0, 1) := dgX5_fillBox_0.2.2.2.2.2.2.2.2.2.2.2.2.2.2.2
theorem dgX5_fillBox_16 : (decode cX5_fillBox 30 = .ok (.ireturn, 1)) ∧ (decode cX5_fillBox 31 = .ok (.iconst 0, 1)) ∧ (decode cX5_fillBox 32 = .ok (.istore 6, 2)) ∧ (decode cX5_fillBox 34 = .ok (.iload_n 3, 1)) ∧ (decode cX5_fillBox 35 = .ok (.istore 7, 2)) ∧ (decode cX5_fillBox 37 = .ok (.iload 4, 2)) ∧ (decode cX5_fillBox 39 = .ok (.istore 8, 2)) ∧ (decode cX5_fillBox 41 = .ok (.iload 7, 2)) ∧ (decode cX5_fillBox 43 = .ok (.aload_n 0, 1)) ∧ (decode cX5_fillBox 44 = .ok (.getfield 22, 3)) ∧ (decode cX5_fillBox 47 = .ok (.if_icmp .ge 170, 3)) ∧ (decode cX5_fillBox 50 = .ok (.iload 5, 2)) ∧ (decode cX5_fillBox 52 = .ok (.iload 8, 2)) ∧ (decode cX5_fillBox 54 = .ok (.iadd, 1)) ∧ (decode cX5_fillBox 55 = .ok (.aload_n 0, 1)) ∧ (decode cX5_fillBox 56 = .ok (.getfield 15, 3)) := by decide +kernel
theorem dX5_fillBox_30 : decode cX5_fillBox 30 = .ok (.ireturn, 1) := dgX5_fillBox_16.1
theorem dX5_fillBox_31 : decode cX5_fillBox 31 = .ok (.iconst 0, 1) := dgX5_fillBox_16.2.1
theorem dX5_fillBox_32 : decode cX5_fillBox 32 = .ok (.istore 6, 2) := dgX5_fillBox_16.2.2.1
theorem dX5_fillBox_34 : decode cX5_fillBox 34 = .ok (.iload_n 3, 1) := dgX5_fillBox_16.2.2.2.1
theorem dX5_fillBox_35 : decode cX5_fillBox 35 = .ok (.istore 7, 2) := dgX5_fillBox_16.2.2.2.2.1
theorem dX5_fillBox_37 : decode cX5_fillBox 37 = .ok (.iload 4, 2) := dgX5_fillBox_16.2.2.2.2.2.1
theorem dX5_fillBox_39 : decode cX5_fillBox 39 = .ok (.istore 8, 2) := dgX5_fillBox_16.2.2.2.2.2.2.1
theorem dX5_fillBox_41 : decode cX5_fillBox 41 = .ok (.iload 7, 2) := dgX5_fillBox_16.2.2.2.2.2.2.2.1
theorem dX5_fillBox_43 : decode cX5_fillBox 43 = .ok (.aload_n 0, 1) := dgX5_fillBox_16.2.2.2.2.2.2.2.2.1
theorem dX5_fillBox_44 : decode cX5_fillBox 44 = .ok (.getfield 22, 3) := dgX5_fillBox_16.2.2.2.2.2.2.2.2.2.1
theorem dX5_fillBox_47 : decode cX5_fillBox 47 = .ok (.if_icmp .ge 170, 3) := dgX5_fillBox_16.2.2.2.2.2.2.2.2.2.2.1
theorem dX5_fillBox_50 : decode cX5_fillBox 50 = .ok (.iload 5, 2) := dgX5_fillBox_16.2.2.2.2.2.2.2.2.2.2.2.1
theorem dX5_fillBox_52 : decode cX5_fillBox 52 = .ok (.iload 8, 2) := dgX5_fillBox_16.2.2.2.2.2.2.2.2.2.2.2.2.1
theorem dX5_fillBox_54 : decode cX5_fillBox 54 = .ok (.iadd, 1) := dgX5_fillBox_16.2.2.2.2.2.2.2.2.2.2.2.2.2.1
theorem dX5_fillBox_55 : decode cX5_fillBox 55 = .ok (.aload_n 0, 1) := dgX5_fillBox_16.2.2.2.2.2.2.2.2.2.2.2.2.2.2.1
theorem dX5_fillBox_56 : decode cX5_fillBox 56 = .ok (.getfield 15, 3) := dgX5_fillBox_16.2.2.2.2.2.2.2.2.2.2.2.2.2.2.2
theorem dgX5_fillBox_32 : (decode cX5_fillBox 59 = .ok (.if_icmp .lt 158, 3)) ∧ (decode cX5_fillBox 62 = .ok (.iload 6, 2)) ∧ (decode cX5_fillBox 64 = .ok (.iconst 1, 1)) ∧ (decode cX5_fillBox 65 = .ok (.iadd, 1)) ∧ (decode cX5_fillBox 66 = .ok (.aload_n 0, 1)) ∧ (decode cX5_fillBox 67 = .ok (.getfield 15, 3)) ∧ (decode cX5_fillBox 70 = .ok (.imul, 1)) ∧ (decode cX5_fillBox 71 = .ok (.iload 5, 2)) ∧ (decode cX5_fillBox 73 = .ok (.iload_n 2, 1)) ∧ (decode cX5_fillBox 74 = .ok (.iadd, 1)) ∧ (decode cX5_fillBox 75 = .ok (.if_icmp .gt 142, 3)) ∧ (decode cX5_fillBox 78 = .ok (.aload_n 0, 1)) ∧ (decode cX5_fillBox 79 = .ok (.getfield 9, 3)) ∧ (decode cX5_fillBox 82 = .ok (.iload 7, 2)) ∧ (decode cX5_fillBox 84 = .ok (.iaload, 1)) ∧ (decode cX5_fillBox 85 = .ok (.istore 9, 2)) := by decide +kernel
theorem dX5_fillBox_59 : decode cX5_fillBox 59 = .ok (.if_icmp .lt 158, 3) := dgX5_fillBox_32.1
theorem dX5_fillBox_62 : decode cX5_fillBox 62 = .ok (.iload 6, 2) := dgX5_fillBox_32.2.1
theorem dX5_fillBox_64 : decode cX5_fillBox 64 = .ok (.iconst 1, 1) := dgX5_fillBox_32.2.2.1
theorem dX5_fillBox_65 : decode cX5_fillBox 65 = .ok (.iadd, 1) := dgX5_fillBox_32.2.2.2.1
theorem dX5_fillBox_66 : decode cX5_fillBox 66 = .ok (.aload_n 0, 1) := dgX5_fillBox_32.2.2.2.2.1
theorem dX5_fillBox_67 : decode cX5_fillBox 67 = .ok (.getfield 15, 3) := dgX5_fillBox_32.2.2.2.2.2.1
theorem dX5_fillBox_70 : decode cX5_fillBox 70 = .ok (.imul, 1) := dgX5_fillBox_32.2.2.2.2.2.2.1
theorem dX5_fillBox_71 : decode cX5_fillBox 71 = .ok (.iload 5, 2) := dgX5_fillBox_32.2.2.2.2.2.2.2.1
theorem dX5_fillBox_73 : decode cX5_fillBox 73 = .ok (.iload_n 2, 1) := dgX5_fillBox_32.2.2.2.2.2.2.2.2.1
theorem dX5_fillBox_74 : decode cX5_fillBox 74 = .ok (.iadd, 1) := dgX5_fillBox_32.2.2.2.2.2.2.2.2.2.1
theorem dX5_fillBox_75 : decode cX5_fillBox 75 = .ok (.if_icmp .gt 142, 3) := dgX5_fillBox_32.2.2.2.2.2.2.2.2.2.2.1
theorem dX5_fillBox_78 : decode cX5_fillBox 78 = .ok (.aload_n 0, 1) := dgX5_fillBox_32.2.2.2.2.2.2.2.2.2.2.2.1
theorem dX5_fillBox_79 : decode cX5_fillBox 79 = .ok (.getfield 9, 3) := dgX5_fillBox_32.2.2.2.2.2.2.2.2.2.2.2.2.1
theorem dX5_fillBox_82 : decode cX5_fillBox 82 = .ok (.iload 7, 2) := dgX5_fillBox_32.2.2.2.2.2.2.2.2.2.2.2.2.2.1
theorem dX5_fillBox_84 : decode cX5_fillBox 84 = .ok (.iaload, 1) := dgX5_fillBox_32.2.2.2.2.2.2.2.2.2.2.2.2.2.2.1
theorem dX5_fillBox_85 : decode cX5_fillBox 85 = .ok (.istore 9, 2) := dgX5_fillBox_32.2.2.2.2.2.2.2.2.2.2.2.2.2.2.2
theorem dgX5_fillBox_48 : (decode cX5_fillBox 87 = .ok (.aload_n 0, 1)) ∧ (decode cX5_fillBox 88 = .ok (.iload_n 1, 1)) ∧ (decode cX5_fillBox 89 = .ok (.iload 7, 2)) ∧ (decode cX5_fillBox 91 = .ok (.invokevirtual 49, 3)) ∧ (decode cX5_fillBox 94 = .ok (.ifCond .eq 56, 3)) ∧ (decode cX5_fillBox 97 = .ok (.iload 5, 2)) ∧ (decode cX5_fillBox 99 = .ok (.iload 9, 2)) ∧ (decode cX5_fillBox 101 = .ok (.iadd, 1)) ∧ (decode cX5_fillBox 102 = .ok (.aload_n 0, 1)) ∧ (decode cX5_fillBox 103 = .ok (.getfield 19, 3)) ∧ (decode cX5_fillBox 106 = .ok (.if_icmp .gt 44, 3)) ∧ (decode cX5_fillBox 109 = .ok (.aload_n 0, 1)) ∧ (decode cX5_fillBox 110 = .ok (.iload_n 1, 1)) ∧ (decode cX5_fillBox 111 = .ok (.iconst 1, 1)) ∧ (decode cX5_fillBox 112 = .ok (.iload 7, 2)) ∧ (decode cX5_fillBox 114 = .ok (.ishl, 1)) := by decide +kernel
theorem dX5_fillBox_87 : decode cX5_fillBox 87 = .ok (.aload_n 0, 1) := dgX5_fillBox_48.1
theorem dX5_fillBox_88 : decode cX5_fillBox 88 = .ok (.iload_n 1, 1) := dgX5_fillBox_48.2.1
theorem dX5_fillBox_89 : decode cX5_fillBox 89 = .ok (.iload 7, 2) := dgX5_fillBox_48.2.2.1
theorem dX5_fillBox_91 : decode cX5_fillBox 91 = .ok (.invokevirtual 49, 3) := dgX5_fillBox_48.2.2.2.1
theorem dX5_fillBox_94 : decode cX5_fillBox 94 = .ok (.ifCond .eq 56, 3) := dgX5_fillBox_48.2.2.2.2.1
theorem dX5_fillBox_97 : decode cX5_fillBox 97 = .ok (.iload 5, 2) := dgX5_fillBox_48.2.2.2.2.2.1
theorem dX5_fillBox_99 : decode cX5_fillBox 99 = .ok (.iload 9, 2) := dgX5_fillBox_48.2.2.2.2.2.2.1
theorem dX5_fillBox_101 : decode cX5_fillBox 101 = .ok (.iadd, 1) := dgX5_fillBox_48.2.2.2.2.2.2.2.1
theorem dX5_fillBox_102 : decode cX5_fillBox 102 = .ok (.aload_n 0, 1) := dgX5_fillBox_48.2.2.2.2.2.2.2.2.1
theorem dX5_fillBox_103 : decode cX5_fillBox 103 = .ok (.getfield 19, 3) := dgX5_fillBox_48.2.2.2.2.2.2.2.2.2.1
theorem dX5_fillBox_106 : decode cX5_fillBox 106 = .ok (.if_icmp .gt 44, 3) := dgX5_fillBox_48.2.2.2.2.2.2.2.2.2.2.1
theorem dX5_fillBox_109 : decode cX5_fillBox 109 = .ok (.aload_n 0, 1) := dgX5_fillBox_48.2.2.2.2.2.2.2.2.2.2.2.1
theorem dX5_fillBox_110 : decode cX5_fillBox 110 = .ok (.iload_n 1, 1) := dgX5_fillBox_48.2.2.2.2.2.2.2.2.2.2.2.2.1
theorem dX5_fillBox_111 : decode cX5_fillBox 111 = .ok (.iconst 1, 1) := dgX5_fillBox_48.2.2.2.2.2.2.2.2.2.2.2.2.2.1
theorem dX5_fillBox_112 : decode cX5_fillBox 112 = .ok (.iload 7, 2) := dgX5_fillBox_48.2.2.2.2.2.2.2.2.2.2.2.2.2.2.1
theorem dX5_fillBox_114 : decode cX5_fillBox 114 = .ok (.ishl, 1) := dgX5_fillBox_48.2.2.2.2.2.2.2.2.2.2.2.2.2.2.2
theorem dgX5_fillBox_64 : (decode cX5_fillBox 115 = .ok (.iconst (-1), 1)) ∧ (decode cX5_fillBox 116 = .ok (.ixor, 1)) ∧ (decode cX5_fillBox 117 = .ok (.iand, 1)) ∧ (decode cX5_fillBox 118 = .ok (.iload_n 2, 1)) ∧ (decode cX5_fillBox 119 = .ok (.iload 9, 2)) ∧ (decode cX5_fillBox 121 = .ok (.isub, 1)) ∧ (decode cX5_fillBox 122 = .ok (.iload 7, 2)) ∧ (decode cX5_fillBox 124 = .ok (.iconst 1, 1)) ∧ (decode cX5_fillBox 125 = .ok (.iadd, 1)) ∧ (decode cX5_fillBox 126 = .ok (.iload 8, 2)) ∧ (decode cX5_fillBox 128 = .ok (.iload 9, 2)) ∧ (decode cX5_fillBox 130 = .ok (.isub, 1)) ∧ (decode cX5_fillBox 131 = .ok (.iload 5, 2)) ∧ (decode cX5_fillBox 133 = .ok (.iload 9, 2)) ∧ (decode cX5_fillBox 135 = .ok (.iadd, 1)) ∧ (decode cX5_fillBox 136 = .ok (.invokevirtual 53, 3)) := by decide +kernel
theorem dX5_fillBox_115 : decode cX5_fillBox 115 = .ok (.iconst (-1), 1) := dgX5_fillBox_64.1
theorem dX5_fillBox_116 : decode cX5_fillBox 116 = .ok (.ixor, 1) := dgX5_fillBox_64.2.1
theorem dX5_fillBox_117 : decode cX5_fillBox 117 = .ok (.iand, 1) := dgX5_fillBox_64.2.2.1
theorem dX5_fillBox_118 : decode cX5_fillBox 118 = .ok (.iload_n 2, 1) := dgX5_fillBox_64.2.2.2.1
theorem dX5_fillBox_119 : decode cX5_fillBox 119 = .ok (.iload 9, 2) := dgX5_fillBox_64.2.2.2.2.1
theorem dX5_fillBox_121 : decode cX5_fillBox 121 = .ok (.isub, 1) := dgX5_fillBox_64.2.2.2.2.2.1
theorem dX5_fillBox_122 : decode cX5_fillBox 122 = .ok (.iload 7, 2) := dgX5_fillBox_64.2.2.2.2.2.2.1
theorem dX5_fillBox_124 : decode cX5_fillBox 124 = .ok (.iconst 1, 1) := dgX5_fillBox_64.2.2.2.2.2.2.2.1
theorem dX5_fillBox_125 : decode cX5_fillBox 125 = .ok (.iadd, 1) := dgX5_fillBox_64.2.2.2.2.2.2.2.2.1
theorem dX5_fillBox_126 : decode cX5_fillBox 126 = .ok (.iload 8, 2) := dgX5_fillBox_64.2.2.2.2.2.2.2.2.2.1
theorem dX5_fillBox_128 : decode cX5_fillBox 128 = .ok (.iload 9, 2) := dgX5_fillBox_64.2.2.2.2.2.2.2.2.2.2.1
theorem dX5_fillBox_130 : decode cX5_fillBox 130 = .ok (.isub, 1) := dgX5_fillBox_64.2.2.2.2.2.2.2.2.2.2.2.1
theorem dX5_fillBox_131 : decode cX5_fillBox 131 = .ok (.iload 5, 2) := dgX5_fillBox_64.2.2.2.2.2.2.2.2.2.2.2.2.1
theorem dX5_fillBox_133 : decode cX5_fillBox 133 = .ok (.iload 9, 2) := dgX5_fillBox_64.2.2.2.2.2.2.2.2.2.2.2.2.2.1
theorem dX5_fillBox_135 : decode cX5_fillBox 135 = .ok (.iadd, 1) := dgX5_fillBox_64.2.2.2.2.2.2.2.2.2.2.2.2.2.2.1
theorem dX5_fillBox_136 : decode cX5_fillBox 136 = .ok (.invokevirtual 53, 3) := dgX5_fillBox_64.2.2.2.2.2.2.2.2.2.2.2.2.2.2.2
theorem dgX5_fillBox_80 : (decode cX5_fillBox 139 = .ok (.istore 10, 2)) ∧ (decode cX5_fillBox 141 = .ok (.iload 6, 2)) ∧ (decode cX5_fillBox 143 = .ok (.iload 10, 2)) ∧ (decode cX5_fillBox 145 = .ok (.invokestatic 57, 3)) ∧ (decode cX5_fillBox 148 = .ok (.istore 6, 2)) ∧ (decode cX5_fillBox 150 = .ok (.aload_n 0, 1)) ∧ (decode cX5_fillBox 151 = .ok (.iload_n 1, 1)) ∧ (decode cX5_fillBox 152 = .ok (.iload 7, 2)) ∧ (decode cX5_fillBox 154 = .ok (.invokevirtual 49, 3)) ∧ (decode cX5_fillBox 157 = .ok (.istore 10, 2)) ∧ (decode cX5_fillBox 159 = .ok (.iload 7, 2)) ∧ (decode cX5_fillBox 161 = .ok (.aload_n 0, 1)) ∧ (decode cX5_fillBox 162 = .ok (.getfield 22, 3)) ∧ (decode cX5_fillBox 165 = .ok (.if_icmp .ge 49, 3)) ∧ (decode cX5_fillBox 168 = .ok (.aload_n 0, 1)) ∧ (decode cX5_fillBox 169 = .ok (.getfield 9, 3)) := by decide +kernel
theorem dX5_fillBox_139 : decode cX5_fillBox 139 = .ok (.istore 10, 2) := dgX5_fillBox_80.1
theorem dX5_fillBox_141 : decode cX5_fillBox 141 = .ok (.iload 6, 2) := dgX5_fillBox_80.2.1
theorem dX5_fillBox_143 : decode cX5_fillBox 143 = .ok (.iload 10, 2) := dgX5_fillBox_80.2.2.1
theorem dX5_fillBox_145 : decode cX5_fillBox 145 = .ok (.invokestatic 57, 3) := dgX5_fillBox_80.2.2.2.1
theorem dX5_fillBox_148 : decode cX5_fillBox 148 = .ok (.istore 6, 2) := dgX5_fillBox_80.2.2.2.2.1
theorem dX5_fillBox_150 : decode cX5_fillBox 150 = .ok (.aload_n 0, 1) := dgX5_fillBox_80.2.2.2.2.2.1
theorem dX5_fillBox_151 : decode cX5_fillBox 151 = .ok (.iload_n 1, 1) := dgX5_fillBox_80.2.2.2.2.2.2.1
theorem dX5_fillBox_152 : decode cX5_fillBox 152 = .ok (.iload 7, 2) := dgX5_fillBox_80.2.2.2.2.2.2.2.1
theorem dX5_fillBox_154 : decode cX5_fillBox 154 = .ok (.invokevirtual 49, 3) := dgX5_fillBox_80.2.2.2.2.2.2.2.2.1
theorem dX5_fillBox_157 : decode cX5_fillBox 157 = .ok (.istore 10, 2) := dgX5_fillBox_80.2.2.2.2.2.2.2.2.2.1
theorem dX5_fillBox_159 : decode cX5_fillBox 159 = .ok (.iload 7, 2) := dgX5_fillBox_80.2.2.2.2.2.2.2.2.2.2.1
theorem dX5_fillBox_161 : decode cX5_fillBox 161 = .ok (.aload_n 0, 1) := dgX5_fillBox_80.2.2.2.2.2.2.2.2.2.2.2.1
theorem dX5_fillBox_162 : decode cX5_fillBox 162 = .ok (.getfield 22, 3) := dgX5_fillBox_80.2.2.2.2.2.2.2.2.2.2.2.2.1
theorem dX5_fillBox_165 : decode cX5_fillBox 165 = .ok (.if_icmp .ge 49, 3) := dgX5_fillBox_80.2.2.2.2.2.2.2.2.2.2.2.2.2.1
theorem dX5_fillBox_168 : decode cX5_fillBox 168 = .ok (.aload_n 0, 1) := dgX5_fillBox_80.2.2.2.2.2.2.2.2.2.2.2.2.2.2.1
theorem dX5_fillBox_169 : decode cX5_fillBox 169 = .ok (.getfield 9, 3) := dgX5_fillBox_80.2.2.2.2.2.2.2.2.2.2.2.2.2.2.2
theorem dgX5_fillBox_96 : (decode cX5_fillBox 172 = .ok (.iload 7, 2)) ∧ (decode cX5_fillBox 174 = .ok (.iaload, 1)) ∧ (decode cX5_fillBox 175 = .ok (.iload 9, 2)) ∧ (decode cX5_fillBox 177 = .ok (.if_icmp .ne 37, 3)) ∧ (decode cX5_fillBox 180 = .ok (.aload_n 0, 1)) ∧ (decode cX5_fillBox 181 = .ok (.iload_n 1, 1)) ∧ (decode cX5_fillBox 182 = .ok (.iload 7, 2)) ∧ (decode cX5_fillBox 184 = .ok (.invokevirtual 49, 3)) ∧ (decode cX5_fillBox 187 = .ok (.iload 10, 2)) ∧ (decode cX5_fillBox 189 = .ok (.if_icmp .ne 25, 3)) ∧ (decode cX5_fillBox 192 = .ok (.iload 8, 2)) ∧ (decode cX5_fillBox 194 = .ok (.iload 10, 2)) ∧ (decode cX5_fillBox 196 = .ok (.ifCond .eq 8, 3)) ∧ (decode cX5_fillBox 199 = .ok (.iload 9, 2)) ∧ (decode cX5_fillBox 201 = .ok (.goto 4, 3)) ∧ (decode cX5_fillBox 204 = .ok (.iconst 0, 1)) := by decide +kernel
theorem dX5_fillBox_172 : decode cX5_fillBox 172 = .ok (.iload 7, 2) := dgX5_fillBox_96.1
theorem dX5_fillBox_174 : decode cX5_fillBox 174 = .ok (.iaload, 1) := dgX5_fillBox_96.2.1
theorem dX5_fillBox_175 : decode cX5_fillBox 175 = .ok (.iload 9, 2) := dgX5_fillBox_96.2.2.1
theorem dX5_fillBox_177 : decode cX5_fillBox 177 = .ok (.if_icmp .ne 37, 3) := dgX5_fillBox_96.2.2.2.1
theorem dX5_fillBox_180 : decode cX5_fillBox 180 = .ok (.aload_n 0, 1) := dgX5_fillBox_96.2.2.2.2.1
theorem dX5_fillBox_181 : decode cX5_fillBox 181 = .ok (.iload_n 1, 1) := dgX5_fillBox_96.2.2.2.2.2.1
theorem dX5_fillBox_182 : decode cX5_fillBox 182 = .ok (.iload 7, 2) := dgX5_fillBox_96.2.2.2.2.2.2.1
theorem dX5_fillBox_184 : decode cX5_fillBox 184 = .ok (.invokevirtual 49, 3) := dgX5_fillBox_96.2.2.2.2.2.2.2.1
theorem dX5_fillBox_187 : decode cX5_fillBox 187 = .ok (.iload 10, 2) := dgX5_fillBox_96.2.2.2.2.2.2.2.2.1
theorem dX5_fillBox_189 : decode cX5_fillBox 189 = .ok (.if_icmp .ne 25, 3) := dgX5_fillBox_96.2.2.2.2.2.2.2.2.2.1
theorem dX5_fillBox_192 : decode cX5_fillBox 192 = .ok (.iload 8, 2) := dgX5_fillBox_96.2.2.2.2.2.2.2.2.2.2.1
theorem dX5_fillBox_194 : decode cX5_fillBox 194 = .ok (.iload 10, 2) := dgX5_fillBox_96.2.2.2.2.2.2.2.2.2.2.2.1
theorem dX5_fillBox_196 : decode cX5_fillBox 196 = .ok (.ifCond .eq 8, 3) := dgX5_fillBox_96.2.2.2.2.2.2.2.2.2.2.2.2.1
theorem dX5_fillBox_199 : decode cX5_fillBox 199 = .ok (.iload 9, 2) := dgX5_fillBox_96.2.2.2.2.2.2.2.2.2.2.2.2.2.1
theorem dX5_fillBox_201 : decode cX5_fillBox 201 = .ok (.goto 4, 3) := dgX5_fillBox_96.2.2.2.2.2.2.2.2.2.2.2.2.2.2.1
theorem dX5_fillBox_204 : decode cX5_fillBox 204 = .ok (.iconst 0, 1) := dgX5_fillBox_96.2.2.2.2.2.2.2.2.2.2.2.2.2.2.2
theorem dgX5_fillBox_112 : (decode cX5_fillBox 205 = .ok (.isub, 1)) ∧ (decode cX5_fillBox 206 = .ok (.istore 8, 2)) ∧ (decode cX5_fillBox 208 = .ok (.iinc 7 1, 3)) ∧ (decode cX5_fillBox 211 = .ok (.goto (-52), 3)) ∧ (decode cX5_fillBox 214 = .ok (.goto (-173), 3)) ∧ (decode cX5_fillBox 217 = .ok (.iload 6, 2)) ∧ (decode cX5_fillBox 219 = .ok (.ireturn, 1)) := by decide +kernel
theorem dX5_fillBox_205 : decode cX5_fillBox 205 = .ok (.isub, 1) := dgX5_fillBox_112.1
theorem dX5_fillBox_206 : decode cX5_fillBox 206 = .ok (.istore 8, 2) := dgX5_fillBox_112.2.1
theorem dX5_fillBox_208 : decode cX5_fillBox 208 = .ok (.iinc 7 1, 3) := dgX5_fillBox_112.2.2.1
theorem dX5_fillBox_211 : decode cX5_fillBox 211 = .ok (.goto (-52), 3) := dgX5_fillBox_112.2.2.2.1
theorem dX5_fillBox_214 : decode cX5_fillBox 214 = .ok (.goto (-173), 3) := dgX5_fillBox_112.2.2.2.2.1
theorem dX5_fillBox_217 : decode cX5_fillBox 217 = .ok (.iload 6, 2) := dgX5_fillBox_112.2.2.2.2.2.1
theorem dX5_fillBox_219 : decode cX5_fillBox 219 = .ok (.ireturn, 1) := dgX5_fillBox_112.2.2.2.2.2.2
theorem dgX6_init_0 : (decode cX6_init 0 = .ok (.aload_n 0, 1)) ∧ (decode cX6_init 1 = .ok (.invokespecial 3, 3)) ∧ (decode cX6_init 4 = .ok (.aload_n 0, 1)) ∧ (decode cX6_init 5 = .ok (.iconst (-1), 1)) ∧ (decode cX6_init 6 = .ok (.putfield 9, 3)) ∧ (decode cX6_init 9 = .ok (.aload_n 0, 1)) ∧ (decode cX6_init 10 = .ok (.iconst 0, 1)) ∧ (decode cX6_init 11 = .ok (.putfield 15, 3)) ∧ (decode cX6_init 14 = .ok (.aload_n 0, 1)) ∧ (decode cX6_init 15 = .ok (.iconst (-1), 1)) ∧ (decode cX6_init 16 = .ok (.putfield 18, 3)) ∧ (decode cX6_init 19 = .ok (.aload_n 0, 1)) ∧ (decode cX6_init 20 = .ok (.iload_n 1, 1)) ∧ (decode cX6_init 21 = .ok (.putfield 21, 3)) ∧ (decode cX6_init 24 = .ok (.aload_n 0, 1)) ∧ (decode cX6_init 25 = .ok (.aload_n 2, 1)) := by decide +kernel
theorem dX6_init_0 : decode cX6_init 0 = .ok (.aload_n 0, 1) := dgX6_init_0.1
theorem dX6_init_1 : decode cX6_init 1 = .ok (.invokespecial 3, 3) := dgX6_init_0.2.1
theorem dX6_init_4 : decode cX6_init 4 = .ok (.aload_n 0, 1) := dgX6_init_0.2.2.1
theorem dX6_init_5 : decode cX6_init 5 = .ok (.iconst (-1), 1) := dgX6_init_0.2.2.2.1
theorem dX6_init_6 : decode cX6_init 6 = .ok (.putfield 9, 3) := dgX6_init_0.2.2.2.2.1
theorem dX6_init_9 : decode cX6_init 9 = .ok (.aload_n 0, 1) := dgX6_init_0.2.2.2.2.2.1
theorem dX6_init_10 : decode cX6_init 10 = .ok (.iconst 0, 1) := dgX6_init_0.2.2.2.2.2.2.1
theorem dX6_init_11 : decode cX6_init 11 = .ok (.putfield 15, 3) := dgX6_init_0.2.2.2.2.2.2.2.1
theorem dX6_init_14 : decode cX6_init 14 = .ok (.aload_n 0, 1) := dgX6_init_0.2.2.2.2.2.2.2.2.1
theorem dX6_init_15 : decode cX6_init 15 = .ok (.iconst (-1), 1) := dgX6_init_0.2.2.2.2.2.2.2.2.2.1
theorem dX6_init_16 : decode cX6_init 16 = .ok (.putfield 18, 3) := dgX6_init_0.2.2.2.2.2.2.2.2.2.2.1
theorem dX6_init_19 : decode cX6_init 19 = .ok (.aload_n 0, 1) := dgX6_init_0.2.2.2.2.2.2.2.2.2.2.2.1
theorem dX6_init_20 : decode cX6_init 20 = .ok (.iload_n 1, 1) := dgX6_init_0.2.2.2.2.2.2.2.2.2.2.2.2.1
theorem dX6_init_21 : decode cX6_init 21 = .ok (.putfield 21, 3) := dgX6_init_0.2.2.2.2.2.2.2.2.2.2.2.2.2.1
theorem dX6_init_24 : decode cX6_init 24 = .ok (.aload_n 0, 1) := dgX6_init_0.2.2.2.2.2.2.2.2.2.2.2.2.2.2.1
theorem dX6_init_25 : decode cX6_init 25 = .ok (.aload_n 2, 1) := dgX6_init_0.2.2.2.2.2.2.2.2.2.2.2.2.2.2.2
theorem dgX6_init_16 : (decode cX6_init 26 = .ok (.getfield 24, 3)) ∧ (decode cX6_init 29 = .ok (.iconst 4, 1)) ∧ (decode cX6_init 30 = .ok (.if_icmp .ne 7, 3)) ∧ (decode cX6_init 33 = .ok (.iconst 1, 1)) ∧ (decode cX6_init 34 = .ok (.goto 4, 3)) ∧ (decode cX6_init 37 = .ok (.iconst 0, 1)) ∧ (decode cX6_init 38 = .ok (.putfield 29, 3)) ∧ (decode cX6_init 41 = .ok (.aload_n 0, 1)) ∧ (decode cX6_init 42 = .ok (.iload_n 3, 1)) ∧ (decode cX6_init 43 = .ok (.putfield 33, 3)) ∧ (decode cX6_init 46 = .ok (.aload_n 0, 1)) ∧ (decode cX6_init 47 = .ok (.aload_n 2, 1)) ∧ (decode cX6_init 48 = .ok (.getfield 36, 3)) ∧ (decode cX6_init 51 = .ok (.putfield 40, 3)) ∧ (decode cX6_init 54 = .ok (.return_, 1)) := by decide +kernel
theorem dX6_init_26 : decode cX6_init 26 = .ok (.getfield 24, 3) := dgX6_init_16.1
theorem dX6_init_29 : decode cX6_init 29 = .ok (.iconst 4, 1) := dgX6_init_16.2.1
theorem dX6_init_30 : decode cX6_init 30 = .ok (.if_icmp .ne 7, 3) := dgX6_init_16.2.2.1
theorem dX6_init_33 : decode cX6_init 33 = .ok (.iconst 1, 1) := dgX6_init_16.2.2.2.1
theorem dX6_init_34 : decode cX6_init 34 = .ok (.goto 4, 3) := dgX6_init_16.2.2.2.2.1
theorem dX6_init_37 : decode cX6_init 37 = .ok (.iconst 0, 1) := dgX6_init_16.2.2.2.2.2.1
theorem dX6_init_38 : decode cX6_init 38 = .ok (.putfield 29, 3) := dgX6_init_16.2.2.2.2.2.2.1
theorem dX6_init_41 : decode cX6_init 41 = .ok (.aload_n 0, 1) := dgX6_init_16.2.2.2.2.2.2.2.1
theorem dX6_init_42 : decode cX6_init 42 = .ok (.iload_n 3, 1) := dgX6_init_16.2.2.2.2.2.2.2.2.1
theorem dX6_init_43 : decode cX6_init 43 = .ok (.putfield 33, 3) := dgX6_init_16.2.2.2.2.2.2.2.2.2.1
theorem dX6_init_46 : decode cX6_init 46 = .ok (.aload_n 0, 1) := dgX6_init_16.2.2.2.2.2.2.2.2.2.2.1
theorem dX6_init_47 : decode cX6_init 47 = .ok (.aload_n 2, 1) := dgX6_init_16.2.2.2.2.2.2.2.2.2.2.2.1
theorem dX6_init_48 : decode cX6_init 48 = .ok (.getfield 36, 3) := dgX6_init_16.2.2.2.2.2.2.2.2.2.2.2.2.1
theorem dX6_init_51 : decode cX6_init 51 = .ok (.putfield 40, 3) := dgX6_init_16.2.2.2.2.2.2.2.2.2.2.2.2.2.1
theorem dX6_init_54 : decode cX6_init 54 = .ok (.return_, 1) := dgX6_init_16.2.2.2.2.2.2.2.2.2.2.2.2.2.2
theorem dgX6_sort_0 : (decode cX6_sort 0 = .ok (.aload_n 0, 1)) ∧ (decode cX6_sort 1 = .ok (.getfield 29, 3)) ∧ (decode cX6_sort 4 = .ok (.ifCond .eq 7, 3)) ∧ (decode cX6_sort 7 = .ok (.iconst 1, 1)) ∧ (decode cX6_sort 8 = .ok (.goto 4, 3)) ∧ (decode cX6_sort 11 = .ok (.iconst 0, 1)) ∧ (decode cX6_sort 12 = .ok (.aload_n 0, 1)) ∧ (decode cX6_sort 13 = .ok (.getfield 9, 3)) ∧ (decode cX6_sort 16 = .ok (.iconst (-1), 1)) ∧ (decode cX6_sort 17 = .ok (.if_icmp .eq 7, 3)) ∧ (decode cX6_sort 20 = .ok (.iconst 2, 1)) ∧ (decode cX6_sort 21 = .ok (.goto 4, 3)) ∧ (decode cX6_sort 24 = .ok (.iconst 0, 1)) ∧ (decode cX6_sort 25 = .ok (.iadd, 1)) ∧ (decode cX6_sort 26 = .ok (.ireturn, 1)) := by decide +kernel
theorem dX6_sort_0 : decode cX6_sort 0 = .ok (.aload_n 0, 1) := dgX6_sort_0.1
theorem dX6_sort_1 : decode cX6_sort 1 = .ok (.getfield 29, 3) := dgX6_sort_0.2.1
theorem dX6_sort_4 : decode cX6_sort 4 = .ok (.ifCond .eq 7, 3) := dgX6_sort_0.2.2.1
theorem dX6_sort_7 : decode cX6_sort 7 = .ok (.iconst 1, 1) := dgX6_sort_0.2.2.2.1
theorem dX6_sort_8 : decode cX6_sort 8 = .ok (.goto 4, 3) := dgX6_sort_0.2.2.2.2.1
theorem dX6_sort_11 : decode cX6_sort 11 = .ok (.iconst 0, 1) := dgX6_sort_0.2.2.2.2.2.1
theorem dX6_sort_12 : decode cX6_sort 12 = .ok (.aload_n 0, 1) := dgX6_sort_0.2.2.2.2.2.2.1
theorem dX6_sort_13 : decode cX6_sort 13 = .ok (.getfield 9, 3) := dgX6_sort_0.2.2.2.2.2.2.2.1
theorem dX6_sort_16 : decode cX6_sort 16 = .ok (.iconst (-1), 1) := dgX6_sort_0.2.2.2.2.2.2.2.2.1
theorem dX6_sort_17 : decode cX6_sort 17 = .ok (.if_icmp .eq 7, 3) := dgX6_sort_0.2.2.2.2.2.2.2.2.2.1
theorem dX6_sort_20 : decode cX6_sort 20 = .ok (.iconst 2, 1) := dgX6_sort_0.2.2.2.2.2.2.2.2.2.2.1
theorem dX6_sort_21 : decode cX6_sort 21 = .ok (.goto 4, 3) := dgX6_sort_0.2.2.2.2.2.2.2.2.2.2.2.1
theorem dX6_sort_24 : decode cX6_sort 24 = .ok (.iconst 0, 1) := dgX6_sort_0.2.2.2.2.2.2.2.2.2.2.2.2.1
theorem dX6_sort_25 : decode cX6_sort 25 = .ok (.iadd, 1) := dgX6_sort_0.2.2.2.2.2.2.2.2.2.2.2.2.2.1
theorem dX6_sort_26 : decode cX6_sort 26 = .ok (.ireturn, 1) := dgX6_sort_0.2.2.2.2.2.2.2.2.2.2.2.2.2.2
theorem dgX6_isFit_0 : (decode cX6_isFit 0 = .ok (.aload_n 0, 1)) ∧ (decode cX6_isFit 1 = .ok (.getfield 15, 3)) ∧ (decode cX6_isFit 4 = .ok (.iconst 1, 1)) ∧ (decode cX6_isFit 5 = .ok (.if_icmp .ne 29, 3)) ∧ (decode cX6_isFit 8 = .ok (.aload_n 0, 1)) ∧ (decode cX6_isFit 9 = .ok (.getfield 9, 3)) ∧ (decode cX6_isFit 12 = .ok (.iconst (-1), 1)) ∧ (decode cX6_isFit 13 = .ok (.if_icmp .eq 17, 3)) ∧ (decode cX6_isFit 16 = .ok (.aload_n 0, 1)) ∧ (decode cX6_isFit 17 = .ok (.getfield 41, 3)) ∧ (decode cX6_isFit 20 = .ok (.ifCond .ne 10, 3)) ∧ (decode cX6_isFit 23 = .ok (.aload_n 0, 1)) ∧ (decode cX6_isFit 24 = .ok (.getfield 44, 3)) ∧ (decode cX6_isFit 27 = .ok (.ifCond .eq 7, 3)) ∧ (decode cX6_isFit 30 = .ok (.iconst 1, 1)) ∧ (decode cX6_isFit 31 = .ok (.goto 4, 3)) := by decide +kernel
theorem dX6_isFit_0 : decode cX6_isFit 0 = .ok (.aload_n 0, 1) := dgX6_isFit_0.1
theorem dX6_isFit_1 : decode cX6_isFit 1 = .ok (.getfield 15, 3) := dgX6_isFit_0.2.1
theorem dX6_isFit_4 : decode cX6_isFit 4 = .ok (.iconst 1, 1) := dgX6_isFit_0.2.2.1
theorem dX6_isFit_5 : decode cX6_isFit 5 = .ok (.if_icmp .ne 29, 3) := dgX6_isFit_0.2.2.2.1
theorem dX6_isFit_8 : decode cX6_isFit 8 = .ok (.aload_n 0, 1) := dgX6_isFit_0.2.2.2.2.1
theorem dX6_isFit_9 : decode cX6_isFit 9 = .ok (.getfield 9, 3) := dgX6_isFit_0.2.2.2.2.2.1
theorem dX6_isFit_12 : decode cX6_isFit 12 = .ok (.iconst (-1), 1) := dgX6_isFit_0.2.2.2.2.2.2.1
theorem dX6_isFit_13 : decode cX6_isFit 13 = .ok (.if_icmp .eq 17, 3) := dgX6_isFit_0.2.2.2.2.2.2.2.1
theorem dX6_isFit_16 : decode cX6_isFit 16 = .ok (.aload_n 0, 1) := dgX6_isFit_0.2.2.2.2.2.2.2.2.1
theorem dX6_isFit_17 : decode cX6_isFit 17 = .ok (.getfield 41, 3) := dgX6_isFit_0.2.2.2.2.2.2.2.2.2.1
theorem dX6_isFit_20 : decode cX6_isFit 20 = .ok (.ifCond .ne 10, 3) := dgX6_isFit_0.2.2.2.2.2.2.2.2.2.2.1
theorem dX6_isFit_23 : decode cX6_isFit 23 = .ok (.aload_n 0, 1) := dgX6_isFit_0.2.2.2.2.2.2.2.2.2.2.2.1
theorem dX6_isFit_24 : decode cX6_isFit 24 = .ok (.getfield 44, 3) := dgX6_isFit_0.2.2.2.2.2.2.2.2.2.2.2.2.1
theorem dX6_isFit_27 : decode cX6_isFit 27 = .ok (.ifCond .eq 7, 3) := dgX6_isFit_0.2.2.2.2.2.2.2.2.2.2.2.2.2.1
theorem dX6_isFit_30 : decode cX6_isFit 30 = .ok (.iconst 1, 1) := dgX6_isFit_0.2.2.2.2.2.2.2.2.2.2.2.2.2.2.1
theorem dX6_isFit_31 : decode cX6_isFit 31 = .ok (.goto 4, 3) := dgX6_isFit_0.2.2.2.2.2.2.2.2.2.2.2.2.2.2.2
theorem dgX6_isFit_16 : (decode cX6_isFit 34 = .ok (.iconst 0, 1)) ∧ (decode cX6_isFit 35 = .ok (.ireturn, 1)) := by decide +kernel
theorem dX6_isFit_34 : decode cX6_isFit 34 = .ok (.iconst 0, 1) := dgX6_isFit_16.1
theorem dX6_isFit_35 : decode cX6_isFit 35 = .ok (.ireturn, 1) := dgX6_isFit_16.2
theorem dgX6_tell_0 : (decode cX6_tell 0 = .ok (.iload_n 1, 1)) ∧ (decode cX6_tell 1 = .ok (.tableswitch 132 0 8 #[51, 56, 61, 66, 91, 104, 109, 114, 119], 51)) ∧ (decode cX6_tell 52 = .ok (.aload_n 0, 1)) ∧ (decode cX6_tell 53 = .ok (.getfield 21, 3)) ∧ (decode cX6_tell 56 = .ok (.ireturn, 1)) ∧ (decode cX6_tell 57 = .ok (.aload_n 0, 1)) ∧ (decode cX6_tell 58 = .ok (.getfield 33, 3)) ∧ (decode cX6_tell 61 = .ok (.ireturn, 1)) ∧ (decode cX6_tell 62 = .ok (.aload_n 0, 1)) ∧ (decode cX6_tell 63 = .ok (.getfield 9, 3)) ∧ (decode cX6_tell 66 = .ok (.ireturn, 1)) ∧ (decode cX6_tell 67 = .ok (.aload_n 0, 1)) ∧ (decode cX6_tell 68 = .ok (.getfield 9, 3)) ∧ (decode cX6_tell 71 = .ok (.iconst (-1), 1)) ∧ (decode cX6_tell 72 = .ok (.if_icmp .ne 7, 3)) ∧ (decode cX6_tell 75 = .ok (.iconst (-1), 1)) := by decide +kernel
theorem dX6_tell_0 : decode cX6_tell 0 = .ok (.iload_n 1, 1) := dgX6_tell_0.1
theorem dX6_tell_1 : decode cX6_tell 1 = .ok (.tableswitch 132 0 8 #[51, 56, 61, 66, 91, 104, 109, 114, 119], 51) := dgX6_tell_0.2.1
theorem dX6_tell_52 : decode cX6_tell 52 = .ok (.aload_n 0, 1) := dgX6_tell_0.2.2.1
theorem dX6_tell_53 : decode cX6_tell 53 = .ok (.getfield 21, 3) := dgX6_tell_0.2.2.2.1
theorem dX6_tell_56 : decode cX6_tell 56 = .ok (.ireturn, 1) := dgX6_tell_0.2.2.2.2.1
theorem dX6_tell_57 : decode cX6_tell 57 = .ok (.aload_n 0, 1) := dgX6_tell_0.2.2.2.2.2.1
theorem dX6_tell_58 : decode cX6_tell 58 = .ok (.getfield 33, 3) := dgX6_tell_0.2.2.2.2.2.2.1
theorem dX6_tell_61 : decode cX6_tell 61 = .ok (.ireturn, 1) := dgX6_tell_0.2.2.2.2.2.2.2.1
theorem dX6_tell_62 : decode cX6_tell 62 = .ok (.aload_n 0, 1) := dgX6_tell_0.2.2.2.2.2.2.2.2.1
theorem dX6_tell_63 : decode cX6_tell 63 = .ok (.getfield 9, 3) := dgX6_tell_0.2.2.2.2.2.2.2.2.2.1
theorem dX6_tell_66 : decode cX6_tell 66 = .ok (.ireturn, 1) := dgX6_tell_0.2.2.2.2.2.2.2.2.2.2.1
theorem dX6_tell_67 : decode cX6_tell 67 = .ok (.aload_n 0, 1) := dgX6_tell_0.2.2.2.2.2.2.2.2.2.2.2.1
theorem dX6_tell_68 : decode cX6_tell 68 = .ok (.getfield 9, 3) := dgX6_tell_0.2.2.2.2.2.2.2.2.2.2.2.2.1
theorem dX6_tell_71 : decode cX6_tell 71 = .ok (.iconst (-1), 1) := dgX6_tell_0.2.2.2.2.2.2.2.2.2.2.2.2.2.1
theorem dX6_tell_72 : decode cX6_tell 72 = .ok (.if_icmp .ne 7, 3) := dgX6_tell_0.2.2.2.2.2.2.2.2.2.2.2.2.2.2.1
theorem dX6_tell_75 : decode cX6_tell 75 = .ok (.iconst (-1), 1) := dgX6_tell_0.2.2.2.2.2.2.2.2.2.2.2.2.2.2.2
theorem dgX6_tell_16 : (decode cX6_tell 76 = .ok (.goto 15, 3)) ∧ (decode cX6_tell 79 = .ok (.aload_n 0, 1)) ∧ (decode cX6_tell 80 = .ok (.getfield 41, 3)) ∧ (decode cX6_tell 83 = .ok (.ifCond .eq 7, 3)) ∧ (decode cX6_tell 86 = .ok (.iconst 1, 1)) ∧ (decode cX6_tell 87 = .ok (.goto 4, 3)) ∧ (decode cX6_tell 90 = .ok (.iconst 0, 1)) ∧ (decode cX6_tell 91 = .ok (.ireturn, 1)) ∧ (decode cX6_tell 92 = .ok (.aload_n 0, 1)) ∧ (decode cX6_tell 93 = .ok (.getfield 44, 3)) ∧ (decode cX6_tell 96 = .ok (.ifCond .eq 7, 3)) ∧ (decode cX6_tell 99 = .ok (.iconst 1, 1)) ∧ (decode cX6_tell 100 = .ok (.goto 4, 3)) ∧ (decode cX6_tell 103 = .ok (.iconst 0, 1)) ∧ (decode cX6_tell 104 = .ok (.ireturn, 1)) ∧ (decode cX6_tell 105 = .ok (.aload_n 0, 1)) := by decide +kernel
theorem dX6_tell_76 : decode cX6_tell 76 = .ok (.goto 15, 3) := dgX6_tell_16.1
theorem dX6_tell_79 : decode cX6_tell 79 = .ok (.aload_n 0, 1) := dgX6_tell_16.2.1
theorem dX6_tell_80 : decode cX6_tell 80 = .ok (.getfield 41, 3) := dgX6_tell_16.2.2.1
theorem dX6_tell_83 : decode cX6_tell 83 = .ok (.ifCond .eq 7, 3) := dgX6_tell_16.2.2.2.1
theorem dX6_tell_86 : decode cX6_tell 86 = .ok (.iconst 1, 1) := dgX6_tell_16.2.2.2.2.1
theorem dX6_tell_87 : decode cX6_tell 87 = .ok (.goto 4, 3) := dgX6_tell_16.2.2.2.2.2.1
theorem dX6_tell_90 : decode cX6_tell 90 = .ok (.iconst 0, 1) := dgX6_tell_16.2.2.2.2.2.2.1
theorem dX6_tell_91 : decode cX6_tell 91 = .ok (.ireturn, 1) := dgX6_tell_16.2.2.2.2.2.2.2.1
theorem dX6_tell_92 : decode cX6_tell 92 = .ok (.aload_n 0, 1) := dgX6_tell_16.2.2.2.2.2.2.2.2.1
theorem dX6_tell_93 : decode cX6_tell 93 = .ok (.getfield 44, 3) := dgX6_tell_16.2.2.2.2.2.2.2.2.2.1
theorem dX6_tell_96 : decode cX6_tell 96 = .ok (.ifCond .eq 7, 3) := dgX6_tell_16.2.2.2.2.2.2.2.2.2.2.1
theorem dX6_tell_99 : decode cX6_tell 99 = .ok (.iconst 1, 1) := dgX6_tell_16.2.2.2.2.2.2.2.2.2.2.2.1
theorem dX6_tell_100 : decode cX6_tell 100 = .ok (.goto 4, 3) := dgX6_tell_16.2.2.2.2.2.2.2.2.2.2.2.2.1
theorem dX6_tell_103 : decode cX6_tell 103 = .ok (.iconst 0, 1) := dgX6_tell_16.2.2.2.2.2.2.2.2.2.2.2.2.2.1
theorem dX6_tell_104 : decode cX6_tell 104 = .ok (.ireturn, 1) := dgX6_tell_16.2.2.2.2.2.2.2.2.2.2.2.2.2.2.1
theorem dX6_tell_105 : decode cX6_tell 105 = .ok (.aload_n 0, 1) := dgX6_tell_16.2.2.2.2.2.2.2.2.2.2.2.2.2.2.2
theorem dgX6_tell_32 : (decode cX6_tell 106 = .ok (.getfield 15, 3)) ∧ (decode cX6_tell 109 = .ok (.ireturn, 1)) ∧ (decode cX6_tell 110 = .ok (.aload_n 0, 1)) ∧ (decode cX6_tell 111 = .ok (.getfield 18, 3)) ∧ (decode cX6_tell 114 = .ok (.ireturn, 1)) ∧ (decode cX6_tell 115 = .ok (.aload_n 0, 1)) ∧ (decode cX6_tell 116 = .ok (.invokevirtual 47, 3)) ∧ (decode cX6_tell 119 = .ok (.ireturn, 1)) ∧ (decode cX6_tell 120 = .ok (.aload_n 0, 1)) ∧ (decode cX6_tell 121 = .ok (.invokevirtual 51, 3)) ∧ (decode cX6_tell 124 = .ok (.ifCond .eq 7, 3)) ∧ (decode cX6_tell 127 = .ok (.iconst 1, 1)) ∧ (decode cX6_tell 128 = .ok (.goto 4, 3)) ∧ (decode cX6_tell 131 = .ok (.iconst 0, 1)) ∧ (decode cX6_tell 132 = .ok (.ireturn, 1)) ∧ (decode cX6_tell 133 = .ok (.iconst (-1), 1)) := by decide +kernel
theorem dX6_tell_106 : decode cX6_tell 106 = .ok (.getfield 15, 3) := dgX6_tell_32.1
theorem dX6_tell_109 : decode cX6_tell 109 = .ok (.ireturn, 1) := dgX6_tell_32.2.1
theorem dX6_tell_110 : decode cX6_tell 110 = .ok (.aload_n 0, 1) := dgX6_tell_32.2.2.1
theorem dX6_tell_111 : decode cX6_tell 111 = .ok (.getfield 18, 3) := dgX6_tell_32.2.2.2.1
theorem dX6_tell_114 : decode cX6_tell 114 = .ok (.ireturn, 1) := dgX6_tell_32.2.2.2.2.1
theorem dX6_tell_115 : decode cX6_tell 115 = .ok (.aload_n 0, 1) := dgX6_tell_32.2.2.2.2.2.1
theorem dX6_tell_116 : decode cX6_tell 116 = .ok (.invokevirtual 47, 3) := dgX6_tell_32.2.2.2.2.2.2.1
theorem dX6_tell_119 : decode cX6_tell 119 = .ok (.ireturn, 1) := dgX6_tell_32.2.2.2.2.2.2.2.1
theorem dX6_tell_120 : decode cX6_tell 120 = .ok (.aload_n 0, 1) := dgX6_tell_32.2.2.2.2.2.2.2.2.1
theorem dX6_tell_121 : decode cX6_tell 121 = .ok (.invokevirtual 51, 3) := dgX6_tell_32.2.2.2.2.2.2.2.2.2.1
theorem dX6_tell_124 : decode cX6_tell 124 = .ok (.ifCond .eq 7, 3) := dgX6_tell_32.2.2.2.2.2.2.2.2.2.2.1
theorem dX6_tell_127 : decode cX6_tell 127 = .ok (.iconst 1, 1) := dgX6_tell_32.2.2.2.2.2.2.2.2.2.2.2.1
theorem dX6_tell_128 : decode cX6_tell 128 = .ok (.goto 4, 3) := dgX6_tell_32.2.2.2.2.2.2.2.2.2.2.2.2.1
theorem dX6_tell_131 : decode cX6_tell 131 = .ok (.iconst 0, 1) := dgX6_tell_32.2.2.2.2.2.2.2.2.2.2.2.2.2.1
theorem dX6_tell_132 : decode cX6_tell 132 = .ok (.ireturn, 1) := dgX6_tell_32.2.2.2.2.2.2.2.2.2.2.2.2.2.2.1
theorem dX6_tell_133 : decode cX6_tell 133 = .ok (.iconst (-1), 1) := dgX6_tell_32.2.2.2.2.2.2.2.2.2.2.2.2.2.2.2
theorem dX6_tell_134 : decode cX6_tell 134 = .ok (.ireturn, 1) := by decide +kernel
theorem dgX7_init_0 : (decode cX7_init 0 = .ok (.aload_n 0, 1)) ∧ (decode cX7_init 1 = .ok (.invokespecial 3, 3)) ∧ (decode cX7_init 4 = .ok (.aload_n 0, 1)) ∧ (decode cX7_init 5 = .ok (.bipush 60, 2)) ∧ (decode cX7_init 7 = .ok (.newarray .int, 2)) ∧ (decode cX7_init 9 = .ok (.putfield 9, 3)) ∧ (decode cX7_init 12 = .ok (.aload_n 0, 1)) ∧ (decode cX7_init 13 = .ok (.bipush 60, 2)) ∧ (decode cX7_init 15 = .ok (.newarray .boolean, 2)) ∧ (decode cX7_init 17 = .ok (.putfield 15, 3)) ∧ (decode cX7_init 20 = .ok (.return_, 1)) := by decide +kernel
theorem dX7_init_0 : decode cX7_init 0 = .ok (.aload_n 0, 1) := dgX7_init_0.1
theorem dX7_init_1 : decode cX7_init 1 = .ok (.invokespecial 3, 3) := dgX7_init_0.2.1
theorem dX7_init_4 : decode cX7_init 4 = .ok (.aload_n 0, 1) := dgX7_init_0.2.2.1
theorem dX7_init_5 : decode cX7_init 5 = .ok (.bipush 60, 2) := dgX7_init_0.2.2.2.1
theorem dX7_init_7 : decode cX7_init 7 = .ok (.newarray .int, 2) := dgX7_init_0.2.2.2.2.1
theorem dX7_init_9 : decode cX7_init 9 = .ok (.putfield 9, 3) := dgX7_init_0.2.2.2.2.2.1
theorem dX7_init_12 : decode cX7_init 12 = .ok (.aload_n 0, 1) := dgX7_init_0.2.2.2.2.2.2.1
theorem dX7_init_13 : decode cX7_init 13 = .ok (.bipush 60, 2) := dgX7_init_0.2.2.2.2.2.2.2.1
theorem dX7_init_15 : decode cX7_init 15 = .ok (.newarray .boolean, 2) := dgX7_init_0.2.2.2.2.2.2.2.2.1
theorem dX7_init_17 : decode cX7_init 17 = .ok (.putfield 15, 3) := dgX7_init_0.2.2.2.2.2.2.2.2.2.1
theorem dX7_init_20 : decode cX7_init 20 = .ok (.return_, 1) := dgX7_init_0.2.2.2.2.2.2.2.2.2.2
theorem dgX7_renewDegrees_0 : (decode cX7_renewDegrees 0 = .ok (.aload_n 0, 1)) ∧ (decode cX7_renewDegrees 1 = .ok (.iload_n 1, 1)) ∧ (decode cX7_renewDegrees 2 = .ok (.putfield 19, 3)) ∧ (decode cX7_renewDegrees 5 = .ok (.aload_n 0, 1)) ∧ (decode cX7_renewDegrees 6 = .ok (.getfield 9, 3)) ∧ (decode cX7_renewDegrees 9 = .ok (.iconst 0, 1)) ∧ (decode cX7_renewDegrees 10 = .ok (.invokestatic 23, 3)) ∧ (decode cX7_renewDegrees 13 = .ok (.return_, 1)) := by decide +kernel
theorem dX7_renewDegrees_0 : decode cX7_renewDegrees 0 = .ok (.aload_n 0, 1) := dgX7_renewDegrees_0.1
theorem dX7_renewDegrees_1 : decode cX7_renewDegrees 1 = .ok (.iload_n 1, 1) := dgX7_renewDegrees_0.2.1
theorem dX7_renewDegrees_2 : decode cX7_renewDegrees 2 = .ok (.putfield 19, 3) := dgX7_renewDegrees_0.2.2.1
theorem dX7_renewDegrees_5 : decode cX7_renewDegrees 5 = .ok (.aload_n 0, 1) := dgX7_renewDegrees_0.2.2.2.1
theorem dX7_renewDegrees_6 : decode cX7_renewDegrees 6 = .ok (.getfield 9, 3) := dgX7_renewDegrees_0.2.2.2.2.1
theorem dX7_renewDegrees_9 : decode cX7_renewDegrees 9 = .ok (.iconst 0, 1) := dgX7_renewDegrees_0.2.2.2.2.2.1
theorem dX7_renewDegrees_10 : decode cX7_renewDegrees 10 = .ok (.invokestatic 23, 3) := dgX7_renewDegrees_0.2.2.2.2.2.2.1
theorem dX7_renewDegrees_13 : decode cX7_renewDegrees 13 = .ok (.return_, 1) := dgX7_renewDegrees_0.2.2.2.2.2.2.2
theorem dgX7_renewStirring_0 : (decode cX7_renewStirring 0 = .ok (.aload_n 0, 1)) ∧ (decode cX7_renewStirring 1 = .ok (.iload_n 1, 1)) ∧ (decode cX7_renewStirring 2 = .ok (.putfield 29, 3)) ∧ (decode cX7_renewStirring 5 = .ok (.iconst 0, 1)) ∧ (decode cX7_renewStirring 6 = .ok (.istore_n 2, 1)) ∧ (decode cX7_renewStirring 7 = .ok (.iload_n 2, 1)) ∧ (decode cX7_renewStirring 8 = .ok (.aload_n 0, 1)) ∧ (decode cX7_renewStirring 9 = .ok (.getfield 15, 3)) ∧ (decode cX7_renewStirring 12 = .ok (.arraylength, 1)) ∧ (decode cX7_renewStirring 13 = .ok (.if_icmp .ge 16, 3)) ∧ (decode cX7_renewStirring 16 = .ok (.aload_n 0, 1)) ∧ (decode cX7_renewStirring 17 = .ok (.getfield 15, 3)) ∧ (decode cX7_renewStirring 20 = .ok (.iload_n 2, 1)) ∧ (decode cX7_renewStirring 21 = .ok (.iconst 0, 1)) ∧ (decode cX7_renewStirring 22 = .ok (.bastore, 1)) ∧ (decode cX7_renewStirring 23 = .ok (.iinc 2 1, 3)) := by decide +kernel
theorem dX7_renewStirring_0 : decode cX7_renewStirring 0 = .ok (.aload_n 0, 1) := dgX7_renewStirring_0.1
theorem dX7_renewStirring_1 : decode cX7_renewStirring 1 = .ok (.iload_n 1, 1) := dgX7_renewStirring_0.2.1
theorem dX7_renewStirring_2 : decode cX7_renewStirring 2 = .ok (.putfield 29, 3) := dgX7_renewStirring_0.2.2.1
theorem dX7_renewStirring_5 : decode cX7_renewStirring 5 = .ok (.iconst 0, 1) := dgX7_renewStirring_0.2.2.2.1
theorem dX7_renewStirring_6 : decode cX7_renewStirring 6 = .ok (.istore_n 2, 1) := dgX7_renewStirring_0.2.2.2.2.1
theorem dX7_renewStirring_7 : decode cX7_renewStirring 7 = .ok (.iload_n 2, 1) := dgX7_renewStirring_0.2.2.2.2.2.1
theorem dX7_renewStirring_8 : decode cX7_renewStirring 8 = .ok (.aload_n 0, 1) := dgX7_renewStirring_0.2.2.2.2.2.2.1
theorem dX7_renewStirring_9 : decode cX7_renewStirring 9 = .ok (.getfield 15, 3) := dgX7_renewStirring_0.2.2.2.2.2.2.2.1
theorem dX7_renewStirring_12 : decode cX7_renewStirring 12 = .ok (.arraylength, 1) := dgX7_renewStirring_0.2.2.2.2.2.2.2.2.1
theorem dX7_renewStirring_13 : decode cX7_renewStirring 13 = .ok (.if_icmp .ge 16, 3) := dgX7_renewStirring_0.2.2.2.2.2.2.2.2.2.1
theorem dX7_renewStirring_16 : decode cX7_renewStirring 16 = .ok (.aload_n 0, 1) := dgX7_renewStirring_0.2.2.2.2.2.2.2.2.2.2.1
theorem dX7_renewStirring_17 : decode cX7_renewStirring 17 = .ok (.getfield 15, 3) := dgX7_renewStirring_0.2.2.2.2.2.2.2.2.2.2.2.1
theorem dX7_renewStirring_20 : decode cX7_renewStirring 20 = .ok (.iload_n 2, 1) := dgX7_renewStirring_0.2.2.2.2.2.2.2.2.2.2.2.2.1
theorem dX7_renewStirring_21 : decode cX7_renewStirring 21 = .ok (.iconst 0, 1) := dgX7_renewStirring_0.2.2.2.2.2.2.2.2.2.2.2.2.2.1
theorem dX7_renewStirring_22 : decode cX7_renewStirring 22 = .ok (.bastore, 1) := dgX7_renewStirring_0.2.2.2.2.2.2.2.2.2.2.2.2.2.2.1
theorem dX7_renewStirring_23 : decode cX7_renewStirring 23 = .ok (.iinc 2 1, 3) := dgX7_renewStirring_0.2.2.2.2.2.2.2.2.2.2.2.2.2.2.2
theorem dgX7_renewStirring_16 : (decode cX7_renewStirring 26 = .ok (.goto (-19), 3)) ∧ (decode cX7_renewStirring 29 = .ok (.return_, 1)) := by decide +kernel
theorem dX7_renewStirring_26 : decode cX7_renewStirring 26 = .ok (.goto (-19), 3) := dgX7_renewStirring_16.1
theorem dX7_renewStirring_29 : decode cX7_renewStirring 29 = .ok (.return_, 1) := dgX7_renewStirring_16.2
theorem dgX7_hasDegree_0 : (decode cX7_hasDegree 0 = .ok (.iload_n 1, 1)) ∧ (decode cX7_hasDegree 1 = .ok (.iconst 0, 1)) ∧ (decode cX7_hasDegree 2 = .ok (.aload_n 0, 1)) ∧ (decode cX7_hasDegree 3 = .ok (.getfield 19, 3)) ∧ (decode cX7_hasDegree 6 = .ok (.iconst 1, 1)) ∧ (decode cX7_hasDegree 7 = .ok (.isub, 1)) ∧ (decode cX7_hasDegree 8 = .ok (.invokestatic 32, 3)) ∧ (decode cX7_hasDegree 11 = .ok (.ireturn, 1)) := by decide +kernel
theorem dX7_hasDegree_0 : decode cX7_hasDegree 0 = .ok (.iload_n 1, 1) := dgX7_hasDegree_0.1
theorem dX7_hasDegree_1 : decode cX7_hasDegree 1 = .ok (.iconst 0, 1) := dgX7_hasDegree_0.2.1
theorem dX7_hasDegree_2 : decode cX7_hasDegree 2 = .ok (.aload_n 0, 1) := dgX7_hasDegree_0.2.2.1
theorem dX7_hasDegree_3 : decode cX7_hasDegree 3 = .ok (.getfield 19, 3) := dgX7_hasDegree_0.2.2.2.1
theorem dX7_hasDegree_6 : decode cX7_hasDegree 6 = .ok (.iconst 1, 1) := dgX7_hasDegree_0.2.2.2.2.1
theorem dX7_hasDegree_7 : decode cX7_hasDegree 7 = .ok (.isub, 1) := dgX7_hasDegree_0.2.2.2.2.2.1
theorem dX7_hasDegree_8 : decode cX7_hasDegree 8 = .ok (.invokestatic 32, 3) := dgX7_hasDegree_0.2.2.2.2.2.2.1
theorem dX7_hasDegree_11 : decode cX7_hasDegree 11 = .ok (.ireturn, 1) := dgX7_hasDegree_0.2.2.2.2.2.2.2
theorem dgX7_hasStirring_0 : (decode cX7_hasStirring 0 = .ok (.iload_n 1, 1)) ∧ (decode cX7_hasStirring 1 = .ok (.iconst 0, 1)) ∧ (decode cX7_hasStirring 2 = .ok (.aload_n 0, 1)) ∧ (decode cX7_hasStirring 3 = .ok (.getfield 29, 3)) ∧ (decode cX7_hasStirring 6 = .ok (.iconst 1, 1)) ∧ (decode cX7_hasStirring 7 = .ok (.isub, 1)) ∧ (decode cX7_hasStirring 8 = .ok (.invokestatic 32, 3)) ∧ (decode cX7_hasStirring 11 = .ok (.ireturn, 1)) := by decide +kernel
theorem dX7_hasStirring_0 : decode cX7_hasStirring 0 = .ok (.iload_n 1, 1) := dgX7_hasStirring_0.1
theorem dX7_hasStirring_1 : decode cX7_hasStirring 1 = .ok (.iconst 0, 1) := dgX7_hasStirring_0.2.1
theorem dX7_hasStirring_2 : decode cX7_hasStirring 2 = .ok (.aload_n 0, 1) := dgX7_hasStirring_0.2.2.1
theorem dX7_hasStirring_3 : decode cX7_hasStirring 3 = .ok (.getfield 29, 3) := dgX7_hasStirring_0.2.2.2.1
theorem dX7_hasStirring_6 : decode cX7_hasStirring 6 = .ok (.iconst 1, 1) := dgX7_hasStirring_0.2.2.2.2.1
theorem dX7_hasStirring_7 : decode cX7_hasStirring 7 = .ok (.isub, 1) := dgX7_hasStirring_0.2.2.2.2.2.1
theorem dX7_hasStirring_8 : decode cX7_hasStirring 8 = .ok (.invokestatic 32, 3) := dgX7_hasStirring_0.2.2.2.2.2.2.1
theorem dX7_hasStirring_11 : decode cX7_hasStirring 11 = .ok (.ireturn, 1) := dgX7_hasStirring_0.2.2.2.2.2.2.2
theorem dgX7_wasStirred_0 : (decode cX7_wasStirred 0 = .ok (.aload_n 0, 1)) ∧ (decode cX7_wasStirred 1 = .ok (.iload_n 1, 1)) ∧ (decode cX7_wasStirred 2 = .ok (.invokevirtual 36, 3)) ∧ (decode cX7_wasStirred 5 = .ok (.ifCond .eq 16, 3)) ∧ (decode cX7_wasStirred 8 = .ok (.aload_n 0, 1)) ∧ (decode cX7_wasStirred 9 = .ok (.getfield 15, 3)) ∧ (decode cX7_wasStirred 12 = .ok (.iload_n 1, 1)) ∧ (decode cX7_wasStirred 13 = .ok (.baload, 1)) ∧ (decode cX7_wasStirred 14 = .ok (.ifCond .eq 7, 3)) ∧ (decode cX7_wasStirred 17 = .ok (.iconst 1, 1)) ∧ (decode cX7_wasStirred 18 = .ok (.goto 4, 3)) ∧ (decode cX7_wasStirred 21 = .ok (.iconst 0, 1)) ∧ (decode cX7_wasStirred 22 = .ok (.ireturn, 1)) := by decide +kernel
theorem dX7_wasStirred_0 : decode cX7_wasStirred 0 = .ok (.aload_n 0, 1) := dgX7_wasStirred_0.1
theorem dX7_wasStirred_1 : decode cX7_wasStirred 1 = .ok (.iload_n 1, 1) := dgX7_wasStirred_0.2.1
theorem dX7_wasStirred_2 : decode cX7_wasStirred 2 = .ok (.invokevirtual 36, 3) := dgX7_wasStirred_0.2.2.1
theorem dX7_wasStirred_5 : decode cX7_wasStirred 5 = .ok (.ifCond .eq 16, 3) := dgX7_wasStirred_0.2.2.2.1
theorem dX7_wasStirred_8 : decode cX7_wasStirred 8 = .ok (.aload_n 0, 1) := dgX7_wasStirred_0.2.2.2.2.1
theorem dX7_wasStirred_9 : decode cX7_wasStirred 9 = .ok (.getfield 15, 3) := dgX7_wasStirred_0.2.2.2.2.2.1
theorem dX7_wasStirred_12 : decode cX7_wasStirred 12 = .ok (.iload_n 1, 1) := dgX7_wasStirred_0.2.2.2.2.2.2.1
theorem dX7_wasStirred_13 : decode cX7_wasStirred 13 = .ok (.baload, 1) := dgX7_wasStirred_0.2.2.2.2.2.2.2.1
theorem dX7_wasStirred_14 : decode cX7_wasStirred 14 = .ok (.ifCond .eq 7, 3) := dgX7_wasStirred_0.2.2.2.2.2.2.2.2.1
theorem dX7_wasStirred_17 : decode cX7_wasStirred 17 = .ok (.iconst 1, 1) := dgX7_wasStirred_0.2.2.2.2.2.2.2.2.2.1
theorem dX7_wasStirred_18 : decode cX7_wasStirred 18 = .ok (.goto 4, 3) := dgX7_wasStirred_0.2.2.2.2.2.2.2.2.2.2.1
theorem dX7_wasStirred_21 : decode cX7_wasStirred 21 = .ok (.iconst 0, 1) := dgX7_wasStirred_0.2.2.2.2.2.2.2.2.2.2.2.1
theorem dX7_wasStirred_22 : decode cX7_wasStirred 22 = .ok (.ireturn, 1) := dgX7_wasStirred_0.2.2.2.2.2.2.2.2.2.2.2.2
theorem dgX7_isNumber_0 : (decode cX7_isNumber 0 = .ok (.aload_n 0, 1)) ∧ (decode cX7_isNumber 1 = .ok (.iload_n 1, 1)) ∧ (decode cX7_isNumber 2 = .ok (.invokevirtual 40, 3)) ∧ (decode cX7_isNumber 5 = .ok (.ifCond .eq 21, 3)) ∧ (decode cX7_isNumber 8 = .ok (.aload_n 0, 1)) ∧ (decode cX7_isNumber 9 = .ok (.getfield 9, 3)) ∧ (decode cX7_isNumber 12 = .ok (.iload_n 1, 1)) ∧ (decode cX7_isNumber 13 = .ok (.iaload, 1)) ∧ (decode cX7_isNumber 14 = .ok (.ldc 43, 2)) ∧ (decode cX7_isNumber 16 = .ok (.iand, 1)) ∧ (decode cX7_isNumber 17 = .ok (.ldc 44, 2)) ∧ (decode cX7_isNumber 19 = .ok (.if_icmp .gt 7, 3)) ∧ (decode cX7_isNumber 22 = .ok (.iconst 1, 1)) ∧ (decode cX7_isNumber 23 = .ok (.goto 4, 3)) ∧ (decode cX7_isNumber 26 = .ok (.iconst 0, 1)) ∧ (decode cX7_isNumber 27 = .ok (.ireturn, 1)) := by decide +kernel
theorem dX7_isNumber_0 : decode cX7_isNumber 0 = .ok (.aload_n 0, 1) := dgX7_isNumber_0.1
theorem dX7_isNumber_1 : decode cX7_isNumber 1 = .ok (.iload_n 1, 1) := dgX7_isNumber_0.2.1
theorem dX7_isNumber_2 : decode cX7_isNumber 2 = .ok (.invokevirtual 40, 3) := dgX7_isNumber_0.2.2.1
theorem dX7_isNumber_5 : decode cX7_isNumber 5 = .ok (.ifCond .eq 21, 3) := dgX7_isNumber_0.2.2.2.1
theorem dX7_isNumber_8 : decode cX7_isNumber 8 = .ok (.aload_n 0, 1) := dgX7_isNumber_0.2.2.2.2.1
theorem dX7_isNumber_9 : decode cX7_isNumber 9 = .ok (.getfield 9, 3) := dgX7_isNumber_0.2.2.2.2.2.1
theorem dX7_isNumber_12 : decode cX7_isNumber 12 = .ok (.iload_n 1, 1) := dgX7_isNumber_0.2.2.2.2.2.2.1
theorem dX7_isNumber_13 : decode cX7_isNumber 13 = .ok (.iaload, 1) := dgX7_isNumber_0.2.2.2.2.2.2.2.1
theorem dX7_isNumber_14 : decode cX7_isNumber 14 = .ok (.ldc 43, 2) := dgX7_isNumber_0.2.2.2.2.2.2.2.2.1
theorem dX7_isNumber_16 : decode cX7_isNumber 16 = .ok (.iand, 1) := dgX7_isNumber_0.2.2.2.2.2.2.2.2.2.1
theorem dX7_isNumber_17 : decode cX7_isNumber 17 = .ok (.ldc 44, 2) := dgX7_isNumber_0.2.2.2.2.2.2.2.2.2.2.1
theorem dX7_isNumber_19 : decode cX7_isNumber 19 = .ok (.if_icmp .gt 7, 3) := dgX7_isNumber_0.2.2.2.2.2.2.2.2.2.2.2.1
theorem dX7_isNumber_22 : decode cX7_isNumber 22 = .ok (.iconst 1, 1) := dgX7_isNumber_0.2.2.2.2.2.2.2.2.2.2.2.2.1
theorem dX7_isNumber_23 : decode cX7_isNumber 23 = .ok (.goto 4, 3) := dgX7_isNumber_0.2.2.2.2.2.2.2.2.2.2.2.2.2.1
theorem dX7_isNumber_26 : decode cX7_isNumber 26 = .ok (.iconst 0, 1) := dgX7_isNumber_0.2.2.2.2.2.2.2.2.2.2.2.2.2.2.1
theorem dX7_isNumber_27 : decode cX7_isNumber 27 = .ok (.ireturn, 1) := dgX7_isNumber_0.2.2.2.2.2.2.2.2.2.2.2.2.2.2.2
theorem dgX7_degreeAt_0 : (decode cX7_degreeAt 0 = .ok (.aload_n 0, 1)) ∧ (decode cX7_degreeAt 1 = .ok (.iload_n 1, 1)) ∧ (decode cX7_degreeAt 2 = .ok (.invokevirtual 40, 3)) ∧ (decode cX7_degreeAt 5 = .ok (.ifCond .eq 15, 3)) ∧ (decode cX7_degreeAt 8 = .ok (.aload_n 0, 1)) ∧ (decode cX7_degreeAt 9 = .ok (.getfield 9, 3)) ∧ (decode cX7_degreeAt 12 = .ok (.iload_n 1, 1)) ∧ (decode cX7_degreeAt 13 = .ok (.iaload, 1)) ∧ (decode cX7_degreeAt 14 = .ok (.invokestatic 45, 3)) ∧ (decode cX7_degreeAt 17 = .ok (.goto 4, 3)) ∧ (decode cX7_degreeAt 20 = .ok (.iconst 0, 1)) ∧ (decode cX7_degreeAt 21 = .ok (.ireturn, 1)) := by decide +kernel
theorem dX7_degreeAt_0 : decode cX7_degreeAt 0 = .ok (.aload_n 0, 1) := dgX7_degreeAt_0.1
theorem dX7_degreeAt_1 : decode cX7_degreeAt 1 = .ok (.iload_n 1, 1) := dgX7_degreeAt_0.2.1
theorem dX7_degreeAt_2 : decode cX7_degreeAt 2 = .ok (.invokevirtual 40, 3) := dgX7_degreeAt_0.2.2.1
theorem dX7_degreeAt_5 : decode cX7_degreeAt 5 = .ok (.ifCond .eq 15, 3) := dgX7_degreeAt_0.2.2.2.1
theorem dX7_degreeAt_8 : decode cX7_degreeAt 8 = .ok (.aload_n 0, 1) := dgX7_degreeAt_0.2.2.2.2.1
theorem dX7_degreeAt_9 : decode cX7_degreeAt 9 = .ok (.getfield 9, 3) := dgX7_degreeAt_0.2.2.2.2.2.1
theorem dX7_degreeAt_12 : decode cX7_degreeAt 12 = .ok (.iload_n 1, 1) := dgX7_degreeAt_0.2.2.2.2.2.2.1
theorem dX7_degreeAt_13 : decode cX7_degreeAt 13 = .ok (.iaload, 1) := dgX7_degreeAt_0.2.2.2.2.2.2.2.1
theorem dX7_degreeAt_14 : decode cX7_degreeAt 14 = .ok (.invokestatic 45, 3) := dgX7_degreeAt_0.2.2.2.2.2.2.2.2.1
theorem dX7_degreeAt_17 : decode cX7_degreeAt 17 = .ok (.goto 4, 3) := dgX7_degreeAt_0.2.2.2.2.2.2.2.2.2.1
theorem dX7_degreeAt_20 : decode cX7_degreeAt 20 = .ok (.iconst 0, 1) := dgX7_degreeAt_0.2.2.2.2.2.2.2.2.2.2.1
theorem dX7_degreeAt_21 : decode cX7_degreeAt 21 = .ok (.ireturn, 1) := dgX7_degreeAt_0.2.2.2.2.2.2.2.2.2.2.2
theorem dgX7_tenfold_0 : (decode cX7_tenfold 0 = .ok (.iload_n 0, 1)) ∧ (decode cX7_tenfold 1 = .ok (.bipush 23, 2)) ∧ (decode cX7_tenfold 3 = .ok (.ishr, 1)) ∧ (decode cX7_tenfold 4 = .ok (.sipush 255, 3)) ∧ (decode cX7_tenfold 7 = .ok (.iand, 1)) ∧ (decode cX7_tenfold 8 = .ok (.sipush 150, 3)) ∧ (decode cX7_tenfold 11 = .ok (.isub, 1)) ∧ (decode cX7_tenfold 12 = .ok (.istore_n 1, 1)) ∧ (decode cX7_tenfold 13 = .ok (.iload_n 0, 1)) ∧ (decode cX7_tenfold 14 = .ok (.ldc 49, 2)) ∧ (decode cX7_tenfold 16 = .ok (.iand, 1)) ∧ (decode cX7_tenfold 17 = .ok (.ldc 50, 2)) ∧ (decode cX7_tenfold 19 = .ok (.ior, 1)) ∧ (decode cX7_tenfold 20 = .ok (.istore_n 2, 1)) ∧ (decode cX7_tenfold 21 = .ok (.iload_n 1, 1)) ∧ (decode cX7_tenfold 22 = .ok (.bipush (-30), 2)) := by decide +kernel
theorem dX7_tenfold_0 : decode cX7_tenfold 0 = .ok (.iload_n 0, 1) := dgX7_tenfold_0.1
theorem dX7_tenfold_1 : decode cX7_tenfold 1 = .ok (.bipush 23, 2) := dgX7_tenfold_0.2.1
theorem dX7_tenfold_3 : decode cX7_tenfold 3 = .ok (.ishr, 1) := dgX7_tenfold_0.2.2.1
theorem dX7_tenfold_4 : decode cX7_tenfold 4 = .ok (.sipush 255, 3) := dgX7_tenfold_0.2.2.2.1
theorem dX7_tenfold_7 : decode cX7_tenfold 7 = .ok (.iand, 1) := dgX7_tenfold_0.2.2.2.2.1
theorem dX7_tenfold_8 : decode cX7_tenfold 8 = .ok (.sipush 150, 3) := dgX7_tenfold_0.2.2.2.2.2.1
theorem dX7_tenfold_11 : decode cX7_tenfold 11 = .ok (.isub, 1) := dgX7_tenfold_0.2.2.2.2.2.2.1
theorem dX7_tenfold_12 : decode cX7_tenfold 12 = .ok (.istore_n 1, 1) := dgX7_tenfold_0.2.2.2.2.2.2.2.1
theorem dX7_tenfold_13 : decode cX7_tenfold 13 = .ok (.iload_n 0, 1) := dgX7_tenfold_0.2.2.2.2.2.2.2.2.1
theorem dX7_tenfold_14 : decode cX7_tenfold 14 = .ok (.ldc 49, 2) := dgX7_tenfold_0.2.2.2.2.2.2.2.2.2.1
theorem dX7_tenfold_16 : decode cX7_tenfold 16 = .ok (.iand, 1) := dgX7_tenfold_0.2.2.2.2.2.2.2.2.2.2.1
theorem dX7_tenfold_17 : decode cX7_tenfold 17 = .ok (.ldc 50, 2) := dgX7_tenfold_0.2.2.2.2.2.2.2.2.2.2.2.1
theorem dX7_tenfold_19 : decode cX7_tenfold 19 = .ok (.ior, 1) := dgX7_tenfold_0.2.2.2.2.2.2.2.2.2.2.2.2.1
theorem dX7_tenfold_20 : decode cX7_tenfold 20 = .ok (.istore_n 2, 1) := dgX7_tenfold_0.2.2.2.2.2.2.2.2.2.2.2.2.2.1
theorem dX7_tenfold_21 : decode cX7_tenfold 21 = .ok (.iload_n 1, 1) := dgX7_tenfold_0.2.2.2.2.2.2.2.2.2.2.2.2.2.2.1
theorem dX7_tenfold_22 : decode cX7_tenfold 22 = .ok (.bipush (-30), 2) := dgX7_tenfold_0.2.2.2.2.2.2.2.2.2.2.2.2.2.2.2
theorem dgX7_tenfold_16 : (decode cX7_tenfold 24 = .ok (.if_icmp .ge 5, 3)) ∧ (decode cX7_tenfold 27 = .ok (.iconst 0, 1)) ∧ (decode cX7_tenfold 28 = .ok (.ireturn, 1)) ∧ (decode cX7_tenfold 29 = .ok (.iload_n 1, 1)) ∧ (decode cX7_tenfold 30 = .ok (.bipush 7, 2)) ∧ (decode cX7_tenfold 32 = .ok (.if_icmp .le 15, 3)) ∧ (decode cX7_tenfold 35 = .ok (.iload_n 0, 1)) ∧ (decode cX7_tenfold 36 = .ok (.ifCond .ge 8, 3)) ∧ (decode cX7_tenfold 39 = .ok (.ldc 51, 2)) ∧ (decode cX7_tenfold 41 = .ok (.goto 5, 3)) ∧ (decode cX7_tenfold 44 = .ok (.ldc 43, 2)) ∧ (decode cX7_tenfold 46 = .ok (.ireturn, 1)) ∧ (decode cX7_tenfold 47 = .ok (.iload_n 1, 1)) ∧ (decode cX7_tenfold 48 = .ok (.ifCond .lt 10, 3)) ∧ (decode cX7_tenfold 51 = .ok (.iload_n 2, 1)) ∧ (decode cX7_tenfold 52 = .ok (.iload_n 1, 1)) := by decide +kernel
theorem dX7_tenfold_24 : decode cX7_tenfold 24 = .ok (.if_icmp .ge 5, 3) := dgX7_tenfold_16.1
theorem dX7_tenfold_27 : decode cX7_tenfold 27 = .ok (.iconst 0, 1) := dgX7_tenfold_16.2.1
theorem dX7_tenfold_28 : decode cX7_tenfold 28 = .ok (.ireturn, 1) := dgX7_tenfold_16.2.2.1
theorem dX7_tenfold_29 : decode cX7_tenfold 29 = .ok (.iload_n 1, 1) := dgX7_tenfold_16.2.2.2.1
theorem dX7_tenfold_30 : decode cX7_tenfold 30 = .ok (.bipush 7, 2) := dgX7_tenfold_16.2.2.2.2.1
theorem dX7_tenfold_32 : decode cX7_tenfold 32 = .ok (.if_icmp .le 15, 3) := dgX7_tenfold_16.2.2.2.2.2.1
theorem dX7_tenfold_35 : decode cX7_tenfold 35 = .ok (.iload_n 0, 1) := dgX7_tenfold_16.2.2.2.2.2.2.1
theorem dX7_tenfold_36 : decode cX7_tenfold 36 = .ok (.ifCond .ge 8, 3) := dgX7_tenfold_16.2.2.2.2.2.2.2.1
theorem dX7_tenfold_39 : decode cX7_tenfold 39 = .ok (.ldc 51, 2) := dgX7_tenfold_16.2.2.2.2.2.2.2.2.1
theorem dX7_tenfold_41 : decode cX7_tenfold 41 = .ok (.goto 5, 3) := dgX7_tenfold_16.2.2.2.2.2.2.2.2.2.1
theorem dX7_tenfold_44 : decode cX7_tenfold 44 = .ok (.ldc 43, 2) := dgX7_tenfold_16.2.2.2.2.2.2.2.2.2.2.1
theorem dX7_tenfold_46 : decode cX7_tenfold 46 = .ok (.ireturn, 1) := dgX7_tenfold_16.2.2.2.2.2.2.2.2.2.2.2.1
theorem dX7_tenfold_47 : decode cX7_tenfold 47 = .ok (.iload_n 1, 1) := dgX7_tenfold_16.2.2.2.2.2.2.2.2.2.2.2.2.1
theorem dX7_tenfold_48 : decode cX7_tenfold 48 = .ok (.ifCond .lt 10, 3) := dgX7_tenfold_16.2.2.2.2.2.2.2.2.2.2.2.2.2.1
theorem dX7_tenfold_51 : decode cX7_tenfold 51 = .ok (.iload_n 2, 1) := dgX7_tenfold_16.2.2.2.2.2.2.2.2.2.2.2.2.2.2.1
theorem dX7_tenfold_52 : decode cX7_tenfold 52 = .ok (.iload_n 1, 1) := dgX7_tenfold_16.2.2.2.2.2.2.2.2.2.2.2.2.2.2.2
theorem dgX7_tenfold_32 : (decode cX7_tenfold 53 = .ok (.ishl, 1)) ∧ (decode cX7_tenfold 54 = .ok (.i2f, 1)) ∧ (decode cX7_tenfold 55 = .ok (.goto 11, 3)) ∧ (decode cX7_tenfold 58 = .ok (.iload_n 2, 1)) ∧ (decode cX7_tenfold 59 = .ok (.i2f, 1)) ∧ (decode cX7_tenfold 60 = .ok (.iconst 1, 1)) ∧ (decode cX7_tenfold 61 = .ok (.iload_n 1, 1)) ∧ (decode cX7_tenfold 62 = .ok (.ineg, 1)) ∧ (decode cX7_tenfold 63 = .ok (.ishl, 1)) ∧ (decode cX7_tenfold 64 = .ok (.i2f, 1)) ∧ (decode cX7_tenfold 65 = .ok (.fdiv, 1)) ∧ (decode cX7_tenfold 66 = .ok (.fstore_n 3, 1)) ∧ (decode cX7_tenfold 67 = .ok (.iload_n 0, 1)) ∧ (decode cX7_tenfold 68 = .ok (.ifCond .ge 8, 3)) ∧ (decode cX7_tenfold 71 = .ok (.ldc 52, 2)) ∧ (decode cX7_tenfold 73 = .ok (.goto 5, 3)) := by decide +kernel
theorem dX7_tenfold_53 : decode cX7_tenfold 53 = .ok (.ishl, 1) := dgX7_tenfold_32.1
theorem dX7_tenfold_54 : decode cX7_tenfold 54 = .ok (.i2f, 1) := dgX7_tenfold_32.2.1
theorem dX7_tenfold_55 : decode cX7_tenfold 55 = .ok (.goto 11, 3) := dgX7_tenfold_32.2.2.1
theorem dX7_tenfold_58 : decode cX7_tenfold 58 = .ok (.iload_n 2, 1) := dgX7_tenfold_32.2.2.2.1
theorem dX7_tenfold_59 : decode cX7_tenfold 59 = .ok (.i2f, 1) := dgX7_tenfold_32.2.2.2.2.1
theorem dX7_tenfold_60 : decode cX7_tenfold 60 = .ok (.iconst 1, 1) := dgX7_tenfold_32.2.2.2.2.2.1
theorem dX7_tenfold_61 : decode cX7_tenfold 61 = .ok (.iload_n 1, 1) := dgX7_tenfold_32.2.2.2.2.2.2.1
theorem dX7_tenfold_62 : decode cX7_tenfold 62 = .ok (.ineg, 1) := dgX7_tenfold_32.2.2.2.2.2.2.2.1
theorem dX7_tenfold_63 : decode cX7_tenfold 63 = .ok (.ishl, 1) := dgX7_tenfold_32.2.2.2.2.2.2.2.2.1
theorem dX7_tenfold_64 : decode cX7_tenfold 64 = .ok (.i2f, 1) := dgX7_tenfold_32.2.2.2.2.2.2.2.2.2.1
theorem dX7_tenfold_65 : decode cX7_tenfold 65 = .ok (.fdiv, 1) := dgX7_tenfold_32.2.2.2.2.2.2.2.2.2.2.1
theorem dX7_tenfold_66 : decode cX7_tenfold 66 = .ok (.fstore_n 3, 1) := dgX7_tenfold_32.2.2.2.2.2.2.2.2.2.2.2.1
theorem dX7_tenfold_67 : decode cX7_tenfold 67 = .ok (.iload_n 0, 1) := dgX7_tenfold_32.2.2.2.2.2.2.2.2.2.2.2.2.1
theorem dX7_tenfold_68 : decode cX7_tenfold 68 = .ok (.ifCond .ge 8, 3) := dgX7_tenfold_32.2.2.2.2.2.2.2.2.2.2.2.2.2.1
theorem dX7_tenfold_71 : decode cX7_tenfold 71 = .ok (.ldc 52, 2) := dgX7_tenfold_32.2.2.2.2.2.2.2.2.2.2.2.2.2.2.1
theorem dX7_tenfold_73 : decode cX7_tenfold 73 = .ok (.goto 5, 3) := dgX7_tenfold_32.2.2.2.2.2.2.2.2.2.2.2.2.2.2.2
theorem dgX7_tenfold_48 : (decode cX7_tenfold 76 = .ok (.ldc 53, 2)) ∧ (decode cX7_tenfold 78 = .ok (.fload_n 3, 1)) ∧ (decode cX7_tenfold 79 = .ok (.fmul, 1)) ∧ (decode cX7_tenfold 80 = .ok (.f2i, 1)) ∧ (decode cX7_tenfold 81 = .ok (.ireturn, 1)) := by decide +kernel
theorem dX7_tenfold_76 : decode cX7_tenfold 76 = .ok (.ldc 53, 2) := dgX7_tenfold_48.1
theorem dX7_tenfold_78 : decode cX7_tenfold 78 = .ok (.fload_n 3, 1) := dgX7_tenfold_48.2.1
theorem dX7_tenfold_79 : decode cX7_tenfold 79 = .ok (.fmul, 1) := dgX7_tenfold_48.2.2.1
theorem dX7_tenfold_80 : decode cX7_tenfold 80 = .ok (.f2i, 1) := dgX7_tenfold_48.2.2.2.1
theorem dX7_tenfold_81 : decode cX7_tenfold 81 = .ok (.ireturn, 1) := dgX7_tenfold_48.2.2.2.2
theorem dgX8_init_0 : (decode cX8_init 0 = .ok (.aload_n 0, 1)) ∧ (decode cX8_init 1 = .ok (.invokespecial 3, 3)) ∧ (decode cX8_init 4 = .ok (.aload_n 0, 1)) ∧ (decode cX8_init 5 = .ok (.bipush 16, 2)) ∧ (decode cX8_init 7 = .ok (.newarray .int, 2)) ∧ (decode cX8_init 9 = .ok (.putfield 11, 3)) ∧ (decode cX8_init 12 = .ok (.aload_n 0, 1)) ∧ (decode cX8_init 13 = .ok (.bipush 16, 2)) ∧ (decode cX8_init 15 = .ok (.newarray .int, 2)) ∧ (decode cX8_init 17 = .ok (.putfield 15, 3)) ∧ (decode cX8_init 20 = .ok (.aload_n 0, 1)) ∧ (decode cX8_init 21 = .ok (.iconst 0, 1)) ∧ (decode cX8_init 22 = .ok (.putfield 18, 3)) ∧ (decode cX8_init 25 = .ok (.aload_n 0, 1)) ∧ (decode cX8_init 26 = .ok (.iconst (-1), 1)) ∧ (decode cX8_init 27 = .ok (.putfield 22, 3)) := by decide +kernel
theorem dX8_init_0 : decode cX8_init 0 = .ok (.aload_n 0, 1) := dgX8_init_0.1
theorem dX8_init_1 : decode cX8_init 1 = .ok (.invokespecial 3, 3) := dgX8_init_0.2.1
theorem dX8_init_4 : decode cX8_init 4 = .ok (.aload_n 0, 1) := dgX8_init_0.2.2.1
theorem dX8_init_5 : decode cX8_init 5 = .ok (.bipush 16, 2) := dgX8_init_0.2.2.2.1
theorem dX8_init_7 : decode cX8_init 7 = .ok (.newarray .int, 2) := dgX8_init_0.2.2.2.2.1
theorem dX8_init_9 : decode cX8_init 9 = .ok (.putfield 11, 3) := dgX8_init_0.2.2.2.2.2.1
theorem dX8_init_12 : decode cX8_init 12 = .ok (.aload_n 0, 1) := dgX8_init_0.2.2.2.2.2.2.1
theorem dX8_init_13 : decode cX8_init 13 = .ok (.bipush 16, 2) := dgX8_init_0.2.2.2.2.2.2.2.1
theorem dX8_init_15 : decode cX8_init 15 = .ok (.newarray .int, 2) := dgX8_init_0.2.2.2.2.2.2.2.2.1
theorem dX8_init_17 : decode cX8_init 17 = .ok (.putfield 15, 3) := dgX8_init_0.2.2.2.2.2.2.2.2.2.1
theorem dX8_init_20 : decode cX8_init 20 = .ok (.aload_n 0, 1) := dgX8_init_0.2.2.2.2.2.2.2.2.2.2.1
theorem dX8_init_21 : decode cX8_init 21 = .ok (.iconst 0, 1) := dgX8_init_0.2.2.2.2.2.2.2.2.2.2.2.1
theorem dX8_init_22 : decode cX8_init 22 = .ok (.putfield 18, 3) := dgX8_init_0.2.2.2.2.2.2.2.2.2.2.2.2.1
theorem dX8_init_25 : decode cX8_init 25 = .ok (.aload_n 0, 1) := dgX8_init_0.2.2.2.2.2.2.2.2.2.2.2.2.2.1
theorem dX8_init_26 : decode cX8_init 26 = .ok (.iconst (-1), 1) := dgX8_init_0.2.2.2.2.2.2.2.2.2.2.2.2.2.2.1
theorem dX8_init_27 : decode cX8_init 27 = .ok (.putfield 22, 3) := dgX8_init_0.2.2.2.2.2.2.2.2.2.2.2.2.2.2.2
theorem dgX8_init_16 : (decode cX8_init 30 = .ok (.aload_n 0, 1)) ∧ (decode cX8_init 31 = .ok (.bipush 6, 2)) ∧ (decode cX8_init 33 = .ok (.newarray .int, 2)) ∧ (decode cX8_init 35 = .ok (.putfield 25, 3)) ∧ (decode cX8_init 38 = .ok (.aload_n 0, 1)) ∧ (decode cX8_init 39 = .ok (.bipush 6, 2)) ∧ (decode cX8_init 41 = .ok (.newarray .int, 2)) ∧ (decode cX8_init 43 = .ok (.putfield 28, 3)) ∧ (decode cX8_init 46 = .ok (.aload_n 0, 1)) ∧ (decode cX8_init 47 = .ok (.getfield 28, 3)) ∧ (decode cX8_init 50 = .ok (.sipush 900, 3)) ∧ (decode cX8_init 53 = .ok (.invokestatic 31, 3)) ∧ (decode cX8_init 56 = .ok (.return_, 1)) := by decide +kernel
theorem dX8_init_30 : decode cX8_init 30 = .ok (.aload_n 0, 1) := dgX8_init_16.1
theorem dX8_init_31 : decode cX8_init 31 = .ok (.bipush 6, 2) := dgX8_init_16.2.1
theorem dX8_init_33 : decode cX8_init 33 = .ok (.newarray .int, 2) := dgX8_init_16.2.2.1
theorem dX8_init_35 : decode cX8_init 35 = .ok (.putfield 25, 3) := dgX8_init_16.2.2.2.1
theorem dX8_init_38 : decode cX8_init 38 = .ok (.aload_n 0, 1) := dgX8_init_16.2.2.2.2.1
theorem dX8_init_39 : decode cX8_init 39 = .ok (.bipush 6, 2) := dgX8_init_16.2.2.2.2.2.1
theorem dX8_init_41 : decode cX8_init 41 = .ok (.newarray .int, 2) := dgX8_init_16.2.2.2.2.2.2.1
theorem dX8_init_43 : decode cX8_init 43 = .ok (.putfield 28, 3) := dgX8_init_16.2.2.2.2.2.2.2.1
theorem dX8_init_46 : decode cX8_init 46 = .ok (.aload_n 0, 1) := dgX8_init_16.2.2.2.2.2.2.2.2.1
theorem dX8_init_47 : decode cX8_init 47 = .ok (.getfield 28, 3) := dgX8_init_16.2.2.2.2.2.2.2.2.2.1
theorem dX8_init_50 : decode cX8_init 50 = .ok (.sipush 900, 3) := dgX8_init_16.2.2.2.2.2.2.2.2.2.2.1
theorem dX8_init_53 : decode cX8_init 53 = .ok (.invokestatic 31, 3) := dgX8_init_16.2.2.2.2.2.2.2.2.2.2.2.1
theorem dX8_init_56 : decode cX8_init 56 = .ok (.return_, 1) := dgX8_init_16.2.2.2.2.2.2.2.2.2.2.2.2
theorem dgX8_addLoss_0 : (decode cX8_addLoss 0 = .ok (.aload_n 0, 1)) ∧ (decode cX8_addLoss 1 = .ok (.getfield 37, 3)) ∧ (decode cX8_addLoss 4 = .ok (.ifCond .eq 18, 3)) ∧ (decode cX8_addLoss 7 = .ok (.aload_n 0, 1)) ∧ (decode cX8_addLoss 8 = .ok (.getfield 11, 3)) ∧ (decode cX8_addLoss 11 = .ok (.aload_n 0, 1)) ∧ (decode cX8_addLoss 12 = .ok (.getfield 37, 3)) ∧ (decode cX8_addLoss 15 = .ok (.iconst 1, 1)) ∧ (decode cX8_addLoss 16 = .ok (.isub, 1)) ∧ (decode cX8_addLoss 17 = .ok (.iaload, 1)) ∧ (decode cX8_addLoss 18 = .ok (.iload_n 1, 1)) ∧ (decode cX8_addLoss 19 = .ok (.if_icmp .ge 7, 3)) ∧ (decode cX8_addLoss 22 = .ok (.iconst 1, 1)) ∧ (decode cX8_addLoss 23 = .ok (.goto 4, 3)) ∧ (decode cX8_addLoss 26 = .ok (.iconst 0, 1)) ∧ (decode cX8_addLoss 27 = .ok (.istore_n 3, 1)) := by decide +kernel
theorem dX8_addLoss_0 : decode cX8_addLoss 0 = .ok (.aload_n 0, 1) := dgX8_addLoss_0.1
theorem dX8_addLoss_1 : decode cX8_addLoss 1 = .ok (.getfield 37, 3) := dgX8_addLoss_0.2.1
theorem dX8_addLoss_4 : decode cX8_addLoss 4 = .ok (.ifCond .eq 18, 3) := dgX8_addLoss_0.2.2.1
theorem dX8_addLoss_7 : decode cX8_addLoss 7 = .ok (.aload_n 0, 1) := dgX8_addLoss_0.2.2.2.1
theorem dX8_addLoss_8 : decode cX8_addLoss 8 = .ok (.getfield 11, 3) := dgX8_addLoss_0.2.2.2.2.1
theorem dX8_addLoss_11 : decode cX8_addLoss 11 = .ok (.aload_n 0, 1) := dgX8_addLoss_0.2.2.2.2.2.1
theorem dX8_addLoss_12 : decode cX8_addLoss 12 = .ok (.getfield 37, 3) := dgX8_addLoss_0.2.2.2.2.2.2.1
theorem dX8_addLoss_15 : decode cX8_addLoss 15 = .ok (.iconst 1, 1) := dgX8_addLoss_0.2.2.2.2.2.2.2.1
theorem dX8_addLoss_16 : decode cX8_addLoss 16 = .ok (.isub, 1) := dgX8_addLoss_0.2.2.2.2.2.2.2.2.1
theorem dX8_addLoss_17 : decode cX8_addLoss 17 = .ok (.iaload, 1) := dgX8_addLoss_0.2.2.2.2.2.2.2.2.2.1
theorem dX8_addLoss_18 : decode cX8_addLoss 18 = .ok (.iload_n 1, 1) := dgX8_addLoss_0.2.2.2.2.2.2.2.2.2.2.1
theorem dX8_addLoss_19 : decode cX8_addLoss 19 = .ok (.if_icmp .ge 7, 3) := dgX8_addLoss_0.2.2.2.2.2.2.2.2.2.2.2.1
theorem dX8_addLoss_22 : decode cX8_addLoss 22 = .ok (.iconst 1, 1) := dgX8_addLoss_0.2.2.2.2.2.2.2.2.2.2.2.2.1
theorem dX8_addLoss_23 : decode cX8_addLoss 23 = .ok (.goto 4, 3) := dgX8_addLoss_0.2.2.2.2.2.2.2.2.2.2.2.2.2.1
theorem dX8_addLoss_26 : decode cX8_addLoss 26 = .ok (.iconst 0, 1) := dgX8_addLoss_0.2.2.2.2.2.2.2.2.2.2.2.2.2.2.1
theorem dX8_addLoss_27 : decode cX8_addLoss 27 = .ok (.istore_n 3, 1) := dgX8_addLoss_0.2.2.2.2.2.2.2.2.2.2.2.2.2.2.2
theorem dgX8_addLoss_16 : (decode cX8_addLoss 28 = .ok (.aload_n 0, 1)) ∧ (decode cX8_addLoss 29 = .ok (.getfield 37, 3)) ∧ (decode cX8_addLoss 32 = .ok (.bipush 16, 2)) ∧ (decode cX8_addLoss 34 = .ok (.if_icmp .ge 18, 3)) ∧ (decode cX8_addLoss 37 = .ok (.iload_n 3, 1)) ∧ (decode cX8_addLoss 38 = .ok (.ifCond .eq 14, 3)) ∧ (decode cX8_addLoss 41 = .ok (.iload_n 2, 1)) ∧ (decode cX8_addLoss 42 = .ok (.iconst 0, 1)) ∧ (decode cX8_addLoss 43 = .ok (.sipush 900, 3)) ∧ (decode cX8_addLoss 46 = .ok (.invokestatic 40, 3)) ∧ (decode cX8_addLoss 49 = .ok (.ifCond .ne 5, 3)) ∧ (decode cX8_addLoss 52 = .ok (.iconst (-1), 1)) ∧ (decode cX8_addLoss 53 = .ok (.ireturn, 1)) ∧ (decode cX8_addLoss 54 = .ok (.aload_n 0, 1)) ∧ (decode cX8_addLoss 55 = .ok (.getfield 11, 3)) ∧ (decode cX8_addLoss 58 = .ok (.aload_n 0, 1)) := by decide +kernel
theorem dX8_addLoss_28 : decode cX8_addLoss 28 = .ok (.aload_n 0, 1) := dgX8_addLoss_16.1
theorem dX8_addLoss_29 : decode cX8_addLoss 29 = .ok (.getfield 37, 3) := dgX8_addLoss_16.2.1
theorem dX8_addLoss_32 : decode cX8_addLoss 32 = .ok (.bipush 16, 2) := dgX8_addLoss_16.2.2.1
theorem dX8_addLoss_34 : decode cX8_addLoss 34 = .ok (.if_icmp .ge 18, 3) := dgX8_addLoss_16.2.2.2.1
theorem dX8_addLoss_37 : decode cX8_addLoss 37 = .ok (.iload_n 3, 1) := dgX8_addLoss_16.2.2.2.2.1
theorem dX8_addLoss_38 : decode cX8_addLoss 38 = .ok (.ifCond .eq 14, 3) := dgX8_addLoss_16.2.2.2.2.2.1
theorem dX8_addLoss_41 : decode cX8_addLoss 41 = .ok (.iload_n 2, 1) := dgX8_addLoss_16.2.2.2.2.2.2.1
theorem dX8_addLoss_42 : decode cX8_addLoss 42 = .ok (.iconst 0, 1) := dgX8_addLoss_16.2.2.2.2.2.2.2.1
theorem dX8_addLoss_43 : decode cX8_addLoss 43 = .ok (.sipush 900, 3) := dgX8_addLoss_16.2.2.2.2.2.2.2.2.1
theorem dX8_addLoss_46 : decode cX8_addLoss 46 = .ok (.invokestatic 40, 3) := dgX8_addLoss_16.2.2.2.2.2.2.2.2.2.1
theorem dX8_addLoss_49 : decode cX8_addLoss 49 = .ok (.ifCond .ne 5, 3) := dgX8_addLoss_16.2.2.2.2.2.2.2.2.2.2.1
theorem dX8_addLoss_52 : decode cX8_addLoss 52 = .ok (.iconst (-1), 1) := dgX8_addLoss_16.2.2.2.2.2.2.2.2.2.2.2.1
theorem dX8_addLoss_53 : decode cX8_addLoss 53 = .ok (.ireturn, 1) := dgX8_addLoss_16.2.2.2.2.2.2.2.2.2.2.2.2.1
theorem dX8_addLoss_54 : decode cX8_addLoss 54 = .ok (.aload_n 0, 1) := dgX8_addLoss_16.2.2.2.2.2.2.2.2.2.2.2.2.2.1
theorem dX8_addLoss_55 : decode cX8_addLoss 55 = .ok (.getfield 11, 3) := dgX8_addLoss_16.2.2.2.2.2.2.2.2.2.2.2.2.2.2.1
theorem dX8_addLoss_58 : decode cX8_addLoss 58 = .ok (.aload_n 0, 1) := dgX8_addLoss_16.2.2.2.2.2.2.2.2.2.2.2.2.2.2.2
theorem dgX8_addLoss_32 : (decode cX8_addLoss 59 = .ok (.getfield 37, 3)) ∧ (decode cX8_addLoss 62 = .ok (.iload_n 1, 1)) ∧ (decode cX8_addLoss 63 = .ok (.iastore, 1)) ∧ (decode cX8_addLoss 64 = .ok (.aload_n 0, 1)) ∧ (decode cX8_addLoss 65 = .ok (.getfield 15, 3)) ∧ (decode cX8_addLoss 68 = .ok (.aload_n 0, 1)) ∧ (decode cX8_addLoss 69 = .ok (.getfield 37, 3)) ∧ (decode cX8_addLoss 72 = .ok (.iload_n 2, 1)) ∧ (decode cX8_addLoss 73 = .ok (.iastore, 1)) ∧ (decode cX8_addLoss 74 = .ok (.aload_n 0, 1)) ∧ (decode cX8_addLoss 75 = .ok (.dup, 1)) ∧ (decode cX8_addLoss 76 = .ok (.getfield 37, 3)) ∧ (decode cX8_addLoss 79 = .ok (.iconst 1, 1)) ∧ (decode cX8_addLoss 80 = .ok (.iadd, 1)) ∧ (decode cX8_addLoss 81 = .ok (.putfield 37, 3)) ∧ (decode cX8_addLoss 84 = .ok (.aload_n 0, 1)) := by decide +kernel
theorem dX8_addLoss_59 : decode cX8_addLoss 59 = .ok (.getfield 37, 3) := dgX8_addLoss_32.1
theorem dX8_addLoss_62 : decode cX8_addLoss 62 = .ok (.iload_n 1, 1) := dgX8_addLoss_32.2.1
theorem dX8_addLoss_63 : decode cX8_addLoss 63 = .ok (.iastore, 1) := dgX8_addLoss_32.2.2.1
theorem dX8_addLoss_64 : decode cX8_addLoss 64 = .ok (.aload_n 0, 1) := dgX8_addLoss_32.2.2.2.1
theorem dX8_addLoss_65 : decode cX8_addLoss 65 = .ok (.getfield 15, 3) := dgX8_addLoss_32.2.2.2.2.1
theorem dX8_addLoss_68 : decode cX8_addLoss 68 = .ok (.aload_n 0, 1) := dgX8_addLoss_32.2.2.2.2.2.1
theorem dX8_addLoss_69 : decode cX8_addLoss 69 = .ok (.getfield 37, 3) := dgX8_addLoss_32.2.2.2.2.2.2.1
theorem dX8_addLoss_72 : decode cX8_addLoss 72 = .ok (.iload_n 2, 1) := dgX8_addLoss_32.2.2.2.2.2.2.2.1
theorem dX8_addLoss_73 : decode cX8_addLoss 73 = .ok (.iastore, 1) := dgX8_addLoss_32.2.2.2.2.2.2.2.2.1
theorem dX8_addLoss_74 : decode cX8_addLoss 74 = .ok (.aload_n 0, 1) := dgX8_addLoss_32.2.2.2.2.2.2.2.2.2.1
theorem dX8_addLoss_75 : decode cX8_addLoss 75 = .ok (.dup, 1) := dgX8_addLoss_32.2.2.2.2.2.2.2.2.2.2.1
theorem dX8_addLoss_76 : decode cX8_addLoss 76 = .ok (.getfield 37, 3) := dgX8_addLoss_32.2.2.2.2.2.2.2.2.2.2.2.1
theorem dX8_addLoss_79 : decode cX8_addLoss 79 = .ok (.iconst 1, 1) := dgX8_addLoss_32.2.2.2.2.2.2.2.2.2.2.2.2.1
theorem dX8_addLoss_80 : decode cX8_addLoss 80 = .ok (.iadd, 1) := dgX8_addLoss_32.2.2.2.2.2.2.2.2.2.2.2.2.2.1
theorem dX8_addLoss_81 : decode cX8_addLoss 81 = .ok (.putfield 37, 3) := dgX8_addLoss_32.2.2.2.2.2.2.2.2.2.2.2.2.2.2.1
theorem dX8_addLoss_84 : decode cX8_addLoss 84 = .ok (.aload_n 0, 1) := dgX8_addLoss_32.2.2.2.2.2.2.2.2.2.2.2.2.2.2.2
theorem dgX8_addLoss_48 : (decode cX8_addLoss 85 = .ok (.getfield 37, 3)) ∧ (decode cX8_addLoss 88 = .ok (.ireturn, 1)) := by decide +kernel
theorem dX8_addLoss_85 : decode cX8_addLoss 85 = .ok (.getfield 37, 3) := dgX8_addLoss_48.1
theorem dX8_addLoss_88 : decode cX8_addLoss 88 = .ok (.ireturn, 1) := dgX8_addLoss_48.2
theorem dgX8_lossAt_0 : (decode cX8_lossAt 0 = .ok (.iconst 0, 1)) ∧ (decode cX8_lossAt 1 = .ok (.istore_n 2, 1)) ∧ (decode cX8_lossAt 2 = .ok (.iconst 0, 1)) ∧ (decode cX8_lossAt 3 = .ok (.istore_n 3, 1)) ∧ (decode cX8_lossAt 4 = .ok (.iload_n 3, 1)) ∧ (decode cX8_lossAt 5 = .ok (.aload_n 0, 1)) ∧ (decode cX8_lossAt 6 = .ok (.getfield 37, 3)) ∧ (decode cX8_lossAt 9 = .ok (.if_icmp .ge 26, 3)) ∧ (decode cX8_lossAt 12 = .ok (.aload_n 0, 1)) ∧ (decode cX8_lossAt 13 = .ok (.getfield 11, 3)) ∧ (decode cX8_lossAt 16 = .ok (.iload_n 3, 1)) ∧ (decode cX8_lossAt 17 = .ok (.iaload, 1)) ∧ (decode cX8_lossAt 18 = .ok (.iload_n 1, 1)) ∧ (decode cX8_lossAt 19 = .ok (.if_icmp .gt 16, 3)) ∧ (decode cX8_lossAt 22 = .ok (.aload_n 0, 1)) ∧ (decode cX8_lossAt 23 = .ok (.getfield 15, 3)) := by decide +kernel
theorem dX8_lossAt_0 : decode cX8_lossAt 0 = .ok (.iconst 0, 1) := dgX8_lossAt_0.1
theorem dX8_lossAt_1 : decode cX8_lossAt 1 = .ok (.istore_n 2, 1) := dgX8_lossAt_0.2.1
theorem dX8_lossAt_2 : decode cX8_lossAt 2 = .ok (.iconst 0, 1) := dgX8_lossAt_0.2.2.1
theorem dX8_lossAt_3 : decode cX8_lossAt 3 = .ok (.istore_n 3, 1) := dgX8_lossAt_0.2.2.2.1
theorem dX8_lossAt_4 : decode cX8_lossAt 4 = .ok (.iload_n 3, 1) := dgX8_lossAt_0.2.2.2.2.1
theorem dX8_lossAt_5 : decode cX8_lossAt 5 = .ok (.aload_n 0, 1) := dgX8_lossAt_0.2.2.2.2.2.1
theorem dX8_lossAt_6 : decode cX8_lossAt 6 = .ok (.getfield 37, 3) := dgX8_lossAt_0.2.2.2.2.2.2.1
theorem dX8_lossAt_9 : decode cX8_lossAt 9 = .ok (.if_icmp .ge 26, 3) := dgX8_lossAt_0.2.2.2.2.2.2.2.1
theorem dX8_lossAt_12 : decode cX8_lossAt 12 = .ok (.aload_n 0, 1) := dgX8_lossAt_0.2.2.2.2.2.2.2.2.1
theorem dX8_lossAt_13 : decode cX8_lossAt 13 = .ok (.getfield 11, 3) := dgX8_lossAt_0.2.2.2.2.2.2.2.2.2.1
theorem dX8_lossAt_16 : decode cX8_lossAt 16 = .ok (.iload_n 3, 1) := dgX8_lossAt_0.2.2.2.2.2.2.2.2.2.2.1
theorem dX8_lossAt_17 : decode cX8_lossAt 17 = .ok (.iaload, 1) := dgX8_lossAt_0.2.2.2.2.2.2.2.2.2.2.2.1
theorem dX8_lossAt_18 : decode cX8_lossAt 18 = .ok (.iload_n 1, 1) := dgX8_lossAt_0.2.2.2.2.2.2.2.2.2.2.2.2.1
theorem dX8_lossAt_19 : decode cX8_lossAt 19 = .ok (.if_icmp .gt 16, 3) := dgX8_lossAt_0.2.2.2.2.2.2.2.2.2.2.2.2.2.1
theorem dX8_lossAt_22 : decode cX8_lossAt 22 = .ok (.aload_n 0, 1) := dgX8_lossAt_0.2.2.2.2.2.2.2.2.2.2.2.2.2.2.1
theorem dX8_lossAt_23 : decode cX8_lossAt 23 = .ok (.getfield 15, 3) := dgX8_lossAt_0.2.2.2.2.2.2.2.2.2.2.2.2.2.2.2
theorem dgX8_lossAt_16 : (decode cX8_lossAt 26 = .ok (.iload_n 3, 1)) ∧ (decode cX8_lossAt 27 = .ok (.iaload, 1)) ∧ (decode cX8_lossAt 28 = .ok (.istore_n 2, 1)) ∧ (decode cX8_lossAt 29 = .ok (.iinc 3 1, 3)) ∧ (decode cX8_lossAt 32 = .ok (.goto (-28), 3)) ∧ (decode cX8_lossAt 35 = .ok (.iload_n 2, 1)) ∧ (decode cX8_lossAt 36 = .ok (.ireturn, 1)) := by decide +kernel
theorem dX8_lossAt_26 : decode cX8_lossAt 26 = .ok (.iload_n 3, 1) := dgX8_lossAt_16.1
theorem dX8_lossAt_27 : decode cX8_lossAt 27 = .ok (.iaload, 1) := dgX8_lossAt_16.2.1
theorem dX8_lossAt_28 : decode cX8_lossAt 28 = .ok (.istore_n 2, 1) := dgX8_lossAt_16.2.2.1
theorem dX8_lossAt_29 : decode cX8_lossAt 29 = .ok (.iinc 3 1, 3) := dgX8_lossAt_16.2.2.2.1
theorem dX8_lossAt_32 : decode cX8_lossAt 32 = .ok (.goto (-28), 3) := dgX8_lossAt_16.2.2.2.2.1
theorem dX8_lossAt_35 : decode cX8_lossAt 35 = .ok (.iload_n 2, 1) := dgX8_lossAt_16.2.2.2.2.2.1
theorem dX8_lossAt_36 : decode cX8_lossAt 36 = .ok (.ireturn, 1) := dgX8_lossAt_16.2.2.2.2.2.2
theorem dgX8_isGrain_0 : (decode cX8_isGrain 0 = .ok (.iload_n 1, 1)) ∧ (decode cX8_isGrain 1 = .ok (.aload_n 0, 1)) ∧ (decode cX8_isGrain 2 = .ok (.getfield 18, 3)) ∧ (decode cX8_isGrain 5 = .ok (.aload_n 0, 1)) ∧ (decode cX8_isGrain 6 = .ok (.getfield 22, 3)) ∧ (decode cX8_isGrain 9 = .ok (.invokestatic 40, 3)) ∧ (decode cX8_isGrain 12 = .ok (.ireturn, 1)) := by decide +kernel
theorem dX8_isGrain_0 : decode cX8_isGrain 0 = .ok (.iload_n 1, 1) := dgX8_isGrain_0.1
theorem dX8_isGrain_1 : decode cX8_isGrain 1 = .ok (.aload_n 0, 1) := dgX8_isGrain_0.2.1
theorem dX8_isGrain_2 : decode cX8_isGrain 2 = .ok (.getfield 18, 3) := dgX8_isGrain_0.2.2.1
theorem dX8_isGrain_5 : decode cX8_isGrain 5 = .ok (.aload_n 0, 1) := dgX8_isGrain_0.2.2.2.1
theorem dX8_isGrain_6 : decode cX8_isGrain 6 = .ok (.getfield 22, 3) := dgX8_isGrain_0.2.2.2.2.1
theorem dX8_isGrain_9 : decode cX8_isGrain 9 = .ok (.invokestatic 40, 3) := dgX8_isGrain_0.2.2.2.2.2.1
theorem dX8_isGrain_12 : decode cX8_isGrain 12 = .ok (.ireturn, 1) := dgX8_isGrain_0.2.2.2.2.2.2
theorem dgX9_init_0 : (decode cX9_init 0 = .ok (.aload_n 0, 1)) ∧ (decode cX9_init 1 = .ok (.invokespecial 3, 3)) ∧ (decode cX9_init 4 = .ok (.aload_n 0, 1)) ∧ (decode cX9_init 5 = .ok (.sipush 450, 3)) ∧ (decode cX9_init 8 = .ok (.putfield 9, 3)) ∧ (decode cX9_init 11 = .ok (.aload_n 0, 1)) ∧ (decode cX9_init 12 = .ok (.sipush 270, 3)) ∧ (decode cX9_init 15 = .ok (.putfield 15, 3)) ∧ (decode cX9_init 18 = .ok (.aload_n 0, 1)) ∧ (decode cX9_init 19 = .ok (.sipush 310, 3)) ∧ (decode cX9_init 22 = .ok (.putfield 18, 3)) ∧ (decode cX9_init 25 = .ok (.aload_n 0, 1)) ∧ (decode cX9_init 26 = .ok (.sipush 320, 3)) ∧ (decode cX9_init 29 = .ok (.putfield 21, 3)) ∧ (decode cX9_init 32 = .ok (.aload_n 0, 1)) ∧ (decode cX9_init 33 = .ok (.sipush 290, 3)) := by decide +kernel
theorem dX9_init_0 : decode cX9_init 0 = .ok (.aload_n 0, 1) := dgX9_init_0.1
theorem dX9_init_1 : decode cX9_init 1 = .ok (.invokespecial 3, 3) := dgX9_init_0.2.1
theorem dX9_init_4 : decode cX9_init 4 = .ok (.aload_n 0, 1) := dgX9_init_0.2.2.1
theorem dX9_init_5 : decode cX9_init 5 = .ok (.sipush 450, 3) := dgX9_init_0.2.2.2.1
theorem dX9_init_8 : decode cX9_init 8 = .ok (.putfield 9, 3) := dgX9_init_0.2.2.2.2.1
theorem dX9_init_11 : decode cX9_init 11 = .ok (.aload_n 0, 1) := dgX9_init_0.2.2.2.2.2.1
theorem dX9_init_12 : decode cX9_init 12 = .ok (.sipush 270, 3) := dgX9_init_0.2.2.2.2.2.2.1
theorem dX9_init_15 : decode cX9_init 15 = .ok (.putfield 15, 3) := dgX9_init_0.2.2.2.2.2.2.2.1
theorem dX9_init_18 : decode cX9_init 18 = .ok (.aload_n 0, 1) := dgX9_init_0.2.2.2.2.2.2.2.2.1
theorem dX9_init_19 : decode cX9_init 19 = .ok (.sipush 310, 3) := dgX9_init_0.2.2.2.2.2.2.2.2.2.1
theorem dX9_init_22 : decode cX9_init 22 = .ok (.putfield 18, 3) := dgX9_init_0.2.2.2.2.2.2.2.2.2.2.1
theorem dX9_init_25 : decode cX9_init 25 = .ok (.aload_n 0, 1) := dgX9_init_0.2.2.2.2.2.2.2.2.2.2.2.1
theorem dX9_init_26 : decode cX9_init 26 = .ok (.sipush 320, 3) := dgX9_init_0.2.2.2.2.2.2.2.2.2.2.2.2.1
theorem dX9_init_29 : decode cX9_init 29 = .ok (.putfield 21, 3) := dgX9_init_0.2.2.2.2.2.2.2.2.2.2.2.2.2.1
theorem dX9_init_32 : decode cX9_init 32 = .ok (.aload_n 0, 1) := dgX9_init_0.2.2.2.2.2.2.2.2.2.2.2.2.2.2.1
theorem dX9_init_33 : decode cX9_init 33 = .ok (.sipush 290, 3) := dgX9_init_0.2.2.2.2.2.2.2.2.2.2.2.2.2.2.2
theorem dgX9_init_16 : (decode cX9_init 36 = .ok (.putfield 24, 3)) ∧ (decode cX9_init 39 = .ok (.aload_n 0, 1)) ∧ (decode cX9_init 40 = .ok (.iconst 2, 1)) ∧ (decode cX9_init 41 = .ok (.putfield 27, 3)) ∧ (decode cX9_init 44 = .ok (.return_, 1)) := by decide +kernel
theorem dX9_init_36 : decode cX9_init 36 = .ok (.putfield 24, 3) := dgX9_init_16.1
theorem dX9_init_39 : decode cX9_init 39 = .ok (.aload_n 0, 1) := dgX9_init_16.2.1
theorem dX9_init_40 : decode cX9_init 40 = .ok (.iconst 2, 1) := dgX9_init_16.2.2.1
theorem dX9_init_41 : decode cX9_init 41 = .ok (.putfield 27, 3) := dgX9_init_16.2.2.2.1
theorem dX9_init_44 : decode cX9_init 44 = .ok (.return_, 1) := dgX9_init_16.2.2.2.2
theorem dgX9_change_0 : (decode cX9_change 0 = .ok (.iload_n 1, 1)) ∧ (decode cX9_change 1 = .ok (.aload_n 0, 1)) ∧ (decode cX9_change 2 = .ok (.getfield 9, 3)) ∧ (decode cX9_change 5 = .ok (.if_icmp .ne 41, 3)) ∧ (decode cX9_change 8 = .ok (.iload_n 2, 1)) ∧ (decode cX9_change 9 = .ok (.aload_n 0, 1)) ∧ (decode cX9_change 10 = .ok (.getfield 15, 3)) ∧ (decode cX9_change 13 = .ok (.if_icmp .ne 33, 3)) ∧ (decode cX9_change 16 = .ok (.iload_n 3, 1)) ∧ (decode cX9_change 17 = .ok (.aload_n 0, 1)) ∧ (decode cX9_change 18 = .ok (.getfield 18, 3)) ∧ (decode cX9_change 21 = .ok (.if_icmp .ne 25, 3)) ∧ (decode cX9_change 24 = .ok (.iload 4, 2)) ∧ (decode cX9_change 26 = .ok (.aload_n 0, 1)) ∧ (decode cX9_change 27 = .ok (.getfield 21, 3)) ∧ (decode cX9_change 30 = .ok (.if_icmp .ne 16, 3)) := by decide +kernel
theorem dX9_change_0 : decode cX9_change 0 = .ok (.iload_n 1, 1) := dgX9_change_0.1
theorem dX9_change_1 : decode cX9_change 1 = .ok (.aload_n 0, 1) := dgX9_change_0.2.1
theorem dX9_change_2 : decode cX9_change 2 = .ok (.getfield 9, 3) := dgX9_change_0.2.2.1
theorem dX9_change_5 : decode cX9_change 5 = .ok (.if_icmp .ne 41, 3) := dgX9_change_0.2.2.2.1
theorem dX9_change_8 : decode cX9_change 8 = .ok (.iload_n 2, 1) := dgX9_change_0.2.2.2.2.1
theorem dX9_change_9 : decode cX9_change 9 = .ok (.aload_n 0, 1) := dgX9_change_0.2.2.2.2.2.1
theorem dX9_change_10 : decode cX9_change 10 = .ok (.getfield 15, 3) := dgX9_change_0.2.2.2.2.2.2.1
theorem dX9_change_13 : decode cX9_change 13 = .ok (.if_icmp .ne 33, 3) := dgX9_change_0.2.2.2.2.2.2.2.1
theorem dX9_change_16 : decode cX9_change 16 = .ok (.iload_n 3, 1) := dgX9_change_0.2.2.2.2.2.2.2.2.1
theorem dX9_change_17 : decode cX9_change 17 = .ok (.aload_n 0, 1) := dgX9_change_0.2.2.2.2.2.2.2.2.2.1
theorem dX9_change_18 : decode cX9_change 18 = .ok (.getfield 18, 3) := dgX9_change_0.2.2.2.2.2.2.2.2.2.2.1
theorem dX9_change_21 : decode cX9_change 21 = .ok (.if_icmp .ne 25, 3) := dgX9_change_0.2.2.2.2.2.2.2.2.2.2.2.1
theorem dX9_change_24 : decode cX9_change 24 = .ok (.iload 4, 2) := dgX9_change_0.2.2.2.2.2.2.2.2.2.2.2.2.1
theorem dX9_change_26 : decode cX9_change 26 = .ok (.aload_n 0, 1) := dgX9_change_0.2.2.2.2.2.2.2.2.2.2.2.2.2.1
theorem dX9_change_27 : decode cX9_change 27 = .ok (.getfield 21, 3) := dgX9_change_0.2.2.2.2.2.2.2.2.2.2.2.2.2.2.1
theorem dX9_change_30 : decode cX9_change 30 = .ok (.if_icmp .ne 16, 3) := dgX9_change_0.2.2.2.2.2.2.2.2.2.2.2.2.2.2.2
theorem dgX9_change_16 : (decode cX9_change 33 = .ok (.iload 5, 2)) ∧ (decode cX9_change 35 = .ok (.aload_n 0, 1)) ∧ (decode cX9_change 36 = .ok (.getfield 24, 3)) ∧ (decode cX9_change 39 = .ok (.if_icmp .ne 7, 3)) ∧ (decode cX9_change 42 = .ok (.iconst 1, 1)) ∧ (decode cX9_change 43 = .ok (.goto 4, 3)) ∧ (decode cX9_change 46 = .ok (.iconst 0, 1)) ∧ (decode cX9_change 47 = .ok (.istore 7, 2)) ∧ (decode cX9_change 49 = .ok (.iload 7, 2)) ∧ (decode cX9_change 51 = .ok (.ifCond .eq 14, 3)) ∧ (decode cX9_change 54 = .ok (.iload 6, 2)) ∧ (decode cX9_change 56 = .ok (.aload_n 0, 1)) ∧ (decode cX9_change 57 = .ok (.getfield 27, 3)) ∧ (decode cX9_change 60 = .ok (.if_icmp .ne 5, 3)) ∧ (decode cX9_change 63 = .ok (.iconst 0, 1)) ∧ (decode cX9_change 64 = .ok (.ireturn, 1)) := by decide +kernel
theorem dX9_change_33 : decode cX9_change 33 = .ok (.iload 5, 2) := dgX9_change_16.1
theorem dX9_change_35 : decode cX9_change 35 = .ok (.aload_n 0, 1) := dgX9_change_16.2.1
theorem dX9_change_36 : decode cX9_change 36 = .ok (.getfield 24, 3) := dgX9_change_16.2.2.1
theorem dX9_change_39 : decode cX9_change 39 = .ok (.if_icmp .ne 7, 3) := dgX9_change_16.2.2.2.1
theorem dX9_change_42 : decode cX9_change 42 = .ok (.iconst 1, 1) := dgX9_change_16.2.2.2.2.1
theorem dX9_change_43 : decode cX9_change 43 = .ok (.goto 4, 3) := dgX9_change_16.2.2.2.2.2.1
theorem dX9_change_46 : decode cX9_change 46 = .ok (.iconst 0, 1) := dgX9_change_16.2.2.2.2.2.2.1
theorem dX9_change_47 : decode cX9_change 47 = .ok (.istore 7, 2) := dgX9_change_16.2.2.2.2.2.2.2.1
theorem dX9_change_49 : decode cX9_change 49 = .ok (.iload 7, 2) := dgX9_change_16.2.2.2.2.2.2.2.2.1
theorem dX9_change_51 : decode cX9_change 51 = .ok (.ifCond .eq 14, 3) := dgX9_change_16.2.2.2.2.2.2.2.2.2.1
theorem dX9_change_54 : decode cX9_change 54 = .ok (.iload 6, 2) := dgX9_change_16.2.2.2.2.2.2.2.2.2.2.1
theorem dX9_change_56 : decode cX9_change 56 = .ok (.aload_n 0, 1) := dgX9_change_16.2.2.2.2.2.2.2.2.2.2.2.1
theorem dX9_change_57 : decode cX9_change 57 = .ok (.getfield 27, 3) := dgX9_change_16.2.2.2.2.2.2.2.2.2.2.2.2.1
theorem dX9_change_60 : decode cX9_change 60 = .ok (.if_icmp .ne 5, 3) := dgX9_change_16.2.2.2.2.2.2.2.2.2.2.2.2.2.1
theorem dX9_change_63 : decode cX9_change 63 = .ok (.iconst 0, 1) := dgX9_change_16.2.2.2.2.2.2.2.2.2.2.2.2.2.2.1
theorem dX9_change_64 : decode cX9_change 64 = .ok (.ireturn, 1) := dgX9_change_16.2.2.2.2.2.2.2.2.2.2.2.2.2.2.2
theorem dgX9_change_32 : (decode cX9_change 65 = .ok (.aload_n 0, 1)) ∧ (decode cX9_change 66 = .ok (.iload_n 1, 1)) ∧ (decode cX9_change 67 = .ok (.putfield 9, 3)) ∧ (decode cX9_change 70 = .ok (.aload_n 0, 1)) ∧ (decode cX9_change 71 = .ok (.iload_n 2, 1)) ∧ (decode cX9_change 72 = .ok (.putfield 15, 3)) ∧ (decode cX9_change 75 = .ok (.aload_n 0, 1)) ∧ (decode cX9_change 76 = .ok (.iload_n 3, 1)) ∧ (decode cX9_change 77 = .ok (.putfield 18, 3)) ∧ (decode cX9_change 80 = .ok (.aload_n 0, 1)) ∧ (decode cX9_change 81 = .ok (.iload 4, 2)) ∧ (decode cX9_change 83 = .ok (.putfield 21, 3)) ∧ (decode cX9_change 86 = .ok (.aload_n 0, 1)) ∧ (decode cX9_change 87 = .ok (.iload 5, 2)) ∧ (decode cX9_change 89 = .ok (.putfield 24, 3)) ∧ (decode cX9_change 92 = .ok (.aload_n 0, 1)) := by decide +kernel
theorem dX9_change_65 : decode cX9_change 65 = .ok (.aload_n 0, 1) := dgX9_change_32.1
theorem dX9_change_66 : decode cX9_change 66 = .ok (.iload_n 1, 1) := dgX9_change_32.2.1
theorem dX9_change_67 : decode cX9_change 67 = .ok (.putfield 9, 3) := dgX9_change_32.2.2.1
theorem dX9_change_70 : decode cX9_change 70 = .ok (.aload_n 0, 1) := dgX9_change_32.2.2.2.1
theorem dX9_change_71 : decode cX9_change 71 = .ok (.iload_n 2, 1) := dgX9_change_32.2.2.2.2.1
theorem dX9_change_72 : decode cX9_change 72 = .ok (.putfield 15, 3) := dgX9_change_32.2.2.2.2.2.1
theorem dX9_change_75 : decode cX9_change 75 = .ok (.aload_n 0, 1) := dgX9_change_32.2.2.2.2.2.2.1
theorem dX9_change_76 : decode cX9_change 76 = .ok (.iload_n 3, 1) := dgX9_change_32.2.2.2.2.2.2.2.1
theorem dX9_change_77 : decode cX9_change 77 = .ok (.putfield 18, 3) := dgX9_change_32.2.2.2.2.2.2.2.2.1
theorem dX9_change_80 : decode cX9_change 80 = .ok (.aload_n 0, 1) := dgX9_change_32.2.2.2.2.2.2.2.2.2.1
theorem dX9_change_81 : decode cX9_change 81 = .ok (.iload 4, 2) := dgX9_change_32.2.2.2.2.2.2.2.2.2.2.1
theorem dX9_change_83 : decode cX9_change 83 = .ok (.putfield 21, 3) := dgX9_change_32.2.2.2.2.2.2.2.2.2.2.2.1
theorem dX9_change_86 : decode cX9_change 86 = .ok (.aload_n 0, 1) := dgX9_change_32.2.2.2.2.2.2.2.2.2.2.2.2.1
theorem dX9_change_87 : decode cX9_change 87 = .ok (.iload 5, 2) := dgX9_change_32.2.2.2.2.2.2.2.2.2.2.2.2.2.1
theorem dX9_change_89 : decode cX9_change 89 = .ok (.putfield 24, 3) := dgX9_change_32.2.2.2.2.2.2.2.2.2.2.2.2.2.2.1
theorem dX9_change_92 : decode cX9_change 92 = .ok (.aload_n 0, 1) := dgX9_change_32.2.2.2.2.2.2.2.2.2.2.2.2.2.2.2
theorem dgX9_change_48 : (decode cX9_change 93 = .ok (.iload 6, 2)) ∧ (decode cX9_change 95 = .ok (.putfield 27, 3)) ∧ (decode cX9_change 98 = .ok (.iconst 1, 1)) ∧ (decode cX9_change 99 = .ok (.ireturn, 1)) := by decide +kernel
theorem dX9_change_93 : decode cX9_change 93 = .ok (.iload 6, 2) := dgX9_change_48.1
theorem dX9_change_95 : decode cX9_change 95 = .ok (.putfield 27, 3) := dgX9_change_48.2.1
theorem dX9_change_98 : decode cX9_change 98 = .ok (.iconst 1, 1) := dgX9_change_48.2.2.1
theorem dX9_change_99 : decode cX9_change 99 = .ok (.ireturn, 1) := dgX9_change_48.2.2.2
theorem dgX9_heatOneTick_0 : (decode cX9_heatOneTick 0 = .ok (.aload_n 0, 1)) ∧ (decode cX9_heatOneTick 1 = .ok (.aload_n 1, 1)) ∧ (decode cX9_heatOneTick 2 = .ok (.getfield 30, 3)) ∧ (decode cX9_heatOneTick 5 = .ok (.iload_n 2, 1)) ∧ (decode cX9_heatOneTick 6 = .ok (.invokevirtual 35, 3)) ∧ (decode cX9_heatOneTick 9 = .ok (.ifCond .eq 13, 3)) ∧ (decode cX9_heatOneTick 12 = .ok (.aload_n 1, 1)) ∧ (decode cX9_heatOneTick 13 = .ok (.iconst 0, 1)) ∧ (decode cX9_heatOneTick 14 = .ok (.putfield 30, 3)) ∧ (decode cX9_heatOneTick 17 = .ok (.aload_n 1, 1)) ∧ (decode cX9_heatOneTick 18 = .ok (.iconst 0, 1)) ∧ (decode cX9_heatOneTick 19 = .ok (.putfield 39, 3)) ∧ (decode cX9_heatOneTick 22 = .ok (.aload_n 1, 1)) ∧ (decode cX9_heatOneTick 23 = .ok (.getfield 30, 3)) ∧ (decode cX9_heatOneTick 26 = .ok (.iconst 3, 1)) ∧ (decode cX9_heatOneTick 27 = .ok (.if_icmp .ne 4, 3)) := by decide +kernel
theorem dX9_heatOneTick_0 : decode cX9_heatOneTick 0 = .ok (.aload_n 0, 1) := dgX9_heatOneTick_0.1
theorem dX9_heatOneTick_1 : decode cX9_heatOneTick 1 = .ok (.aload_n 1, 1) := dgX9_heatOneTick_0.2.1
theorem dX9_heatOneTick_2 : decode cX9_heatOneTick 2 = .ok (.getfield 30, 3) := dgX9_heatOneTick_0.2.2.1
theorem dX9_heatOneTick_5 : decode cX9_heatOneTick 5 = .ok (.iload_n 2, 1) := dgX9_heatOneTick_0.2.2.2.1
theorem dX9_heatOneTick_6 : decode cX9_heatOneTick 6 = .ok (.invokevirtual 35, 3) := dgX9_heatOneTick_0.2.2.2.2.1
theorem dX9_heatOneTick_9 : decode cX9_heatOneTick 9 = .ok (.ifCond .eq 13, 3) := dgX9_heatOneTick_0.2.2.2.2.2.1
theorem dX9_heatOneTick_12 : decode cX9_heatOneTick 12 = .ok (.aload_n 1, 1) := dgX9_heatOneTick_0.2.2.2.2.2.2.1
theorem dX9_heatOneTick_13 : decode cX9_heatOneTick 13 = .ok (.iconst 0, 1) := dgX9_heatOneTick_0.2.2.2.2.2.2.2.1
theorem dX9_heatOneTick_14 : decode cX9_heatOneTick 14 = .ok (.putfield 30, 3) := dgX9_heatOneTick_0.2.2.2.2.2.2.2.2.1
theorem dX9_heatOneTick_17 : decode cX9_heatOneTick 17 = .ok (.aload_n 1, 1) := dgX9_heatOneTick_0.2.2.2.2.2.2.2.2.2.1
theorem dX9_heatOneTick_18 : decode cX9_heatOneTick 18 = .ok (.iconst 0, 1) := dgX9_heatOneTick_0.2.2.2.2.2.2.2.2.2.2.1
theorem dX9_heatOneTick_19 : decode cX9_heatOneTick 19 = .ok (.putfield 39, 3) := dgX9_heatOneTick_0.2.2.2.2.2.2.2.2.2.2.2.1
theorem dX9_heatOneTick_22 : decode cX9_heatOneTick 22 = .ok (.aload_n 1, 1) := dgX9_heatOneTick_0.2.2.2.2.2.2.2.2.2.2.2.2.1
theorem dX9_heatOneTick_23 : decode cX9_heatOneTick 23 = .ok (.getfield 30, 3) := dgX9_heatOneTick_0.2.2.2.2.2.2.2.2.2.2.2.2.2.1
theorem dX9_heatOneTick_26 : decode cX9_heatOneTick 26 = .ok (.iconst 3, 1) := dgX9_heatOneTick_0.2.2.2.2.2.2.2.2.2.2.2.2.2.2.1
theorem dX9_heatOneTick_27 : decode cX9_heatOneTick 27 = .ok (.if_icmp .ne 4, 3) := dgX9_heatOneTick_0.2.2.2.2.2.2.2.2.2.2.2.2.2.2.2
theorem dgX9_heatOneTick_16 : (decode cX9_heatOneTick 30 = .ok (.return_, 1)) ∧ (decode cX9_heatOneTick 31 = .ok (.aload_n 1, 1)) ∧ (decode cX9_heatOneTick 32 = .ok (.aload_n 0, 1)) ∧ (decode cX9_heatOneTick 33 = .ok (.aload_n 1, 1)) ∧ (decode cX9_heatOneTick 34 = .ok (.getfield 30, 3)) ∧ (decode cX9_heatOneTick 37 = .ok (.iload_n 2, 1)) ∧ (decode cX9_heatOneTick 38 = .ok (.invokevirtual 42, 3)) ∧ (decode cX9_heatOneTick 41 = .ok (.ifCond .eq 12, 3)) ∧ (decode cX9_heatOneTick 44 = .ok (.aload_n 1, 1)) ∧ (decode cX9_heatOneTick 45 = .ok (.getfield 39, 3)) ∧ (decode cX9_heatOneTick 48 = .ok (.iconst 1, 1)) ∧ (decode cX9_heatOneTick 49 = .ok (.iadd, 1)) ∧ (decode cX9_heatOneTick 50 = .ok (.goto 4, 3)) ∧ (decode cX9_heatOneTick 53 = .ok (.iconst 0, 1)) ∧ (decode cX9_heatOneTick 54 = .ok (.putfield 39, 3)) ∧ (decode cX9_heatOneTick 57 = .ok (.aload_n 1, 1)) := by decide +kernel
theorem dX9_heatOneTick_30 : decode cX9_heatOneTick 30 = .ok (.return_, 1) := dgX9_heatOneTick_16.1
theorem dX9_heatOneTick_31 : decode cX9_heatOneTick 31 = .ok (.aload_n 1, 1) := dgX9_heatOneTick_16.2.1
theorem dX9_heatOneTick_32 : decode cX9_heatOneTick 32 = .ok (.aload_n 0, 1) := dgX9_heatOneTick_16.2.2.1
theorem dX9_heatOneTick_33 : decode cX9_heatOneTick 33 = .ok (.aload_n 1, 1) := dgX9_heatOneTick_16.2.2.2.1
theorem dX9_heatOneTick_34 : decode cX9_heatOneTick 34 = .ok (.getfield 30, 3) := dgX9_heatOneTick_16.2.2.2.2.1
theorem dX9_heatOneTick_37 : decode cX9_heatOneTick 37 = .ok (.iload_n 2, 1) := dgX9_heatOneTick_16.2.2.2.2.2.1
theorem dX9_heatOneTick_38 : decode cX9_heatOneTick 38 = .ok (.invokevirtual 42, 3) := dgX9_heatOneTick_16.2.2.2.2.2.2.1
theorem dX9_heatOneTick_41 : decode cX9_heatOneTick 41 = .ok (.ifCond .eq 12, 3) := dgX9_heatOneTick_16.2.2.2.2.2.2.2.1
theorem dX9_heatOneTick_44 : decode cX9_heatOneTick 44 = .ok (.aload_n 1, 1) := dgX9_heatOneTick_16.2.2.2.2.2.2.2.2.1
theorem dX9_heatOneTick_45 : decode cX9_heatOneTick 45 = .ok (.getfield 39, 3) := dgX9_heatOneTick_16.2.2.2.2.2.2.2.2.2.1
theorem dX9_heatOneTick_48 : decode cX9_heatOneTick 48 = .ok (.iconst 1, 1) := dgX9_heatOneTick_16.2.2.2.2.2.2.2.2.2.2.1
theorem dX9_heatOneTick_49 : decode cX9_heatOneTick 49 = .ok (.iadd, 1) := dgX9_heatOneTick_16.2.2.2.2.2.2.2.2.2.2.2.1
theorem dX9_heatOneTick_50 : decode cX9_heatOneTick 50 = .ok (.goto 4, 3) := dgX9_heatOneTick_16.2.2.2.2.2.2.2.2.2.2.2.2.1
theorem dX9_heatOneTick_53 : decode cX9_heatOneTick 53 = .ok (.iconst 0, 1) := dgX9_heatOneTick_16.2.2.2.2.2.2.2.2.2.2.2.2.2.1
theorem dX9_heatOneTick_54 : decode cX9_heatOneTick 54 = .ok (.putfield 39, 3) := dgX9_heatOneTick_16.2.2.2.2.2.2.2.2.2.2.2.2.2.2.1
theorem dX9_heatOneTick_57 : decode cX9_heatOneTick 57 = .ok (.aload_n 1, 1) := dgX9_heatOneTick_16.2.2.2.2.2.2.2.2.2.2.2.2.2.2.2
theorem dgX9_heatOneTick_32 : (decode cX9_heatOneTick 58 = .ok (.getfield 39, 3)) ∧ (decode cX9_heatOneTick 61 = .ok (.aload_n 0, 1)) ∧ (decode cX9_heatOneTick 62 = .ok (.getfield 27, 3)) ∧ (decode cX9_heatOneTick 65 = .ok (.if_icmp .lt 18, 3)) ∧ (decode cX9_heatOneTick 68 = .ok (.aload_n 1, 1)) ∧ (decode cX9_heatOneTick 69 = .ok (.dup, 1)) ∧ (decode cX9_heatOneTick 70 = .ok (.getfield 30, 3)) ∧ (decode cX9_heatOneTick 73 = .ok (.iconst 1, 1)) ∧ (decode cX9_heatOneTick 74 = .ok (.iadd, 1)) ∧ (decode cX9_heatOneTick 75 = .ok (.putfield 30, 3)) ∧ (decode cX9_heatOneTick 78 = .ok (.aload_n 1, 1)) ∧ (decode cX9_heatOneTick 79 = .ok (.iconst 0, 1)) ∧ (decode cX9_heatOneTick 80 = .ok (.putfield 39, 3)) ∧ (decode cX9_heatOneTick 83 = .ok (.return_, 1)) := by decide +kernel
theorem dX9_heatOneTick_58 : decode cX9_heatOneTick 58 = .ok (.getfield 39, 3) := dgX9_heatOneTick_32.1
theorem dX9_heatOneTick_61 : decode cX9_heatOneTick 61 = .ok (.aload_n 0, 1) := dgX9_heatOneTick_32.2.1
theorem dX9_heatOneTick_62 : decode cX9_heatOneTick 62 = .ok (.getfield 27, 3) := dgX9_heatOneTick_32.2.2.1
theorem dX9_heatOneTick_65 : decode cX9_heatOneTick 65 = .ok (.if_icmp .lt 18, 3) := dgX9_heatOneTick_32.2.2.2.1
theorem dX9_heatOneTick_68 : decode cX9_heatOneTick 68 = .ok (.aload_n 1, 1) := dgX9_heatOneTick_32.2.2.2.2.1
theorem dX9_heatOneTick_69 : decode cX9_heatOneTick 69 = .ok (.dup, 1) := dgX9_heatOneTick_32.2.2.2.2.2.1
theorem dX9_heatOneTick_70 : decode cX9_heatOneTick 70 = .ok (.getfield 30, 3) := dgX9_heatOneTick_32.2.2.2.2.2.2.1
theorem dX9_heatOneTick_73 : decode cX9_heatOneTick 73 = .ok (.iconst 1, 1) := dgX9_heatOneTick_32.2.2.2.2.2.2.2.1
theorem dX9_heatOneTick_74 : decode cX9_heatOneTick 74 = .ok (.iadd, 1) := dgX9_heatOneTick_32.2.2.2.2.2.2.2.2.1
theorem dX9_heatOneTick_75 : decode cX9_heatOneTick 75 = .ok (.putfield 30, 3) := dgX9_heatOneTick_32.2.2.2.2.2.2.2.2.2.1
theorem dX9_heatOneTick_78 : decode cX9_heatOneTick 78 = .ok (.aload_n 1, 1) := dgX9_heatOneTick_32.2.2.2.2.2.2.2.2.2.2.1
theorem dX9_heatOneTick_79 : decode cX9_heatOneTick 79 = .ok (.iconst 0, 1) := dgX9_heatOneTick_32.2.2.2.2.2.2.2.2.2.2.2.1
theorem dX9_heatOneTick_80 : decode cX9_heatOneTick 80 = .ok (.putfield 39, 3) := dgX9_heatOneTick_32.2.2.2.2.2.2.2.2.2.2.2.2.1
theorem dX9_heatOneTick_83 : decode cX9_heatOneTick 83 = .ok (.return_, 1) := dgX9_heatOneTick_32.2.2.2.2.2.2.2.2.2.2.2.2.2
theorem dgX9_isSpoilt_0 : (decode cX9_isSpoilt 0 = .ok (.iload_n 1, 1)) ∧ (decode cX9_isSpoilt 1 = .ok (.iconst 2, 1)) ∧ (decode cX9_isSpoilt 2 = .ok (.if_icmp .lt 15, 3)) ∧ (decode cX9_isSpoilt 5 = .ok (.iload_n 2, 1)) ∧ (decode cX9_isSpoilt 6 = .ok (.aload_n 0, 1)) ∧ (decode cX9_isSpoilt 7 = .ok (.getfield 21, 3)) ∧ (decode cX9_isSpoilt 10 = .ok (.if_icmp .le 7, 3)) ∧ (decode cX9_isSpoilt 13 = .ok (.iconst 1, 1)) ∧ (decode cX9_isSpoilt 14 = .ok (.goto 4, 3)) ∧ (decode cX9_isSpoilt 17 = .ok (.iconst 0, 1)) ∧ (decode cX9_isSpoilt 18 = .ok (.istore_n 3, 1)) ∧ (decode cX9_isSpoilt 19 = .ok (.iload_n 3, 1)) ∧ (decode cX9_isSpoilt 20 = .ok (.ifCond .ne 16, 3)) ∧ (decode cX9_isSpoilt 23 = .ok (.iload_n 1, 1)) ∧ (decode cX9_isSpoilt 24 = .ok (.iconst 3, 1)) ∧ (decode cX9_isSpoilt 25 = .ok (.if_icmp .ne 15, 3)) := by decide +kernel
theorem dX9_isSpoilt_0 : decode cX9_isSpoilt 0 = .ok (.iload_n 1, 1) := dgX9_isSpoilt_0.1
theorem dX9_isSpoilt_1 : decode cX9_isSpoilt 1 = .ok (.iconst 2, 1) := dgX9_isSpoilt_0.2.1
theorem dX9_isSpoilt_2 : decode cX9_isSpoilt 2 = .ok (.if_icmp .lt 15, 3) := dgX9_isSpoilt_0.2.2.1
theorem dX9_isSpoilt_5 : decode cX9_isSpoilt 5 = .ok (.iload_n 2, 1) := dgX9_isSpoilt_0.2.2.2.1
theorem dX9_isSpoilt_6 : decode cX9_isSpoilt 6 = .ok (.aload_n 0, 1) := dgX9_isSpoilt_0.2.2.2.2.1
theorem dX9_isSpoilt_7 : decode cX9_isSpoilt 7 = .ok (.getfield 21, 3) := dgX9_isSpoilt_0.2.2.2.2.2.1
theorem dX9_isSpoilt_10 : decode cX9_isSpoilt 10 = .ok (.if_icmp .le 7, 3) := dgX9_isSpoilt_0.2.2.2.2.2.2.1
theorem dX9_isSpoilt_13 : decode cX9_isSpoilt 13 = .ok (.iconst 1, 1) := dgX9_isSpoilt_0.2.2.2.2.2.2.2.1
theorem dX9_isSpoilt_14 : decode cX9_isSpoilt 14 = .ok (.goto 4, 3) := dgX9_isSpoilt_0.2.2.2.2.2.2.2.2.1
theorem dX9_isSpoilt_17 : decode cX9_isSpoilt 17 = .ok (.iconst 0, 1) := dgX9_isSpoilt_0.2.2.2.2.2.2.2.2.2.1
theorem dX9_isSpoilt_18 : decode cX9_isSpoilt 18 = .ok (.istore_n 3, 1) := dgX9_isSpoilt_0.2.2.2.2.2.2.2.2.2.2.1
theorem dX9_isSpoilt_19 : decode cX9_isSpoilt 19 = .ok (.iload_n 3, 1) := dgX9_isSpoilt_0.2.2.2.2.2.2.2.2.2.2.2.1
theorem dX9_isSpoilt_20 : decode cX9_isSpoilt 20 = .ok (.ifCond .ne 16, 3) := dgX9_isSpoilt_0.2.2.2.2.2.2.2.2.2.2.2.2.1
theorem dX9_isSpoilt_23 : decode cX9_isSpoilt 23 = .ok (.iload_n 1, 1) := dgX9_isSpoilt_0.2.2.2.2.2.2.2.2.2.2.2.2.2.1
theorem dX9_isSpoilt_24 : decode cX9_isSpoilt 24 = .ok (.iconst 3, 1) := dgX9_isSpoilt_0.2.2.2.2.2.2.2.2.2.2.2.2.2.2.1
theorem dX9_isSpoilt_25 : decode cX9_isSpoilt 25 = .ok (.if_icmp .ne 15, 3) := dgX9_isSpoilt_0.2.2.2.2.2.2.2.2.2.2.2.2.2.2.2
theorem dgX9_isSpoilt_16 : (decode cX9_isSpoilt 28 = .ok (.iload_n 2, 1)) ∧ (decode cX9_isSpoilt 29 = .ok (.aload_n 0, 1)) ∧ (decode cX9_isSpoilt 30 = .ok (.getfield 24, 3)) ∧ (decode cX9_isSpoilt 33 = .ok (.if_icmp .ge 7, 3)) ∧ (decode cX9_isSpoilt 36 = .ok (.iconst 1, 1)) ∧ (decode cX9_isSpoilt 37 = .ok (.goto 4, 3)) ∧ (decode cX9_isSpoilt 40 = .ok (.iconst 0, 1)) ∧ (decode cX9_isSpoilt 41 = .ok (.ireturn, 1)) := by decide +kernel
theorem dX9_isSpoilt_28 : decode cX9_isSpoilt 28 = .ok (.iload_n 2, 1) := dgX9_isSpoilt_16.1
theorem dX9_isSpoilt_29 : decode cX9_isSpoilt 29 = .ok (.aload_n 0, 1) := dgX9_isSpoilt_16.2.1
theorem dX9_isSpoilt_30 : decode cX9_isSpoilt 30 = .ok (.getfield 24, 3) := dgX9_isSpoilt_16.2.2.1
theorem dX9_isSpoilt_33 : decode cX9_isSpoilt 33 = .ok (.if_icmp .ge 7, 3) := dgX9_isSpoilt_16.2.2.2.1
theorem dX9_isSpoilt_36 : decode cX9_isSpoilt 36 = .ok (.iconst 1, 1) := dgX9_isSpoilt_16.2.2.2.2.1
theorem dX9_isSpoilt_37 : decode cX9_isSpoilt 37 = .ok (.goto 4, 3) := dgX9_isSpoilt_16.2.2.2.2.2.1
theorem dX9_isSpoilt_40 : decode cX9_isSpoilt 40 = .ok (.iconst 0, 1) := dgX9_isSpoilt_16.2.2.2.2.2.2.1
theorem dX9_isSpoilt_41 : decode cX9_isSpoilt 41 = .ok (.ireturn, 1) := dgX9_isSpoilt_16.2.2.2.2.2.2.2
theorem dgX9_counts_0 : (decode cX9_counts 0 = .ok (.iload_n 1, 1)) ∧ (decode cX9_counts 1 = .ok (.ifCond .ne 17, 3)) ∧ (decode cX9_counts 4 = .ok (.iload_n 2, 1)) ∧ (decode cX9_counts 5 = .ok (.aload_n 0, 1)) ∧ (decode cX9_counts 6 = .ok (.getfield 9, 3)) ∧ (decode cX9_counts 9 = .ok (.if_icmp .lt 7, 3)) ∧ (decode cX9_counts 12 = .ok (.iconst 1, 1)) ∧ (decode cX9_counts 13 = .ok (.goto 4, 3)) ∧ (decode cX9_counts 16 = .ok (.iconst 0, 1)) ∧ (decode cX9_counts 17 = .ok (.ireturn, 1)) ∧ (decode cX9_counts 18 = .ok (.iload_n 1, 1)) ∧ (decode cX9_counts 19 = .ok (.iconst 1, 1)) ∧ (decode cX9_counts 20 = .ok (.if_icmp .ne 19, 3)) ∧ (decode cX9_counts 23 = .ok (.iload_n 2, 1)) ∧ (decode cX9_counts 24 = .ok (.aload_n 0, 1)) ∧ (decode cX9_counts 25 = .ok (.getfield 15, 3)) := by decide +kernel
theorem dX9_counts_0 : decode cX9_counts 0 = .ok (.iload_n 1, 1) := dgX9_counts_0.1
theorem dX9_counts_1 : decode cX9_counts 1 = .ok (.ifCond .ne 17, 3) := dgX9_counts_0.2.1
theorem dX9_counts_4 : decode cX9_counts 4 = .ok (.iload_n 2, 1) := dgX9_counts_0.2.2.1
theorem dX9_counts_5 : decode cX9_counts 5 = .ok (.aload_n 0, 1) := dgX9_counts_0.2.2.2.1
theorem dX9_counts_6 : decode cX9_counts 6 = .ok (.getfield 9, 3) := dgX9_counts_0.2.2.2.2.1
theorem dX9_counts_9 : decode cX9_counts 9 = .ok (.if_icmp .lt 7, 3) := dgX9_counts_0.2.2.2.2.2.1
theorem dX9_counts_12 : decode cX9_counts 12 = .ok (.iconst 1, 1) := dgX9_counts_0.2.2.2.2.2.2.1
theorem dX9_counts_13 : decode cX9_counts 13 = .ok (.goto 4, 3) := dgX9_counts_0.2.2.2.2.2.2.2.1
theorem dX9_counts_16 : decode cX9_counts 16 = .ok (.iconst 0, 1) := dgX9_counts_0.2.2.2.2.2.2.2.2.1
theorem dX9_counts_17 : decode cX9_counts 17 = .ok (.ireturn, 1) := dgX9_counts_0.2.2.2.2.2.2.2.2.2.1
theorem dX9_counts_18 : decode cX9_counts 18 = .ok (.iload_n 1, 1) := dgX9_counts_0.2.2.2.2.2.2.2.2.2.2.1
theorem dX9_counts_19 : decode cX9_counts 19 = .ok (.iconst 1, 1) := dgX9_counts_0.2.2.2.2.2.2.2.2.2.2.2.1
theorem dX9_counts_20 : decode cX9_counts 20 = .ok (.if_icmp .ne 19, 3) := dgX9_counts_0.2.2.2.2.2.2.2.2.2.2.2.2.1
theorem dX9_counts_23 : decode cX9_counts 23 = .ok (.iload_n 2, 1) := dgX9_counts_0.2.2.2.2.2.2.2.2.2.2.2.2.2.1
theorem dX9_counts_24 : decode cX9_counts 24 = .ok (.aload_n 0, 1) := dgX9_counts_0.2.2.2.2.2.2.2.2.2.2.2.2.2.2.1
theorem dX9_counts_25 : decode cX9_counts 25 = .ok (.getfield 15, 3) := dgX9_counts_0.2.2.2.2.2.2.2.2.2.2.2.2.2.2.2
theorem dgX9_counts_16 : (decode cX9_counts 28 = .ok (.if_icmp .gt 7, 3)) ∧ (decode cX9_counts 31 = .ok (.iconst 1, 1)) ∧ (decode cX9_counts 32 = .ok (.goto 20, 3)) ∧ (decode cX9_counts 35 = .ok (.iconst 0, 1)) ∧ (decode cX9_counts 36 = .ok (.goto 16, 3)) ∧ (decode cX9_counts 39 = .ok (.iload_n 2, 1)) ∧ (decode cX9_counts 40 = .ok (.aload_n 0, 1)) ∧ (decode cX9_counts 41 = .ok (.getfield 18, 3)) ∧ (decode cX9_counts 44 = .ok (.if_icmp .lt 7, 3)) ∧ (decode cX9_counts 47 = .ok (.iconst 1, 1)) ∧ (decode cX9_counts 48 = .ok (.goto 4, 3)) ∧ (decode cX9_counts 51 = .ok (.iconst 0, 1)) ∧ (decode cX9_counts 52 = .ok (.ireturn, 1)) := by decide +kernel
theorem dX9_counts_28 : decode cX9_counts 28 = .ok (.if_icmp .gt 7, 3) := dgX9_counts_16.1
theorem dX9_counts_31 : decode cX9_counts 31 = .ok (.iconst 1, 1) := dgX9_counts_16.2.1
theorem dX9_counts_32 : decode cX9_counts 32 = .ok (.goto 20, 3) := dgX9_counts_16.2.2.1
theorem dX9_counts_35 : decode cX9_counts 35 = .ok (.iconst 0, 1) := dgX9_counts_16.2.2.2.1
theorem dX9_counts_36 : decode cX9_counts 36 = .ok (.goto 16, 3) := dgX9_counts_16.2.2.2.2.1
theorem dX9_counts_39 : decode cX9_counts 39 = .ok (.iload_n 2, 1) := dgX9_counts_16.2.2.2.2.2.1
theorem dX9_counts_40 : decode cX9_counts 40 = .ok (.aload_n 0, 1) := dgX9_counts_16.2.2.2.2.2.2.1
theorem dX9_counts_41 : decode cX9_counts 41 = .ok (.getfield 18, 3) := dgX9_counts_16.2.2.2.2.2.2.2.1
theorem dX9_counts_44 : decode cX9_counts 44 = .ok (.if_icmp .lt 7, 3) := dgX9_counts_16.2.2.2.2.2.2.2.2.1
theorem dX9_counts_47 : decode cX9_counts 47 = .ok (.iconst 1, 1) := dgX9_counts_16.2.2.2.2.2.2.2.2.2.1
theorem dX9_counts_48 : decode cX9_counts 48 = .ok (.goto 4, 3) := dgX9_counts_16.2.2.2.2.2.2.2.2.2.2.1
theorem dX9_counts_51 : decode cX9_counts 51 = .ok (.iconst 0, 1) := dgX9_counts_16.2.2.2.2.2.2.2.2.2.2.2.1
theorem dX9_counts_52 : decode cX9_counts 52 = .ok (.ireturn, 1) := dgX9_counts_16.2.2.2.2.2.2.2.2.2.2.2.2
theorem dgJ13_bitCount_95d88_0 : (decode cJ13_bitCount_95d88 0 = .ok (.lload_n 0, 1)) ∧ (decode cJ13_bitCount_95d88 1 = .ok (.lload_n 0, 1)) ∧ (decode cJ13_bitCount_95d88 2 = .ok (.iconst 1, 1)) ∧ (decode cJ13_bitCount_95d88 3 = .ok (.lushr, 1)) ∧ (decode cJ13_bitCount_95d88 4 = .ok (.ldc2_w 314, 3)) ∧ (decode cJ13_bitCount_95d88 7 = .ok (.land, 1)) ∧ (decode cJ13_bitCount_95d88 8 = .ok (.lsub, 1)) ∧ (decode cJ13_bitCount_95d88 9 = .ok (.lstore_n 0, 1)) ∧ (decode cJ13_bitCount_95d88 10 = .ok (.lload_n 0, 1)) ∧ (decode cJ13_bitCount_95d88 11 = .ok (.ldc2_w 316, 3)) ∧ (decode cJ13_bitCount_95d88 14 = .ok (.land, 1)) ∧ (decode cJ13_bitCount_95d88 15 = .ok (.lload_n 0, 1)) ∧ (decode cJ13_bitCount_95d88 16 = .ok (.iconst 2, 1)) ∧ (decode cJ13_bitCount_95d88 17 = .ok (.lushr, 1)) ∧ (decode cJ13_bitCount_95d88 18 = .ok (.ldc2_w 316, 3)) ∧ (decode cJ13_bitCount_95d88 21 = .ok (.land, 1)) := by decide +kernel
theorem dJ13_bitCount_95d88_0 : decode cJ13_bitCount_95d88 0 = .ok (.lload_n 0, 1) := dgJ13_bitCount_95d88_0.1
theorem dJ13_bitCount_95d88_1 : decode cJ13_bitCount_95d88 1 = .ok (.lload_n 0, 1) := dgJ13_bitCount_95d88_0.2.1
theorem dJ13_bitCount_95d88_2 : decode cJ13_bitCount_95d88 2 = .ok (.iconst 1, 1) := dgJ13_bitCount_95d88_0.2.2.1
theorem dJ13_bitCount_95d88_3 : decode cJ13_bitCount_95d88 3 = .ok (.lushr, 1) := dgJ13_bitCount_95d88_0.2.2.2.1
theorem dJ13_bitCount_95d88_4 : decode cJ13_bitCount_95d88 4 = .ok (.ldc2_w 314, 3) := dgJ13_bitCount_95d88_0.2.2.2.2.1
theorem dJ13_bitCount_95d88_7 : decode cJ13_bitCount_95d88 7 = .ok (.land, 1) := dgJ13_bitCount_95d88_0.2.2.2.2.2.1
theorem dJ13_bitCount_95d88_8 : decode cJ13_bitCount_95d88 8 = .ok (.lsub, 1) := dgJ13_bitCount_95d88_0.2.2.2.2.2.2.1
theorem dJ13_bitCount_95d88_9 : decode cJ13_bitCount_95d88 9 = .ok (.lstore_n 0, 1) := dgJ13_bitCount_95d88_0.2.2.2.2.2.2.2.1
theorem dJ13_bitCount_95d88_10 : decode cJ13_bitCount_95d88 10 = .ok (.lload_n 0, 1) := dgJ13_bitCount_95d88_0.2.2.2.2.2.2.2.2.1
theorem dJ13_bitCount_95d88_11 : decode cJ13_bitCount_95d88 11 = .ok (.ldc2_w 316, 3) := dgJ13_bitCount_95d88_0.2.2.2.2.2.2.2.2.2.1
theorem dJ13_bitCount_95d88_14 : decode cJ13_bitCount_95d88 14 = .ok (.land, 1) := dgJ13_bitCount_95d88_0.2.2.2.2.2.2.2.2.2.2.1
theorem dJ13_bitCount_95d88_15 : decode cJ13_bitCount_95d88 15 = .ok (.lload_n 0, 1) := dgJ13_bitCount_95d88_0.2.2.2.2.2.2.2.2.2.2.2.1
theorem dJ13_bitCount_95d88_16 : decode cJ13_bitCount_95d88 16 = .ok (.iconst 2, 1) := dgJ13_bitCount_95d88_0.2.2.2.2.2.2.2.2.2.2.2.2.1
theorem dJ13_bitCount_95d88_17 : decode cJ13_bitCount_95d88 17 = .ok (.lushr, 1) := dgJ13_bitCount_95d88_0.2.2.2.2.2.2.2.2.2.2.2.2.2.1
theorem dJ13_bitCount_95d88_18 : decode cJ13_bitCount_95d88 18 = .ok (.ldc2_w 316, 3) := dgJ13_bitCount_95d88_0.2.2.2.2.2.2.2.2.2.2.2.2.2.2.1
theorem dJ13_bitCount_95d88_21 : decode cJ13_bitCount_95d88 21 = .ok (.land, 1) := dgJ13_bitCount_95d88_0.2.2.2.2.2.2.2.2.2.2.2.2.2.2.2
theorem dgJ13_bitCount_95d88_16 : (decode cJ13_bitCount_95d88 22 = .ok (.ladd, 1)) ∧ (decode cJ13_bitCount_95d88 23 = .ok (.lstore_n 0, 1)) ∧ (decode cJ13_bitCount_95d88 24 = .ok (.lload_n 0, 1)) ∧ (decode cJ13_bitCount_95d88 25 = .ok (.lload_n 0, 1)) ∧ (decode cJ13_bitCount_95d88 26 = .ok (.iconst 4, 1)) ∧ (decode cJ13_bitCount_95d88 27 = .ok (.lushr, 1)) ∧ (decode cJ13_bitCount_95d88 28 = .ok (.ladd, 1)) ∧ (decode cJ13_bitCount_95d88 29 = .ok (.ldc2_w 318, 3)) ∧ (decode cJ13_bitCount_95d88 32 = .ok (.land, 1)) ∧ (decode cJ13_bitCount_95d88 33 = .ok (.lstore_n 0, 1)) ∧ (decode cJ13_bitCount_95d88 34 = .ok (.lload_n 0, 1)) ∧ (decode cJ13_bitCount_95d88 35 = .ok (.lload_n 0, 1)) ∧ (decode cJ13_bitCount_95d88 36 = .ok (.bipush 8, 2)) ∧ (decode cJ13_bitCount_95d88 38 = .ok (.lushr, 1)) ∧ (decode cJ13_bitCount_95d88 39 = .ok (.ladd, 1)) ∧ (decode cJ13_bitCount_95d88 40 = .ok (.lstore_n 0, 1)) := by decide +kernel
theorem dJ13_bitCount_95d88_22 : decode cJ13_bitCount_95d88 22 = .ok (.ladd, 1) := dgJ13_bitCount_95d88_16.1
theorem dJ13_bitCount_95d88_23 : decode cJ13_bitCount_95d88 23 = .ok (.lstore_n 0, 1) := dgJ13_bitCount_95d88_16.2.1
theorem dJ13_bitCount_95d88_24 : decode cJ13_bitCount_95d88 24 = .ok (.lload_n 0, 1) := dgJ13_bitCount_95d88_16.2.2.1
theorem dJ13_bitCount_95d88_25 : decode cJ13_bitCount_95d88 25 = .ok (.lload_n 0, 1) := dgJ13_bitCount_95d88_16.2.2.2.1
theorem dJ13_bitCount_95d88_26 : decode cJ13_bitCount_95d88 26 = .ok (.iconst 4, 1) := dgJ13_bitCount_95d88_16.2.2.2.2.1
theorem dJ13_bitCount_95d88_27 : decode cJ13_bitCount_95d88 27 = .ok (.lushr, 1) := dgJ13_bitCount_95d88_16.2.2.2.2.2.1
theorem dJ13_bitCount_95d88_28 : decode cJ13_bitCount_95d88 28 = .ok (.ladd, 1) := dgJ13_bitCount_95d88_16.2.2.2.2.2.2.1
theorem dJ13_bitCount_95d88_29 : decode cJ13_bitCount_95d88 29 = .ok (.ldc2_w 318, 3) := dgJ13_bitCount_95d88_16.2.2.2.2.2.2.2.1
theorem dJ13_bitCount_95d88_32 : decode cJ13_bitCount_95d88 32 = .ok (.land, 1) := dgJ13_bitCount_95d88_16.2.2.2.2.2.2.2.2.1
theorem dJ13_bitCount_95d88_33 : decode cJ13_bitCount_95d88 33 = .ok (.lstore_n 0, 1) := dgJ13_bitCount_95d88_16.2.2.2.2.2.2.2.2.2.1
theorem dJ13_bitCount_95d88_34 : decode cJ13_bitCount_95d88 34 = .ok (.lload_n 0, 1) := dgJ13_bitCount_95d88_16.2.2.2.2.2.2.2.2.2.2.1
theorem dJ13_bitCount_95d88_35 : decode cJ13_bitCount_95d88 35 = .ok (.lload_n 0, 1) := dgJ13_bitCount_95d88_16.2.2.2.2.2.2.2.2.2.2.2.1
theorem dJ13_bitCount_95d88_36 : decode cJ13_bitCount_95d88 36 = .ok (.bipush 8, 2) := dgJ13_bitCount_95d88_16.2.2.2.2.2.2.2.2.2.2.2.2.1
theorem dJ13_bitCount_95d88_38 : decode cJ13_bitCount_95d88 38 = .ok (.lushr, 1) := dgJ13_bitCount_95d88_16.2.2.2.2.2.2.2.2.2.2.2.2.2.1
theorem dJ13_bitCount_95d88_39 : decode cJ13_bitCount_95d88 39 = .ok (.ladd, 1) := dgJ13_bitCount_95d88_16.2.2.2.2.2.2.2.2.2.2.2.2.2.2.1
theorem dJ13_bitCount_95d88_40 : decode cJ13_bitCount_95d88 40 = .ok (.lstore_n 0, 1) := dgJ13_bitCount_95d88_16.2.2.2.2.2.2.2.2.2.2.2.2.2.2.2
theorem dgJ13_bitCount_95d88_32 : (decode cJ13_bitCount_95d88 41 = .ok (.lload_n 0, 1)) ∧ (decode cJ13_bitCount_95d88 42 = .ok (.lload_n 0, 1)) ∧ (decode cJ13_bitCount_95d88 43 = .ok (.bipush 16, 2)) ∧ (decode cJ13_bitCount_95d88 45 = .ok (.lushr, 1)) ∧ (decode cJ13_bitCount_95d88 46 = .ok (.ladd, 1)) ∧ (decode cJ13_bitCount_95d88 47 = .ok (.lstore_n 0, 1)) ∧ (decode cJ13_bitCount_95d88 48 = .ok (.lload_n 0, 1)) ∧ (decode cJ13_bitCount_95d88 49 = .ok (.lload_n 0, 1)) ∧ (decode cJ13_bitCount_95d88 50 = .ok (.bipush 32, 2)) ∧ (decode cJ13_bitCount_95d88 52 = .ok (.lushr, 1)) ∧ (decode cJ13_bitCount_95d88 53 = .ok (.ladd, 1)) ∧ (decode cJ13_bitCount_95d88 54 = .ok (.lstore_n 0, 1)) ∧ (decode cJ13_bitCount_95d88 55 = .ok (.lload_n 0, 1)) ∧ (decode cJ13_bitCount_95d88 56 = .ok (.l2i, 1)) ∧ (decode cJ13_bitCount_95d88 57 = .ok (.bipush 127, 2)) ∧ (decode cJ13_bitCount_95d88 59 = .ok (.iand, 1)) := by decide +kernel
theorem dJ13_bitCount_95d88_41 : decode cJ13_bitCount_95d88 41 = .ok (.lload_n 0, 1) := dgJ13_bitCount_95d88_32.1
theorem dJ13_bitCount_95d88_42 : decode cJ13_bitCount_95d88 42 = .ok (.lload_n 0, 1) := dgJ13_bitCount_95d88_32.2.1
theorem dJ13_bitCount_95d88_43 : decode cJ13_bitCount_95d88 43 = .ok (.bipush 16, 2) := dgJ13_bitCount_95d88_32.2.2.1
theorem dJ13_bitCount_95d88_45 : decode cJ13_bitCount_95d88 45 = .ok (.lushr, 1) := dgJ13_bitCount_95d88_32.2.2.2.1
theorem dJ13_bitCount_95d88_46 : decode cJ13_bitCount_95d88 46 = .ok (.ladd, 1) := dgJ13_bitCount_95d88_32.2.2.2.2.1
theorem dJ13_bitCount_95d88_47 : decode cJ13_bitCount_95d88 47 = .ok (.lstore_n 0, 1) := dgJ13_bitCount_95d88_32.2.2.2.2.2.1
theorem dJ13_bitCount_95d88_48 : decode cJ13_bitCount_95d88 48 = .ok (.lload_n 0, 1) := dgJ13_bitCount_95d88_32.2.2.2.2.2.2.1
theorem dJ13_bitCount_95d88_49 : decode cJ13_bitCount_95d88 49 = .ok (.lload_n 0, 1) := dgJ13_bitCount_95d88_32.2.2.2.2.2.2.2.1
theorem dJ13_bitCount_95d88_50 : decode cJ13_bitCount_95d88 50 = .ok (.bipush 32, 2) := dgJ13_bitCount_95d88_32.2.2.2.2.2.2.2.2.1
theorem dJ13_bitCount_95d88_52 : decode cJ13_bitCount_95d88 52 = .ok (.lushr, 1) := dgJ13_bitCount_95d88_32.2.2.2.2.2.2.2.2.2.1
theorem dJ13_bitCount_95d88_53 : decode cJ13_bitCount_95d88 53 = .ok (.ladd, 1) := dgJ13_bitCount_95d88_32.2.2.2.2.2.2.2.2.2.2.1
theorem dJ13_bitCount_95d88_54 : decode cJ13_bitCount_95d88 54 = .ok (.lstore_n 0, 1) := dgJ13_bitCount_95d88_32.2.2.2.2.2.2.2.2.2.2.2.1
theorem dJ13_bitCount_95d88_55 : decode cJ13_bitCount_95d88 55 = .ok (.lload_n 0, 1) := dgJ13_bitCount_95d88_32.2.2.2.2.2.2.2.2.2.2.2.2.1
theorem dJ13_bitCount_95d88_56 : decode cJ13_bitCount_95d88 56 = .ok (.l2i, 1) := dgJ13_bitCount_95d88_32.2.2.2.2.2.2.2.2.2.2.2.2.2.1
theorem dJ13_bitCount_95d88_57 : decode cJ13_bitCount_95d88 57 = .ok (.bipush 127, 2) := dgJ13_bitCount_95d88_32.2.2.2.2.2.2.2.2.2.2.2.2.2.2.1
theorem dJ13_bitCount_95d88_59 : decode cJ13_bitCount_95d88 59 = .ok (.iand, 1) := dgJ13_bitCount_95d88_32.2.2.2.2.2.2.2.2.2.2.2.2.2.2.2
theorem dJ13_bitCount_95d88_60 : decode cJ13_bitCount_95d88 60 = .ok (.ireturn, 1) := by decide +kernel
theorem dgJ7_fill_53178_0 : (decode cJ7_fill_53178 0 = .ok (.iconst 0, 1)) ∧ (decode cJ7_fill_53178 1 = .ok (.istore_n 2, 1)) ∧ (decode cJ7_fill_53178 2 = .ok (.aload_n 0, 1)) ∧ (decode cJ7_fill_53178 3 = .ok (.arraylength, 1)) ∧ (decode cJ7_fill_53178 4 = .ok (.istore_n 3, 1)) ∧ (decode cJ7_fill_53178 5 = .ok (.iload_n 2, 1)) ∧ (decode cJ7_fill_53178 6 = .ok (.iload_n 3, 1)) ∧ (decode cJ7_fill_53178 7 = .ok (.if_icmp .ge 13, 3)) ∧ (decode cJ7_fill_53178 10 = .ok (.aload_n 0, 1)) ∧ (decode cJ7_fill_53178 11 = .ok (.iload_n 2, 1)) ∧ (decode cJ7_fill_53178 12 = .ok (.iload_n 1, 1)) ∧ (decode cJ7_fill_53178 13 = .ok (.iastore, 1)) ∧ (decode cJ7_fill_53178 14 = .ok (.iinc 2 1, 3)) ∧ (decode cJ7_fill_53178 17 = .ok (.goto (-12), 3)) ∧ (decode cJ7_fill_53178 20 = .ok (.return_, 1)) := by decide +kernel
theorem dJ7_fill_53178_0 : decode cJ7_fill_53178 0 = .ok (.iconst 0, 1) := dgJ7_fill_53178_0.1
theorem dJ7_fill_53178_1 : decode cJ7_fill_53178 1 = .ok (.istore_n 2, 1) := dgJ7_fill_53178_0.2.1
theorem dJ7_fill_53178_2 : decode cJ7_fill_53178 2 = .ok (.aload_n 0, 1) := dgJ7_fill_53178_0.2.2.1
theorem dJ7_fill_53178_3 : decode cJ7_fill_53178 3 = .ok (.arraylength, 1) := dgJ7_fill_53178_0.2.2.2.1
theorem dJ7_fill_53178_4 : decode cJ7_fill_53178 4 = .ok (.istore_n 3, 1) := dgJ7_fill_53178_0.2.2.2.2.1
theorem dJ7_fill_53178_5 : decode cJ7_fill_53178 5 = .ok (.iload_n 2, 1) := dgJ7_fill_53178_0.2.2.2.2.2.1
theorem dJ7_fill_53178_6 : decode cJ7_fill_53178 6 = .ok (.iload_n 3, 1) := dgJ7_fill_53178_0.2.2.2.2.2.2.1
theorem dJ7_fill_53178_7 : decode cJ7_fill_53178 7 = .ok (.if_icmp .ge 13, 3) := dgJ7_fill_53178_0.2.2.2.2.2.2.2.1
theorem dJ7_fill_53178_10 : decode cJ7_fill_53178 10 = .ok (.aload_n 0, 1) := dgJ7_fill_53178_0.2.2.2.2.2.2.2.2.1
theorem dJ7_fill_53178_11 : decode cJ7_fill_53178 11 = .ok (.iload_n 2, 1) := dgJ7_fill_53178_0.2.2.2.2.2.2.2.2.2.1
theorem dJ7_fill_53178_12 : decode cJ7_fill_53178 12 = .ok (.iload_n 1, 1) := dgJ7_fill_53178_0.2.2.2.2.2.2.2.2.2.2.1
theorem dJ7_fill_53178_13 : decode cJ7_fill_53178 13 = .ok (.iastore, 1) := dgJ7_fill_53178_0.2.2.2.2.2.2.2.2.2.2.2.1
theorem dJ7_fill_53178_14 : decode cJ7_fill_53178 14 = .ok (.iinc 2 1, 3) := dgJ7_fill_53178_0.2.2.2.2.2.2.2.2.2.2.2.2.1
theorem dJ7_fill_53178_17 : decode cJ7_fill_53178 17 = .ok (.goto (-12), 3) := dgJ7_fill_53178_0.2.2.2.2.2.2.2.2.2.2.2.2.2.1
theorem dJ7_fill_53178_20 : decode cJ7_fill_53178 20 = .ok (.return_, 1) := dgJ7_fill_53178_0.2.2.2.2.2.2.2.2.2.2.2.2.2.2
