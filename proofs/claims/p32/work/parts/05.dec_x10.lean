theorem dgX10_init_0 : (decode cX10_init 0 = .ok (.aload_n 0, 1)) ∧ (decode cX10_init 1 = .ok (.invokespecial 3, 3)) ∧ (decode cX10_init 4 = .ok (.aload_n 0, 1)) ∧ (decode cX10_init 5 = .ok (.bipush 40, 2)) ∧ (decode cX10_init 7 = .ok (.anewarray 9, 3)) ∧ (decode cX10_init 10 = .ok (.putfield 11, 3)) ∧ (decode cX10_init 13 = .ok (.aload_n 0, 1)) ∧ (decode cX10_init 14 = .ok (.bipush 40, 2)) ∧ (decode cX10_init 16 = .ok (.anewarray 15, 3)) ∧ (decode cX10_init 19 = .ok (.putfield 17, 3)) ∧ (decode cX10_init 22 = .ok (.aload_n 0, 1)) ∧ (decode cX10_init 23 = .ok (.sipush 600, 3)) ∧ (decode cX10_init 26 = .ok (.anewarray 21, 3)) ∧ (decode cX10_init 29 = .ok (.putfield 23, 3)) ∧ (decode cX10_init 32 = .ok (.aload_n 0, 1)) ∧ (decode cX10_init 33 = .ok (.sipush 200, 3)) := by decide +kernel
theorem dX10_init_0 : decode cX10_init 0 = .ok (.aload_n 0, 1) := dgX10_init_0.1
theorem dX10_init_1 : decode cX10_init 1 = .ok (.invokespecial 3, 3) := dgX10_init_0.2.1
theorem dX10_init_4 : decode cX10_init 4 = .ok (.aload_n 0, 1) := dgX10_init_0.2.2.1
theorem dX10_init_5 : decode cX10_init 5 = .ok (.bipush 40, 2) := dgX10_init_0.2.2.2.1
theorem dX10_init_7 : decode cX10_init 7 = .ok (.anewarray 9, 3) := dgX10_init_0.2.2.2.2.1
theorem dX10_init_10 : decode cX10_init 10 = .ok (.putfield 11, 3) := dgX10_init_0.2.2.2.2.2.1
theorem dX10_init_13 : decode cX10_init 13 = .ok (.aload_n 0, 1) := dgX10_init_0.2.2.2.2.2.2.1
theorem dX10_init_14 : decode cX10_init 14 = .ok (.bipush 40, 2) := dgX10_init_0.2.2.2.2.2.2.2.1
theorem dX10_init_16 : decode cX10_init 16 = .ok (.anewarray 15, 3) := dgX10_init_0.2.2.2.2.2.2.2.2.1
theorem dX10_init_19 : decode cX10_init 19 = .ok (.putfield 17, 3) := dgX10_init_0.2.2.2.2.2.2.2.2.2.1
theorem dX10_init_22 : decode cX10_init 22 = .ok (.aload_n 0, 1) := dgX10_init_0.2.2.2.2.2.2.2.2.2.2.1
theorem dX10_init_23 : decode cX10_init 23 = .ok (.sipush 600, 3) := dgX10_init_0.2.2.2.2.2.2.2.2.2.2.2.1
theorem dX10_init_26 : decode cX10_init 26 = .ok (.anewarray 21, 3) := dgX10_init_0.2.2.2.2.2.2.2.2.2.2.2.2.1
theorem dX10_init_29 : decode cX10_init 29 = .ok (.putfield 23, 3) := dgX10_init_0.2.2.2.2.2.2.2.2.2.2.2.2.2.1
theorem dX10_init_32 : decode cX10_init 32 = .ok (.aload_n 0, 1) := dgX10_init_0.2.2.2.2.2.2.2.2.2.2.2.2.2.2.1
theorem dX10_init_33 : decode cX10_init 33 = .ok (.sipush 200, 3) := dgX10_init_0.2.2.2.2.2.2.2.2.2.2.2.2.2.2.2
theorem dgX10_init_16 : (decode cX10_init 36 = .ok (.anewarray 27, 3)) ∧ (decode cX10_init 39 = .ok (.putfield 29, 3)) ∧ (decode cX10_init 42 = .ok (.aload_n 0, 1)) ∧ (decode cX10_init 43 = .ok (.sipush 144, 3)) ∧ (decode cX10_init 46 = .ok (.newarray .int, 2)) ∧ (decode cX10_init 48 = .ok (.putfield 33, 3)) ∧ (decode cX10_init 51 = .ok (.aload_n 0, 1)) ∧ (decode cX10_init 52 = .ok (.sipush 144, 3)) ∧ (decode cX10_init 55 = .ok (.newarray .int, 2)) ∧ (decode cX10_init 57 = .ok (.putfield 37, 3)) ∧ (decode cX10_init 60 = .ok (.aload_n 0, 1)) ∧ (decode cX10_init 61 = .ok (.new 40, 3)) ∧ (decode cX10_init 64 = .ok (.dup, 1)) ∧ (decode cX10_init 65 = .ok (.invokespecial 42, 3)) ∧ (decode cX10_init 68 = .ok (.putfield 43, 3)) ∧ (decode cX10_init 71 = .ok (.aload_n 0, 1)) := by decide +kernel
theorem dX10_init_36 : decode cX10_init 36 = .ok (.anewarray 27, 3) := dgX10_init_16.1
theorem dX10_init_39 : decode cX10_init 39 = .ok (.putfield 29, 3) := dgX10_init_16.2.1
theorem dX10_init_42 : decode cX10_init 42 = .ok (.aload_n 0, 1) := dgX10_init_16.2.2.1
theorem dX10_init_43 : decode cX10_init 43 = .ok (.sipush 144, 3) := dgX10_init_16.2.2.2.1
theorem dX10_init_46 : decode cX10_init 46 = .ok (.newarray .int, 2) := dgX10_init_16.2.2.2.2.1
theorem dX10_init_48 : decode cX10_init 48 = .ok (.putfield 33, 3) := dgX10_init_16.2.2.2.2.2.1
theorem dX10_init_51 : decode cX10_init 51 = .ok (.aload_n 0, 1) := dgX10_init_16.2.2.2.2.2.2.1
theorem dX10_init_52 : decode cX10_init 52 = .ok (.sipush 144, 3) := dgX10_init_16.2.2.2.2.2.2.2.1
theorem dX10_init_55 : decode cX10_init 55 = .ok (.newarray .int, 2) := dgX10_init_16.2.2.2.2.2.2.2.2.1
theorem dX10_init_57 : decode cX10_init 57 = .ok (.putfield 37, 3) := dgX10_init_16.2.2.2.2.2.2.2.2.2.1
theorem dX10_init_60 : decode cX10_init 60 = .ok (.aload_n 0, 1) := dgX10_init_16.2.2.2.2.2.2.2.2.2.2.1
theorem dX10_init_61 : decode cX10_init 61 = .ok (.new 40, 3) := dgX10_init_16.2.2.2.2.2.2.2.2.2.2.2.1
theorem dX10_init_64 : decode cX10_init 64 = .ok (.dup, 1) := dgX10_init_16.2.2.2.2.2.2.2.2.2.2.2.2.1
theorem dX10_init_65 : decode cX10_init 65 = .ok (.invokespecial 42, 3) := dgX10_init_16.2.2.2.2.2.2.2.2.2.2.2.2.2.1
theorem dX10_init_68 : decode cX10_init 68 = .ok (.putfield 43, 3) := dgX10_init_16.2.2.2.2.2.2.2.2.2.2.2.2.2.2.1
theorem dX10_init_71 : decode cX10_init 71 = .ok (.aload_n 0, 1) := dgX10_init_16.2.2.2.2.2.2.2.2.2.2.2.2.2.2.2
theorem dgX10_init_32 : (decode cX10_init 72 = .ok (.new 47, 3)) ∧ (decode cX10_init 75 = .ok (.dup, 1)) ∧ (decode cX10_init 76 = .ok (.invokespecial 49, 3)) ∧ (decode cX10_init 79 = .ok (.putfield 50, 3)) ∧ (decode cX10_init 82 = .ok (.aload_n 0, 1)) ∧ (decode cX10_init 83 = .ok (.new 54, 3)) ∧ (decode cX10_init 86 = .ok (.dup, 1)) ∧ (decode cX10_init 87 = .ok (.invokespecial 56, 3)) ∧ (decode cX10_init 90 = .ok (.putfield 57, 3)) ∧ (decode cX10_init 93 = .ok (.aload_n 0, 1)) ∧ (decode cX10_init 94 = .ok (.new 61, 3)) ∧ (decode cX10_init 97 = .ok (.dup, 1)) ∧ (decode cX10_init 98 = .ok (.invokespecial 63, 3)) ∧ (decode cX10_init 101 = .ok (.putfield 64, 3)) ∧ (decode cX10_init 104 = .ok (.aload_n 0, 1)) ∧ (decode cX10_init 105 = .ok (.new 68, 3)) := by decide +kernel
theorem dX10_init_72 : decode cX10_init 72 = .ok (.new 47, 3) := dgX10_init_32.1
theorem dX10_init_75 : decode cX10_init 75 = .ok (.dup, 1) := dgX10_init_32.2.1
theorem dX10_init_76 : decode cX10_init 76 = .ok (.invokespecial 49, 3) := dgX10_init_32.2.2.1
theorem dX10_init_79 : decode cX10_init 79 = .ok (.putfield 50, 3) := dgX10_init_32.2.2.2.1
theorem dX10_init_82 : decode cX10_init 82 = .ok (.aload_n 0, 1) := dgX10_init_32.2.2.2.2.1
theorem dX10_init_83 : decode cX10_init 83 = .ok (.new 54, 3) := dgX10_init_32.2.2.2.2.2.1
theorem dX10_init_86 : decode cX10_init 86 = .ok (.dup, 1) := dgX10_init_32.2.2.2.2.2.2.1
theorem dX10_init_87 : decode cX10_init 87 = .ok (.invokespecial 56, 3) := dgX10_init_32.2.2.2.2.2.2.2.1
theorem dX10_init_90 : decode cX10_init 90 = .ok (.putfield 57, 3) := dgX10_init_32.2.2.2.2.2.2.2.2.1
theorem dX10_init_93 : decode cX10_init 93 = .ok (.aload_n 0, 1) := dgX10_init_32.2.2.2.2.2.2.2.2.2.1
theorem dX10_init_94 : decode cX10_init 94 = .ok (.new 61, 3) := dgX10_init_32.2.2.2.2.2.2.2.2.2.2.1
theorem dX10_init_97 : decode cX10_init 97 = .ok (.dup, 1) := dgX10_init_32.2.2.2.2.2.2.2.2.2.2.2.1
theorem dX10_init_98 : decode cX10_init 98 = .ok (.invokespecial 63, 3) := dgX10_init_32.2.2.2.2.2.2.2.2.2.2.2.2.1
theorem dX10_init_101 : decode cX10_init 101 = .ok (.putfield 64, 3) := dgX10_init_32.2.2.2.2.2.2.2.2.2.2.2.2.2.1
theorem dX10_init_104 : decode cX10_init 104 = .ok (.aload_n 0, 1) := dgX10_init_32.2.2.2.2.2.2.2.2.2.2.2.2.2.2.1
theorem dX10_init_105 : decode cX10_init 105 = .ok (.new 68, 3) := dgX10_init_32.2.2.2.2.2.2.2.2.2.2.2.2.2.2.2
theorem dgX10_init_48 : (decode cX10_init 108 = .ok (.dup, 1)) ∧ (decode cX10_init 109 = .ok (.invokespecial 70, 3)) ∧ (decode cX10_init 112 = .ok (.putfield 71, 3)) ∧ (decode cX10_init 115 = .ok (.aload_n 0, 1)) ∧ (decode cX10_init 116 = .ok (.getfield 33, 3)) ∧ (decode cX10_init 119 = .ok (.iconst (-1), 1)) ∧ (decode cX10_init 120 = .ok (.invokestatic 75, 3)) ∧ (decode cX10_init 123 = .ok (.return_, 1)) := by decide +kernel
theorem dX10_init_108 : decode cX10_init 108 = .ok (.dup, 1) := dgX10_init_48.1
theorem dX10_init_109 : decode cX10_init 109 = .ok (.invokespecial 70, 3) := dgX10_init_48.2.1
theorem dX10_init_112 : decode cX10_init 112 = .ok (.putfield 71, 3) := dgX10_init_48.2.2.1
theorem dX10_init_115 : decode cX10_init 115 = .ok (.aload_n 0, 1) := dgX10_init_48.2.2.2.1
theorem dX10_init_116 : decode cX10_init 116 = .ok (.getfield 33, 3) := dgX10_init_48.2.2.2.2.1
theorem dX10_init_119 : decode cX10_init 119 = .ok (.iconst (-1), 1) := dgX10_init_48.2.2.2.2.2.1
theorem dX10_init_120 : decode cX10_init 120 = .ok (.invokestatic 75, 3) := dgX10_init_48.2.2.2.2.2.2.1
theorem dX10_init_123 : decode cX10_init 123 = .ok (.return_, 1) := dgX10_init_48.2.2.2.2.2.2.2
theorem dgX10_lot_0 : (decode cX10_lot 0 = .ok (.iload_n 1, 1)) ∧ (decode cX10_lot 1 = .ok (.iconst 0, 1)) ∧ (decode cX10_lot 2 = .ok (.ldc 81, 2)) ∧ (decode cX10_lot 4 = .ok (.invokestatic 82, 3)) ∧ (decode cX10_lot 7 = .ok (.ifCond .eq 23, 3)) ∧ (decode cX10_lot 10 = .ok (.iload_n 2, 1)) ∧ (decode cX10_lot 11 = .ok (.iconst 0, 1)) ∧ (decode cX10_lot 12 = .ok (.sipush 255, 3)) ∧ (decode cX10_lot 15 = .ok (.invokestatic 82, 3)) ∧ (decode cX10_lot 18 = .ok (.ifCond .eq 12, 3)) ∧ (decode cX10_lot 21 = .ok (.aload_n 0, 1)) ∧ (decode cX10_lot 22 = .ok (.getfield 86, 3)) ∧ (decode cX10_lot 25 = .ok (.bipush 40, 2)) ∧ (decode cX10_lot 27 = .ok (.if_icmp .lt 5, 3)) ∧ (decode cX10_lot 30 = .ok (.iconst (-1), 1)) ∧ (decode cX10_lot 31 = .ok (.ireturn, 1)) := by decide +kernel
theorem dX10_lot_0 : decode cX10_lot 0 = .ok (.iload_n 1, 1) := dgX10_lot_0.1
theorem dX10_lot_1 : decode cX10_lot 1 = .ok (.iconst 0, 1) := dgX10_lot_0.2.1
theorem dX10_lot_2 : decode cX10_lot 2 = .ok (.ldc 81, 2) := dgX10_lot_0.2.2.1
theorem dX10_lot_4 : decode cX10_lot 4 = .ok (.invokestatic 82, 3) := dgX10_lot_0.2.2.2.1
theorem dX10_lot_7 : decode cX10_lot 7 = .ok (.ifCond .eq 23, 3) := dgX10_lot_0.2.2.2.2.1
theorem dX10_lot_10 : decode cX10_lot 10 = .ok (.iload_n 2, 1) := dgX10_lot_0.2.2.2.2.2.1
theorem dX10_lot_11 : decode cX10_lot 11 = .ok (.iconst 0, 1) := dgX10_lot_0.2.2.2.2.2.2.1
theorem dX10_lot_12 : decode cX10_lot 12 = .ok (.sipush 255, 3) := dgX10_lot_0.2.2.2.2.2.2.2.1
theorem dX10_lot_15 : decode cX10_lot 15 = .ok (.invokestatic 82, 3) := dgX10_lot_0.2.2.2.2.2.2.2.2.1
theorem dX10_lot_18 : decode cX10_lot 18 = .ok (.ifCond .eq 12, 3) := dgX10_lot_0.2.2.2.2.2.2.2.2.2.1
theorem dX10_lot_21 : decode cX10_lot 21 = .ok (.aload_n 0, 1) := dgX10_lot_0.2.2.2.2.2.2.2.2.2.2.1
theorem dX10_lot_22 : decode cX10_lot 22 = .ok (.getfield 86, 3) := dgX10_lot_0.2.2.2.2.2.2.2.2.2.2.2.1
theorem dX10_lot_25 : decode cX10_lot 25 = .ok (.bipush 40, 2) := dgX10_lot_0.2.2.2.2.2.2.2.2.2.2.2.2.1
theorem dX10_lot_27 : decode cX10_lot 27 = .ok (.if_icmp .lt 5, 3) := dgX10_lot_0.2.2.2.2.2.2.2.2.2.2.2.2.2.1
theorem dX10_lot_30 : decode cX10_lot 30 = .ok (.iconst (-1), 1) := dgX10_lot_0.2.2.2.2.2.2.2.2.2.2.2.2.2.2.1
theorem dX10_lot_31 : decode cX10_lot 31 = .ok (.ireturn, 1) := dgX10_lot_0.2.2.2.2.2.2.2.2.2.2.2.2.2.2.2
theorem dgX10_lot_16 : (decode cX10_lot 32 = .ok (.aload_n 0, 1)) ∧ (decode cX10_lot 33 = .ok (.getfield 11, 3)) ∧ (decode cX10_lot 36 = .ok (.aload_n 0, 1)) ∧ (decode cX10_lot 37 = .ok (.getfield 86, 3)) ∧ (decode cX10_lot 40 = .ok (.new 9, 3)) ∧ (decode cX10_lot 43 = .ok (.dup, 1)) ∧ (decode cX10_lot 44 = .ok (.iload_n 1, 1)) ∧ (decode cX10_lot 45 = .ok (.iload_n 2, 1)) ∧ (decode cX10_lot 46 = .ok (.invokespecial 90, 3)) ∧ (decode cX10_lot 49 = .ok (.aastore, 1)) ∧ (decode cX10_lot 50 = .ok (.aload_n 0, 1)) ∧ (decode cX10_lot 51 = .ok (.dup, 1)) ∧ (decode cX10_lot 52 = .ok (.getfield 86, 3)) ∧ (decode cX10_lot 55 = .ok (.iconst 1, 1)) ∧ (decode cX10_lot 56 = .ok (.iadd, 1)) ∧ (decode cX10_lot 57 = .ok (.putfield 86, 3)) := by decide +kernel
theorem dX10_lot_32 : decode cX10_lot 32 = .ok (.aload_n 0, 1) := dgX10_lot_16.1
theorem dX10_lot_33 : decode cX10_lot 33 = .ok (.getfield 11, 3) := dgX10_lot_16.2.1
theorem dX10_lot_36 : decode cX10_lot 36 = .ok (.aload_n 0, 1) := dgX10_lot_16.2.2.1
theorem dX10_lot_37 : decode cX10_lot 37 = .ok (.getfield 86, 3) := dgX10_lot_16.2.2.2.1
theorem dX10_lot_40 : decode cX10_lot 40 = .ok (.new 9, 3) := dgX10_lot_16.2.2.2.2.1
theorem dX10_lot_43 : decode cX10_lot 43 = .ok (.dup, 1) := dgX10_lot_16.2.2.2.2.2.1
theorem dX10_lot_44 : decode cX10_lot 44 = .ok (.iload_n 1, 1) := dgX10_lot_16.2.2.2.2.2.2.1
theorem dX10_lot_45 : decode cX10_lot 45 = .ok (.iload_n 2, 1) := dgX10_lot_16.2.2.2.2.2.2.2.1
theorem dX10_lot_46 : decode cX10_lot 46 = .ok (.invokespecial 90, 3) := dgX10_lot_16.2.2.2.2.2.2.2.2.1
theorem dX10_lot_49 : decode cX10_lot 49 = .ok (.aastore, 1) := dgX10_lot_16.2.2.2.2.2.2.2.2.2.1
theorem dX10_lot_50 : decode cX10_lot 50 = .ok (.aload_n 0, 1) := dgX10_lot_16.2.2.2.2.2.2.2.2.2.2.1
theorem dX10_lot_51 : decode cX10_lot 51 = .ok (.dup, 1) := dgX10_lot_16.2.2.2.2.2.2.2.2.2.2.2.1
theorem dX10_lot_52 : decode cX10_lot 52 = .ok (.getfield 86, 3) := dgX10_lot_16.2.2.2.2.2.2.2.2.2.2.2.2.1
theorem dX10_lot_55 : decode cX10_lot 55 = .ok (.iconst 1, 1) := dgX10_lot_16.2.2.2.2.2.2.2.2.2.2.2.2.2.1
theorem dX10_lot_56 : decode cX10_lot 56 = .ok (.iadd, 1) := dgX10_lot_16.2.2.2.2.2.2.2.2.2.2.2.2.2.2.1
theorem dX10_lot_57 : decode cX10_lot 57 = .ok (.putfield 86, 3) := dgX10_lot_16.2.2.2.2.2.2.2.2.2.2.2.2.2.2.2
theorem dgX10_lot_32 : (decode cX10_lot 60 = .ok (.aload_n 0, 1)) ∧ (decode cX10_lot 61 = .ok (.getfield 86, 3)) ∧ (decode cX10_lot 64 = .ok (.iconst 1, 1)) ∧ (decode cX10_lot 65 = .ok (.isub, 1)) ∧ (decode cX10_lot 66 = .ok (.ireturn, 1)) := by decide +kernel
theorem dX10_lot_60 : decode cX10_lot 60 = .ok (.aload_n 0, 1) := dgX10_lot_32.1
theorem dX10_lot_61 : decode cX10_lot 61 = .ok (.getfield 86, 3) := dgX10_lot_32.2.1
theorem dX10_lot_64 : decode cX10_lot 64 = .ok (.iconst 1, 1) := dgX10_lot_32.2.2.1
theorem dX10_lot_65 : decode cX10_lot 65 = .ok (.isub, 1) := dgX10_lot_32.2.2.2.1
theorem dX10_lot_66 : decode cX10_lot 66 = .ok (.ireturn, 1) := dgX10_lot_32.2.2.2.2
theorem dgX10_batch_0 : (decode cX10_batch 0 = .ok (.iload_n 1, 1)) ∧ (decode cX10_batch 1 = .ok (.invokestatic 93, 3)) ∧ (decode cX10_batch 4 = .ok (.ifCond .eq 12, 3)) ∧ (decode cX10_batch 7 = .ok (.aload_n 0, 1)) ∧ (decode cX10_batch 8 = .ok (.getfield 97, 3)) ∧ (decode cX10_batch 11 = .ok (.bipush 40, 2)) ∧ (decode cX10_batch 13 = .ok (.if_icmp .lt 5, 3)) ∧ (decode cX10_batch 16 = .ok (.iconst (-1), 1)) ∧ (decode cX10_batch 17 = .ok (.ireturn, 1)) ∧ (decode cX10_batch 18 = .ok (.aload_n 0, 1)) ∧ (decode cX10_batch 19 = .ok (.getfield 17, 3)) ∧ (decode cX10_batch 22 = .ok (.aload_n 0, 1)) ∧ (decode cX10_batch 23 = .ok (.getfield 97, 3)) ∧ (decode cX10_batch 26 = .ok (.new 15, 3)) ∧ (decode cX10_batch 29 = .ok (.dup, 1)) ∧ (decode cX10_batch 30 = .ok (.iload_n 1, 1)) := by decide +kernel
theorem dX10_batch_0 : decode cX10_batch 0 = .ok (.iload_n 1, 1) := dgX10_batch_0.1
theorem dX10_batch_1 : decode cX10_batch 1 = .ok (.invokestatic 93, 3) := dgX10_batch_0.2.1
theorem dX10_batch_4 : decode cX10_batch 4 = .ok (.ifCond .eq 12, 3) := dgX10_batch_0.2.2.1
theorem dX10_batch_7 : decode cX10_batch 7 = .ok (.aload_n 0, 1) := dgX10_batch_0.2.2.2.1
theorem dX10_batch_8 : decode cX10_batch 8 = .ok (.getfield 97, 3) := dgX10_batch_0.2.2.2.2.1
theorem dX10_batch_11 : decode cX10_batch 11 = .ok (.bipush 40, 2) := dgX10_batch_0.2.2.2.2.2.1
theorem dX10_batch_13 : decode cX10_batch 13 = .ok (.if_icmp .lt 5, 3) := dgX10_batch_0.2.2.2.2.2.2.1
theorem dX10_batch_16 : decode cX10_batch 16 = .ok (.iconst (-1), 1) := dgX10_batch_0.2.2.2.2.2.2.2.1
theorem dX10_batch_17 : decode cX10_batch 17 = .ok (.ireturn, 1) := dgX10_batch_0.2.2.2.2.2.2.2.2.1
theorem dX10_batch_18 : decode cX10_batch 18 = .ok (.aload_n 0, 1) := dgX10_batch_0.2.2.2.2.2.2.2.2.2.1
theorem dX10_batch_19 : decode cX10_batch 19 = .ok (.getfield 17, 3) := dgX10_batch_0.2.2.2.2.2.2.2.2.2.2.1
theorem dX10_batch_22 : decode cX10_batch 22 = .ok (.aload_n 0, 1) := dgX10_batch_0.2.2.2.2.2.2.2.2.2.2.2.1
theorem dX10_batch_23 : decode cX10_batch 23 = .ok (.getfield 97, 3) := dgX10_batch_0.2.2.2.2.2.2.2.2.2.2.2.2.1
theorem dX10_batch_26 : decode cX10_batch 26 = .ok (.new 15, 3) := dgX10_batch_0.2.2.2.2.2.2.2.2.2.2.2.2.2.1
theorem dX10_batch_29 : decode cX10_batch 29 = .ok (.dup, 1) := dgX10_batch_0.2.2.2.2.2.2.2.2.2.2.2.2.2.2.1
theorem dX10_batch_30 : decode cX10_batch 30 = .ok (.iload_n 1, 1) := dgX10_batch_0.2.2.2.2.2.2.2.2.2.2.2.2.2.2.2
theorem dgX10_batch_16 : (decode cX10_batch 31 = .ok (.invokespecial 100, 3)) ∧ (decode cX10_batch 34 = .ok (.aastore, 1)) ∧ (decode cX10_batch 35 = .ok (.aload_n 0, 1)) ∧ (decode cX10_batch 36 = .ok (.dup, 1)) ∧ (decode cX10_batch 37 = .ok (.getfield 97, 3)) ∧ (decode cX10_batch 40 = .ok (.iconst 1, 1)) ∧ (decode cX10_batch 41 = .ok (.iadd, 1)) ∧ (decode cX10_batch 42 = .ok (.putfield 97, 3)) ∧ (decode cX10_batch 45 = .ok (.aload_n 0, 1)) ∧ (decode cX10_batch 46 = .ok (.getfield 97, 3)) ∧ (decode cX10_batch 49 = .ok (.iconst 1, 1)) ∧ (decode cX10_batch 50 = .ok (.isub, 1)) ∧ (decode cX10_batch 51 = .ok (.ireturn, 1)) := by decide +kernel
theorem dX10_batch_31 : decode cX10_batch 31 = .ok (.invokespecial 100, 3) := dgX10_batch_16.1
theorem dX10_batch_34 : decode cX10_batch 34 = .ok (.aastore, 1) := dgX10_batch_16.2.1
theorem dX10_batch_35 : decode cX10_batch 35 = .ok (.aload_n 0, 1) := dgX10_batch_16.2.2.1
theorem dX10_batch_36 : decode cX10_batch 36 = .ok (.dup, 1) := dgX10_batch_16.2.2.2.1
theorem dX10_batch_37 : decode cX10_batch 37 = .ok (.getfield 97, 3) := dgX10_batch_16.2.2.2.2.1
theorem dX10_batch_40 : decode cX10_batch 40 = .ok (.iconst 1, 1) := dgX10_batch_16.2.2.2.2.2.1
theorem dX10_batch_41 : decode cX10_batch 41 = .ok (.iadd, 1) := dgX10_batch_16.2.2.2.2.2.2.1
theorem dX10_batch_42 : decode cX10_batch 42 = .ok (.putfield 97, 3) := dgX10_batch_16.2.2.2.2.2.2.2.1
theorem dX10_batch_45 : decode cX10_batch 45 = .ok (.aload_n 0, 1) := dgX10_batch_16.2.2.2.2.2.2.2.2.1
theorem dX10_batch_46 : decode cX10_batch 46 = .ok (.getfield 97, 3) := dgX10_batch_16.2.2.2.2.2.2.2.2.2.1
theorem dX10_batch_49 : decode cX10_batch 49 = .ok (.iconst 1, 1) := dgX10_batch_16.2.2.2.2.2.2.2.2.2.2.1
theorem dX10_batch_50 : decode cX10_batch 50 = .ok (.isub, 1) := dgX10_batch_16.2.2.2.2.2.2.2.2.2.2.2.1
theorem dX10_batch_51 : decode cX10_batch 51 = .ok (.ireturn, 1) := dgX10_batch_16.2.2.2.2.2.2.2.2.2.2.2.2
theorem dgX10_put_0 : (decode cX10_put 0 = .ok (.aload_n 0, 1)) ∧ (decode cX10_put 1 = .ok (.iload_n 1, 1)) ∧ (decode cX10_put 2 = .ok (.invokevirtual 103, 3)) ∧ (decode cX10_put 5 = .ok (.astore 4, 2)) ∧ (decode cX10_put 7 = .ok (.aload_n 0, 1)) ∧ (decode cX10_put 8 = .ok (.iload_n 2, 1)) ∧ (decode cX10_put 9 = .ok (.invokevirtual 107, 3)) ∧ (decode cX10_put 12 = .ok (.astore 5, 2)) ∧ (decode cX10_put 14 = .ok (.aload 4, 2)) ∧ (decode cX10_put 16 = .ok (.ifnull 21, 3)) ∧ (decode cX10_put 19 = .ok (.aload 5, 2)) ∧ (decode cX10_put 21 = .ok (.ifnull 16, 3)) ∧ (decode cX10_put 24 = .ok (.iload_n 3, 1)) ∧ (decode cX10_put 25 = .ok (.iconst 1, 1)) ∧ (decode cX10_put 26 = .ok (.aload 5, 2)) ∧ (decode cX10_put 28 = .ok (.getfield 111, 3)) := by decide +kernel
theorem dX10_put_0 : decode cX10_put 0 = .ok (.aload_n 0, 1) := dgX10_put_0.1
theorem dX10_put_1 : decode cX10_put 1 = .ok (.iload_n 1, 1) := dgX10_put_0.2.1
theorem dX10_put_2 : decode cX10_put 2 = .ok (.invokevirtual 103, 3) := dgX10_put_0.2.2.1
theorem dX10_put_5 : decode cX10_put 5 = .ok (.astore 4, 2) := dgX10_put_0.2.2.2.1
theorem dX10_put_7 : decode cX10_put 7 = .ok (.aload_n 0, 1) := dgX10_put_0.2.2.2.2.1
theorem dX10_put_8 : decode cX10_put 8 = .ok (.iload_n 2, 1) := dgX10_put_0.2.2.2.2.2.1
theorem dX10_put_9 : decode cX10_put 9 = .ok (.invokevirtual 107, 3) := dgX10_put_0.2.2.2.2.2.2.1
theorem dX10_put_12 : decode cX10_put 12 = .ok (.astore 5, 2) := dgX10_put_0.2.2.2.2.2.2.2.1
theorem dX10_put_14 : decode cX10_put 14 = .ok (.aload 4, 2) := dgX10_put_0.2.2.2.2.2.2.2.2.1
theorem dX10_put_16 : decode cX10_put 16 = .ok (.ifnull 21, 3) := dgX10_put_0.2.2.2.2.2.2.2.2.2.1
theorem dX10_put_19 : decode cX10_put 19 = .ok (.aload 5, 2) := dgX10_put_0.2.2.2.2.2.2.2.2.2.2.1
theorem dX10_put_21 : decode cX10_put 21 = .ok (.ifnull 16, 3) := dgX10_put_0.2.2.2.2.2.2.2.2.2.2.2.1
theorem dX10_put_24 : decode cX10_put 24 = .ok (.iload_n 3, 1) := dgX10_put_0.2.2.2.2.2.2.2.2.2.2.2.2.1
theorem dX10_put_25 : decode cX10_put 25 = .ok (.iconst 1, 1) := dgX10_put_0.2.2.2.2.2.2.2.2.2.2.2.2.2.1
theorem dX10_put_26 : decode cX10_put 26 = .ok (.aload 5, 2) := dgX10_put_0.2.2.2.2.2.2.2.2.2.2.2.2.2.2.1
theorem dX10_put_28 : decode cX10_put 28 = .ok (.getfield 111, 3) := dgX10_put_0.2.2.2.2.2.2.2.2.2.2.2.2.2.2.2
theorem dgX10_put_16 : (decode cX10_put 31 = .ok (.invokestatic 82, 3)) ∧ (decode cX10_put 34 = .ok (.ifCond .ne 5, 3)) ∧ (decode cX10_put 37 = .ok (.iconst (-1), 1)) ∧ (decode cX10_put 38 = .ok (.ireturn, 1)) ∧ (decode cX10_put 39 = .ok (.aload 5, 2)) ∧ (decode cX10_put 41 = .ok (.dup, 1)) ∧ (decode cX10_put 42 = .ok (.getfield 111, 3)) ∧ (decode cX10_put 45 = .ok (.iload_n 3, 1)) ∧ (decode cX10_put 46 = .ok (.isub, 1)) ∧ (decode cX10_put 47 = .ok (.putfield 111, 3)) ∧ (decode cX10_put 50 = .ok (.aload 4, 2)) ∧ (decode cX10_put 52 = .ok (.dup, 1)) ∧ (decode cX10_put 53 = .ok (.getfield 114, 3)) ∧ (decode cX10_put 56 = .ok (.iload_n 3, 1)) ∧ (decode cX10_put 57 = .ok (.iadd, 1)) ∧ (decode cX10_put 58 = .ok (.putfield 114, 3)) := by decide +kernel
theorem dX10_put_31 : decode cX10_put 31 = .ok (.invokestatic 82, 3) := dgX10_put_16.1
theorem dX10_put_34 : decode cX10_put 34 = .ok (.ifCond .ne 5, 3) := dgX10_put_16.2.1
theorem dX10_put_37 : decode cX10_put 37 = .ok (.iconst (-1), 1) := dgX10_put_16.2.2.1
theorem dX10_put_38 : decode cX10_put 38 = .ok (.ireturn, 1) := dgX10_put_16.2.2.2.1
theorem dX10_put_39 : decode cX10_put 39 = .ok (.aload 5, 2) := dgX10_put_16.2.2.2.2.1
theorem dX10_put_41 : decode cX10_put 41 = .ok (.dup, 1) := dgX10_put_16.2.2.2.2.2.1
theorem dX10_put_42 : decode cX10_put 42 = .ok (.getfield 111, 3) := dgX10_put_16.2.2.2.2.2.2.1
theorem dX10_put_45 : decode cX10_put 45 = .ok (.iload_n 3, 1) := dgX10_put_16.2.2.2.2.2.2.2.1
theorem dX10_put_46 : decode cX10_put 46 = .ok (.isub, 1) := dgX10_put_16.2.2.2.2.2.2.2.2.1
theorem dX10_put_47 : decode cX10_put 47 = .ok (.putfield 111, 3) := dgX10_put_16.2.2.2.2.2.2.2.2.2.1
theorem dX10_put_50 : decode cX10_put 50 = .ok (.aload 4, 2) := dgX10_put_16.2.2.2.2.2.2.2.2.2.2.1
theorem dX10_put_52 : decode cX10_put 52 = .ok (.dup, 1) := dgX10_put_16.2.2.2.2.2.2.2.2.2.2.2.1
theorem dX10_put_53 : decode cX10_put 53 = .ok (.getfield 114, 3) := dgX10_put_16.2.2.2.2.2.2.2.2.2.2.2.2.1
theorem dX10_put_56 : decode cX10_put 56 = .ok (.iload_n 3, 1) := dgX10_put_16.2.2.2.2.2.2.2.2.2.2.2.2.2.1
theorem dX10_put_57 : decode cX10_put 57 = .ok (.iadd, 1) := dgX10_put_16.2.2.2.2.2.2.2.2.2.2.2.2.2.2.1
theorem dX10_put_58 : decode cX10_put 58 = .ok (.putfield 114, 3) := dgX10_put_16.2.2.2.2.2.2.2.2.2.2.2.2.2.2.2
theorem dgX10_put_32 : (decode cX10_put 61 = .ok (.aload 4, 2)) ∧ (decode cX10_put 63 = .ok (.dup, 1)) ∧ (decode cX10_put 64 = .ok (.getfield 117, 3)) ∧ (decode cX10_put 67 = .ok (.iload_n 3, 1)) ∧ (decode cX10_put 68 = .ok (.iadd, 1)) ∧ (decode cX10_put 69 = .ok (.putfield 117, 3)) ∧ (decode cX10_put 72 = .ok (.aload 4, 2)) ∧ (decode cX10_put 74 = .ok (.dup, 1)) ∧ (decode cX10_put 75 = .ok (.getfield 120, 3)) ∧ (decode cX10_put 78 = .ok (.lconst 1, 1)) ∧ (decode cX10_put 79 = .ok (.iload_n 2, 1)) ∧ (decode cX10_put 80 = .ok (.lshl, 1)) ∧ (decode cX10_put 81 = .ok (.lor, 1)) ∧ (decode cX10_put 82 = .ok (.putfield 120, 3)) ∧ (decode cX10_put 85 = .ok (.aload 4, 2)) ∧ (decode cX10_put 87 = .ok (.getfield 114, 3)) := by decide +kernel
theorem dX10_put_61 : decode cX10_put 61 = .ok (.aload 4, 2) := dgX10_put_32.1
theorem dX10_put_63 : decode cX10_put 63 = .ok (.dup, 1) := dgX10_put_32.2.1
theorem dX10_put_64 : decode cX10_put 64 = .ok (.getfield 117, 3) := dgX10_put_32.2.2.1
theorem dX10_put_67 : decode cX10_put 67 = .ok (.iload_n 3, 1) := dgX10_put_32.2.2.2.1
theorem dX10_put_68 : decode cX10_put 68 = .ok (.iadd, 1) := dgX10_put_32.2.2.2.2.1
theorem dX10_put_69 : decode cX10_put 69 = .ok (.putfield 117, 3) := dgX10_put_32.2.2.2.2.2.1
theorem dX10_put_72 : decode cX10_put 72 = .ok (.aload 4, 2) := dgX10_put_32.2.2.2.2.2.2.1
theorem dX10_put_74 : decode cX10_put 74 = .ok (.dup, 1) := dgX10_put_32.2.2.2.2.2.2.2.1
theorem dX10_put_75 : decode cX10_put 75 = .ok (.getfield 120, 3) := dgX10_put_32.2.2.2.2.2.2.2.2.1
theorem dX10_put_78 : decode cX10_put 78 = .ok (.lconst 1, 1) := dgX10_put_32.2.2.2.2.2.2.2.2.2.1
theorem dX10_put_79 : decode cX10_put 79 = .ok (.iload_n 2, 1) := dgX10_put_32.2.2.2.2.2.2.2.2.2.2.1
theorem dX10_put_80 : decode cX10_put 80 = .ok (.lshl, 1) := dgX10_put_32.2.2.2.2.2.2.2.2.2.2.2.1
theorem dX10_put_81 : decode cX10_put 81 = .ok (.lor, 1) := dgX10_put_32.2.2.2.2.2.2.2.2.2.2.2.2.1
theorem dX10_put_82 : decode cX10_put 82 = .ok (.putfield 120, 3) := dgX10_put_32.2.2.2.2.2.2.2.2.2.2.2.2.2.1
theorem dX10_put_85 : decode cX10_put 85 = .ok (.aload 4, 2) := dgX10_put_32.2.2.2.2.2.2.2.2.2.2.2.2.2.2.1
theorem dX10_put_87 : decode cX10_put 87 = .ok (.getfield 114, 3) := dgX10_put_32.2.2.2.2.2.2.2.2.2.2.2.2.2.2.2
theorem dX10_put_90 : decode cX10_put 90 = .ok (.ireturn, 1) := by decide +kernel
theorem dgX10_row_0 : (decode cX10_row 0 = .ok (.aload_n 0, 1)) ∧ (decode cX10_row 1 = .ok (.iload_n 1, 1)) ∧ (decode cX10_row 2 = .ok (.invokevirtual 103, 3)) ∧ (decode cX10_row 5 = .ok (.astore 4, 2)) ∧ (decode cX10_row 7 = .ok (.aload 4, 2)) ∧ (decode cX10_row 9 = .ok (.ifnull 13, 3)) ∧ (decode cX10_row 12 = .ok (.iload_n 3, 1)) ∧ (decode cX10_row 13 = .ok (.iconst (-1), 1)) ∧ (decode cX10_row 14 = .ok (.bipush 60, 2)) ∧ (decode cX10_row 16 = .ok (.invokestatic 82, 3)) ∧ (decode cX10_row 19 = .ok (.ifCond .ne 5, 3)) ∧ (decode cX10_row 22 = .ok (.iconst 0, 1)) ∧ (decode cX10_row 23 = .ok (.ireturn, 1)) ∧ (decode cX10_row 24 = .ok (.iload_n 3, 1)) ∧ (decode cX10_row 25 = .ok (.iconst 0, 1)) ∧ (decode cX10_row 26 = .ok (.invokestatic 123, 3)) := by decide +kernel
theorem dX10_row_0 : decode cX10_row 0 = .ok (.aload_n 0, 1) := dgX10_row_0.1
theorem dX10_row_1 : decode cX10_row 1 = .ok (.iload_n 1, 1) := dgX10_row_0.2.1
theorem dX10_row_2 : decode cX10_row 2 = .ok (.invokevirtual 103, 3) := dgX10_row_0.2.2.1
theorem dX10_row_5 : decode cX10_row 5 = .ok (.astore 4, 2) := dgX10_row_0.2.2.2.1
theorem dX10_row_7 : decode cX10_row 7 = .ok (.aload 4, 2) := dgX10_row_0.2.2.2.2.1
theorem dX10_row_9 : decode cX10_row 9 = .ok (.ifnull 13, 3) := dgX10_row_0.2.2.2.2.2.1
theorem dX10_row_12 : decode cX10_row 12 = .ok (.iload_n 3, 1) := dgX10_row_0.2.2.2.2.2.2.1
theorem dX10_row_13 : decode cX10_row 13 = .ok (.iconst (-1), 1) := dgX10_row_0.2.2.2.2.2.2.2.1
theorem dX10_row_14 : decode cX10_row 14 = .ok (.bipush 60, 2) := dgX10_row_0.2.2.2.2.2.2.2.2.1
theorem dX10_row_16 : decode cX10_row 16 = .ok (.invokestatic 82, 3) := dgX10_row_0.2.2.2.2.2.2.2.2.2.1
theorem dX10_row_19 : decode cX10_row 19 = .ok (.ifCond .ne 5, 3) := dgX10_row_0.2.2.2.2.2.2.2.2.2.2.1
theorem dX10_row_22 : decode cX10_row 22 = .ok (.iconst 0, 1) := dgX10_row_0.2.2.2.2.2.2.2.2.2.2.2.1
theorem dX10_row_23 : decode cX10_row 23 = .ok (.ireturn, 1) := dgX10_row_0.2.2.2.2.2.2.2.2.2.2.2.2.1
theorem dX10_row_24 : decode cX10_row 24 = .ok (.iload_n 3, 1) := dgX10_row_0.2.2.2.2.2.2.2.2.2.2.2.2.2.1
theorem dX10_row_25 : decode cX10_row 25 = .ok (.iconst 0, 1) := dgX10_row_0.2.2.2.2.2.2.2.2.2.2.2.2.2.2.1
theorem dX10_row_26 : decode cX10_row 26 = .ok (.invokestatic 123, 3) := dgX10_row_0.2.2.2.2.2.2.2.2.2.2.2.2.2.2.2
theorem dgX10_row_16 : (decode cX10_row 29 = .ok (.istore 5, 2)) ∧ (decode cX10_row 31 = .ok (.iload_n 2, 1)) ∧ (decode cX10_row 32 = .ok (.ifCond .ne 15, 3)) ∧ (decode cX10_row 35 = .ok (.aload 4, 2)) ∧ (decode cX10_row 37 = .ok (.getfield 129, 3)) ∧ (decode cX10_row 40 = .ok (.iload 5, 2)) ∧ (decode cX10_row 42 = .ok (.invokevirtual 133, 3)) ∧ (decode cX10_row 45 = .ok (.iconst 1, 1)) ∧ (decode cX10_row 46 = .ok (.ireturn, 1)) ∧ (decode cX10_row 47 = .ok (.iload_n 2, 1)) ∧ (decode cX10_row 48 = .ok (.iconst 1, 1)) ∧ (decode cX10_row 49 = .ok (.if_icmp .ne 15, 3)) ∧ (decode cX10_row 52 = .ok (.aload 4, 2)) ∧ (decode cX10_row 54 = .ok (.getfield 129, 3)) ∧ (decode cX10_row 57 = .ok (.iload 5, 2)) ∧ (decode cX10_row 59 = .ok (.invokevirtual 138, 3)) := by decide +kernel
theorem dX10_row_29 : decode cX10_row 29 = .ok (.istore 5, 2) := dgX10_row_16.1
theorem dX10_row_31 : decode cX10_row 31 = .ok (.iload_n 2, 1) := dgX10_row_16.2.1
theorem dX10_row_32 : decode cX10_row 32 = .ok (.ifCond .ne 15, 3) := dgX10_row_16.2.2.1
theorem dX10_row_35 : decode cX10_row 35 = .ok (.aload 4, 2) := dgX10_row_16.2.2.2.1
theorem dX10_row_37 : decode cX10_row 37 = .ok (.getfield 129, 3) := dgX10_row_16.2.2.2.2.1
theorem dX10_row_40 : decode cX10_row 40 = .ok (.iload 5, 2) := dgX10_row_16.2.2.2.2.2.1
theorem dX10_row_42 : decode cX10_row 42 = .ok (.invokevirtual 133, 3) := dgX10_row_16.2.2.2.2.2.2.1
theorem dX10_row_45 : decode cX10_row 45 = .ok (.iconst 1, 1) := dgX10_row_16.2.2.2.2.2.2.2.1
theorem dX10_row_46 : decode cX10_row 46 = .ok (.ireturn, 1) := dgX10_row_16.2.2.2.2.2.2.2.2.1
theorem dX10_row_47 : decode cX10_row 47 = .ok (.iload_n 2, 1) := dgX10_row_16.2.2.2.2.2.2.2.2.2.1
theorem dX10_row_48 : decode cX10_row 48 = .ok (.iconst 1, 1) := dgX10_row_16.2.2.2.2.2.2.2.2.2.2.1
theorem dX10_row_49 : decode cX10_row 49 = .ok (.if_icmp .ne 15, 3) := dgX10_row_16.2.2.2.2.2.2.2.2.2.2.2.1
theorem dX10_row_52 : decode cX10_row 52 = .ok (.aload 4, 2) := dgX10_row_16.2.2.2.2.2.2.2.2.2.2.2.2.1
theorem dX10_row_54 : decode cX10_row 54 = .ok (.getfield 129, 3) := dgX10_row_16.2.2.2.2.2.2.2.2.2.2.2.2.2.1
theorem dX10_row_57 : decode cX10_row 57 = .ok (.iload 5, 2) := dgX10_row_16.2.2.2.2.2.2.2.2.2.2.2.2.2.2.1
theorem dX10_row_59 : decode cX10_row 59 = .ok (.invokevirtual 138, 3) := dgX10_row_16.2.2.2.2.2.2.2.2.2.2.2.2.2.2.2
theorem dgX10_row_32 : (decode cX10_row 62 = .ok (.iconst 1, 1)) ∧ (decode cX10_row 63 = .ok (.ireturn, 1)) ∧ (decode cX10_row 64 = .ok (.iconst 0, 1)) ∧ (decode cX10_row 65 = .ok (.ireturn, 1)) := by decide +kernel
theorem dX10_row_62 : decode cX10_row 62 = .ok (.iconst 1, 1) := dgX10_row_32.1
theorem dX10_row_63 : decode cX10_row 63 = .ok (.ireturn, 1) := dgX10_row_32.2.1
theorem dX10_row_64 : decode cX10_row 64 = .ok (.iconst 0, 1) := dgX10_row_32.2.2.1
theorem dX10_row_65 : decode cX10_row 65 = .ok (.ireturn, 1) := dgX10_row_32.2.2.2
theorem dgX10_tick_0 : (decode cX10_tick 0 = .ok (.aload_n 0, 1)) ∧ (decode cX10_tick 1 = .ok (.iload_n 1, 1)) ∧ (decode cX10_tick 2 = .ok (.invokevirtual 103, 3)) ∧ (decode cX10_tick 5 = .ok (.astore 4, 2)) ∧ (decode cX10_tick 7 = .ok (.aload 4, 2)) ∧ (decode cX10_tick 9 = .ok (.ifnull 15, 3)) ∧ (decode cX10_tick 12 = .ok (.aload 4, 2)) ∧ (decode cX10_tick 14 = .ok (.getfield 129, 3)) ∧ (decode cX10_tick 17 = .ok (.iload_n 2, 1)) ∧ (decode cX10_tick 18 = .ok (.invokevirtual 141, 3)) ∧ (decode cX10_tick 21 = .ok (.ifCond .ne 5, 3)) ∧ (decode cX10_tick 24 = .ok (.iconst 0, 1)) ∧ (decode cX10_tick 25 = .ok (.ireturn, 1)) ∧ (decode cX10_tick 26 = .ok (.aload 4, 2)) ∧ (decode cX10_tick 28 = .ok (.getfield 129, 3)) ∧ (decode cX10_tick 31 = .ok (.getfield 144, 3)) := by decide +kernel
theorem dX10_tick_0 : decode cX10_tick 0 = .ok (.aload_n 0, 1) := dgX10_tick_0.1
theorem dX10_tick_1 : decode cX10_tick 1 = .ok (.iload_n 1, 1) := dgX10_tick_0.2.1
theorem dX10_tick_2 : decode cX10_tick 2 = .ok (.invokevirtual 103, 3) := dgX10_tick_0.2.2.1
theorem dX10_tick_5 : decode cX10_tick 5 = .ok (.astore 4, 2) := dgX10_tick_0.2.2.2.1
theorem dX10_tick_7 : decode cX10_tick 7 = .ok (.aload 4, 2) := dgX10_tick_0.2.2.2.2.1
theorem dX10_tick_9 : decode cX10_tick 9 = .ok (.ifnull 15, 3) := dgX10_tick_0.2.2.2.2.2.1
theorem dX10_tick_12 : decode cX10_tick 12 = .ok (.aload 4, 2) := dgX10_tick_0.2.2.2.2.2.2.1
theorem dX10_tick_14 : decode cX10_tick 14 = .ok (.getfield 129, 3) := dgX10_tick_0.2.2.2.2.2.2.2.1
theorem dX10_tick_17 : decode cX10_tick 17 = .ok (.iload_n 2, 1) := dgX10_tick_0.2.2.2.2.2.2.2.2.1
theorem dX10_tick_18 : decode cX10_tick 18 = .ok (.invokevirtual 141, 3) := dgX10_tick_0.2.2.2.2.2.2.2.2.2.1
theorem dX10_tick_21 : decode cX10_tick 21 = .ok (.ifCond .ne 5, 3) := dgX10_tick_0.2.2.2.2.2.2.2.2.2.2.1
theorem dX10_tick_24 : decode cX10_tick 24 = .ok (.iconst 0, 1) := dgX10_tick_0.2.2.2.2.2.2.2.2.2.2.2.1
theorem dX10_tick_25 : decode cX10_tick 25 = .ok (.ireturn, 1) := dgX10_tick_0.2.2.2.2.2.2.2.2.2.2.2.2.1
theorem dX10_tick_26 : decode cX10_tick 26 = .ok (.aload 4, 2) := dgX10_tick_0.2.2.2.2.2.2.2.2.2.2.2.2.2.1
theorem dX10_tick_28 : decode cX10_tick 28 = .ok (.getfield 129, 3) := dgX10_tick_0.2.2.2.2.2.2.2.2.2.2.2.2.2.2.1
theorem dX10_tick_31 : decode cX10_tick 31 = .ok (.getfield 144, 3) := dgX10_tick_0.2.2.2.2.2.2.2.2.2.2.2.2.2.2.2
theorem dgX10_tick_16 : (decode cX10_tick 34 = .ok (.iload_n 2, 1)) ∧ (decode cX10_tick 35 = .ok (.iload_n 3, 1)) ∧ (decode cX10_tick 36 = .ok (.iastore, 1)) ∧ (decode cX10_tick 37 = .ok (.iconst 1, 1)) ∧ (decode cX10_tick 38 = .ok (.ireturn, 1)) := by decide +kernel
theorem dX10_tick_34 : decode cX10_tick 34 = .ok (.iload_n 2, 1) := dgX10_tick_16.1
theorem dX10_tick_35 : decode cX10_tick 35 = .ok (.iload_n 3, 1) := dgX10_tick_16.2.1
theorem dX10_tick_36 : decode cX10_tick 36 = .ok (.iastore, 1) := dgX10_tick_16.2.2.1
theorem dX10_tick_37 : decode cX10_tick 37 = .ok (.iconst 1, 1) := dgX10_tick_16.2.2.2.1
theorem dX10_tick_38 : decode cX10_tick 38 = .ok (.ireturn, 1) := dgX10_tick_16.2.2.2.2
theorem dgX10_stir_0 : (decode cX10_stir 0 = .ok (.aload_n 0, 1)) ∧ (decode cX10_stir 1 = .ok (.iload_n 1, 1)) ∧ (decode cX10_stir 2 = .ok (.invokevirtual 103, 3)) ∧ (decode cX10_stir 5 = .ok (.astore 4, 2)) ∧ (decode cX10_stir 7 = .ok (.aload 4, 2)) ∧ (decode cX10_stir 9 = .ok (.ifnull 15, 3)) ∧ (decode cX10_stir 12 = .ok (.aload 4, 2)) ∧ (decode cX10_stir 14 = .ok (.getfield 129, 3)) ∧ (decode cX10_stir 17 = .ok (.iload_n 2, 1)) ∧ (decode cX10_stir 18 = .ok (.invokevirtual 147, 3)) ∧ (decode cX10_stir 21 = .ok (.ifCond .ne 5, 3)) ∧ (decode cX10_stir 24 = .ok (.iconst 0, 1)) ∧ (decode cX10_stir 25 = .ok (.ireturn, 1)) ∧ (decode cX10_stir 26 = .ok (.aload 4, 2)) ∧ (decode cX10_stir 28 = .ok (.getfield 129, 3)) ∧ (decode cX10_stir 31 = .ok (.getfield 150, 3)) := by decide +kernel
theorem dX10_stir_0 : decode cX10_stir 0 = .ok (.aload_n 0, 1) := dgX10_stir_0.1
theorem dX10_stir_1 : decode cX10_stir 1 = .ok (.iload_n 1, 1) := dgX10_stir_0.2.1
theorem dX10_stir_2 : decode cX10_stir 2 = .ok (.invokevirtual 103, 3) := dgX10_stir_0.2.2.1
theorem dX10_stir_5 : decode cX10_stir 5 = .ok (.astore 4, 2) := dgX10_stir_0.2.2.2.1
theorem dX10_stir_7 : decode cX10_stir 7 = .ok (.aload 4, 2) := dgX10_stir_0.2.2.2.2.1
theorem dX10_stir_9 : decode cX10_stir 9 = .ok (.ifnull 15, 3) := dgX10_stir_0.2.2.2.2.2.1
theorem dX10_stir_12 : decode cX10_stir 12 = .ok (.aload 4, 2) := dgX10_stir_0.2.2.2.2.2.2.1
theorem dX10_stir_14 : decode cX10_stir 14 = .ok (.getfield 129, 3) := dgX10_stir_0.2.2.2.2.2.2.2.1
theorem dX10_stir_17 : decode cX10_stir 17 = .ok (.iload_n 2, 1) := dgX10_stir_0.2.2.2.2.2.2.2.2.1
theorem dX10_stir_18 : decode cX10_stir 18 = .ok (.invokevirtual 147, 3) := dgX10_stir_0.2.2.2.2.2.2.2.2.2.1
theorem dX10_stir_21 : decode cX10_stir 21 = .ok (.ifCond .ne 5, 3) := dgX10_stir_0.2.2.2.2.2.2.2.2.2.2.1
theorem dX10_stir_24 : decode cX10_stir 24 = .ok (.iconst 0, 1) := dgX10_stir_0.2.2.2.2.2.2.2.2.2.2.2.1
theorem dX10_stir_25 : decode cX10_stir 25 = .ok (.ireturn, 1) := dgX10_stir_0.2.2.2.2.2.2.2.2.2.2.2.2.1
theorem dX10_stir_26 : decode cX10_stir 26 = .ok (.aload 4, 2) := dgX10_stir_0.2.2.2.2.2.2.2.2.2.2.2.2.2.1
theorem dX10_stir_28 : decode cX10_stir 28 = .ok (.getfield 129, 3) := dgX10_stir_0.2.2.2.2.2.2.2.2.2.2.2.2.2.2.1
theorem dX10_stir_31 : decode cX10_stir 31 = .ok (.getfield 150, 3) := dgX10_stir_0.2.2.2.2.2.2.2.2.2.2.2.2.2.2.2
theorem dgX10_stir_16 : (decode cX10_stir 34 = .ok (.iload_n 2, 1)) ∧ (decode cX10_stir 35 = .ok (.iload_n 3, 1)) ∧ (decode cX10_stir 36 = .ok (.bastore, 1)) ∧ (decode cX10_stir 37 = .ok (.iconst 1, 1)) ∧ (decode cX10_stir 38 = .ok (.ireturn, 1)) := by decide +kernel
theorem dX10_stir_34 : decode cX10_stir 34 = .ok (.iload_n 2, 1) := dgX10_stir_16.1
theorem dX10_stir_35 : decode cX10_stir 35 = .ok (.iload_n 3, 1) := dgX10_stir_16.2.1
theorem dX10_stir_36 : decode cX10_stir 36 = .ok (.bastore, 1) := dgX10_stir_16.2.2.1
theorem dX10_stir_37 : decode cX10_stir 37 = .ok (.iconst 1, 1) := dgX10_stir_16.2.2.2.1
theorem dX10_stir_38 : decode cX10_stir 38 = .ok (.ireturn, 1) := dgX10_stir_16.2.2.2.2
theorem dgX10_table_0 : (decode cX10_table 0 = .ok (.aload_n 0, 1)) ∧ (decode cX10_table 1 = .ok (.getfield 43, 3)) ∧ (decode cX10_table 4 = .ok (.iload_n 1, 1)) ∧ (decode cX10_table 5 = .ok (.iload_n 2, 1)) ∧ (decode cX10_table 6 = .ok (.invokevirtual 154, 3)) ∧ (decode cX10_table 9 = .ok (.ireturn, 1)) := by decide +kernel
theorem dX10_table_0 : decode cX10_table 0 = .ok (.aload_n 0, 1) := dgX10_table_0.1
theorem dX10_table_1 : decode cX10_table 1 = .ok (.getfield 43, 3) := dgX10_table_0.2.1
theorem dX10_table_4 : decode cX10_table 4 = .ok (.iload_n 1, 1) := dgX10_table_0.2.2.1
theorem dX10_table_5 : decode cX10_table 5 = .ok (.iload_n 2, 1) := dgX10_table_0.2.2.2.1
theorem dX10_table_6 : decode cX10_table 6 = .ok (.invokevirtual 154, 3) := dgX10_table_0.2.2.2.2.1
theorem dX10_table_9 : decode cX10_table 9 = .ok (.ireturn, 1) := dgX10_table_0.2.2.2.2.2
theorem dgX10_grain_0 : (decode cX10_grain 0 = .ok (.aload_n 0, 1)) ∧ (decode cX10_grain 1 = .ok (.getfield 43, 3)) ∧ (decode cX10_grain 4 = .ok (.iload_n 1, 1)) ∧ (decode cX10_grain 5 = .ok (.putfield 157, 3)) ∧ (decode cX10_grain 8 = .ok (.aload_n 0, 1)) ∧ (decode cX10_grain 9 = .ok (.getfield 43, 3)) ∧ (decode cX10_grain 12 = .ok (.iload_n 2, 1)) ∧ (decode cX10_grain 13 = .ok (.putfield 160, 3)) ∧ (decode cX10_grain 16 = .ok (.iconst 1, 1)) ∧ (decode cX10_grain 17 = .ok (.ireturn, 1)) := by decide +kernel
theorem dX10_grain_0 : decode cX10_grain 0 = .ok (.aload_n 0, 1) := dgX10_grain_0.1
theorem dX10_grain_1 : decode cX10_grain 1 = .ok (.getfield 43, 3) := dgX10_grain_0.2.1
theorem dX10_grain_4 : decode cX10_grain 4 = .ok (.iload_n 1, 1) := dgX10_grain_0.2.2.1
theorem dX10_grain_5 : decode cX10_grain 5 = .ok (.putfield 157, 3) := dgX10_grain_0.2.2.2.1
theorem dX10_grain_8 : decode cX10_grain 8 = .ok (.aload_n 0, 1) := dgX10_grain_0.2.2.2.2.1
theorem dX10_grain_9 : decode cX10_grain 9 = .ok (.getfield 43, 3) := dgX10_grain_0.2.2.2.2.2.1
theorem dX10_grain_12 : decode cX10_grain 12 = .ok (.iload_n 2, 1) := dgX10_grain_0.2.2.2.2.2.2.1
theorem dX10_grain_13 : decode cX10_grain 13 = .ok (.putfield 160, 3) := dgX10_grain_0.2.2.2.2.2.2.2.1
theorem dX10_grain_16 : decode cX10_grain 16 = .ok (.iconst 1, 1) := dgX10_grain_0.2.2.2.2.2.2.2.2.1
theorem dX10_grain_17 : decode cX10_grain 17 = .ok (.ireturn, 1) := dgX10_grain_0.2.2.2.2.2.2.2.2.2
theorem dgX10_bounds_0 : (decode cX10_bounds 0 = .ok (.iload_n 1, 1)) ∧ (decode cX10_bounds 1 = .ok (.invokestatic 93, 3)) ∧ (decode cX10_bounds 4 = .ok (.ifCond .ne 5, 3)) ∧ (decode cX10_bounds 7 = .ok (.iconst 0, 1)) ∧ (decode cX10_bounds 8 = .ok (.ireturn, 1)) ∧ (decode cX10_bounds 9 = .ok (.aload_n 0, 1)) ∧ (decode cX10_bounds 10 = .ok (.getfield 43, 3)) ∧ (decode cX10_bounds 13 = .ok (.getfield 163, 3)) ∧ (decode cX10_bounds 16 = .ok (.iload_n 1, 1)) ∧ (decode cX10_bounds 17 = .ok (.iload_n 2, 1)) ∧ (decode cX10_bounds 18 = .ok (.iastore, 1)) ∧ (decode cX10_bounds 19 = .ok (.aload_n 0, 1)) ∧ (decode cX10_bounds 20 = .ok (.getfield 43, 3)) ∧ (decode cX10_bounds 23 = .ok (.getfield 166, 3)) ∧ (decode cX10_bounds 26 = .ok (.iload_n 1, 1)) ∧ (decode cX10_bounds 27 = .ok (.iload_n 3, 1)) := by decide +kernel
theorem dX10_bounds_0 : decode cX10_bounds 0 = .ok (.iload_n 1, 1) := dgX10_bounds_0.1
theorem dX10_bounds_1 : decode cX10_bounds 1 = .ok (.invokestatic 93, 3) := dgX10_bounds_0.2.1
theorem dX10_bounds_4 : decode cX10_bounds 4 = .ok (.ifCond .ne 5, 3) := dgX10_bounds_0.2.2.1
theorem dX10_bounds_7 : decode cX10_bounds 7 = .ok (.iconst 0, 1) := dgX10_bounds_0.2.2.2.1
theorem dX10_bounds_8 : decode cX10_bounds 8 = .ok (.ireturn, 1) := dgX10_bounds_0.2.2.2.2.1
theorem dX10_bounds_9 : decode cX10_bounds 9 = .ok (.aload_n 0, 1) := dgX10_bounds_0.2.2.2.2.2.1
theorem dX10_bounds_10 : decode cX10_bounds 10 = .ok (.getfield 43, 3) := dgX10_bounds_0.2.2.2.2.2.2.1
theorem dX10_bounds_13 : decode cX10_bounds 13 = .ok (.getfield 163, 3) := dgX10_bounds_0.2.2.2.2.2.2.2.1
theorem dX10_bounds_16 : decode cX10_bounds 16 = .ok (.iload_n 1, 1) := dgX10_bounds_0.2.2.2.2.2.2.2.2.1
theorem dX10_bounds_17 : decode cX10_bounds 17 = .ok (.iload_n 2, 1) := dgX10_bounds_0.2.2.2.2.2.2.2.2.2.1
theorem dX10_bounds_18 : decode cX10_bounds 18 = .ok (.iastore, 1) := dgX10_bounds_0.2.2.2.2.2.2.2.2.2.2.1
theorem dX10_bounds_19 : decode cX10_bounds 19 = .ok (.aload_n 0, 1) := dgX10_bounds_0.2.2.2.2.2.2.2.2.2.2.2.1
theorem dX10_bounds_20 : decode cX10_bounds 20 = .ok (.getfield 43, 3) := dgX10_bounds_0.2.2.2.2.2.2.2.2.2.2.2.2.1
theorem dX10_bounds_23 : decode cX10_bounds 23 = .ok (.getfield 166, 3) := dgX10_bounds_0.2.2.2.2.2.2.2.2.2.2.2.2.2.1
theorem dX10_bounds_26 : decode cX10_bounds 26 = .ok (.iload_n 1, 1) := dgX10_bounds_0.2.2.2.2.2.2.2.2.2.2.2.2.2.2.1
theorem dX10_bounds_27 : decode cX10_bounds 27 = .ok (.iload_n 3, 1) := dgX10_bounds_0.2.2.2.2.2.2.2.2.2.2.2.2.2.2.2
theorem dgX10_bounds_16 : (decode cX10_bounds 28 = .ok (.iastore, 1)) ∧ (decode cX10_bounds 29 = .ok (.iconst 1, 1)) ∧ (decode cX10_bounds 30 = .ok (.ireturn, 1)) := by decide +kernel
theorem dX10_bounds_28 : decode cX10_bounds 28 = .ok (.iastore, 1) := dgX10_bounds_16.1
theorem dX10_bounds_29 : decode cX10_bounds 29 = .ok (.iconst 1, 1) := dgX10_bounds_16.2.1
theorem dX10_bounds_30 : decode cX10_bounds 30 = .ok (.ireturn, 1) := dgX10_bounds_16.2.2
theorem dgX10_cook_0 : (decode cX10_cook 0 = .ok (.aload_n 0, 1)) ∧ (decode cX10_cook 1 = .ok (.iload_n 1, 1)) ∧ (decode cX10_cook 2 = .ok (.invokevirtual 103, 3)) ∧ (decode cX10_cook 5 = .ok (.astore_n 3, 1)) ∧ (decode cX10_cook 6 = .ok (.aload_n 3, 1)) ∧ (decode cX10_cook 7 = .ok (.ifnull 20, 3)) ∧ (decode cX10_cook 10 = .ok (.iload_n 2, 1)) ∧ (decode cX10_cook 11 = .ok (.iconst 1, 1)) ∧ (decode cX10_cook 12 = .ok (.bipush 60, 2)) ∧ (decode cX10_cook 14 = .ok (.invokestatic 82, 3)) ∧ (decode cX10_cook 17 = .ok (.ifCond .eq 10, 3)) ∧ (decode cX10_cook 20 = .ok (.aload_n 3, 1)) ∧ (decode cX10_cook 21 = .ok (.getfield 114, 3)) ∧ (decode cX10_cook 24 = .ok (.ifCond .ne 5, 3)) ∧ (decode cX10_cook 27 = .ok (.iconst (-1), 1)) ∧ (decode cX10_cook 28 = .ok (.ireturn, 1)) := by decide +kernel
theorem dX10_cook_0 : decode cX10_cook 0 = .ok (.aload_n 0, 1) := dgX10_cook_0.1
theorem dX10_cook_1 : decode cX10_cook 1 = .ok (.iload_n 1, 1) := dgX10_cook_0.2.1
theorem dX10_cook_2 : decode cX10_cook 2 = .ok (.invokevirtual 103, 3) := dgX10_cook_0.2.2.1
theorem dX10_cook_5 : decode cX10_cook 5 = .ok (.astore_n 3, 1) := dgX10_cook_0.2.2.2.1
theorem dX10_cook_6 : decode cX10_cook 6 = .ok (.aload_n 3, 1) := dgX10_cook_0.2.2.2.2.1
theorem dX10_cook_7 : decode cX10_cook 7 = .ok (.ifnull 20, 3) := dgX10_cook_0.2.2.2.2.2.1
theorem dX10_cook_10 : decode cX10_cook 10 = .ok (.iload_n 2, 1) := dgX10_cook_0.2.2.2.2.2.2.1
theorem dX10_cook_11 : decode cX10_cook 11 = .ok (.iconst 1, 1) := dgX10_cook_0.2.2.2.2.2.2.2.1
theorem dX10_cook_12 : decode cX10_cook 12 = .ok (.bipush 60, 2) := dgX10_cook_0.2.2.2.2.2.2.2.2.1
theorem dX10_cook_14 : decode cX10_cook 14 = .ok (.invokestatic 82, 3) := dgX10_cook_0.2.2.2.2.2.2.2.2.2.1
theorem dX10_cook_17 : decode cX10_cook 17 = .ok (.ifCond .eq 10, 3) := dgX10_cook_0.2.2.2.2.2.2.2.2.2.2.1
theorem dX10_cook_20 : decode cX10_cook 20 = .ok (.aload_n 3, 1) := dgX10_cook_0.2.2.2.2.2.2.2.2.2.2.2.1
theorem dX10_cook_21 : decode cX10_cook 21 = .ok (.getfield 114, 3) := dgX10_cook_0.2.2.2.2.2.2.2.2.2.2.2.2.1
theorem dX10_cook_24 : decode cX10_cook 24 = .ok (.ifCond .ne 5, 3) := dgX10_cook_0.2.2.2.2.2.2.2.2.2.2.2.2.2.1
theorem dX10_cook_27 : decode cX10_cook 27 = .ok (.iconst (-1), 1) := dgX10_cook_0.2.2.2.2.2.2.2.2.2.2.2.2.2.2.1
theorem dX10_cook_28 : decode cX10_cook 28 = .ok (.ireturn, 1) := dgX10_cook_0.2.2.2.2.2.2.2.2.2.2.2.2.2.2.2
theorem dgX10_cook_16 : (decode cX10_cook 29 = .ok (.aload_n 3, 1)) ∧ (decode cX10_cook 30 = .ok (.iload_n 2, 1)) ∧ (decode cX10_cook 31 = .ok (.aload_n 0, 1)) ∧ (decode cX10_cook 32 = .ok (.getfield 43, 3)) ∧ (decode cX10_cook 35 = .ok (.invokevirtual 169, 3)) ∧ (decode cX10_cook 38 = .ok (.aload_n 3, 1)) ∧ (decode cX10_cook 39 = .ok (.getfield 114, 3)) ∧ (decode cX10_cook 42 = .ok (.ireturn, 1)) := by decide +kernel
theorem dX10_cook_29 : decode cX10_cook 29 = .ok (.aload_n 3, 1) := dgX10_cook_16.1
theorem dX10_cook_30 : decode cX10_cook 30 = .ok (.iload_n 2, 1) := dgX10_cook_16.2.1
theorem dX10_cook_31 : decode cX10_cook 31 = .ok (.aload_n 0, 1) := dgX10_cook_16.2.2.1
theorem dX10_cook_32 : decode cX10_cook 32 = .ok (.getfield 43, 3) := dgX10_cook_16.2.2.2.1
theorem dX10_cook_35 : decode cX10_cook 35 = .ok (.invokevirtual 169, 3) := dgX10_cook_16.2.2.2.2.1
theorem dX10_cook_38 : decode cX10_cook 38 = .ok (.aload_n 3, 1) := dgX10_cook_16.2.2.2.2.2.1
theorem dX10_cook_39 : decode cX10_cook 39 = .ok (.getfield 114, 3) := dgX10_cook_16.2.2.2.2.2.2.1
theorem dX10_cook_42 : decode cX10_cook 42 = .ok (.ireturn, 1) := dgX10_cook_16.2.2.2.2.2.2.2
theorem dgX10_vouch_0 : (decode cX10_vouch 0 = .ok (.aload_n 0, 1)) ∧ (decode cX10_vouch 1 = .ok (.iload_n 1, 1)) ∧ (decode cX10_vouch 2 = .ok (.invokevirtual 173, 3)) ∧ (decode cX10_vouch 5 = .ok (.astore_n 2, 1)) ∧ (decode cX10_vouch 6 = .ok (.aload_n 2, 1)) ∧ (decode cX10_vouch 7 = .ok (.ifnull 10, 3)) ∧ (decode cX10_vouch 10 = .ok (.aload_n 2, 1)) ∧ (decode cX10_vouch 11 = .ok (.getfield 176, 3)) ∧ (decode cX10_vouch 14 = .ok (.ifCond .ne 5, 3)) ∧ (decode cX10_vouch 17 = .ok (.iconst 0, 1)) ∧ (decode cX10_vouch 18 = .ok (.ireturn, 1)) ∧ (decode cX10_vouch 19 = .ok (.aload_n 2, 1)) ∧ (decode cX10_vouch 20 = .ok (.iconst 1, 1)) ∧ (decode cX10_vouch 21 = .ok (.putfield 180, 3)) ∧ (decode cX10_vouch 24 = .ok (.iconst 1, 1)) ∧ (decode cX10_vouch 25 = .ok (.ireturn, 1)) := by decide +kernel
theorem dX10_vouch_0 : decode cX10_vouch 0 = .ok (.aload_n 0, 1) := dgX10_vouch_0.1
theorem dX10_vouch_1 : decode cX10_vouch 1 = .ok (.iload_n 1, 1) := dgX10_vouch_0.2.1
theorem dX10_vouch_2 : decode cX10_vouch 2 = .ok (.invokevirtual 173, 3) := dgX10_vouch_0.2.2.1
theorem dX10_vouch_5 : decode cX10_vouch 5 = .ok (.astore_n 2, 1) := dgX10_vouch_0.2.2.2.1
theorem dX10_vouch_6 : decode cX10_vouch 6 = .ok (.aload_n 2, 1) := dgX10_vouch_0.2.2.2.2.1
theorem dX10_vouch_7 : decode cX10_vouch 7 = .ok (.ifnull 10, 3) := dgX10_vouch_0.2.2.2.2.2.1
theorem dX10_vouch_10 : decode cX10_vouch 10 = .ok (.aload_n 2, 1) := dgX10_vouch_0.2.2.2.2.2.2.1
theorem dX10_vouch_11 : decode cX10_vouch 11 = .ok (.getfield 176, 3) := dgX10_vouch_0.2.2.2.2.2.2.2.1
theorem dX10_vouch_14 : decode cX10_vouch 14 = .ok (.ifCond .ne 5, 3) := dgX10_vouch_0.2.2.2.2.2.2.2.2.1
theorem dX10_vouch_17 : decode cX10_vouch 17 = .ok (.iconst 0, 1) := dgX10_vouch_0.2.2.2.2.2.2.2.2.2.1
theorem dX10_vouch_18 : decode cX10_vouch 18 = .ok (.ireturn, 1) := dgX10_vouch_0.2.2.2.2.2.2.2.2.2.2.1
theorem dX10_vouch_19 : decode cX10_vouch 19 = .ok (.aload_n 2, 1) := dgX10_vouch_0.2.2.2.2.2.2.2.2.2.2.2.1
theorem dX10_vouch_20 : decode cX10_vouch 20 = .ok (.iconst 1, 1) := dgX10_vouch_0.2.2.2.2.2.2.2.2.2.2.2.2.1
theorem dX10_vouch_21 : decode cX10_vouch 21 = .ok (.putfield 180, 3) := dgX10_vouch_0.2.2.2.2.2.2.2.2.2.2.2.2.2.1
theorem dX10_vouch_24 : decode cX10_vouch 24 = .ok (.iconst 1, 1) := dgX10_vouch_0.2.2.2.2.2.2.2.2.2.2.2.2.2.2.1
theorem dX10_vouch_25 : decode cX10_vouch 25 = .ok (.ireturn, 1) := dgX10_vouch_0.2.2.2.2.2.2.2.2.2.2.2.2.2.2.2
theorem dgX10_why_0 : (decode cX10_why 0 = .ok (.aload_n 0, 1)) ∧ (decode cX10_why 1 = .ok (.iload_n 1, 1)) ∧ (decode cX10_why 2 = .ok (.invokevirtual 173, 3)) ∧ (decode cX10_why 5 = .ok (.astore_n 2, 1)) ∧ (decode cX10_why 6 = .ok (.aload_n 2, 1)) ∧ (decode cX10_why 7 = .ok (.ifnonnull 7, 3)) ∧ (decode cX10_why 10 = .ok (.iconst (-1), 1)) ∧ (decode cX10_why 11 = .ok (.goto 11, 3)) ∧ (decode cX10_why 14 = .ok (.aload_n 2, 1)) ∧ (decode cX10_why 15 = .ok (.aload_n 0, 1)) ∧ (decode cX10_why 16 = .ok (.getfield 43, 3)) ∧ (decode cX10_why 19 = .ok (.invokevirtual 183, 3)) ∧ (decode cX10_why 22 = .ok (.ireturn, 1)) := by decide +kernel
theorem dX10_why_0 : decode cX10_why 0 = .ok (.aload_n 0, 1) := dgX10_why_0.1
theorem dX10_why_1 : decode cX10_why 1 = .ok (.iload_n 1, 1) := dgX10_why_0.2.1
theorem dX10_why_2 : decode cX10_why 2 = .ok (.invokevirtual 173, 3) := dgX10_why_0.2.2.1
theorem dX10_why_5 : decode cX10_why 5 = .ok (.astore_n 2, 1) := dgX10_why_0.2.2.2.1
theorem dX10_why_6 : decode cX10_why 6 = .ok (.aload_n 2, 1) := dgX10_why_0.2.2.2.2.1
theorem dX10_why_7 : decode cX10_why 7 = .ok (.ifnonnull 7, 3) := dgX10_why_0.2.2.2.2.2.1
theorem dX10_why_10 : decode cX10_why 10 = .ok (.iconst (-1), 1) := dgX10_why_0.2.2.2.2.2.2.1
theorem dX10_why_11 : decode cX10_why 11 = .ok (.goto 11, 3) := dgX10_why_0.2.2.2.2.2.2.2.1
theorem dX10_why_14 : decode cX10_why 14 = .ok (.aload_n 2, 1) := dgX10_why_0.2.2.2.2.2.2.2.2.1
theorem dX10_why_15 : decode cX10_why 15 = .ok (.aload_n 0, 1) := dgX10_why_0.2.2.2.2.2.2.2.2.2.1
theorem dX10_why_16 : decode cX10_why 16 = .ok (.getfield 43, 3) := dgX10_why_0.2.2.2.2.2.2.2.2.2.2.1
theorem dX10_why_19 : decode cX10_why 19 = .ok (.invokevirtual 183, 3) := dgX10_why_0.2.2.2.2.2.2.2.2.2.2.2.1
theorem dX10_why_22 : decode cX10_why 22 = .ok (.ireturn, 1) := dgX10_why_0.2.2.2.2.2.2.2.2.2.2.2.2
theorem dgX10_batchOf_0 : (decode cX10_batchOf 0 = .ok (.aload_n 0, 1)) ∧ (decode cX10_batchOf 1 = .ok (.iload_n 1, 1)) ∧ (decode cX10_batchOf 2 = .ok (.invokevirtual 173, 3)) ∧ (decode cX10_batchOf 5 = .ok (.astore_n 3, 1)) ∧ (decode cX10_batchOf 6 = .ok (.aload_n 3, 1)) ∧ (decode cX10_batchOf 7 = .ok (.ifnonnull 7, 3)) ∧ (decode cX10_batchOf 10 = .ok (.iconst (-1), 1)) ∧ (decode cX10_batchOf 11 = .ok (.goto 8, 3)) ∧ (decode cX10_batchOf 14 = .ok (.aload_n 3, 1)) ∧ (decode cX10_batchOf 15 = .ok (.iload_n 2, 1)) ∧ (decode cX10_batchOf 16 = .ok (.invokevirtual 187, 3)) ∧ (decode cX10_batchOf 19 = .ok (.ireturn, 1)) := by decide +kernel
theorem dX10_batchOf_0 : decode cX10_batchOf 0 = .ok (.aload_n 0, 1) := dgX10_batchOf_0.1
theorem dX10_batchOf_1 : decode cX10_batchOf 1 = .ok (.iload_n 1, 1) := dgX10_batchOf_0.2.1
theorem dX10_batchOf_2 : decode cX10_batchOf 2 = .ok (.invokevirtual 173, 3) := dgX10_batchOf_0.2.2.1
theorem dX10_batchOf_5 : decode cX10_batchOf 5 = .ok (.astore_n 3, 1) := dgX10_batchOf_0.2.2.2.1
theorem dX10_batchOf_6 : decode cX10_batchOf 6 = .ok (.aload_n 3, 1) := dgX10_batchOf_0.2.2.2.2.1
theorem dX10_batchOf_7 : decode cX10_batchOf 7 = .ok (.ifnonnull 7, 3) := dgX10_batchOf_0.2.2.2.2.2.1
theorem dX10_batchOf_10 : decode cX10_batchOf 10 = .ok (.iconst (-1), 1) := dgX10_batchOf_0.2.2.2.2.2.2.1
theorem dX10_batchOf_11 : decode cX10_batchOf 11 = .ok (.goto 8, 3) := dgX10_batchOf_0.2.2.2.2.2.2.2.1
theorem dX10_batchOf_14 : decode cX10_batchOf 14 = .ok (.aload_n 3, 1) := dgX10_batchOf_0.2.2.2.2.2.2.2.2.1
theorem dX10_batchOf_15 : decode cX10_batchOf 15 = .ok (.iload_n 2, 1) := dgX10_batchOf_0.2.2.2.2.2.2.2.2.2.1
theorem dX10_batchOf_16 : decode cX10_batchOf 16 = .ok (.invokevirtual 187, 3) := dgX10_batchOf_0.2.2.2.2.2.2.2.2.2.2.1
theorem dX10_batchOf_19 : decode cX10_batchOf 19 = .ok (.ireturn, 1) := dgX10_batchOf_0.2.2.2.2.2.2.2.2.2.2.2
theorem dgX10_temper_0 : (decode cX10_temper 0 = .ok (.iload_n 2, 1)) ∧ (decode cX10_temper 1 = .ok (.iload_n 3, 1)) ∧ (decode cX10_temper 2 = .ok (.if_icmp .ge 25, 3)) ∧ (decode cX10_temper 5 = .ok (.iload_n 3, 1)) ∧ (decode cX10_temper 6 = .ok (.iload 4, 2)) ∧ (decode cX10_temper 8 = .ok (.if_icmp .gt 19, 3)) ∧ (decode cX10_temper 11 = .ok (.iload 4, 2)) ∧ (decode cX10_temper 13 = .ok (.iload_n 1, 1)) ∧ (decode cX10_temper 14 = .ok (.if_icmp .ge 13, 3)) ∧ (decode cX10_temper 17 = .ok (.iload 5, 2)) ∧ (decode cX10_temper 19 = .ok (.iload_n 3, 1)) ∧ (decode cX10_temper 20 = .ok (.if_icmp .gt 7, 3)) ∧ (decode cX10_temper 23 = .ok (.iconst 1, 1)) ∧ (decode cX10_temper 24 = .ok (.goto 4, 3)) ∧ (decode cX10_temper 27 = .ok (.iconst 0, 1)) ∧ (decode cX10_temper 28 = .ok (.istore 7, 2)) := by decide +kernel
theorem dX10_temper_0 : decode cX10_temper 0 = .ok (.iload_n 2, 1) := dgX10_temper_0.1
theorem dX10_temper_1 : decode cX10_temper 1 = .ok (.iload_n 3, 1) := dgX10_temper_0.2.1
theorem dX10_temper_2 : decode cX10_temper 2 = .ok (.if_icmp .ge 25, 3) := dgX10_temper_0.2.2.1
theorem dX10_temper_5 : decode cX10_temper 5 = .ok (.iload_n 3, 1) := dgX10_temper_0.2.2.2.1
theorem dX10_temper_6 : decode cX10_temper 6 = .ok (.iload 4, 2) := dgX10_temper_0.2.2.2.2.1
theorem dX10_temper_8 : decode cX10_temper 8 = .ok (.if_icmp .gt 19, 3) := dgX10_temper_0.2.2.2.2.2.1
theorem dX10_temper_11 : decode cX10_temper 11 = .ok (.iload 4, 2) := dgX10_temper_0.2.2.2.2.2.2.1
theorem dX10_temper_13 : decode cX10_temper 13 = .ok (.iload_n 1, 1) := dgX10_temper_0.2.2.2.2.2.2.2.1
theorem dX10_temper_14 : decode cX10_temper 14 = .ok (.if_icmp .ge 13, 3) := dgX10_temper_0.2.2.2.2.2.2.2.2.1
theorem dX10_temper_17 : decode cX10_temper 17 = .ok (.iload 5, 2) := dgX10_temper_0.2.2.2.2.2.2.2.2.2.1
theorem dX10_temper_19 : decode cX10_temper 19 = .ok (.iload_n 3, 1) := dgX10_temper_0.2.2.2.2.2.2.2.2.2.2.1
theorem dX10_temper_20 : decode cX10_temper 20 = .ok (.if_icmp .gt 7, 3) := dgX10_temper_0.2.2.2.2.2.2.2.2.2.2.2.1
theorem dX10_temper_23 : decode cX10_temper 23 = .ok (.iconst 1, 1) := dgX10_temper_0.2.2.2.2.2.2.2.2.2.2.2.2.1
theorem dX10_temper_24 : decode cX10_temper 24 = .ok (.goto 4, 3) := dgX10_temper_0.2.2.2.2.2.2.2.2.2.2.2.2.2.1
theorem dX10_temper_27 : decode cX10_temper 27 = .ok (.iconst 0, 1) := dgX10_temper_0.2.2.2.2.2.2.2.2.2.2.2.2.2.2.1
theorem dX10_temper_28 : decode cX10_temper 28 = .ok (.istore 7, 2) := dgX10_temper_0.2.2.2.2.2.2.2.2.2.2.2.2.2.2.2
theorem dgX10_temper_16 : (decode cX10_temper 30 = .ok (.iload 7, 2)) ∧ (decode cX10_temper 32 = .ok (.ifCond .eq 14, 3)) ∧ (decode cX10_temper 35 = .ok (.iload 6, 2)) ∧ (decode cX10_temper 37 = .ok (.iconst 1, 1)) ∧ (decode cX10_temper 38 = .ok (.bipush 20, 2)) ∧ (decode cX10_temper 40 = .ok (.invokestatic 82, 3)) ∧ (decode cX10_temper 43 = .ok (.ifCond .ne 5, 3)) ∧ (decode cX10_temper 46 = .ok (.iconst 0, 1)) ∧ (decode cX10_temper 47 = .ok (.ireturn, 1)) ∧ (decode cX10_temper 48 = .ok (.aload_n 0, 1)) ∧ (decode cX10_temper 49 = .ok (.getfield 50, 3)) ∧ (decode cX10_temper 52 = .ok (.iload_n 1, 1)) ∧ (decode cX10_temper 53 = .ok (.iload_n 2, 1)) ∧ (decode cX10_temper 54 = .ok (.iload_n 3, 1)) ∧ (decode cX10_temper 55 = .ok (.iload 4, 2)) ∧ (decode cX10_temper 57 = .ok (.iload 5, 2)) := by decide +kernel
theorem dX10_temper_30 : decode cX10_temper 30 = .ok (.iload 7, 2) := dgX10_temper_16.1
theorem dX10_temper_32 : decode cX10_temper 32 = .ok (.ifCond .eq 14, 3) := dgX10_temper_16.2.1
theorem dX10_temper_35 : decode cX10_temper 35 = .ok (.iload 6, 2) := dgX10_temper_16.2.2.1
theorem dX10_temper_37 : decode cX10_temper 37 = .ok (.iconst 1, 1) := dgX10_temper_16.2.2.2.1
theorem dX10_temper_38 : decode cX10_temper 38 = .ok (.bipush 20, 2) := dgX10_temper_16.2.2.2.2.1
theorem dX10_temper_40 : decode cX10_temper 40 = .ok (.invokestatic 82, 3) := dgX10_temper_16.2.2.2.2.2.1
theorem dX10_temper_43 : decode cX10_temper 43 = .ok (.ifCond .ne 5, 3) := dgX10_temper_16.2.2.2.2.2.2.1
theorem dX10_temper_46 : decode cX10_temper 46 = .ok (.iconst 0, 1) := dgX10_temper_16.2.2.2.2.2.2.2.1
theorem dX10_temper_47 : decode cX10_temper 47 = .ok (.ireturn, 1) := dgX10_temper_16.2.2.2.2.2.2.2.2.1
theorem dX10_temper_48 : decode cX10_temper 48 = .ok (.aload_n 0, 1) := dgX10_temper_16.2.2.2.2.2.2.2.2.2.1
theorem dX10_temper_49 : decode cX10_temper 49 = .ok (.getfield 50, 3) := dgX10_temper_16.2.2.2.2.2.2.2.2.2.2.1
theorem dX10_temper_52 : decode cX10_temper 52 = .ok (.iload_n 1, 1) := dgX10_temper_16.2.2.2.2.2.2.2.2.2.2.2.1
theorem dX10_temper_53 : decode cX10_temper 53 = .ok (.iload_n 2, 1) := dgX10_temper_16.2.2.2.2.2.2.2.2.2.2.2.2.1
theorem dX10_temper_54 : decode cX10_temper 54 = .ok (.iload_n 3, 1) := dgX10_temper_16.2.2.2.2.2.2.2.2.2.2.2.2.2.1
theorem dX10_temper_55 : decode cX10_temper 55 = .ok (.iload 4, 2) := dgX10_temper_16.2.2.2.2.2.2.2.2.2.2.2.2.2.2.1
theorem dX10_temper_57 : decode cX10_temper 57 = .ok (.iload 5, 2) := dgX10_temper_16.2.2.2.2.2.2.2.2.2.2.2.2.2.2.2
theorem dgX10_temper_32 : (decode cX10_temper 59 = .ok (.iload 6, 2)) ∧ (decode cX10_temper 61 = .ok (.invokevirtual 191, 3)) ∧ (decode cX10_temper 64 = .ok (.ifCond .eq 7, 3)) ∧ (decode cX10_temper 67 = .ok (.aload_n 0, 1)) ∧ (decode cX10_temper 68 = .ok (.invokevirtual 195, 3)) ∧ (decode cX10_temper 71 = .ok (.iconst 1, 1)) ∧ (decode cX10_temper 72 = .ok (.ireturn, 1)) := by decide +kernel
theorem dX10_temper_59 : decode cX10_temper 59 = .ok (.iload 6, 2) := dgX10_temper_32.1
theorem dX10_temper_61 : decode cX10_temper 61 = .ok (.invokevirtual 191, 3) := dgX10_temper_32.2.1
theorem dX10_temper_64 : decode cX10_temper 64 = .ok (.ifCond .eq 7, 3) := dgX10_temper_32.2.2.1
theorem dX10_temper_67 : decode cX10_temper 67 = .ok (.aload_n 0, 1) := dgX10_temper_32.2.2.2.1
theorem dX10_temper_68 : decode cX10_temper 68 = .ok (.invokevirtual 195, 3) := dgX10_temper_32.2.2.2.2.1
theorem dX10_temper_71 : decode cX10_temper 71 = .ok (.iconst 1, 1) := dgX10_temper_32.2.2.2.2.2.1
theorem dX10_temper_72 : decode cX10_temper 72 = .ok (.ireturn, 1) := dgX10_temper_32.2.2.2.2.2.2
theorem dgX10_heat_0 : (decode cX10_heat 0 = .ok (.aload_n 0, 1)) ∧ (decode cX10_heat 1 = .ok (.iload_n 1, 1)) ∧ (decode cX10_heat 2 = .ok (.invokevirtual 173, 3)) ∧ (decode cX10_heat 5 = .ok (.astore_n 3, 1)) ∧ (decode cX10_heat 6 = .ok (.aload_n 3, 1)) ∧ (decode cX10_heat 7 = .ok (.ifnull 18, 3)) ∧ (decode cX10_heat 10 = .ok (.aload_n 3, 1)) ∧ (decode cX10_heat 11 = .ok (.getfield 198, 3)) ∧ (decode cX10_heat 14 = .ok (.iconst 5, 1)) ∧ (decode cX10_heat 15 = .ok (.if_icmp .ne 10, 3)) ∧ (decode cX10_heat 18 = .ok (.aload_n 3, 1)) ∧ (decode cX10_heat 19 = .ok (.getfield 176, 3)) ∧ (decode cX10_heat 22 = .ok (.ifCond .ne 5, 3)) ∧ (decode cX10_heat 25 = .ok (.iconst (-1), 1)) ∧ (decode cX10_heat 26 = .ok (.ireturn, 1)) ∧ (decode cX10_heat 27 = .ok (.aload_n 0, 1)) := by decide +kernel
theorem dX10_heat_0 : decode cX10_heat 0 = .ok (.aload_n 0, 1) := dgX10_heat_0.1
theorem dX10_heat_1 : decode cX10_heat 1 = .ok (.iload_n 1, 1) := dgX10_heat_0.2.1
theorem dX10_heat_2 : decode cX10_heat 2 = .ok (.invokevirtual 173, 3) := dgX10_heat_0.2.2.1
theorem dX10_heat_5 : decode cX10_heat 5 = .ok (.astore_n 3, 1) := dgX10_heat_0.2.2.2.1
theorem dX10_heat_6 : decode cX10_heat 6 = .ok (.aload_n 3, 1) := dgX10_heat_0.2.2.2.2.1
theorem dX10_heat_7 : decode cX10_heat 7 = .ok (.ifnull 18, 3) := dgX10_heat_0.2.2.2.2.2.1
theorem dX10_heat_10 : decode cX10_heat 10 = .ok (.aload_n 3, 1) := dgX10_heat_0.2.2.2.2.2.2.1
theorem dX10_heat_11 : decode cX10_heat 11 = .ok (.getfield 198, 3) := dgX10_heat_0.2.2.2.2.2.2.2.1
theorem dX10_heat_14 : decode cX10_heat 14 = .ok (.iconst 5, 1) := dgX10_heat_0.2.2.2.2.2.2.2.2.1
theorem dX10_heat_15 : decode cX10_heat 15 = .ok (.if_icmp .ne 10, 3) := dgX10_heat_0.2.2.2.2.2.2.2.2.2.1
theorem dX10_heat_18 : decode cX10_heat 18 = .ok (.aload_n 3, 1) := dgX10_heat_0.2.2.2.2.2.2.2.2.2.2.1
theorem dX10_heat_19 : decode cX10_heat 19 = .ok (.getfield 176, 3) := dgX10_heat_0.2.2.2.2.2.2.2.2.2.2.2.1
theorem dX10_heat_22 : decode cX10_heat 22 = .ok (.ifCond .ne 5, 3) := dgX10_heat_0.2.2.2.2.2.2.2.2.2.2.2.2.1
theorem dX10_heat_25 : decode cX10_heat 25 = .ok (.iconst (-1), 1) := dgX10_heat_0.2.2.2.2.2.2.2.2.2.2.2.2.2.1
theorem dX10_heat_26 : decode cX10_heat 26 = .ok (.ireturn, 1) := dgX10_heat_0.2.2.2.2.2.2.2.2.2.2.2.2.2.2.1
theorem dX10_heat_27 : decode cX10_heat 27 = .ok (.aload_n 0, 1) := dgX10_heat_0.2.2.2.2.2.2.2.2.2.2.2.2.2.2.2
theorem dgX10_heat_16 : (decode cX10_heat 28 = .ok (.getfield 50, 3)) ∧ (decode cX10_heat 31 = .ok (.aload_n 3, 1)) ∧ (decode cX10_heat 32 = .ok (.iload_n 2, 1)) ∧ (decode cX10_heat 33 = .ok (.invokevirtual 201, 3)) ∧ (decode cX10_heat 36 = .ok (.aload_n 3, 1)) ∧ (decode cX10_heat 37 = .ok (.getfield 205, 3)) ∧ (decode cX10_heat 40 = .ok (.ireturn, 1)) := by decide +kernel
theorem dX10_heat_28 : decode cX10_heat 28 = .ok (.getfield 50, 3) := dgX10_heat_16.1
theorem dX10_heat_31 : decode cX10_heat 31 = .ok (.aload_n 3, 1) := dgX10_heat_16.2.1
theorem dX10_heat_32 : decode cX10_heat 32 = .ok (.iload_n 2, 1) := dgX10_heat_16.2.2.1
theorem dX10_heat_33 : decode cX10_heat 33 = .ok (.invokevirtual 201, 3) := dgX10_heat_16.2.2.2.1
theorem dX10_heat_36 : decode cX10_heat 36 = .ok (.aload_n 3, 1) := dgX10_heat_16.2.2.2.2.1
theorem dX10_heat_37 : decode cX10_heat 37 = .ok (.getfield 205, 3) := dgX10_heat_16.2.2.2.2.2.1
theorem dX10_heat_40 : decode cX10_heat 40 = .ok (.ireturn, 1) := dgX10_heat_16.2.2.2.2.2.2
theorem dgX10_cut_0 : (decode cX10_cut 0 = .ok (.aload_n 0, 1)) ∧ (decode cX10_cut 1 = .ok (.iload_n 1, 1)) ∧ (decode cX10_cut 2 = .ok (.invokevirtual 208, 3)) ∧ (decode cX10_cut 5 = .ok (.astore 4, 2)) ∧ (decode cX10_cut 7 = .ok (.aload 4, 2)) ∧ (decode cX10_cut 9 = .ok (.ifnull 36, 3)) ∧ (decode cX10_cut 12 = .ok (.aload 4, 2)) ∧ (decode cX10_cut 14 = .ok (.getfield 198, 3)) ∧ (decode cX10_cut 17 = .ok (.invokestatic 211, 3)) ∧ (decode cX10_cut 20 = .ok (.ifCond .eq 25, 3)) ∧ (decode cX10_cut 23 = .ok (.iload_n 2, 1)) ∧ (decode cX10_cut 24 = .ok (.bipush 10, 2)) ∧ (decode cX10_cut 26 = .ok (.sipush 2000, 3)) ∧ (decode cX10_cut 29 = .ok (.invokestatic 82, 3)) ∧ (decode cX10_cut 32 = .ok (.ifCond .eq 13, 3)) ∧ (decode cX10_cut 35 = .ok (.iload_n 3, 1)) := by decide +kernel
theorem dX10_cut_0 : decode cX10_cut 0 = .ok (.aload_n 0, 1) := dgX10_cut_0.1
theorem dX10_cut_1 : decode cX10_cut 1 = .ok (.iload_n 1, 1) := dgX10_cut_0.2.1
theorem dX10_cut_2 : decode cX10_cut 2 = .ok (.invokevirtual 208, 3) := dgX10_cut_0.2.2.1
theorem dX10_cut_5 : decode cX10_cut 5 = .ok (.astore 4, 2) := dgX10_cut_0.2.2.2.1
theorem dX10_cut_7 : decode cX10_cut 7 = .ok (.aload 4, 2) := dgX10_cut_0.2.2.2.2.1
theorem dX10_cut_9 : decode cX10_cut 9 = .ok (.ifnull 36, 3) := dgX10_cut_0.2.2.2.2.2.1
theorem dX10_cut_12 : decode cX10_cut 12 = .ok (.aload 4, 2) := dgX10_cut_0.2.2.2.2.2.2.1
theorem dX10_cut_14 : decode cX10_cut 14 = .ok (.getfield 198, 3) := dgX10_cut_0.2.2.2.2.2.2.2.1
theorem dX10_cut_17 : decode cX10_cut 17 = .ok (.invokestatic 211, 3) := dgX10_cut_0.2.2.2.2.2.2.2.2.1
theorem dX10_cut_20 : decode cX10_cut 20 = .ok (.ifCond .eq 25, 3) := dgX10_cut_0.2.2.2.2.2.2.2.2.2.1
theorem dX10_cut_23 : decode cX10_cut 23 = .ok (.iload_n 2, 1) := dgX10_cut_0.2.2.2.2.2.2.2.2.2.2.1
theorem dX10_cut_24 : decode cX10_cut 24 = .ok (.bipush 10, 2) := dgX10_cut_0.2.2.2.2.2.2.2.2.2.2.2.1
theorem dX10_cut_26 : decode cX10_cut 26 = .ok (.sipush 2000, 3) := dgX10_cut_0.2.2.2.2.2.2.2.2.2.2.2.2.1
theorem dX10_cut_29 : decode cX10_cut 29 = .ok (.invokestatic 82, 3) := dgX10_cut_0.2.2.2.2.2.2.2.2.2.2.2.2.2.1
theorem dX10_cut_32 : decode cX10_cut 32 = .ok (.ifCond .eq 13, 3) := dgX10_cut_0.2.2.2.2.2.2.2.2.2.2.2.2.2.2.1
theorem dX10_cut_35 : decode cX10_cut 35 = .ok (.iload_n 3, 1) := dgX10_cut_0.2.2.2.2.2.2.2.2.2.2.2.2.2.2.2
theorem dgX10_cut_16 : (decode cX10_cut 36 = .ok (.iconst 1, 1)) ∧ (decode cX10_cut 37 = .ok (.bipush 99, 2)) ∧ (decode cX10_cut 39 = .ok (.invokestatic 82, 3)) ∧ (decode cX10_cut 42 = .ok (.ifCond .ne 5, 3)) ∧ (decode cX10_cut 45 = .ok (.iconst (-1), 1)) ∧ (decode cX10_cut 46 = .ok (.ireturn, 1)) ∧ (decode cX10_cut 47 = .ok (.iconst 0, 1)) ∧ (decode cX10_cut 48 = .ok (.istore 5, 2)) ∧ (decode cX10_cut 50 = .ok (.iload 5, 2)) ∧ (decode cX10_cut 52 = .ok (.iload_n 3, 1)) ∧ (decode cX10_cut 53 = .ok (.if_icmp .ge 80, 3)) ∧ (decode cX10_cut 56 = .ok (.aload 4, 2)) ∧ (decode cX10_cut 58 = .ok (.getfield 114, 3)) ∧ (decode cX10_cut 61 = .ok (.iload_n 2, 1)) ∧ (decode cX10_cut 62 = .ok (.if_icmp .lt 71, 3)) ∧ (decode cX10_cut 65 = .ok (.aload_n 0, 1)) := by decide +kernel
theorem dX10_cut_36 : decode cX10_cut 36 = .ok (.iconst 1, 1) := dgX10_cut_16.1
theorem dX10_cut_37 : decode cX10_cut 37 = .ok (.bipush 99, 2) := dgX10_cut_16.2.1
theorem dX10_cut_39 : decode cX10_cut 39 = .ok (.invokestatic 82, 3) := dgX10_cut_16.2.2.1
theorem dX10_cut_42 : decode cX10_cut 42 = .ok (.ifCond .ne 5, 3) := dgX10_cut_16.2.2.2.1
theorem dX10_cut_45 : decode cX10_cut 45 = .ok (.iconst (-1), 1) := dgX10_cut_16.2.2.2.2.1
theorem dX10_cut_46 : decode cX10_cut 46 = .ok (.ireturn, 1) := dgX10_cut_16.2.2.2.2.2.1
theorem dX10_cut_47 : decode cX10_cut 47 = .ok (.iconst 0, 1) := dgX10_cut_16.2.2.2.2.2.2.1
theorem dX10_cut_48 : decode cX10_cut 48 = .ok (.istore 5, 2) := dgX10_cut_16.2.2.2.2.2.2.2.1
theorem dX10_cut_50 : decode cX10_cut 50 = .ok (.iload 5, 2) := dgX10_cut_16.2.2.2.2.2.2.2.2.1
theorem dX10_cut_52 : decode cX10_cut 52 = .ok (.iload_n 3, 1) := dgX10_cut_16.2.2.2.2.2.2.2.2.2.1
theorem dX10_cut_53 : decode cX10_cut 53 = .ok (.if_icmp .ge 80, 3) := dgX10_cut_16.2.2.2.2.2.2.2.2.2.2.1
theorem dX10_cut_56 : decode cX10_cut 56 = .ok (.aload 4, 2) := dgX10_cut_16.2.2.2.2.2.2.2.2.2.2.2.1
theorem dX10_cut_58 : decode cX10_cut 58 = .ok (.getfield 114, 3) := dgX10_cut_16.2.2.2.2.2.2.2.2.2.2.2.2.1
theorem dX10_cut_61 : decode cX10_cut 61 = .ok (.iload_n 2, 1) := dgX10_cut_16.2.2.2.2.2.2.2.2.2.2.2.2.2.1
theorem dX10_cut_62 : decode cX10_cut 62 = .ok (.if_icmp .lt 71, 3) := dgX10_cut_16.2.2.2.2.2.2.2.2.2.2.2.2.2.2.1
theorem dX10_cut_65 : decode cX10_cut 65 = .ok (.aload_n 0, 1) := dgX10_cut_16.2.2.2.2.2.2.2.2.2.2.2.2.2.2.2
theorem dgX10_cut_32 : (decode cX10_cut 66 = .ok (.getfield 214, 3)) ∧ (decode cX10_cut 69 = .ok (.sipush 600, 3)) ∧ (decode cX10_cut 72 = .ok (.if_icmp .ge 61, 3)) ∧ (decode cX10_cut 75 = .ok (.aload_n 0, 1)) ∧ (decode cX10_cut 76 = .ok (.getfield 23, 3)) ∧ (decode cX10_cut 79 = .ok (.aload_n 0, 1)) ∧ (decode cX10_cut 80 = .ok (.getfield 214, 3)) ∧ (decode cX10_cut 83 = .ok (.new 21, 3)) ∧ (decode cX10_cut 86 = .ok (.dup, 1)) ∧ (decode cX10_cut 87 = .ok (.iload_n 1, 1)) ∧ (decode cX10_cut 88 = .ok (.aload 4, 2)) ∧ (decode cX10_cut 90 = .ok (.iload_n 2, 1)) ∧ (decode cX10_cut 91 = .ok (.invokespecial 217, 3)) ∧ (decode cX10_cut 94 = .ok (.aastore, 1)) ∧ (decode cX10_cut 95 = .ok (.aload_n 0, 1)) ∧ (decode cX10_cut 96 = .ok (.dup, 1)) := by decide +kernel
theorem dX10_cut_66 : decode cX10_cut 66 = .ok (.getfield 214, 3) := dgX10_cut_32.1
theorem dX10_cut_69 : decode cX10_cut 69 = .ok (.sipush 600, 3) := dgX10_cut_32.2.1
theorem dX10_cut_72 : decode cX10_cut 72 = .ok (.if_icmp .ge 61, 3) := dgX10_cut_32.2.2.1
theorem dX10_cut_75 : decode cX10_cut 75 = .ok (.aload_n 0, 1) := dgX10_cut_32.2.2.2.1
theorem dX10_cut_76 : decode cX10_cut 76 = .ok (.getfield 23, 3) := dgX10_cut_32.2.2.2.2.1
theorem dX10_cut_79 : decode cX10_cut 79 = .ok (.aload_n 0, 1) := dgX10_cut_32.2.2.2.2.2.1
theorem dX10_cut_80 : decode cX10_cut 80 = .ok (.getfield 214, 3) := dgX10_cut_32.2.2.2.2.2.2.1
theorem dX10_cut_83 : decode cX10_cut 83 = .ok (.new 21, 3) := dgX10_cut_32.2.2.2.2.2.2.2.1
theorem dX10_cut_86 : decode cX10_cut 86 = .ok (.dup, 1) := dgX10_cut_32.2.2.2.2.2.2.2.2.1
theorem dX10_cut_87 : decode cX10_cut 87 = .ok (.iload_n 1, 1) := dgX10_cut_32.2.2.2.2.2.2.2.2.2.1
theorem dX10_cut_88 : decode cX10_cut 88 = .ok (.aload 4, 2) := dgX10_cut_32.2.2.2.2.2.2.2.2.2.2.1
theorem dX10_cut_90 : decode cX10_cut 90 = .ok (.iload_n 2, 1) := dgX10_cut_32.2.2.2.2.2.2.2.2.2.2.2.1
theorem dX10_cut_91 : decode cX10_cut 91 = .ok (.invokespecial 217, 3) := dgX10_cut_32.2.2.2.2.2.2.2.2.2.2.2.2.1
theorem dX10_cut_94 : decode cX10_cut 94 = .ok (.aastore, 1) := dgX10_cut_32.2.2.2.2.2.2.2.2.2.2.2.2.2.1
theorem dX10_cut_95 : decode cX10_cut 95 = .ok (.aload_n 0, 1) := dgX10_cut_32.2.2.2.2.2.2.2.2.2.2.2.2.2.2.1
theorem dX10_cut_96 : decode cX10_cut 96 = .ok (.dup, 1) := dgX10_cut_32.2.2.2.2.2.2.2.2.2.2.2.2.2.2.2
theorem dgX10_cut_48 : (decode cX10_cut 97 = .ok (.getfield 214, 3)) ∧ (decode cX10_cut 100 = .ok (.iconst 1, 1)) ∧ (decode cX10_cut 101 = .ok (.iadd, 1)) ∧ (decode cX10_cut 102 = .ok (.putfield 214, 3)) ∧ (decode cX10_cut 105 = .ok (.aload 4, 2)) ∧ (decode cX10_cut 107 = .ok (.dup, 1)) ∧ (decode cX10_cut 108 = .ok (.getfield 114, 3)) ∧ (decode cX10_cut 111 = .ok (.iload_n 2, 1)) ∧ (decode cX10_cut 112 = .ok (.isub, 1)) ∧ (decode cX10_cut 113 = .ok (.putfield 114, 3)) ∧ (decode cX10_cut 116 = .ok (.aload 4, 2)) ∧ (decode cX10_cut 118 = .ok (.dup, 1)) ∧ (decode cX10_cut 119 = .ok (.getfield 220, 3)) ∧ (decode cX10_cut 122 = .ok (.iload_n 2, 1)) ∧ (decode cX10_cut 123 = .ok (.iadd, 1)) ∧ (decode cX10_cut 124 = .ok (.putfield 220, 3)) := by decide +kernel
theorem dX10_cut_97 : decode cX10_cut 97 = .ok (.getfield 214, 3) := dgX10_cut_48.1
theorem dX10_cut_100 : decode cX10_cut 100 = .ok (.iconst 1, 1) := dgX10_cut_48.2.1
theorem dX10_cut_101 : decode cX10_cut 101 = .ok (.iadd, 1) := dgX10_cut_48.2.2.1
theorem dX10_cut_102 : decode cX10_cut 102 = .ok (.putfield 214, 3) := dgX10_cut_48.2.2.2.1
theorem dX10_cut_105 : decode cX10_cut 105 = .ok (.aload 4, 2) := dgX10_cut_48.2.2.2.2.1
theorem dX10_cut_107 : decode cX10_cut 107 = .ok (.dup, 1) := dgX10_cut_48.2.2.2.2.2.1
theorem dX10_cut_108 : decode cX10_cut 108 = .ok (.getfield 114, 3) := dgX10_cut_48.2.2.2.2.2.2.1
theorem dX10_cut_111 : decode cX10_cut 111 = .ok (.iload_n 2, 1) := dgX10_cut_48.2.2.2.2.2.2.2.1
theorem dX10_cut_112 : decode cX10_cut 112 = .ok (.isub, 1) := dgX10_cut_48.2.2.2.2.2.2.2.2.1
theorem dX10_cut_113 : decode cX10_cut 113 = .ok (.putfield 114, 3) := dgX10_cut_48.2.2.2.2.2.2.2.2.2.1
theorem dX10_cut_116 : decode cX10_cut 116 = .ok (.aload 4, 2) := dgX10_cut_48.2.2.2.2.2.2.2.2.2.2.1
theorem dX10_cut_118 : decode cX10_cut 118 = .ok (.dup, 1) := dgX10_cut_48.2.2.2.2.2.2.2.2.2.2.2.1
theorem dX10_cut_119 : decode cX10_cut 119 = .ok (.getfield 220, 3) := dgX10_cut_48.2.2.2.2.2.2.2.2.2.2.2.2.1
theorem dX10_cut_122 : decode cX10_cut 122 = .ok (.iload_n 2, 1) := dgX10_cut_48.2.2.2.2.2.2.2.2.2.2.2.2.2.1
theorem dX10_cut_123 : decode cX10_cut 123 = .ok (.iadd, 1) := dgX10_cut_48.2.2.2.2.2.2.2.2.2.2.2.2.2.2.1
theorem dX10_cut_124 : decode cX10_cut 124 = .ok (.putfield 220, 3) := dgX10_cut_48.2.2.2.2.2.2.2.2.2.2.2.2.2.2.2
theorem dgX10_cut_64 : (decode cX10_cut 127 = .ok (.iinc 5 1, 3)) ∧ (decode cX10_cut 130 = .ok (.goto (-80), 3)) ∧ (decode cX10_cut 133 = .ok (.iload 5, 2)) ∧ (decode cX10_cut 135 = .ok (.ireturn, 1)) := by decide +kernel
theorem dX10_cut_127 : decode cX10_cut 127 = .ok (.iinc 5 1, 3) := dgX10_cut_64.1
theorem dX10_cut_130 : decode cX10_cut 130 = .ok (.goto (-80), 3) := dgX10_cut_64.2.1
theorem dX10_cut_133 : decode cX10_cut 133 = .ok (.iload 5, 2) := dgX10_cut_64.2.2.1
theorem dX10_cut_135 : decode cX10_cut 135 = .ok (.ireturn, 1) := dgX10_cut_64.2.2.2
theorem dgX10_dip_0 : (decode cX10_dip 0 = .ok (.aload_n 0, 1)) ∧ (decode cX10_dip 1 = .ok (.iload_n 1, 1)) ∧ (decode cX10_dip 2 = .ok (.invokevirtual 223, 3)) ∧ (decode cX10_dip 5 = .ok (.astore 4, 2)) ∧ (decode cX10_dip 7 = .ok (.aload_n 0, 1)) ∧ (decode cX10_dip 8 = .ok (.iload_n 2, 1)) ∧ (decode cX10_dip 9 = .ok (.invokevirtual 208, 3)) ∧ (decode cX10_dip 12 = .ok (.astore 5, 2)) ∧ (decode cX10_dip 14 = .ok (.aload 4, 2)) ∧ (decode cX10_dip 16 = .ok (.ifnull 26, 3)) ∧ (decode cX10_dip 19 = .ok (.aload 5, 2)) ∧ (decode cX10_dip 21 = .ok (.ifnull 21, 3)) ∧ (decode cX10_dip 24 = .ok (.aload 4, 2)) ∧ (decode cX10_dip 26 = .ok (.getfield 227, 3)) ∧ (decode cX10_dip 29 = .ok (.iconst (-1), 1)) ∧ (decode cX10_dip 30 = .ok (.if_icmp .ne 12, 3)) := by decide +kernel
theorem dX10_dip_0 : decode cX10_dip 0 = .ok (.aload_n 0, 1) := dgX10_dip_0.1
theorem dX10_dip_1 : decode cX10_dip 1 = .ok (.iload_n 1, 1) := dgX10_dip_0.2.1
theorem dX10_dip_2 : decode cX10_dip 2 = .ok (.invokevirtual 223, 3) := dgX10_dip_0.2.2.1
theorem dX10_dip_5 : decode cX10_dip 5 = .ok (.astore 4, 2) := dgX10_dip_0.2.2.2.1
theorem dX10_dip_7 : decode cX10_dip 7 = .ok (.aload_n 0, 1) := dgX10_dip_0.2.2.2.2.1
theorem dX10_dip_8 : decode cX10_dip 8 = .ok (.iload_n 2, 1) := dgX10_dip_0.2.2.2.2.2.1
theorem dX10_dip_9 : decode cX10_dip 9 = .ok (.invokevirtual 208, 3) := dgX10_dip_0.2.2.2.2.2.2.1
theorem dX10_dip_12 : decode cX10_dip 12 = .ok (.astore 5, 2) := dgX10_dip_0.2.2.2.2.2.2.2.1
theorem dX10_dip_14 : decode cX10_dip 14 = .ok (.aload 4, 2) := dgX10_dip_0.2.2.2.2.2.2.2.2.1
theorem dX10_dip_16 : decode cX10_dip 16 = .ok (.ifnull 26, 3) := dgX10_dip_0.2.2.2.2.2.2.2.2.2.1
theorem dX10_dip_19 : decode cX10_dip 19 = .ok (.aload 5, 2) := dgX10_dip_0.2.2.2.2.2.2.2.2.2.2.1
theorem dX10_dip_21 : decode cX10_dip 21 = .ok (.ifnull 21, 3) := dgX10_dip_0.2.2.2.2.2.2.2.2.2.2.2.1
theorem dX10_dip_24 : decode cX10_dip 24 = .ok (.aload 4, 2) := dgX10_dip_0.2.2.2.2.2.2.2.2.2.2.2.2.1
theorem dX10_dip_26 : decode cX10_dip 26 = .ok (.getfield 227, 3) := dgX10_dip_0.2.2.2.2.2.2.2.2.2.2.2.2.2.1
theorem dX10_dip_29 : decode cX10_dip 29 = .ok (.iconst (-1), 1) := dgX10_dip_0.2.2.2.2.2.2.2.2.2.2.2.2.2.2.1
theorem dX10_dip_30 : decode cX10_dip 30 = .ok (.if_icmp .ne 12, 3) := dgX10_dip_0.2.2.2.2.2.2.2.2.2.2.2.2.2.2.2
theorem dgX10_dip_16 : (decode cX10_dip 33 = .ok (.aload 5, 2)) ∧ (decode cX10_dip 35 = .ok (.getfield 198, 3)) ∧ (decode cX10_dip 38 = .ok (.iconst 5, 1)) ∧ (decode cX10_dip 39 = .ok (.if_icmp .eq 5, 3)) ∧ (decode cX10_dip 42 = .ok (.iconst (-1), 1)) ∧ (decode cX10_dip 43 = .ok (.ireturn, 1)) ∧ (decode cX10_dip 44 = .ok (.iload_n 3, 1)) ∧ (decode cX10_dip 45 = .ok (.iconst 1, 1)) ∧ (decode cX10_dip 46 = .ok (.sipush 1000, 3)) ∧ (decode cX10_dip 49 = .ok (.invokestatic 82, 3)) ∧ (decode cX10_dip 52 = .ok (.ifCond .eq 12, 3)) ∧ (decode cX10_dip 55 = .ok (.aload 5, 2)) ∧ (decode cX10_dip 57 = .ok (.getfield 114, 3)) ∧ (decode cX10_dip 60 = .ok (.iload_n 3, 1)) ∧ (decode cX10_dip 61 = .ok (.if_icmp .ge 5, 3)) ∧ (decode cX10_dip 64 = .ok (.iconst (-1), 1)) := by decide +kernel
theorem dX10_dip_33 : decode cX10_dip 33 = .ok (.aload 5, 2) := dgX10_dip_16.1
theorem dX10_dip_35 : decode cX10_dip 35 = .ok (.getfield 198, 3) := dgX10_dip_16.2.1
theorem dX10_dip_38 : decode cX10_dip 38 = .ok (.iconst 5, 1) := dgX10_dip_16.2.2.1
theorem dX10_dip_39 : decode cX10_dip 39 = .ok (.if_icmp .eq 5, 3) := dgX10_dip_16.2.2.2.1
theorem dX10_dip_42 : decode cX10_dip 42 = .ok (.iconst (-1), 1) := dgX10_dip_16.2.2.2.2.1
theorem dX10_dip_43 : decode cX10_dip 43 = .ok (.ireturn, 1) := dgX10_dip_16.2.2.2.2.2.1
theorem dX10_dip_44 : decode cX10_dip 44 = .ok (.iload_n 3, 1) := dgX10_dip_16.2.2.2.2.2.2.1
theorem dX10_dip_45 : decode cX10_dip 45 = .ok (.iconst 1, 1) := dgX10_dip_16.2.2.2.2.2.2.2.1
theorem dX10_dip_46 : decode cX10_dip 46 = .ok (.sipush 1000, 3) := dgX10_dip_16.2.2.2.2.2.2.2.2.1
theorem dX10_dip_49 : decode cX10_dip 49 = .ok (.invokestatic 82, 3) := dgX10_dip_16.2.2.2.2.2.2.2.2.2.1
theorem dX10_dip_52 : decode cX10_dip 52 = .ok (.ifCond .eq 12, 3) := dgX10_dip_16.2.2.2.2.2.2.2.2.2.2.1
theorem dX10_dip_55 : decode cX10_dip 55 = .ok (.aload 5, 2) := dgX10_dip_16.2.2.2.2.2.2.2.2.2.2.2.1
theorem dX10_dip_57 : decode cX10_dip 57 = .ok (.getfield 114, 3) := dgX10_dip_16.2.2.2.2.2.2.2.2.2.2.2.2.1
theorem dX10_dip_60 : decode cX10_dip 60 = .ok (.iload_n 3, 1) := dgX10_dip_16.2.2.2.2.2.2.2.2.2.2.2.2.2.1
theorem dX10_dip_61 : decode cX10_dip 61 = .ok (.if_icmp .ge 5, 3) := dgX10_dip_16.2.2.2.2.2.2.2.2.2.2.2.2.2.2.1
theorem dX10_dip_64 : decode cX10_dip 64 = .ok (.iconst (-1), 1) := dgX10_dip_16.2.2.2.2.2.2.2.2.2.2.2.2.2.2.2
theorem dgX10_dip_32 : (decode cX10_dip 65 = .ok (.ireturn, 1)) ∧ (decode cX10_dip 66 = .ok (.aload 5, 2)) ∧ (decode cX10_dip 68 = .ok (.dup, 1)) ∧ (decode cX10_dip 69 = .ok (.getfield 114, 3)) ∧ (decode cX10_dip 72 = .ok (.iload_n 3, 1)) ∧ (decode cX10_dip 73 = .ok (.isub, 1)) ∧ (decode cX10_dip 74 = .ok (.putfield 114, 3)) ∧ (decode cX10_dip 77 = .ok (.aload 5, 2)) ∧ (decode cX10_dip 79 = .ok (.dup, 1)) ∧ (decode cX10_dip 80 = .ok (.getfield 230, 3)) ∧ (decode cX10_dip 83 = .ok (.iload_n 3, 1)) ∧ (decode cX10_dip 84 = .ok (.iadd, 1)) ∧ (decode cX10_dip 85 = .ok (.putfield 230, 3)) ∧ (decode cX10_dip 88 = .ok (.aload 4, 2)) ∧ (decode cX10_dip 90 = .ok (.dup, 1)) ∧ (decode cX10_dip 91 = .ok (.getfield 233, 3)) := by decide +kernel
theorem dX10_dip_65 : decode cX10_dip 65 = .ok (.ireturn, 1) := dgX10_dip_32.1
theorem dX10_dip_66 : decode cX10_dip 66 = .ok (.aload 5, 2) := dgX10_dip_32.2.1
theorem dX10_dip_68 : decode cX10_dip 68 = .ok (.dup, 1) := dgX10_dip_32.2.2.1
theorem dX10_dip_69 : decode cX10_dip 69 = .ok (.getfield 114, 3) := dgX10_dip_32.2.2.2.1
theorem dX10_dip_72 : decode cX10_dip 72 = .ok (.iload_n 3, 1) := dgX10_dip_32.2.2.2.2.1
theorem dX10_dip_73 : decode cX10_dip 73 = .ok (.isub, 1) := dgX10_dip_32.2.2.2.2.2.1
theorem dX10_dip_74 : decode cX10_dip 74 = .ok (.putfield 114, 3) := dgX10_dip_32.2.2.2.2.2.2.1
theorem dX10_dip_77 : decode cX10_dip 77 = .ok (.aload 5, 2) := dgX10_dip_32.2.2.2.2.2.2.2.1
theorem dX10_dip_79 : decode cX10_dip 79 = .ok (.dup, 1) := dgX10_dip_32.2.2.2.2.2.2.2.2.1
theorem dX10_dip_80 : decode cX10_dip 80 = .ok (.getfield 230, 3) := dgX10_dip_32.2.2.2.2.2.2.2.2.2.1
theorem dX10_dip_83 : decode cX10_dip 83 = .ok (.iload_n 3, 1) := dgX10_dip_32.2.2.2.2.2.2.2.2.2.2.1
theorem dX10_dip_84 : decode cX10_dip 84 = .ok (.iadd, 1) := dgX10_dip_32.2.2.2.2.2.2.2.2.2.2.2.1
theorem dX10_dip_85 : decode cX10_dip 85 = .ok (.putfield 230, 3) := dgX10_dip_32.2.2.2.2.2.2.2.2.2.2.2.2.1
theorem dX10_dip_88 : decode cX10_dip 88 = .ok (.aload 4, 2) := dgX10_dip_32.2.2.2.2.2.2.2.2.2.2.2.2.2.1
theorem dX10_dip_90 : decode cX10_dip 90 = .ok (.dup, 1) := dgX10_dip_32.2.2.2.2.2.2.2.2.2.2.2.2.2.2.1
theorem dX10_dip_91 : decode cX10_dip 91 = .ok (.getfield 233, 3) := dgX10_dip_32.2.2.2.2.2.2.2.2.2.2.2.2.2.2.2
theorem dgX10_dip_48 : (decode cX10_dip 94 = .ok (.iload_n 3, 1)) ∧ (decode cX10_dip 95 = .ok (.iadd, 1)) ∧ (decode cX10_dip 96 = .ok (.putfield 233, 3)) ∧ (decode cX10_dip 99 = .ok (.aload 4, 2)) ∧ (decode cX10_dip 101 = .ok (.iload_n 2, 1)) ∧ (decode cX10_dip 102 = .ok (.putfield 227, 3)) ∧ (decode cX10_dip 105 = .ok (.aload 4, 2)) ∧ (decode cX10_dip 107 = .ok (.dup, 1)) ∧ (decode cX10_dip 108 = .ok (.getfield 236, 3)) ∧ (decode cX10_dip 111 = .ok (.aload 5, 2)) ∧ (decode cX10_dip 113 = .ok (.getfield 120, 3)) ∧ (decode cX10_dip 116 = .ok (.lor, 1)) ∧ (decode cX10_dip 117 = .ok (.putfield 236, 3)) ∧ (decode cX10_dip 120 = .ok (.aload 4, 2)) ∧ (decode cX10_dip 122 = .ok (.aload 5, 2)) ∧ (decode cX10_dip 124 = .ok (.getfield 205, 3)) := by decide +kernel
theorem dX10_dip_94 : decode cX10_dip 94 = .ok (.iload_n 3, 1) := dgX10_dip_48.1
theorem dX10_dip_95 : decode cX10_dip 95 = .ok (.iadd, 1) := dgX10_dip_48.2.1
theorem dX10_dip_96 : decode cX10_dip 96 = .ok (.putfield 233, 3) := dgX10_dip_48.2.2.1
theorem dX10_dip_99 : decode cX10_dip 99 = .ok (.aload 4, 2) := dgX10_dip_48.2.2.2.1
theorem dX10_dip_101 : decode cX10_dip 101 = .ok (.iload_n 2, 1) := dgX10_dip_48.2.2.2.2.1
theorem dX10_dip_102 : decode cX10_dip 102 = .ok (.putfield 227, 3) := dgX10_dip_48.2.2.2.2.2.1
theorem dX10_dip_105 : decode cX10_dip 105 = .ok (.aload 4, 2) := dgX10_dip_48.2.2.2.2.2.2.1
theorem dX10_dip_107 : decode cX10_dip 107 = .ok (.dup, 1) := dgX10_dip_48.2.2.2.2.2.2.2.1
theorem dX10_dip_108 : decode cX10_dip 108 = .ok (.getfield 236, 3) := dgX10_dip_48.2.2.2.2.2.2.2.2.1
theorem dX10_dip_111 : decode cX10_dip 111 = .ok (.aload 5, 2) := dgX10_dip_48.2.2.2.2.2.2.2.2.2.1
theorem dX10_dip_113 : decode cX10_dip 113 = .ok (.getfield 120, 3) := dgX10_dip_48.2.2.2.2.2.2.2.2.2.2.1
theorem dX10_dip_116 : decode cX10_dip 116 = .ok (.lor, 1) := dgX10_dip_48.2.2.2.2.2.2.2.2.2.2.2.1
theorem dX10_dip_117 : decode cX10_dip 117 = .ok (.putfield 236, 3) := dgX10_dip_48.2.2.2.2.2.2.2.2.2.2.2.2.1
theorem dX10_dip_120 : decode cX10_dip 120 = .ok (.aload 4, 2) := dgX10_dip_48.2.2.2.2.2.2.2.2.2.2.2.2.2.1
theorem dX10_dip_122 : decode cX10_dip 122 = .ok (.aload 5, 2) := dgX10_dip_48.2.2.2.2.2.2.2.2.2.2.2.2.2.2.1
theorem dX10_dip_124 : decode cX10_dip 124 = .ok (.getfield 205, 3) := dgX10_dip_48.2.2.2.2.2.2.2.2.2.2.2.2.2.2.2
theorem dgX10_dip_64 : (decode cX10_dip 127 = .ok (.iconst 3, 1)) ∧ (decode cX10_dip 128 = .ok (.if_icmp .ne 7, 3)) ∧ (decode cX10_dip 131 = .ok (.iconst 1, 1)) ∧ (decode cX10_dip 132 = .ok (.goto 4, 3)) ∧ (decode cX10_dip 135 = .ok (.iconst 0, 1)) ∧ (decode cX10_dip 136 = .ok (.putfield 237, 3)) ∧ (decode cX10_dip 139 = .ok (.aload 4, 2)) ∧ (decode cX10_dip 141 = .ok (.getfield 237, 3)) ∧ (decode cX10_dip 144 = .ok (.ifCond .eq 7, 3)) ∧ (decode cX10_dip 147 = .ok (.iconst 1, 1)) ∧ (decode cX10_dip 148 = .ok (.goto 4, 3)) ∧ (decode cX10_dip 151 = .ok (.iconst 0, 1)) ∧ (decode cX10_dip 152 = .ok (.ireturn, 1)) := by decide +kernel
theorem dX10_dip_127 : decode cX10_dip 127 = .ok (.iconst 3, 1) := dgX10_dip_64.1
theorem dX10_dip_128 : decode cX10_dip 128 = .ok (.if_icmp .ne 7, 3) := dgX10_dip_64.2.1
theorem dX10_dip_131 : decode cX10_dip 131 = .ok (.iconst 1, 1) := dgX10_dip_64.2.2.1
theorem dX10_dip_132 : decode cX10_dip 132 = .ok (.goto 4, 3) := dgX10_dip_64.2.2.2.1
theorem dX10_dip_135 : decode cX10_dip 135 = .ok (.iconst 0, 1) := dgX10_dip_64.2.2.2.2.1
theorem dX10_dip_136 : decode cX10_dip 136 = .ok (.putfield 237, 3) := dgX10_dip_64.2.2.2.2.2.1
theorem dX10_dip_139 : decode cX10_dip 139 = .ok (.aload 4, 2) := dgX10_dip_64.2.2.2.2.2.2.1
theorem dX10_dip_141 : decode cX10_dip 141 = .ok (.getfield 237, 3) := dgX10_dip_64.2.2.2.2.2.2.2.1
theorem dX10_dip_144 : decode cX10_dip 144 = .ok (.ifCond .eq 7, 3) := dgX10_dip_64.2.2.2.2.2.2.2.2.1
theorem dX10_dip_147 : decode cX10_dip 147 = .ok (.iconst 1, 1) := dgX10_dip_64.2.2.2.2.2.2.2.2.2.1
theorem dX10_dip_148 : decode cX10_dip 148 = .ok (.goto 4, 3) := dgX10_dip_64.2.2.2.2.2.2.2.2.2.2.1
theorem dX10_dip_151 : decode cX10_dip 151 = .ok (.iconst 0, 1) := dgX10_dip_64.2.2.2.2.2.2.2.2.2.2.2.1
theorem dX10_dip_152 : decode cX10_dip 152 = .ok (.ireturn, 1) := dgX10_dip_64.2.2.2.2.2.2.2.2.2.2.2.2
theorem dgX10_place_0 : (decode cX10_place 0 = .ok (.aload_n 0, 1)) ∧ (decode cX10_place 1 = .ok (.iload_n 1, 1)) ∧ (decode cX10_place 2 = .ok (.invokevirtual 223, 3)) ∧ (decode cX10_place 5 = .ok (.astore 4, 2)) ∧ (decode cX10_place 7 = .ok (.iload_n 2, 1)) ∧ (decode cX10_place 8 = .ok (.iload_n 3, 1)) ∧ (decode cX10_place 9 = .ok (.invokestatic 240, 3)) ∧ (decode cX10_place 12 = .ok (.istore 5, 2)) ∧ (decode cX10_place 14 = .ok (.aload 4, 2)) ∧ (decode cX10_place 16 = .ok (.ifnull 20, 3)) ∧ (decode cX10_place 19 = .ok (.iload 5, 2)) ∧ (decode cX10_place 21 = .ok (.iconst (-1), 1)) ∧ (decode cX10_place 22 = .ok (.if_icmp .eq 14, 3)) ∧ (decode cX10_place 25 = .ok (.aload_n 0, 1)) ∧ (decode cX10_place 26 = .ok (.getfield 33, 3)) ∧ (decode cX10_place 29 = .ok (.iload 5, 2)) := by decide +kernel
theorem dX10_place_0 : decode cX10_place 0 = .ok (.aload_n 0, 1) := dgX10_place_0.1
theorem dX10_place_1 : decode cX10_place 1 = .ok (.iload_n 1, 1) := dgX10_place_0.2.1
theorem dX10_place_2 : decode cX10_place 2 = .ok (.invokevirtual 223, 3) := dgX10_place_0.2.2.1
theorem dX10_place_5 : decode cX10_place 5 = .ok (.astore 4, 2) := dgX10_place_0.2.2.2.1
theorem dX10_place_7 : decode cX10_place 7 = .ok (.iload_n 2, 1) := dgX10_place_0.2.2.2.2.1
theorem dX10_place_8 : decode cX10_place 8 = .ok (.iload_n 3, 1) := dgX10_place_0.2.2.2.2.2.1
theorem dX10_place_9 : decode cX10_place 9 = .ok (.invokestatic 240, 3) := dgX10_place_0.2.2.2.2.2.2.1
theorem dX10_place_12 : decode cX10_place 12 = .ok (.istore 5, 2) := dgX10_place_0.2.2.2.2.2.2.2.1
theorem dX10_place_14 : decode cX10_place 14 = .ok (.aload 4, 2) := dgX10_place_0.2.2.2.2.2.2.2.2.1
theorem dX10_place_16 : decode cX10_place 16 = .ok (.ifnull 20, 3) := dgX10_place_0.2.2.2.2.2.2.2.2.2.1
theorem dX10_place_19 : decode cX10_place 19 = .ok (.iload 5, 2) := dgX10_place_0.2.2.2.2.2.2.2.2.2.2.1
theorem dX10_place_21 : decode cX10_place 21 = .ok (.iconst (-1), 1) := dgX10_place_0.2.2.2.2.2.2.2.2.2.2.2.1
theorem dX10_place_22 : decode cX10_place 22 = .ok (.if_icmp .eq 14, 3) := dgX10_place_0.2.2.2.2.2.2.2.2.2.2.2.2.1
theorem dX10_place_25 : decode cX10_place 25 = .ok (.aload_n 0, 1) := dgX10_place_0.2.2.2.2.2.2.2.2.2.2.2.2.2.1
theorem dX10_place_26 : decode cX10_place 26 = .ok (.getfield 33, 3) := dgX10_place_0.2.2.2.2.2.2.2.2.2.2.2.2.2.2.1
theorem dX10_place_29 : decode cX10_place 29 = .ok (.iload 5, 2) := dgX10_place_0.2.2.2.2.2.2.2.2.2.2.2.2.2.2.2
theorem dgX10_place_16 : (decode cX10_place 31 = .ok (.iaload, 1)) ∧ (decode cX10_place 32 = .ok (.iconst (-1), 1)) ∧ (decode cX10_place 33 = .ok (.if_icmp .eq 5, 3)) ∧ (decode cX10_place 36 = .ok (.iconst 0, 1)) ∧ (decode cX10_place 37 = .ok (.ireturn, 1)) ∧ (decode cX10_place 38 = .ok (.aload_n 0, 1)) ∧ (decode cX10_place 39 = .ok (.aload 4, 2)) ∧ (decode cX10_place 41 = .ok (.invokevirtual 243, 3)) ∧ (decode cX10_place 44 = .ok (.aload_n 0, 1)) ∧ (decode cX10_place 45 = .ok (.getfield 33, 3)) ∧ (decode cX10_place 48 = .ok (.iload 5, 2)) ∧ (decode cX10_place 50 = .ok (.iload_n 1, 1)) ∧ (decode cX10_place 51 = .ok (.iastore, 1)) ∧ (decode cX10_place 52 = .ok (.aload 4, 2)) ∧ (decode cX10_place 54 = .ok (.iconst 1, 1)) ∧ (decode cX10_place 55 = .ok (.putfield 247, 3)) := by decide +kernel
theorem dX10_place_31 : decode cX10_place 31 = .ok (.iaload, 1) := dgX10_place_16.1
theorem dX10_place_32 : decode cX10_place 32 = .ok (.iconst (-1), 1) := dgX10_place_16.2.1
theorem dX10_place_33 : decode cX10_place 33 = .ok (.if_icmp .eq 5, 3) := dgX10_place_16.2.2.1
theorem dX10_place_36 : decode cX10_place 36 = .ok (.iconst 0, 1) := dgX10_place_16.2.2.2.1
theorem dX10_place_37 : decode cX10_place 37 = .ok (.ireturn, 1) := dgX10_place_16.2.2.2.2.1
theorem dX10_place_38 : decode cX10_place 38 = .ok (.aload_n 0, 1) := dgX10_place_16.2.2.2.2.2.1
theorem dX10_place_39 : decode cX10_place 39 = .ok (.aload 4, 2) := dgX10_place_16.2.2.2.2.2.2.1
theorem dX10_place_41 : decode cX10_place 41 = .ok (.invokevirtual 243, 3) := dgX10_place_16.2.2.2.2.2.2.2.1
theorem dX10_place_44 : decode cX10_place 44 = .ok (.aload_n 0, 1) := dgX10_place_16.2.2.2.2.2.2.2.2.1
theorem dX10_place_45 : decode cX10_place 45 = .ok (.getfield 33, 3) := dgX10_place_16.2.2.2.2.2.2.2.2.2.1
theorem dX10_place_48 : decode cX10_place 48 = .ok (.iload 5, 2) := dgX10_place_16.2.2.2.2.2.2.2.2.2.2.1
theorem dX10_place_50 : decode cX10_place 50 = .ok (.iload_n 1, 1) := dgX10_place_16.2.2.2.2.2.2.2.2.2.2.2.1
theorem dX10_place_51 : decode cX10_place 51 = .ok (.iastore, 1) := dgX10_place_16.2.2.2.2.2.2.2.2.2.2.2.2.1
theorem dX10_place_52 : decode cX10_place 52 = .ok (.aload 4, 2) := dgX10_place_16.2.2.2.2.2.2.2.2.2.2.2.2.2.1
theorem dX10_place_54 : decode cX10_place 54 = .ok (.iconst 1, 1) := dgX10_place_16.2.2.2.2.2.2.2.2.2.2.2.2.2.2.1
theorem dX10_place_55 : decode cX10_place 55 = .ok (.putfield 247, 3) := dgX10_place_16.2.2.2.2.2.2.2.2.2.2.2.2.2.2.2
theorem dgX10_place_32 : (decode cX10_place 58 = .ok (.aload 4, 2)) ∧ (decode cX10_place 60 = .ok (.iload 5, 2)) ∧ (decode cX10_place 62 = .ok (.putfield 250, 3)) ∧ (decode cX10_place 65 = .ok (.iconst 1, 1)) ∧ (decode cX10_place 66 = .ok (.ireturn, 1)) := by decide +kernel
theorem dX10_place_58 : decode cX10_place 58 = .ok (.aload 4, 2) := dgX10_place_32.1
theorem dX10_place_60 : decode cX10_place 60 = .ok (.iload 5, 2) := dgX10_place_32.2.1
theorem dX10_place_62 : decode cX10_place 62 = .ok (.putfield 250, 3) := dgX10_place_32.2.2.1
theorem dX10_place_65 : decode cX10_place 65 = .ok (.iconst 1, 1) := dgX10_place_32.2.2.2.1
theorem dX10_place_66 : decode cX10_place 66 = .ok (.ireturn, 1) := dgX10_place_32.2.2.2.2
theorem dgX10_take_0 : (decode cX10_take 0 = .ok (.aload_n 0, 1)) ∧ (decode cX10_take 1 = .ok (.iload_n 1, 1)) ∧ (decode cX10_take 2 = .ok (.invokevirtual 253, 3)) ∧ (decode cX10_take 5 = .ok (.astore_n 2, 1)) ∧ (decode cX10_take 6 = .ok (.aload_n 2, 1)) ∧ (decode cX10_take 7 = .ok (.ifnull 11, 3)) ∧ (decode cX10_take 10 = .ok (.aload_n 2, 1)) ∧ (decode cX10_take 11 = .ok (.getfield 247, 3)) ∧ (decode cX10_take 14 = .ok (.iconst 1, 1)) ∧ (decode cX10_take 15 = .ok (.if_icmp .eq 5, 3)) ∧ (decode cX10_take 18 = .ok (.iconst 0, 1)) ∧ (decode cX10_take 19 = .ok (.ireturn, 1)) ∧ (decode cX10_take 20 = .ok (.aload_n 0, 1)) ∧ (decode cX10_take 21 = .ok (.aload_n 2, 1)) ∧ (decode cX10_take 22 = .ok (.invokevirtual 243, 3)) ∧ (decode cX10_take 25 = .ok (.iconst 1, 1)) := by decide +kernel
theorem dX10_take_0 : decode cX10_take 0 = .ok (.aload_n 0, 1) := dgX10_take_0.1
theorem dX10_take_1 : decode cX10_take 1 = .ok (.iload_n 1, 1) := dgX10_take_0.2.1
theorem dX10_take_2 : decode cX10_take 2 = .ok (.invokevirtual 253, 3) := dgX10_take_0.2.2.1
theorem dX10_take_5 : decode cX10_take 5 = .ok (.astore_n 2, 1) := dgX10_take_0.2.2.2.1
theorem dX10_take_6 : decode cX10_take 6 = .ok (.aload_n 2, 1) := dgX10_take_0.2.2.2.2.1
theorem dX10_take_7 : decode cX10_take 7 = .ok (.ifnull 11, 3) := dgX10_take_0.2.2.2.2.2.1
theorem dX10_take_10 : decode cX10_take 10 = .ok (.aload_n 2, 1) := dgX10_take_0.2.2.2.2.2.2.1
theorem dX10_take_11 : decode cX10_take 11 = .ok (.getfield 247, 3) := dgX10_take_0.2.2.2.2.2.2.2.1
theorem dX10_take_14 : decode cX10_take 14 = .ok (.iconst 1, 1) := dgX10_take_0.2.2.2.2.2.2.2.2.1
theorem dX10_take_15 : decode cX10_take 15 = .ok (.if_icmp .eq 5, 3) := dgX10_take_0.2.2.2.2.2.2.2.2.2.1
theorem dX10_take_18 : decode cX10_take 18 = .ok (.iconst 0, 1) := dgX10_take_0.2.2.2.2.2.2.2.2.2.2.1
theorem dX10_take_19 : decode cX10_take 19 = .ok (.ireturn, 1) := dgX10_take_0.2.2.2.2.2.2.2.2.2.2.2.1
theorem dX10_take_20 : decode cX10_take 20 = .ok (.aload_n 0, 1) := dgX10_take_0.2.2.2.2.2.2.2.2.2.2.2.2.1
theorem dX10_take_21 : decode cX10_take 21 = .ok (.aload_n 2, 1) := dgX10_take_0.2.2.2.2.2.2.2.2.2.2.2.2.2.1
theorem dX10_take_22 : decode cX10_take 22 = .ok (.invokevirtual 243, 3) := dgX10_take_0.2.2.2.2.2.2.2.2.2.2.2.2.2.2.1
theorem dX10_take_25 : decode cX10_take 25 = .ok (.iconst 1, 1) := dgX10_take_0.2.2.2.2.2.2.2.2.2.2.2.2.2.2.2
theorem dX10_take_26 : decode cX10_take 26 = .ok (.ireturn, 1) := by decide +kernel
theorem dgX10_allow_0 : (decode cX10_allow 0 = .ok (.aload_n 0, 1)) ∧ (decode cX10_allow 1 = .ok (.iload_n 1, 1)) ∧ (decode cX10_allow 2 = .ok (.invokevirtual 253, 3)) ∧ (decode cX10_allow 5 = .ok (.astore_n 2, 1)) ∧ (decode cX10_allow 6 = .ok (.aload_n 2, 1)) ∧ (decode cX10_allow 7 = .ok (.ifnull 18, 3)) ∧ (decode cX10_allow 10 = .ok (.aload_n 2, 1)) ∧ (decode cX10_allow 11 = .ok (.getfield 227, 3)) ∧ (decode cX10_allow 14 = .ok (.iconst (-1), 1)) ∧ (decode cX10_allow 15 = .ok (.if_icmp .eq 10, 3)) ∧ (decode cX10_allow 18 = .ok (.aload_n 2, 1)) ∧ (decode cX10_allow 19 = .ok (.getfield 237, 3)) ∧ (decode cX10_allow 22 = .ok (.ifCond .eq 5, 3)) ∧ (decode cX10_allow 25 = .ok (.iconst 0, 1)) ∧ (decode cX10_allow 26 = .ok (.ireturn, 1)) ∧ (decode cX10_allow 27 = .ok (.aload_n 2, 1)) := by decide +kernel
theorem dX10_allow_0 : decode cX10_allow 0 = .ok (.aload_n 0, 1) := dgX10_allow_0.1
theorem dX10_allow_1 : decode cX10_allow 1 = .ok (.iload_n 1, 1) := dgX10_allow_0.2.1
theorem dX10_allow_2 : decode cX10_allow 2 = .ok (.invokevirtual 253, 3) := dgX10_allow_0.2.2.1
theorem dX10_allow_5 : decode cX10_allow 5 = .ok (.astore_n 2, 1) := dgX10_allow_0.2.2.2.1
theorem dX10_allow_6 : decode cX10_allow 6 = .ok (.aload_n 2, 1) := dgX10_allow_0.2.2.2.2.1
theorem dX10_allow_7 : decode cX10_allow 7 = .ok (.ifnull 18, 3) := dgX10_allow_0.2.2.2.2.2.1
theorem dX10_allow_10 : decode cX10_allow 10 = .ok (.aload_n 2, 1) := dgX10_allow_0.2.2.2.2.2.2.1
theorem dX10_allow_11 : decode cX10_allow 11 = .ok (.getfield 227, 3) := dgX10_allow_0.2.2.2.2.2.2.2.1
theorem dX10_allow_14 : decode cX10_allow 14 = .ok (.iconst (-1), 1) := dgX10_allow_0.2.2.2.2.2.2.2.2.1
theorem dX10_allow_15 : decode cX10_allow 15 = .ok (.if_icmp .eq 10, 3) := dgX10_allow_0.2.2.2.2.2.2.2.2.2.1
theorem dX10_allow_18 : decode cX10_allow 18 = .ok (.aload_n 2, 1) := dgX10_allow_0.2.2.2.2.2.2.2.2.2.2.1
theorem dX10_allow_19 : decode cX10_allow 19 = .ok (.getfield 237, 3) := dgX10_allow_0.2.2.2.2.2.2.2.2.2.2.2.1
theorem dX10_allow_22 : decode cX10_allow 22 = .ok (.ifCond .eq 5, 3) := dgX10_allow_0.2.2.2.2.2.2.2.2.2.2.2.2.1
theorem dX10_allow_25 : decode cX10_allow 25 = .ok (.iconst 0, 1) := dgX10_allow_0.2.2.2.2.2.2.2.2.2.2.2.2.2.1
theorem dX10_allow_26 : decode cX10_allow 26 = .ok (.ireturn, 1) := dgX10_allow_0.2.2.2.2.2.2.2.2.2.2.2.2.2.2.1
theorem dX10_allow_27 : decode cX10_allow 27 = .ok (.aload_n 2, 1) := dgX10_allow_0.2.2.2.2.2.2.2.2.2.2.2.2.2.2.2
theorem dgX10_allow_16 : (decode cX10_allow 28 = .ok (.iconst 1, 1)) ∧ (decode cX10_allow 29 = .ok (.putfield 256, 3)) ∧ (decode cX10_allow 32 = .ok (.iconst 1, 1)) ∧ (decode cX10_allow 33 = .ok (.ireturn, 1)) := by decide +kernel
theorem dX10_allow_28 : decode cX10_allow 28 = .ok (.iconst 1, 1) := dgX10_allow_16.1
theorem dX10_allow_29 : decode cX10_allow 29 = .ok (.putfield 256, 3) := dgX10_allow_16.2.1
theorem dX10_allow_32 : decode cX10_allow 32 = .ok (.iconst 1, 1) := dgX10_allow_16.2.2.1
theorem dX10_allow_33 : decode cX10_allow 33 = .ok (.ireturn, 1) := dgX10_allow_16.2.2.2
theorem dgX10_pieceOf_0 : (decode cX10_pieceOf 0 = .ok (.aload_n 0, 1)) ∧ (decode cX10_pieceOf 1 = .ok (.iload_n 1, 1)) ∧ (decode cX10_pieceOf 2 = .ok (.invokevirtual 253, 3)) ∧ (decode cX10_pieceOf 5 = .ok (.astore_n 3, 1)) ∧ (decode cX10_pieceOf 6 = .ok (.aload_n 3, 1)) ∧ (decode cX10_pieceOf 7 = .ok (.ifnonnull 7, 3)) ∧ (decode cX10_pieceOf 10 = .ok (.iconst (-1), 1)) ∧ (decode cX10_pieceOf 11 = .ok (.goto 8, 3)) ∧ (decode cX10_pieceOf 14 = .ok (.aload_n 3, 1)) ∧ (decode cX10_pieceOf 15 = .ok (.iload_n 2, 1)) ∧ (decode cX10_pieceOf 16 = .ok (.invokevirtual 259, 3)) ∧ (decode cX10_pieceOf 19 = .ok (.ireturn, 1)) := by decide +kernel
theorem dX10_pieceOf_0 : decode cX10_pieceOf 0 = .ok (.aload_n 0, 1) := dgX10_pieceOf_0.1
theorem dX10_pieceOf_1 : decode cX10_pieceOf 1 = .ok (.iload_n 1, 1) := dgX10_pieceOf_0.2.1
theorem dX10_pieceOf_2 : decode cX10_pieceOf 2 = .ok (.invokevirtual 253, 3) := dgX10_pieceOf_0.2.2.1
theorem dX10_pieceOf_5 : decode cX10_pieceOf 5 = .ok (.astore_n 3, 1) := dgX10_pieceOf_0.2.2.2.1
theorem dX10_pieceOf_6 : decode cX10_pieceOf 6 = .ok (.aload_n 3, 1) := dgX10_pieceOf_0.2.2.2.2.1
theorem dX10_pieceOf_7 : decode cX10_pieceOf 7 = .ok (.ifnonnull 7, 3) := dgX10_pieceOf_0.2.2.2.2.2.1
theorem dX10_pieceOf_10 : decode cX10_pieceOf 10 = .ok (.iconst (-1), 1) := dgX10_pieceOf_0.2.2.2.2.2.2.1
theorem dX10_pieceOf_11 : decode cX10_pieceOf 11 = .ok (.goto 8, 3) := dgX10_pieceOf_0.2.2.2.2.2.2.2.1
theorem dX10_pieceOf_14 : decode cX10_pieceOf 14 = .ok (.aload_n 3, 1) := dgX10_pieceOf_0.2.2.2.2.2.2.2.2.1
theorem dX10_pieceOf_15 : decode cX10_pieceOf 15 = .ok (.iload_n 2, 1) := dgX10_pieceOf_0.2.2.2.2.2.2.2.2.2.1
theorem dX10_pieceOf_16 : decode cX10_pieceOf 16 = .ok (.invokevirtual 259, 3) := dgX10_pieceOf_0.2.2.2.2.2.2.2.2.2.2.1
theorem dX10_pieceOf_19 : decode cX10_pieceOf 19 = .ok (.ireturn, 1) := dgX10_pieceOf_0.2.2.2.2.2.2.2.2.2.2.2
theorem dgX10_at_0 : (decode cX10_at 0 = .ok (.iload_n 1, 1)) ∧ (decode cX10_at 1 = .ok (.iload_n 2, 1)) ∧ (decode cX10_at 2 = .ok (.invokestatic 240, 3)) ∧ (decode cX10_at 5 = .ok (.istore_n 3, 1)) ∧ (decode cX10_at 6 = .ok (.iload_n 3, 1)) ∧ (decode cX10_at 7 = .ok (.iconst (-1), 1)) ∧ (decode cX10_at 8 = .ok (.if_icmp .ne 7, 3)) ∧ (decode cX10_at 11 = .ok (.iconst (-1), 1)) ∧ (decode cX10_at 12 = .ok (.goto 9, 3)) ∧ (decode cX10_at 15 = .ok (.aload_n 0, 1)) ∧ (decode cX10_at 16 = .ok (.getfield 33, 3)) ∧ (decode cX10_at 19 = .ok (.iload_n 3, 1)) ∧ (decode cX10_at 20 = .ok (.iaload, 1)) ∧ (decode cX10_at 21 = .ok (.ireturn, 1)) := by decide +kernel
theorem dX10_at_0 : decode cX10_at 0 = .ok (.iload_n 1, 1) := dgX10_at_0.1
theorem dX10_at_1 : decode cX10_at 1 = .ok (.iload_n 2, 1) := dgX10_at_0.2.1
theorem dX10_at_2 : decode cX10_at 2 = .ok (.invokestatic 240, 3) := dgX10_at_0.2.2.1
theorem dX10_at_5 : decode cX10_at 5 = .ok (.istore_n 3, 1) := dgX10_at_0.2.2.2.1
theorem dX10_at_6 : decode cX10_at 6 = .ok (.iload_n 3, 1) := dgX10_at_0.2.2.2.2.1
theorem dX10_at_7 : decode cX10_at 7 = .ok (.iconst (-1), 1) := dgX10_at_0.2.2.2.2.2.1
theorem dX10_at_8 : decode cX10_at 8 = .ok (.if_icmp .ne 7, 3) := dgX10_at_0.2.2.2.2.2.2.1
theorem dX10_at_11 : decode cX10_at 11 = .ok (.iconst (-1), 1) := dgX10_at_0.2.2.2.2.2.2.2.1
theorem dX10_at_12 : decode cX10_at 12 = .ok (.goto 9, 3) := dgX10_at_0.2.2.2.2.2.2.2.2.1
theorem dX10_at_15 : decode cX10_at 15 = .ok (.aload_n 0, 1) := dgX10_at_0.2.2.2.2.2.2.2.2.2.1
theorem dX10_at_16 : decode cX10_at 16 = .ok (.getfield 33, 3) := dgX10_at_0.2.2.2.2.2.2.2.2.2.2.1
theorem dX10_at_19 : decode cX10_at 19 = .ok (.iload_n 3, 1) := dgX10_at_0.2.2.2.2.2.2.2.2.2.2.2.1
theorem dX10_at_20 : decode cX10_at 20 = .ok (.iaload, 1) := dgX10_at_0.2.2.2.2.2.2.2.2.2.2.2.2.1
theorem dX10_at_21 : decode cX10_at 21 = .ok (.ireturn, 1) := dgX10_at_0.2.2.2.2.2.2.2.2.2.2.2.2.2
theorem dgX10_pack_0 : (decode cX10_pack 0 = .ok (.iload_n 1, 1)) ∧ (decode cX10_pack 1 = .ok (.iload_n 2, 1)) ∧ (decode cX10_pack 2 = .ok (.iload_n 3, 1)) ∧ (decode cX10_pack 3 = .ok (.invokestatic 260, 3)) ∧ (decode cX10_pack 6 = .ok (.ifCond .eq 13, 3)) ∧ (decode cX10_pack 9 = .ok (.aload_n 0, 1)) ∧ (decode cX10_pack 10 = .ok (.getfield 263, 3)) ∧ (decode cX10_pack 13 = .ok (.sipush 200, 3)) ∧ (decode cX10_pack 16 = .ok (.if_icmp .lt 5, 3)) ∧ (decode cX10_pack 19 = .ok (.iconst (-1), 1)) ∧ (decode cX10_pack 20 = .ok (.ireturn, 1)) ∧ (decode cX10_pack 21 = .ok (.aload_n 0, 1)) ∧ (decode cX10_pack 22 = .ok (.aload_n 0, 1)) ∧ (decode cX10_pack 23 = .ok (.getfield 33, 3)) ∧ (decode cX10_pack 26 = .ok (.iload_n 1, 1)) ∧ (decode cX10_pack 27 = .ok (.invokevirtual 266, 3)) := by decide +kernel
theorem dX10_pack_0 : decode cX10_pack 0 = .ok (.iload_n 1, 1) := dgX10_pack_0.1
theorem dX10_pack_1 : decode cX10_pack 1 = .ok (.iload_n 2, 1) := dgX10_pack_0.2.1
theorem dX10_pack_2 : decode cX10_pack 2 = .ok (.iload_n 3, 1) := dgX10_pack_0.2.2.1
theorem dX10_pack_3 : decode cX10_pack 3 = .ok (.invokestatic 260, 3) := dgX10_pack_0.2.2.2.1
theorem dX10_pack_6 : decode cX10_pack 6 = .ok (.ifCond .eq 13, 3) := dgX10_pack_0.2.2.2.2.1
theorem dX10_pack_9 : decode cX10_pack 9 = .ok (.aload_n 0, 1) := dgX10_pack_0.2.2.2.2.2.1
theorem dX10_pack_10 : decode cX10_pack 10 = .ok (.getfield 263, 3) := dgX10_pack_0.2.2.2.2.2.2.1
theorem dX10_pack_13 : decode cX10_pack 13 = .ok (.sipush 200, 3) := dgX10_pack_0.2.2.2.2.2.2.2.1
theorem dX10_pack_16 : decode cX10_pack 16 = .ok (.if_icmp .lt 5, 3) := dgX10_pack_0.2.2.2.2.2.2.2.2.1
theorem dX10_pack_19 : decode cX10_pack 19 = .ok (.iconst (-1), 1) := dgX10_pack_0.2.2.2.2.2.2.2.2.2.1
theorem dX10_pack_20 : decode cX10_pack 20 = .ok (.ireturn, 1) := dgX10_pack_0.2.2.2.2.2.2.2.2.2.2.1
theorem dX10_pack_21 : decode cX10_pack 21 = .ok (.aload_n 0, 1) := dgX10_pack_0.2.2.2.2.2.2.2.2.2.2.2.1
theorem dX10_pack_22 : decode cX10_pack 22 = .ok (.aload_n 0, 1) := dgX10_pack_0.2.2.2.2.2.2.2.2.2.2.2.2.1
theorem dX10_pack_23 : decode cX10_pack 23 = .ok (.getfield 33, 3) := dgX10_pack_0.2.2.2.2.2.2.2.2.2.2.2.2.2.1
theorem dX10_pack_26 : decode cX10_pack 26 = .ok (.iload_n 1, 1) := dgX10_pack_0.2.2.2.2.2.2.2.2.2.2.2.2.2.2.1
theorem dX10_pack_27 : decode cX10_pack 27 = .ok (.invokevirtual 266, 3) := dgX10_pack_0.2.2.2.2.2.2.2.2.2.2.2.2.2.2.2
theorem dgX10_pack_16 : (decode cX10_pack 30 = .ok (.aload_n 0, 1)) ∧ (decode cX10_pack 31 = .ok (.getfield 64, 3)) ∧ (decode cX10_pack 34 = .ok (.iload_n 2, 1)) ∧ (decode cX10_pack 35 = .ok (.iload_n 3, 1)) ∧ (decode cX10_pack 36 = .ok (.invokevirtual 269, 3)) ∧ (decode cX10_pack 39 = .ok (.istore 4, 2)) ∧ (decode cX10_pack 41 = .ok (.iload 4, 2)) ∧ (decode cX10_pack 43 = .ok (.iconst (-1), 1)) ∧ (decode cX10_pack 44 = .ok (.if_icmp .ne 5, 3)) ∧ (decode cX10_pack 47 = .ok (.iconst (-1), 1)) ∧ (decode cX10_pack 48 = .ok (.ireturn, 1)) ∧ (decode cX10_pack 49 = .ok (.new 27, 3)) ∧ (decode cX10_pack 52 = .ok (.dup, 1)) ∧ (decode cX10_pack 53 = .ok (.iload_n 2, 1)) ∧ (decode cX10_pack 54 = .ok (.iload 4, 2)) ∧ (decode cX10_pack 56 = .ok (.aload_n 0, 1)) := by decide +kernel
theorem dX10_pack_30 : decode cX10_pack 30 = .ok (.aload_n 0, 1) := dgX10_pack_16.1
theorem dX10_pack_31 : decode cX10_pack 31 = .ok (.getfield 64, 3) := dgX10_pack_16.2.1
theorem dX10_pack_34 : decode cX10_pack 34 = .ok (.iload_n 2, 1) := dgX10_pack_16.2.2.1
theorem dX10_pack_35 : decode cX10_pack 35 = .ok (.iload_n 3, 1) := dgX10_pack_16.2.2.2.1
theorem dX10_pack_36 : decode cX10_pack 36 = .ok (.invokevirtual 269, 3) := dgX10_pack_16.2.2.2.2.1
theorem dX10_pack_39 : decode cX10_pack 39 = .ok (.istore 4, 2) := dgX10_pack_16.2.2.2.2.2.1
theorem dX10_pack_41 : decode cX10_pack 41 = .ok (.iload 4, 2) := dgX10_pack_16.2.2.2.2.2.2.1
theorem dX10_pack_43 : decode cX10_pack 43 = .ok (.iconst (-1), 1) := dgX10_pack_16.2.2.2.2.2.2.2.1
theorem dX10_pack_44 : decode cX10_pack 44 = .ok (.if_icmp .ne 5, 3) := dgX10_pack_16.2.2.2.2.2.2.2.2.1
theorem dX10_pack_47 : decode cX10_pack 47 = .ok (.iconst (-1), 1) := dgX10_pack_16.2.2.2.2.2.2.2.2.2.1
theorem dX10_pack_48 : decode cX10_pack 48 = .ok (.ireturn, 1) := dgX10_pack_16.2.2.2.2.2.2.2.2.2.2.1
theorem dX10_pack_49 : decode cX10_pack 49 = .ok (.new 27, 3) := dgX10_pack_16.2.2.2.2.2.2.2.2.2.2.2.1
theorem dX10_pack_52 : decode cX10_pack 52 = .ok (.dup, 1) := dgX10_pack_16.2.2.2.2.2.2.2.2.2.2.2.2.1
theorem dX10_pack_53 : decode cX10_pack 53 = .ok (.iload_n 2, 1) := dgX10_pack_16.2.2.2.2.2.2.2.2.2.2.2.2.2.1
theorem dX10_pack_54 : decode cX10_pack 54 = .ok (.iload 4, 2) := dgX10_pack_16.2.2.2.2.2.2.2.2.2.2.2.2.2.2.1
theorem dX10_pack_56 : decode cX10_pack 56 = .ok (.aload_n 0, 1) := dgX10_pack_16.2.2.2.2.2.2.2.2.2.2.2.2.2.2.2
theorem dgX10_pack_32 : (decode cX10_pack 57 = .ok (.getfield 64, 3)) ∧ (decode cX10_pack 60 = .ok (.invokevirtual 272, 3)) ∧ (decode cX10_pack 63 = .ok (.invokespecial 276, 3)) ∧ (decode cX10_pack 66 = .ok (.astore 5, 2)) ∧ (decode cX10_pack 68 = .ok (.iconst 0, 1)) ∧ (decode cX10_pack 69 = .ok (.istore 6, 2)) ∧ (decode cX10_pack 71 = .ok (.iload 6, 2)) ∧ (decode cX10_pack 73 = .ok (.aload_n 0, 1)) ∧ (decode cX10_pack 74 = .ok (.getfield 64, 3)) ∧ (decode cX10_pack 77 = .ok (.getfield 279, 3)) ∧ (decode cX10_pack 80 = .ok (.if_icmp .ge 38, 3)) ∧ (decode cX10_pack 83 = .ok (.aload_n 0, 1)) ∧ (decode cX10_pack 84 = .ok (.getfield 64, 3)) ∧ (decode cX10_pack 87 = .ok (.getfield 282, 3)) ∧ (decode cX10_pack 90 = .ok (.iload 6, 2)) ∧ (decode cX10_pack 92 = .ok (.baload, 1)) := by decide +kernel
theorem dX10_pack_57 : decode cX10_pack 57 = .ok (.getfield 64, 3) := dgX10_pack_32.1
theorem dX10_pack_60 : decode cX10_pack 60 = .ok (.invokevirtual 272, 3) := dgX10_pack_32.2.1
theorem dX10_pack_63 : decode cX10_pack 63 = .ok (.invokespecial 276, 3) := dgX10_pack_32.2.2.1
theorem dX10_pack_66 : decode cX10_pack 66 = .ok (.astore 5, 2) := dgX10_pack_32.2.2.2.1
theorem dX10_pack_68 : decode cX10_pack 68 = .ok (.iconst 0, 1) := dgX10_pack_32.2.2.2.2.1
theorem dX10_pack_69 : decode cX10_pack 69 = .ok (.istore 6, 2) := dgX10_pack_32.2.2.2.2.2.1
theorem dX10_pack_71 : decode cX10_pack 71 = .ok (.iload 6, 2) := dgX10_pack_32.2.2.2.2.2.2.1
theorem dX10_pack_73 : decode cX10_pack 73 = .ok (.aload_n 0, 1) := dgX10_pack_32.2.2.2.2.2.2.2.1
theorem dX10_pack_74 : decode cX10_pack 74 = .ok (.getfield 64, 3) := dgX10_pack_32.2.2.2.2.2.2.2.2.1
theorem dX10_pack_77 : decode cX10_pack 77 = .ok (.getfield 279, 3) := dgX10_pack_32.2.2.2.2.2.2.2.2.2.1
theorem dX10_pack_80 : decode cX10_pack 80 = .ok (.if_icmp .ge 38, 3) := dgX10_pack_32.2.2.2.2.2.2.2.2.2.2.1
theorem dX10_pack_83 : decode cX10_pack 83 = .ok (.aload_n 0, 1) := dgX10_pack_32.2.2.2.2.2.2.2.2.2.2.2.1
theorem dX10_pack_84 : decode cX10_pack 84 = .ok (.getfield 64, 3) := dgX10_pack_32.2.2.2.2.2.2.2.2.2.2.2.2.1
theorem dX10_pack_87 : decode cX10_pack 87 = .ok (.getfield 282, 3) := dgX10_pack_32.2.2.2.2.2.2.2.2.2.2.2.2.2.1
theorem dX10_pack_90 : decode cX10_pack 90 = .ok (.iload 6, 2) := dgX10_pack_32.2.2.2.2.2.2.2.2.2.2.2.2.2.2.1
theorem dX10_pack_92 : decode cX10_pack 92 = .ok (.baload, 1) := dgX10_pack_32.2.2.2.2.2.2.2.2.2.2.2.2.2.2.2
theorem dgX10_pack_48 : (decode cX10_pack 93 = .ok (.ifCond .eq 19, 3)) ∧ (decode cX10_pack 96 = .ok (.aload_n 0, 1)) ∧ (decode cX10_pack 97 = .ok (.aload_n 0, 1)) ∧ (decode cX10_pack 98 = .ok (.getfield 64, 3)) ∧ (decode cX10_pack 101 = .ok (.getfield 285, 3)) ∧ (decode cX10_pack 104 = .ok (.iload 6, 2)) ∧ (decode cX10_pack 106 = .ok (.iaload, 1)) ∧ (decode cX10_pack 107 = .ok (.aload 5, 2)) ∧ (decode cX10_pack 109 = .ok (.invokevirtual 288, 3)) ∧ (decode cX10_pack 112 = .ok (.iinc 6 1, 3)) ∧ (decode cX10_pack 115 = .ok (.goto (-44), 3)) ∧ (decode cX10_pack 118 = .ok (.aload 5, 2)) ∧ (decode cX10_pack 120 = .ok (.aload_n 0, 1)) ∧ (decode cX10_pack 121 = .ok (.aload 5, 2)) ∧ (decode cX10_pack 123 = .ok (.getfield 292, 3)) ∧ (decode cX10_pack 126 = .ok (.invokevirtual 293, 3)) := by decide +kernel
theorem dX10_pack_93 : decode cX10_pack 93 = .ok (.ifCond .eq 19, 3) := dgX10_pack_48.1
theorem dX10_pack_96 : decode cX10_pack 96 = .ok (.aload_n 0, 1) := dgX10_pack_48.2.1
theorem dX10_pack_97 : decode cX10_pack 97 = .ok (.aload_n 0, 1) := dgX10_pack_48.2.2.1
theorem dX10_pack_98 : decode cX10_pack 98 = .ok (.getfield 64, 3) := dgX10_pack_48.2.2.2.1
theorem dX10_pack_101 : decode cX10_pack 101 = .ok (.getfield 285, 3) := dgX10_pack_48.2.2.2.2.1
theorem dX10_pack_104 : decode cX10_pack 104 = .ok (.iload 6, 2) := dgX10_pack_48.2.2.2.2.2.1
theorem dX10_pack_106 : decode cX10_pack 106 = .ok (.iaload, 1) := dgX10_pack_48.2.2.2.2.2.2.1
theorem dX10_pack_107 : decode cX10_pack 107 = .ok (.aload 5, 2) := dgX10_pack_48.2.2.2.2.2.2.2.1
theorem dX10_pack_109 : decode cX10_pack 109 = .ok (.invokevirtual 288, 3) := dgX10_pack_48.2.2.2.2.2.2.2.2.1
theorem dX10_pack_112 : decode cX10_pack 112 = .ok (.iinc 6 1, 3) := dgX10_pack_48.2.2.2.2.2.2.2.2.2.1
theorem dX10_pack_115 : decode cX10_pack 115 = .ok (.goto (-44), 3) := dgX10_pack_48.2.2.2.2.2.2.2.2.2.2.1
theorem dX10_pack_118 : decode cX10_pack 118 = .ok (.aload 5, 2) := dgX10_pack_48.2.2.2.2.2.2.2.2.2.2.2.1
theorem dX10_pack_120 : decode cX10_pack 120 = .ok (.aload_n 0, 1) := dgX10_pack_48.2.2.2.2.2.2.2.2.2.2.2.2.1
theorem dX10_pack_121 : decode cX10_pack 121 = .ok (.aload 5, 2) := dgX10_pack_48.2.2.2.2.2.2.2.2.2.2.2.2.2.1
theorem dX10_pack_123 : decode cX10_pack 123 = .ok (.getfield 292, 3) := dgX10_pack_48.2.2.2.2.2.2.2.2.2.2.2.2.2.2.1
theorem dX10_pack_126 : decode cX10_pack 126 = .ok (.invokevirtual 293, 3) := dgX10_pack_48.2.2.2.2.2.2.2.2.2.2.2.2.2.2.2
theorem dgX10_pack_64 : (decode cX10_pack 129 = .ok (.putfield 297, 3)) ∧ (decode cX10_pack 132 = .ok (.aload_n 0, 1)) ∧ (decode cX10_pack 133 = .ok (.getfield 29, 3)) ∧ (decode cX10_pack 136 = .ok (.aload_n 0, 1)) ∧ (decode cX10_pack 137 = .ok (.getfield 263, 3)) ∧ (decode cX10_pack 140 = .ok (.aload 5, 2)) ∧ (decode cX10_pack 142 = .ok (.aastore, 1)) ∧ (decode cX10_pack 143 = .ok (.aload_n 0, 1)) ∧ (decode cX10_pack 144 = .ok (.dup, 1)) ∧ (decode cX10_pack 145 = .ok (.getfield 263, 3)) ∧ (decode cX10_pack 148 = .ok (.iconst 1, 1)) ∧ (decode cX10_pack 149 = .ok (.iadd, 1)) ∧ (decode cX10_pack 150 = .ok (.putfield 263, 3)) ∧ (decode cX10_pack 153 = .ok (.aload_n 0, 1)) ∧ (decode cX10_pack 154 = .ok (.getfield 263, 3)) ∧ (decode cX10_pack 157 = .ok (.iconst 1, 1)) := by decide +kernel
theorem dX10_pack_129 : decode cX10_pack 129 = .ok (.putfield 297, 3) := dgX10_pack_64.1
theorem dX10_pack_132 : decode cX10_pack 132 = .ok (.aload_n 0, 1) := dgX10_pack_64.2.1
theorem dX10_pack_133 : decode cX10_pack 133 = .ok (.getfield 29, 3) := dgX10_pack_64.2.2.1
theorem dX10_pack_136 : decode cX10_pack 136 = .ok (.aload_n 0, 1) := dgX10_pack_64.2.2.2.1
theorem dX10_pack_137 : decode cX10_pack 137 = .ok (.getfield 263, 3) := dgX10_pack_64.2.2.2.2.1
theorem dX10_pack_140 : decode cX10_pack 140 = .ok (.aload 5, 2) := dgX10_pack_64.2.2.2.2.2.1
theorem dX10_pack_142 : decode cX10_pack 142 = .ok (.aastore, 1) := dgX10_pack_64.2.2.2.2.2.2.1
theorem dX10_pack_143 : decode cX10_pack 143 = .ok (.aload_n 0, 1) := dgX10_pack_64.2.2.2.2.2.2.2.1
theorem dX10_pack_144 : decode cX10_pack 144 = .ok (.dup, 1) := dgX10_pack_64.2.2.2.2.2.2.2.2.1
theorem dX10_pack_145 : decode cX10_pack 145 = .ok (.getfield 263, 3) := dgX10_pack_64.2.2.2.2.2.2.2.2.2.1
theorem dX10_pack_148 : decode cX10_pack 148 = .ok (.iconst 1, 1) := dgX10_pack_64.2.2.2.2.2.2.2.2.2.2.1
theorem dX10_pack_149 : decode cX10_pack 149 = .ok (.iadd, 1) := dgX10_pack_64.2.2.2.2.2.2.2.2.2.2.2.1
theorem dX10_pack_150 : decode cX10_pack 150 = .ok (.putfield 263, 3) := dgX10_pack_64.2.2.2.2.2.2.2.2.2.2.2.2.1
theorem dX10_pack_153 : decode cX10_pack 153 = .ok (.aload_n 0, 1) := dgX10_pack_64.2.2.2.2.2.2.2.2.2.2.2.2.2.1
theorem dX10_pack_154 : decode cX10_pack 154 = .ok (.getfield 263, 3) := dgX10_pack_64.2.2.2.2.2.2.2.2.2.2.2.2.2.2.1
theorem dX10_pack_157 : decode cX10_pack 157 = .ok (.iconst 1, 1) := dgX10_pack_64.2.2.2.2.2.2.2.2.2.2.2.2.2.2.2
theorem dgX10_pack_80 : (decode cX10_pack 158 = .ok (.isub, 1)) ∧ (decode cX10_pack 159 = .ok (.ireturn, 1)) := by decide +kernel
theorem dX10_pack_158 : decode cX10_pack 158 = .ok (.isub, 1) := dgX10_pack_80.1
theorem dX10_pack_159 : decode cX10_pack 159 = .ok (.ireturn, 1) := dgX10_pack_80.2
theorem dgX10_would_0 : (decode cX10_would 0 = .ok (.iload_n 1, 1)) ∧ (decode cX10_would 1 = .ok (.iload_n 2, 1)) ∧ (decode cX10_would 2 = .ok (.iload_n 3, 1)) ∧ (decode cX10_would 3 = .ok (.invokestatic 260, 3)) ∧ (decode cX10_would 6 = .ok (.ifCond .ne 5, 3)) ∧ (decode cX10_would 9 = .ok (.iconst (-1), 1)) ∧ (decode cX10_would 10 = .ok (.ireturn, 1)) ∧ (decode cX10_would 11 = .ok (.aload_n 0, 1)) ∧ (decode cX10_would 12 = .ok (.aload_n 0, 1)) ∧ (decode cX10_would 13 = .ok (.getfield 33, 3)) ∧ (decode cX10_would 16 = .ok (.iload_n 1, 1)) ∧ (decode cX10_would 17 = .ok (.invokevirtual 266, 3)) ∧ (decode cX10_would 20 = .ok (.iload 4, 2)) ∧ (decode cX10_would 22 = .ok (.tableswitch 115 0 4 #[34, 60, 85, 93, 107], 34)) ∧ (decode cX10_would 56 = .ok (.aload_n 0, 1)) ∧ (decode cX10_would 57 = .ok (.getfield 64, 3)) := by decide +kernel
theorem dX10_would_0 : decode cX10_would 0 = .ok (.iload_n 1, 1) := dgX10_would_0.1
theorem dX10_would_1 : decode cX10_would 1 = .ok (.iload_n 2, 1) := dgX10_would_0.2.1
theorem dX10_would_2 : decode cX10_would 2 = .ok (.iload_n 3, 1) := dgX10_would_0.2.2.1
theorem dX10_would_3 : decode cX10_would 3 = .ok (.invokestatic 260, 3) := dgX10_would_0.2.2.2.1
theorem dX10_would_6 : decode cX10_would 6 = .ok (.ifCond .ne 5, 3) := dgX10_would_0.2.2.2.2.1
theorem dX10_would_9 : decode cX10_would 9 = .ok (.iconst (-1), 1) := dgX10_would_0.2.2.2.2.2.1
theorem dX10_would_10 : decode cX10_would 10 = .ok (.ireturn, 1) := dgX10_would_0.2.2.2.2.2.2.1
theorem dX10_would_11 : decode cX10_would 11 = .ok (.aload_n 0, 1) := dgX10_would_0.2.2.2.2.2.2.2.1
theorem dX10_would_12 : decode cX10_would 12 = .ok (.aload_n 0, 1) := dgX10_would_0.2.2.2.2.2.2.2.2.1
theorem dX10_would_13 : decode cX10_would 13 = .ok (.getfield 33, 3) := dgX10_would_0.2.2.2.2.2.2.2.2.2.1
theorem dX10_would_16 : decode cX10_would 16 = .ok (.iload_n 1, 1) := dgX10_would_0.2.2.2.2.2.2.2.2.2.2.1
theorem dX10_would_17 : decode cX10_would 17 = .ok (.invokevirtual 266, 3) := dgX10_would_0.2.2.2.2.2.2.2.2.2.2.2.1
theorem dX10_would_20 : decode cX10_would 20 = .ok (.iload 4, 2) := dgX10_would_0.2.2.2.2.2.2.2.2.2.2.2.2.1
theorem dX10_would_22 : decode cX10_would 22 = .ok (.tableswitch 115 0 4 #[34, 60, 85, 93, 107], 34) := dgX10_would_0.2.2.2.2.2.2.2.2.2.2.2.2.2.1
theorem dX10_would_56 : decode cX10_would 56 = .ok (.aload_n 0, 1) := dgX10_would_0.2.2.2.2.2.2.2.2.2.2.2.2.2.2.1
theorem dX10_would_57 : decode cX10_would 57 = .ok (.getfield 64, 3) := dgX10_would_0.2.2.2.2.2.2.2.2.2.2.2.2.2.2.2
theorem dgX10_would_16 : (decode cX10_would 60 = .ok (.iload_n 2, 1)) ∧ (decode cX10_would 61 = .ok (.iload_n 3, 1)) ∧ (decode cX10_would 62 = .ok (.invokevirtual 269, 3)) ∧ (decode cX10_would 65 = .ok (.istore 5, 2)) ∧ (decode cX10_would 67 = .ok (.iload 5, 2)) ∧ (decode cX10_would 69 = .ok (.iconst (-1), 1)) ∧ (decode cX10_would 70 = .ok (.if_icmp .ne 7, 3)) ∧ (decode cX10_would 73 = .ok (.iconst (-1), 1)) ∧ (decode cX10_would 74 = .ok (.goto 7, 3)) ∧ (decode cX10_would 77 = .ok (.iload 5, 2)) ∧ (decode cX10_would 79 = .ok (.iload_n 2, 1)) ∧ (decode cX10_would 80 = .ok (.isub, 1)) ∧ (decode cX10_would 81 = .ok (.ireturn, 1)) ∧ (decode cX10_would 82 = .ok (.aload_n 0, 1)) ∧ (decode cX10_would 83 = .ok (.getfield 64, 3)) ∧ (decode cX10_would 86 = .ok (.iload_n 2, 1)) := by decide +kernel
theorem dX10_would_60 : decode cX10_would 60 = .ok (.iload_n 2, 1) := dgX10_would_16.1
theorem dX10_would_61 : decode cX10_would 61 = .ok (.iload_n 3, 1) := dgX10_would_16.2.1
theorem dX10_would_62 : decode cX10_would 62 = .ok (.invokevirtual 269, 3) := dgX10_would_16.2.2.1
theorem dX10_would_65 : decode cX10_would 65 = .ok (.istore 5, 2) := dgX10_would_16.2.2.2.1
theorem dX10_would_67 : decode cX10_would 67 = .ok (.iload 5, 2) := dgX10_would_16.2.2.2.2.1
theorem dX10_would_69 : decode cX10_would 69 = .ok (.iconst (-1), 1) := dgX10_would_16.2.2.2.2.2.1
theorem dX10_would_70 : decode cX10_would 70 = .ok (.if_icmp .ne 7, 3) := dgX10_would_16.2.2.2.2.2.2.1
theorem dX10_would_73 : decode cX10_would 73 = .ok (.iconst (-1), 1) := dgX10_would_16.2.2.2.2.2.2.2.1
theorem dX10_would_74 : decode cX10_would 74 = .ok (.goto 7, 3) := dgX10_would_16.2.2.2.2.2.2.2.2.1
theorem dX10_would_77 : decode cX10_would 77 = .ok (.iload 5, 2) := dgX10_would_16.2.2.2.2.2.2.2.2.2.1
theorem dX10_would_79 : decode cX10_would 79 = .ok (.iload_n 2, 1) := dgX10_would_16.2.2.2.2.2.2.2.2.2.2.1
theorem dX10_would_80 : decode cX10_would 80 = .ok (.isub, 1) := dgX10_would_16.2.2.2.2.2.2.2.2.2.2.2.1
theorem dX10_would_81 : decode cX10_would 81 = .ok (.ireturn, 1) := dgX10_would_16.2.2.2.2.2.2.2.2.2.2.2.2.1
theorem dX10_would_82 : decode cX10_would 82 = .ok (.aload_n 0, 1) := dgX10_would_16.2.2.2.2.2.2.2.2.2.2.2.2.2.1
theorem dX10_would_83 : decode cX10_would 83 = .ok (.getfield 64, 3) := dgX10_would_16.2.2.2.2.2.2.2.2.2.2.2.2.2.2.1
theorem dX10_would_86 : decode cX10_would 86 = .ok (.iload_n 2, 1) := dgX10_would_16.2.2.2.2.2.2.2.2.2.2.2.2.2.2.2
theorem dgX10_would_32 : (decode cX10_would 87 = .ok (.iload_n 3, 1)) ∧ (decode cX10_would 88 = .ok (.invokevirtual 269, 3)) ∧ (decode cX10_would 91 = .ok (.iconst (-1), 1)) ∧ (decode cX10_would 92 = .ok (.if_icmp .ne 7, 3)) ∧ (decode cX10_would 95 = .ok (.iconst (-1), 1)) ∧ (decode cX10_would 96 = .ok (.goto 10, 3)) ∧ (decode cX10_would 99 = .ok (.aload_n 0, 1)) ∧ (decode cX10_would 100 = .ok (.getfield 64, 3)) ∧ (decode cX10_would 103 = .ok (.invokevirtual 272, 3)) ∧ (decode cX10_would 106 = .ok (.ireturn, 1)) ∧ (decode cX10_would 107 = .ok (.aload_n 0, 1)) ∧ (decode cX10_would 108 = .ok (.iload_n 1, 1)) ∧ (decode cX10_would 109 = .ok (.iload_n 2, 1)) ∧ (decode cX10_would 110 = .ok (.iload_n 3, 1)) ∧ (decode cX10_would 111 = .ok (.invokevirtual 300, 3)) ∧ (decode cX10_would 114 = .ok (.ireturn, 1)) := by decide +kernel
theorem dX10_would_87 : decode cX10_would 87 = .ok (.iload_n 3, 1) := dgX10_would_32.1
theorem dX10_would_88 : decode cX10_would 88 = .ok (.invokevirtual 269, 3) := dgX10_would_32.2.1
theorem dX10_would_91 : decode cX10_would 91 = .ok (.iconst (-1), 1) := dgX10_would_32.2.2.1
theorem dX10_would_92 : decode cX10_would 92 = .ok (.if_icmp .ne 7, 3) := dgX10_would_32.2.2.2.1
theorem dX10_would_95 : decode cX10_would 95 = .ok (.iconst (-1), 1) := dgX10_would_32.2.2.2.2.1
theorem dX10_would_96 : decode cX10_would 96 = .ok (.goto 10, 3) := dgX10_would_32.2.2.2.2.2.1
theorem dX10_would_99 : decode cX10_would 99 = .ok (.aload_n 0, 1) := dgX10_would_32.2.2.2.2.2.2.1
theorem dX10_would_100 : decode cX10_would 100 = .ok (.getfield 64, 3) := dgX10_would_32.2.2.2.2.2.2.2.1
theorem dX10_would_103 : decode cX10_would 103 = .ok (.invokevirtual 272, 3) := dgX10_would_32.2.2.2.2.2.2.2.2.1
theorem dX10_would_106 : decode cX10_would 106 = .ok (.ireturn, 1) := dgX10_would_32.2.2.2.2.2.2.2.2.2.1
theorem dX10_would_107 : decode cX10_would 107 = .ok (.aload_n 0, 1) := dgX10_would_32.2.2.2.2.2.2.2.2.2.2.1
theorem dX10_would_108 : decode cX10_would 108 = .ok (.iload_n 1, 1) := dgX10_would_32.2.2.2.2.2.2.2.2.2.2.2.1
theorem dX10_would_109 : decode cX10_would 109 = .ok (.iload_n 2, 1) := dgX10_would_32.2.2.2.2.2.2.2.2.2.2.2.2.1
theorem dX10_would_110 : decode cX10_would 110 = .ok (.iload_n 3, 1) := dgX10_would_32.2.2.2.2.2.2.2.2.2.2.2.2.2.1
theorem dX10_would_111 : decode cX10_would 111 = .ok (.invokevirtual 300, 3) := dgX10_would_32.2.2.2.2.2.2.2.2.2.2.2.2.2.2.1
theorem dX10_would_114 : decode cX10_would 114 = .ok (.ireturn, 1) := dgX10_would_32.2.2.2.2.2.2.2.2.2.2.2.2.2.2.2
theorem dgX10_would_48 : (decode cX10_would 115 = .ok (.aload_n 0, 1)) ∧ (decode cX10_would 116 = .ok (.getfield 71, 3)) ∧ (decode cX10_would 119 = .ok (.aload_n 0, 1)) ∧ (decode cX10_would 120 = .ok (.getfield 64, 3)) ∧ (decode cX10_would 123 = .ok (.iload_n 2, 1)) ∧ (decode cX10_would 124 = .ok (.iload_n 3, 1)) ∧ (decode cX10_would 125 = .ok (.invokevirtual 304, 3)) ∧ (decode cX10_would 128 = .ok (.ireturn, 1)) ∧ (decode cX10_would 129 = .ok (.aload_n 0, 1)) ∧ (decode cX10_would 130 = .ok (.getfield 64, 3)) ∧ (decode cX10_would 133 = .ok (.getfield 279, 3)) ∧ (decode cX10_would 136 = .ok (.ireturn, 1)) ∧ (decode cX10_would 137 = .ok (.iconst (-1), 1)) ∧ (decode cX10_would 138 = .ok (.ireturn, 1)) := by decide +kernel
theorem dX10_would_115 : decode cX10_would 115 = .ok (.aload_n 0, 1) := dgX10_would_48.1
theorem dX10_would_116 : decode cX10_would 116 = .ok (.getfield 71, 3) := dgX10_would_48.2.1
theorem dX10_would_119 : decode cX10_would 119 = .ok (.aload_n 0, 1) := dgX10_would_48.2.2.1
theorem dX10_would_120 : decode cX10_would 120 = .ok (.getfield 64, 3) := dgX10_would_48.2.2.2.1
theorem dX10_would_123 : decode cX10_would 123 = .ok (.iload_n 2, 1) := dgX10_would_48.2.2.2.2.1
theorem dX10_would_124 : decode cX10_would 124 = .ok (.iload_n 3, 1) := dgX10_would_48.2.2.2.2.2.1
theorem dX10_would_125 : decode cX10_would 125 = .ok (.invokevirtual 304, 3) := dgX10_would_48.2.2.2.2.2.2.1
theorem dX10_would_128 : decode cX10_would 128 = .ok (.ireturn, 1) := dgX10_would_48.2.2.2.2.2.2.2.1
theorem dX10_would_129 : decode cX10_would 129 = .ok (.aload_n 0, 1) := dgX10_would_48.2.2.2.2.2.2.2.2.1
theorem dX10_would_130 : decode cX10_would 130 = .ok (.getfield 64, 3) := dgX10_would_48.2.2.2.2.2.2.2.2.2.1
theorem dX10_would_133 : decode cX10_would 133 = .ok (.getfield 279, 3) := dgX10_would_48.2.2.2.2.2.2.2.2.2.2.1
theorem dX10_would_136 : decode cX10_would 136 = .ok (.ireturn, 1) := dgX10_would_48.2.2.2.2.2.2.2.2.2.2.2.1
theorem dX10_would_137 : decode cX10_would 137 = .ok (.iconst (-1), 1) := dgX10_would_48.2.2.2.2.2.2.2.2.2.2.2.2.1
theorem dX10_would_138 : decode cX10_would 138 = .ok (.ireturn, 1) := dgX10_would_48.2.2.2.2.2.2.2.2.2.2.2.2.2
theorem dgX10_boxOf_0 : (decode cX10_boxOf 0 = .ok (.aload_n 0, 1)) ∧ (decode cX10_boxOf 1 = .ok (.iload_n 1, 1)) ∧ (decode cX10_boxOf 2 = .ok (.invokevirtual 308, 3)) ∧ (decode cX10_boxOf 5 = .ok (.astore_n 3, 1)) ∧ (decode cX10_boxOf 6 = .ok (.aload_n 3, 1)) ∧ (decode cX10_boxOf 7 = .ok (.ifnonnull 7, 3)) ∧ (decode cX10_boxOf 10 = .ok (.iconst (-1), 1)) ∧ (decode cX10_boxOf 11 = .ok (.goto 8, 3)) ∧ (decode cX10_boxOf 14 = .ok (.aload_n 3, 1)) ∧ (decode cX10_boxOf 15 = .ok (.iload_n 2, 1)) ∧ (decode cX10_boxOf 16 = .ok (.invokevirtual 312, 3)) ∧ (decode cX10_boxOf 19 = .ok (.ireturn, 1)) := by decide +kernel
theorem dX10_boxOf_0 : decode cX10_boxOf 0 = .ok (.aload_n 0, 1) := dgX10_boxOf_0.1
theorem dX10_boxOf_1 : decode cX10_boxOf 1 = .ok (.iload_n 1, 1) := dgX10_boxOf_0.2.1
theorem dX10_boxOf_2 : decode cX10_boxOf 2 = .ok (.invokevirtual 308, 3) := dgX10_boxOf_0.2.2.1
theorem dX10_boxOf_5 : decode cX10_boxOf 5 = .ok (.astore_n 3, 1) := dgX10_boxOf_0.2.2.2.1
theorem dX10_boxOf_6 : decode cX10_boxOf 6 = .ok (.aload_n 3, 1) := dgX10_boxOf_0.2.2.2.2.1
theorem dX10_boxOf_7 : decode cX10_boxOf 7 = .ok (.ifnonnull 7, 3) := dgX10_boxOf_0.2.2.2.2.2.1
theorem dX10_boxOf_10 : decode cX10_boxOf 10 = .ok (.iconst (-1), 1) := dgX10_boxOf_0.2.2.2.2.2.2.1
theorem dX10_boxOf_11 : decode cX10_boxOf 11 = .ok (.goto 8, 3) := dgX10_boxOf_0.2.2.2.2.2.2.2.1
theorem dX10_boxOf_14 : decode cX10_boxOf 14 = .ok (.aload_n 3, 1) := dgX10_boxOf_0.2.2.2.2.2.2.2.2.1
theorem dX10_boxOf_15 : decode cX10_boxOf 15 = .ok (.iload_n 2, 1) := dgX10_boxOf_0.2.2.2.2.2.2.2.2.2.1
theorem dX10_boxOf_16 : decode cX10_boxOf 16 = .ok (.invokevirtual 312, 3) := dgX10_boxOf_0.2.2.2.2.2.2.2.2.2.2.1
theorem dX10_boxOf_19 : decode cX10_boxOf 19 = .ok (.ireturn, 1) := dgX10_boxOf_0.2.2.2.2.2.2.2.2.2.2.2
theorem dgX10_wash_0 : (decode cX10_wash 0 = .ok (.iload_n 1, 1)) ∧ (decode cX10_wash 1 = .ok (.invokestatic 93, 3)) ∧ (decode cX10_wash 4 = .ok (.ifCond .eq 21, 3)) ∧ (decode cX10_wash 7 = .ok (.iload_n 2, 1)) ∧ (decode cX10_wash 8 = .ok (.invokestatic 93, 3)) ∧ (decode cX10_wash 11 = .ok (.ifCond .eq 14, 3)) ∧ (decode cX10_wash 14 = .ok (.iload_n 3, 1)) ∧ (decode cX10_wash 15 = .ok (.iconst 0, 1)) ∧ (decode cX10_wash 16 = .ok (.sipush 600, 3)) ∧ (decode cX10_wash 19 = .ok (.invokestatic 82, 3)) ∧ (decode cX10_wash 22 = .ok (.ifCond .ne 5, 3)) ∧ (decode cX10_wash 25 = .ok (.iconst 0, 1)) ∧ (decode cX10_wash 26 = .ok (.ireturn, 1)) ∧ (decode cX10_wash 27 = .ok (.aload_n 0, 1)) ∧ (decode cX10_wash 28 = .ok (.getfield 57, 3)) ∧ (decode cX10_wash 31 = .ok (.iload_n 1, 1)) := by decide +kernel
theorem dX10_wash_0 : decode cX10_wash 0 = .ok (.iload_n 1, 1) := dgX10_wash_0.1
theorem dX10_wash_1 : decode cX10_wash 1 = .ok (.invokestatic 93, 3) := dgX10_wash_0.2.1
theorem dX10_wash_4 : decode cX10_wash 4 = .ok (.ifCond .eq 21, 3) := dgX10_wash_0.2.2.1
theorem dX10_wash_7 : decode cX10_wash 7 = .ok (.iload_n 2, 1) := dgX10_wash_0.2.2.2.1
theorem dX10_wash_8 : decode cX10_wash 8 = .ok (.invokestatic 93, 3) := dgX10_wash_0.2.2.2.2.1
theorem dX10_wash_11 : decode cX10_wash 11 = .ok (.ifCond .eq 14, 3) := dgX10_wash_0.2.2.2.2.2.1
theorem dX10_wash_14 : decode cX10_wash 14 = .ok (.iload_n 3, 1) := dgX10_wash_0.2.2.2.2.2.2.1
theorem dX10_wash_15 : decode cX10_wash 15 = .ok (.iconst 0, 1) := dgX10_wash_0.2.2.2.2.2.2.2.1
theorem dX10_wash_16 : decode cX10_wash 16 = .ok (.sipush 600, 3) := dgX10_wash_0.2.2.2.2.2.2.2.2.1
theorem dX10_wash_19 : decode cX10_wash 19 = .ok (.invokestatic 82, 3) := dgX10_wash_0.2.2.2.2.2.2.2.2.2.1
theorem dX10_wash_22 : decode cX10_wash 22 = .ok (.ifCond .ne 5, 3) := dgX10_wash_0.2.2.2.2.2.2.2.2.2.2.1
theorem dX10_wash_25 : decode cX10_wash 25 = .ok (.iconst 0, 1) := dgX10_wash_0.2.2.2.2.2.2.2.2.2.2.2.1
theorem dX10_wash_26 : decode cX10_wash 26 = .ok (.ireturn, 1) := dgX10_wash_0.2.2.2.2.2.2.2.2.2.2.2.2.1
theorem dX10_wash_27 : decode cX10_wash 27 = .ok (.aload_n 0, 1) := dgX10_wash_0.2.2.2.2.2.2.2.2.2.2.2.2.2.1
theorem dX10_wash_28 : decode cX10_wash 28 = .ok (.getfield 57, 3) := dgX10_wash_0.2.2.2.2.2.2.2.2.2.2.2.2.2.2.1
theorem dX10_wash_31 : decode cX10_wash 31 = .ok (.iload_n 1, 1) := dgX10_wash_0.2.2.2.2.2.2.2.2.2.2.2.2.2.2.2
theorem dgX10_wash_16 : (decode cX10_wash 32 = .ok (.iload_n 2, 1)) ∧ (decode cX10_wash 33 = .ok (.iload_n 3, 1)) ∧ (decode cX10_wash 34 = .ok (.invokevirtual 313, 3)) ∧ (decode cX10_wash 37 = .ok (.iconst 1, 1)) ∧ (decode cX10_wash 38 = .ok (.ireturn, 1)) := by decide +kernel
theorem dX10_wash_32 : decode cX10_wash 32 = .ok (.iload_n 2, 1) := dgX10_wash_16.1
theorem dX10_wash_33 : decode cX10_wash 33 = .ok (.iload_n 3, 1) := dgX10_wash_16.2.1
theorem dX10_wash_34 : decode cX10_wash 34 = .ok (.invokevirtual 313, 3) := dgX10_wash_16.2.2.1
theorem dX10_wash_37 : decode cX10_wash 37 = .ok (.iconst 1, 1) := dgX10_wash_16.2.2.2.1
theorem dX10_wash_38 : decode cX10_wash 38 = .ok (.ireturn, 1) := dgX10_wash_16.2.2.2.2
theorem dgX10_queue_0 : (decode cX10_queue 0 = .ok (.iload_n 1, 1)) ∧ (decode cX10_queue 1 = .ok (.iconst (-1), 1)) ∧ (decode cX10_queue 2 = .ok (.if_icmp .ne 12, 3)) ∧ (decode cX10_queue 5 = .ok (.aload_n 0, 1)) ∧ (decode cX10_queue 6 = .ok (.getfield 57, 3)) ∧ (decode cX10_queue 9 = .ok (.invokevirtual 316, 3)) ∧ (decode cX10_queue 12 = .ok (.iconst 0, 1)) ∧ (decode cX10_queue 13 = .ok (.ireturn, 1)) ∧ (decode cX10_queue 14 = .ok (.aload_n 0, 1)) ∧ (decode cX10_queue 15 = .ok (.iload_n 1, 1)) ∧ (decode cX10_queue 16 = .ok (.invokevirtual 173, 3)) ∧ (decode cX10_queue 19 = .ok (.astore_n 2, 1)) ∧ (decode cX10_queue 20 = .ok (.aload_n 2, 1)) ∧ (decode cX10_queue 21 = .ok (.ifnonnull 7, 3)) ∧ (decode cX10_queue 24 = .ok (.iconst (-1), 1)) ∧ (decode cX10_queue 25 = .ok (.goto 15, 3)) := by decide +kernel
theorem dX10_queue_0 : decode cX10_queue 0 = .ok (.iload_n 1, 1) := dgX10_queue_0.1
theorem dX10_queue_1 : decode cX10_queue 1 = .ok (.iconst (-1), 1) := dgX10_queue_0.2.1
theorem dX10_queue_2 : decode cX10_queue 2 = .ok (.if_icmp .ne 12, 3) := dgX10_queue_0.2.2.1
theorem dX10_queue_5 : decode cX10_queue 5 = .ok (.aload_n 0, 1) := dgX10_queue_0.2.2.2.1
theorem dX10_queue_6 : decode cX10_queue 6 = .ok (.getfield 57, 3) := dgX10_queue_0.2.2.2.2.1
theorem dX10_queue_9 : decode cX10_queue 9 = .ok (.invokevirtual 316, 3) := dgX10_queue_0.2.2.2.2.2.1
theorem dX10_queue_12 : decode cX10_queue 12 = .ok (.iconst 0, 1) := dgX10_queue_0.2.2.2.2.2.2.1
theorem dX10_queue_13 : decode cX10_queue 13 = .ok (.ireturn, 1) := dgX10_queue_0.2.2.2.2.2.2.2.1
theorem dX10_queue_14 : decode cX10_queue 14 = .ok (.aload_n 0, 1) := dgX10_queue_0.2.2.2.2.2.2.2.2.1
theorem dX10_queue_15 : decode cX10_queue 15 = .ok (.iload_n 1, 1) := dgX10_queue_0.2.2.2.2.2.2.2.2.2.1
theorem dX10_queue_16 : decode cX10_queue 16 = .ok (.invokevirtual 173, 3) := dgX10_queue_0.2.2.2.2.2.2.2.2.2.2.1
theorem dX10_queue_19 : decode cX10_queue 19 = .ok (.astore_n 2, 1) := dgX10_queue_0.2.2.2.2.2.2.2.2.2.2.2.1
theorem dX10_queue_20 : decode cX10_queue 20 = .ok (.aload_n 2, 1) := dgX10_queue_0.2.2.2.2.2.2.2.2.2.2.2.2.1
theorem dX10_queue_21 : decode cX10_queue 21 = .ok (.ifnonnull 7, 3) := dgX10_queue_0.2.2.2.2.2.2.2.2.2.2.2.2.2.1
theorem dX10_queue_24 : decode cX10_queue 24 = .ok (.iconst (-1), 1) := dgX10_queue_0.2.2.2.2.2.2.2.2.2.2.2.2.2.2.1
theorem dX10_queue_25 : decode cX10_queue 25 = .ok (.goto 15, 3) := dgX10_queue_0.2.2.2.2.2.2.2.2.2.2.2.2.2.2.2
theorem dgX10_queue_16 : (decode cX10_queue 28 = .ok (.aload_n 0, 1)) ∧ (decode cX10_queue 29 = .ok (.getfield 57, 3)) ∧ (decode cX10_queue 32 = .ok (.iload_n 1, 1)) ∧ (decode cX10_queue 33 = .ok (.aload_n 2, 1)) ∧ (decode cX10_queue 34 = .ok (.getfield 198, 3)) ∧ (decode cX10_queue 37 = .ok (.invokevirtual 319, 3)) ∧ (decode cX10_queue 40 = .ok (.ireturn, 1)) := by decide +kernel
theorem dX10_queue_28 : decode cX10_queue 28 = .ok (.aload_n 0, 1) := dgX10_queue_16.1
theorem dX10_queue_29 : decode cX10_queue 29 = .ok (.getfield 57, 3) := dgX10_queue_16.2.1
theorem dX10_queue_32 : decode cX10_queue 32 = .ok (.iload_n 1, 1) := dgX10_queue_16.2.2.1
theorem dX10_queue_33 : decode cX10_queue 33 = .ok (.aload_n 2, 1) := dgX10_queue_16.2.2.2.1
theorem dX10_queue_34 : decode cX10_queue 34 = .ok (.getfield 198, 3) := dgX10_queue_16.2.2.2.2.1
theorem dX10_queue_37 : decode cX10_queue 37 = .ok (.invokevirtual 319, 3) := dgX10_queue_16.2.2.2.2.2.1
theorem dX10_queue_40 : decode cX10_queue 40 = .ok (.ireturn, 1) := dgX10_queue_16.2.2.2.2.2.2
theorem dgX10_order_0 : (decode cX10_order 0 = .ok (.aload_n 0, 1)) ∧ (decode cX10_order 1 = .ok (.getfield 57, 3)) ∧ (decode cX10_order 4 = .ok (.iload_n 1, 1)) ∧ (decode cX10_order 5 = .ok (.invokevirtual 322, 3)) ∧ (decode cX10_order 8 = .ok (.iload_n 2, 1)) ∧ (decode cX10_order 9 = .ok (.iconst (-1), 1)) ∧ (decode cX10_order 10 = .ok (.if_icmp .ne 11, 3)) ∧ (decode cX10_order 13 = .ok (.aload_n 0, 1)) ∧ (decode cX10_order 14 = .ok (.getfield 57, 3)) ∧ (decode cX10_order 17 = .ok (.getfield 326, 3)) ∧ (decode cX10_order 20 = .ok (.ireturn, 1)) ∧ (decode cX10_order 21 = .ok (.iload_n 2, 1)) ∧ (decode cX10_order 22 = .ok (.iconst 0, 1)) ∧ (decode cX10_order 23 = .ok (.aload_n 0, 1)) ∧ (decode cX10_order 24 = .ok (.getfield 57, 3)) ∧ (decode cX10_order 27 = .ok (.getfield 329, 3)) := by decide +kernel
theorem dX10_order_0 : decode cX10_order 0 = .ok (.aload_n 0, 1) := dgX10_order_0.1
theorem dX10_order_1 : decode cX10_order 1 = .ok (.getfield 57, 3) := dgX10_order_0.2.1
theorem dX10_order_4 : decode cX10_order 4 = .ok (.iload_n 1, 1) := dgX10_order_0.2.2.1
theorem dX10_order_5 : decode cX10_order 5 = .ok (.invokevirtual 322, 3) := dgX10_order_0.2.2.2.1
theorem dX10_order_8 : decode cX10_order 8 = .ok (.iload_n 2, 1) := dgX10_order_0.2.2.2.2.1
theorem dX10_order_9 : decode cX10_order 9 = .ok (.iconst (-1), 1) := dgX10_order_0.2.2.2.2.2.1
theorem dX10_order_10 : decode cX10_order 10 = .ok (.if_icmp .ne 11, 3) := dgX10_order_0.2.2.2.2.2.2.1
theorem dX10_order_13 : decode cX10_order 13 = .ok (.aload_n 0, 1) := dgX10_order_0.2.2.2.2.2.2.2.1
theorem dX10_order_14 : decode cX10_order 14 = .ok (.getfield 57, 3) := dgX10_order_0.2.2.2.2.2.2.2.2.1
theorem dX10_order_17 : decode cX10_order 17 = .ok (.getfield 326, 3) := dgX10_order_0.2.2.2.2.2.2.2.2.2.1
theorem dX10_order_20 : decode cX10_order 20 = .ok (.ireturn, 1) := dgX10_order_0.2.2.2.2.2.2.2.2.2.2.1
theorem dX10_order_21 : decode cX10_order 21 = .ok (.iload_n 2, 1) := dgX10_order_0.2.2.2.2.2.2.2.2.2.2.2.1
theorem dX10_order_22 : decode cX10_order 22 = .ok (.iconst 0, 1) := dgX10_order_0.2.2.2.2.2.2.2.2.2.2.2.2.1
theorem dX10_order_23 : decode cX10_order 23 = .ok (.aload_n 0, 1) := dgX10_order_0.2.2.2.2.2.2.2.2.2.2.2.2.2.1
theorem dX10_order_24 : decode cX10_order 24 = .ok (.getfield 57, 3) := dgX10_order_0.2.2.2.2.2.2.2.2.2.2.2.2.2.2.1
theorem dX10_order_27 : decode cX10_order 27 = .ok (.getfield 329, 3) := dgX10_order_0.2.2.2.2.2.2.2.2.2.2.2.2.2.2.2
theorem dgX10_order_16 : (decode cX10_order 30 = .ok (.iconst 1, 1)) ∧ (decode cX10_order 31 = .ok (.isub, 1)) ∧ (decode cX10_order 32 = .ok (.invokestatic 82, 3)) ∧ (decode cX10_order 35 = .ok (.ifCond .eq 15, 3)) ∧ (decode cX10_order 38 = .ok (.aload_n 0, 1)) ∧ (decode cX10_order 39 = .ok (.getfield 57, 3)) ∧ (decode cX10_order 42 = .ok (.getfield 330, 3)) ∧ (decode cX10_order 45 = .ok (.iload_n 2, 1)) ∧ (decode cX10_order 46 = .ok (.iaload, 1)) ∧ (decode cX10_order 47 = .ok (.goto 4, 3)) ∧ (decode cX10_order 50 = .ok (.iconst (-1), 1)) ∧ (decode cX10_order 51 = .ok (.ireturn, 1)) := by decide +kernel
theorem dX10_order_30 : decode cX10_order 30 = .ok (.iconst 1, 1) := dgX10_order_16.1
theorem dX10_order_31 : decode cX10_order 31 = .ok (.isub, 1) := dgX10_order_16.2.1
theorem dX10_order_32 : decode cX10_order 32 = .ok (.invokestatic 82, 3) := dgX10_order_16.2.2.1
theorem dX10_order_35 : decode cX10_order 35 = .ok (.ifCond .eq 15, 3) := dgX10_order_16.2.2.2.1
theorem dX10_order_38 : decode cX10_order 38 = .ok (.aload_n 0, 1) := dgX10_order_16.2.2.2.2.1
theorem dX10_order_39 : decode cX10_order 39 = .ok (.getfield 57, 3) := dgX10_order_16.2.2.2.2.2.1
theorem dX10_order_42 : decode cX10_order 42 = .ok (.getfield 330, 3) := dgX10_order_16.2.2.2.2.2.2.1
theorem dX10_order_45 : decode cX10_order 45 = .ok (.iload_n 2, 1) := dgX10_order_16.2.2.2.2.2.2.2.1
theorem dX10_order_46 : decode cX10_order 46 = .ok (.iaload, 1) := dgX10_order_16.2.2.2.2.2.2.2.2.1
theorem dX10_order_47 : decode cX10_order 47 = .ok (.goto 4, 3) := dgX10_order_16.2.2.2.2.2.2.2.2.2.1
theorem dX10_order_50 : decode cX10_order 50 = .ok (.iconst (-1), 1) := dgX10_order_16.2.2.2.2.2.2.2.2.2.2.1
theorem dX10_order_51 : decode cX10_order 51 = .ok (.ireturn, 1) := dgX10_order_16.2.2.2.2.2.2.2.2.2.2.2
theorem dgX10_recall_0 : (decode cX10_recall 0 = .ok (.aload_n 0, 1)) ∧ (decode cX10_recall 1 = .ok (.iload_n 1, 1)) ∧ (decode cX10_recall 2 = .ok (.invokevirtual 107, 3)) ∧ (decode cX10_recall 5 = .ok (.ifnull 12, 3)) ∧ (decode cX10_recall 8 = .ok (.iload_n 2, 1)) ∧ (decode cX10_recall 9 = .ok (.iconst 0, 1)) ∧ (decode cX10_recall 10 = .ok (.iconst 2, 1)) ∧ (decode cX10_recall 11 = .ok (.invokestatic 82, 3)) ∧ (decode cX10_recall 14 = .ok (.ifCond .ne 5, 3)) ∧ (decode cX10_recall 17 = .ok (.iconst (-1), 1)) ∧ (decode cX10_recall 18 = .ok (.ireturn, 1)) ∧ (decode cX10_recall 19 = .ok (.iload_n 2, 1)) ∧ (decode cX10_recall 20 = .ok (.ifCond .ne 10, 3)) ∧ (decode cX10_recall 23 = .ok (.aload_n 0, 1)) ∧ (decode cX10_recall 24 = .ok (.getfield 97, 3)) ∧ (decode cX10_recall 27 = .ok (.goto 19, 3)) := by decide +kernel
theorem dX10_recall_0 : decode cX10_recall 0 = .ok (.aload_n 0, 1) := dgX10_recall_0.1
theorem dX10_recall_1 : decode cX10_recall 1 = .ok (.iload_n 1, 1) := dgX10_recall_0.2.1
theorem dX10_recall_2 : decode cX10_recall 2 = .ok (.invokevirtual 107, 3) := dgX10_recall_0.2.2.1
theorem dX10_recall_5 : decode cX10_recall 5 = .ok (.ifnull 12, 3) := dgX10_recall_0.2.2.2.1
theorem dX10_recall_8 : decode cX10_recall 8 = .ok (.iload_n 2, 1) := dgX10_recall_0.2.2.2.2.1
theorem dX10_recall_9 : decode cX10_recall 9 = .ok (.iconst 0, 1) := dgX10_recall_0.2.2.2.2.2.1
theorem dX10_recall_10 : decode cX10_recall 10 = .ok (.iconst 2, 1) := dgX10_recall_0.2.2.2.2.2.2.1
theorem dX10_recall_11 : decode cX10_recall 11 = .ok (.invokestatic 82, 3) := dgX10_recall_0.2.2.2.2.2.2.2.1
theorem dX10_recall_14 : decode cX10_recall 14 = .ok (.ifCond .ne 5, 3) := dgX10_recall_0.2.2.2.2.2.2.2.2.1
theorem dX10_recall_17 : decode cX10_recall 17 = .ok (.iconst (-1), 1) := dgX10_recall_0.2.2.2.2.2.2.2.2.2.1
theorem dX10_recall_18 : decode cX10_recall 18 = .ok (.ireturn, 1) := dgX10_recall_0.2.2.2.2.2.2.2.2.2.2.1
theorem dX10_recall_19 : decode cX10_recall 19 = .ok (.iload_n 2, 1) := dgX10_recall_0.2.2.2.2.2.2.2.2.2.2.2.1
theorem dX10_recall_20 : decode cX10_recall 20 = .ok (.ifCond .ne 10, 3) := dgX10_recall_0.2.2.2.2.2.2.2.2.2.2.2.2.1
theorem dX10_recall_23 : decode cX10_recall 23 = .ok (.aload_n 0, 1) := dgX10_recall_0.2.2.2.2.2.2.2.2.2.2.2.2.2.1
theorem dX10_recall_24 : decode cX10_recall 24 = .ok (.getfield 97, 3) := dgX10_recall_0.2.2.2.2.2.2.2.2.2.2.2.2.2.2.1
theorem dX10_recall_27 : decode cX10_recall 27 = .ok (.goto 19, 3) := dgX10_recall_0.2.2.2.2.2.2.2.2.2.2.2.2.2.2.2
theorem dgX10_recall_16 : (decode cX10_recall 30 = .ok (.iload_n 2, 1)) ∧ (decode cX10_recall 31 = .ok (.iconst 1, 1)) ∧ (decode cX10_recall 32 = .ok (.if_icmp .ne 10, 3)) ∧ (decode cX10_recall 35 = .ok (.aload_n 0, 1)) ∧ (decode cX10_recall 36 = .ok (.getfield 214, 3)) ∧ (decode cX10_recall 39 = .ok (.goto 7, 3)) ∧ (decode cX10_recall 42 = .ok (.aload_n 0, 1)) ∧ (decode cX10_recall 43 = .ok (.getfield 263, 3)) ∧ (decode cX10_recall 46 = .ok (.istore 4, 2)) ∧ (decode cX10_recall 48 = .ok (.iconst 0, 1)) ∧ (decode cX10_recall 49 = .ok (.istore 5, 2)) ∧ (decode cX10_recall 51 = .ok (.iconst 0, 1)) ∧ (decode cX10_recall 52 = .ok (.istore 6, 2)) ∧ (decode cX10_recall 54 = .ok (.iload 6, 2)) ∧ (decode cX10_recall 56 = .ok (.iload 4, 2)) ∧ (decode cX10_recall 58 = .ok (.if_icmp .ge 37, 3)) := by decide +kernel
theorem dX10_recall_30 : decode cX10_recall 30 = .ok (.iload_n 2, 1) := dgX10_recall_16.1
theorem dX10_recall_31 : decode cX10_recall 31 = .ok (.iconst 1, 1) := dgX10_recall_16.2.1
theorem dX10_recall_32 : decode cX10_recall 32 = .ok (.if_icmp .ne 10, 3) := dgX10_recall_16.2.2.1
theorem dX10_recall_35 : decode cX10_recall 35 = .ok (.aload_n 0, 1) := dgX10_recall_16.2.2.2.1
theorem dX10_recall_36 : decode cX10_recall 36 = .ok (.getfield 214, 3) := dgX10_recall_16.2.2.2.2.1
theorem dX10_recall_39 : decode cX10_recall 39 = .ok (.goto 7, 3) := dgX10_recall_16.2.2.2.2.2.1
theorem dX10_recall_42 : decode cX10_recall 42 = .ok (.aload_n 0, 1) := dgX10_recall_16.2.2.2.2.2.2.1
theorem dX10_recall_43 : decode cX10_recall 43 = .ok (.getfield 263, 3) := dgX10_recall_16.2.2.2.2.2.2.2.1
theorem dX10_recall_46 : decode cX10_recall 46 = .ok (.istore 4, 2) := dgX10_recall_16.2.2.2.2.2.2.2.2.1
theorem dX10_recall_48 : decode cX10_recall 48 = .ok (.iconst 0, 1) := dgX10_recall_16.2.2.2.2.2.2.2.2.2.1
theorem dX10_recall_49 : decode cX10_recall 49 = .ok (.istore 5, 2) := dgX10_recall_16.2.2.2.2.2.2.2.2.2.2.1
theorem dX10_recall_51 : decode cX10_recall 51 = .ok (.iconst 0, 1) := dgX10_recall_16.2.2.2.2.2.2.2.2.2.2.2.1
theorem dX10_recall_52 : decode cX10_recall 52 = .ok (.istore 6, 2) := dgX10_recall_16.2.2.2.2.2.2.2.2.2.2.2.2.1
theorem dX10_recall_54 : decode cX10_recall 54 = .ok (.iload 6, 2) := dgX10_recall_16.2.2.2.2.2.2.2.2.2.2.2.2.2.1
theorem dX10_recall_56 : decode cX10_recall 56 = .ok (.iload 4, 2) := dgX10_recall_16.2.2.2.2.2.2.2.2.2.2.2.2.2.2.1
theorem dX10_recall_58 : decode cX10_recall 58 = .ok (.if_icmp .ge 37, 3) := dgX10_recall_16.2.2.2.2.2.2.2.2.2.2.2.2.2.2.2
theorem dgX10_recall_32 : (decode cX10_recall 61 = .ok (.aload_n 0, 1)) ∧ (decode cX10_recall 62 = .ok (.iload_n 2, 1)) ∧ (decode cX10_recall 63 = .ok (.iload 6, 2)) ∧ (decode cX10_recall 65 = .ok (.invokevirtual 333, 3)) ∧ (decode cX10_recall 68 = .ok (.iload_n 1, 1)) ∧ (decode cX10_recall 69 = .ok (.lshr, 1)) ∧ (decode cX10_recall 70 = .ok (.lconst 1, 1)) ∧ (decode cX10_recall 71 = .ok (.land, 1)) ∧ (decode cX10_recall 72 = .ok (.lconst 0, 1)) ∧ (decode cX10_recall 73 = .ok (.lcmp, 1)) ∧ (decode cX10_recall 74 = .ok (.ifCond .eq 15, 3)) ∧ (decode cX10_recall 77 = .ok (.iload 5, 2)) ∧ (decode cX10_recall 79 = .ok (.iload_n 3, 1)) ∧ (decode cX10_recall 80 = .ok (.if_icmp .ne 6, 3)) ∧ (decode cX10_recall 83 = .ok (.iload 6, 2)) ∧ (decode cX10_recall 85 = .ok (.ireturn, 1)) := by decide +kernel
theorem dX10_recall_61 : decode cX10_recall 61 = .ok (.aload_n 0, 1) := dgX10_recall_32.1
theorem dX10_recall_62 : decode cX10_recall 62 = .ok (.iload_n 2, 1) := dgX10_recall_32.2.1
theorem dX10_recall_63 : decode cX10_recall 63 = .ok (.iload 6, 2) := dgX10_recall_32.2.2.1
theorem dX10_recall_65 : decode cX10_recall 65 = .ok (.invokevirtual 333, 3) := dgX10_recall_32.2.2.2.1
theorem dX10_recall_68 : decode cX10_recall 68 = .ok (.iload_n 1, 1) := dgX10_recall_32.2.2.2.2.1
theorem dX10_recall_69 : decode cX10_recall 69 = .ok (.lshr, 1) := dgX10_recall_32.2.2.2.2.2.1
theorem dX10_recall_70 : decode cX10_recall 70 = .ok (.lconst 1, 1) := dgX10_recall_32.2.2.2.2.2.2.1
theorem dX10_recall_71 : decode cX10_recall 71 = .ok (.land, 1) := dgX10_recall_32.2.2.2.2.2.2.2.1
theorem dX10_recall_72 : decode cX10_recall 72 = .ok (.lconst 0, 1) := dgX10_recall_32.2.2.2.2.2.2.2.2.1
theorem dX10_recall_73 : decode cX10_recall 73 = .ok (.lcmp, 1) := dgX10_recall_32.2.2.2.2.2.2.2.2.2.1
theorem dX10_recall_74 : decode cX10_recall 74 = .ok (.ifCond .eq 15, 3) := dgX10_recall_32.2.2.2.2.2.2.2.2.2.2.1
theorem dX10_recall_77 : decode cX10_recall 77 = .ok (.iload 5, 2) := dgX10_recall_32.2.2.2.2.2.2.2.2.2.2.2.1
theorem dX10_recall_79 : decode cX10_recall 79 = .ok (.iload_n 3, 1) := dgX10_recall_32.2.2.2.2.2.2.2.2.2.2.2.2.1
theorem dX10_recall_80 : decode cX10_recall 80 = .ok (.if_icmp .ne 6, 3) := dgX10_recall_32.2.2.2.2.2.2.2.2.2.2.2.2.2.1
theorem dX10_recall_83 : decode cX10_recall 83 = .ok (.iload 6, 2) := dgX10_recall_32.2.2.2.2.2.2.2.2.2.2.2.2.2.2.1
theorem dX10_recall_85 : decode cX10_recall 85 = .ok (.ireturn, 1) := dgX10_recall_32.2.2.2.2.2.2.2.2.2.2.2.2.2.2.2
theorem dgX10_recall_48 : (decode cX10_recall 86 = .ok (.iinc 5 1, 3)) ∧ (decode cX10_recall 89 = .ok (.iinc 6 1, 3)) ∧ (decode cX10_recall 92 = .ok (.goto (-38), 3)) ∧ (decode cX10_recall 95 = .ok (.iconst (-1), 1)) ∧ (decode cX10_recall 96 = .ok (.ireturn, 1)) := by decide +kernel
theorem dX10_recall_86 : decode cX10_recall 86 = .ok (.iinc 5 1, 3) := dgX10_recall_48.1
theorem dX10_recall_89 : decode cX10_recall 89 = .ok (.iinc 6 1, 3) := dgX10_recall_48.2.1
theorem dX10_recall_92 : decode cX10_recall 92 = .ok (.goto (-38), 3) := dgX10_recall_48.2.2.1
theorem dX10_recall_95 : decode cX10_recall 95 = .ok (.iconst (-1), 1) := dgX10_recall_48.2.2.2.1
theorem dX10_recall_96 : decode cX10_recall 96 = .ok (.ireturn, 1) := dgX10_recall_48.2.2.2.2
theorem dgX10_about_0 : (decode cX10_about 0 = .ok (.iload_n 1, 1)) ∧ (decode cX10_about 1 = .ok (.tableswitch 84 0 6 #[43, 48, 53, 58, 63, 71, 79], 43)) ∧ (decode cX10_about 44 = .ok (.aload_n 0, 1)) ∧ (decode cX10_about 45 = .ok (.getfield 86, 3)) ∧ (decode cX10_about 48 = .ok (.ireturn, 1)) ∧ (decode cX10_about 49 = .ok (.aload_n 0, 1)) ∧ (decode cX10_about 50 = .ok (.getfield 97, 3)) ∧ (decode cX10_about 53 = .ok (.ireturn, 1)) ∧ (decode cX10_about 54 = .ok (.aload_n 0, 1)) ∧ (decode cX10_about 55 = .ok (.getfield 214, 3)) ∧ (decode cX10_about 58 = .ok (.ireturn, 1)) ∧ (decode cX10_about 59 = .ok (.aload_n 0, 1)) ∧ (decode cX10_about 60 = .ok (.getfield 263, 3)) ∧ (decode cX10_about 63 = .ok (.ireturn, 1)) ∧ (decode cX10_about 64 = .ok (.aload_n 0, 1)) ∧ (decode cX10_about 65 = .ok (.getfield 43, 3)) := by decide +kernel
theorem dX10_about_0 : decode cX10_about 0 = .ok (.iload_n 1, 1) := dgX10_about_0.1
theorem dX10_about_1 : decode cX10_about 1 = .ok (.tableswitch 84 0 6 #[43, 48, 53, 58, 63, 71, 79], 43) := dgX10_about_0.2.1
theorem dX10_about_44 : decode cX10_about 44 = .ok (.aload_n 0, 1) := dgX10_about_0.2.2.1
theorem dX10_about_45 : decode cX10_about 45 = .ok (.getfield 86, 3) := dgX10_about_0.2.2.2.1
theorem dX10_about_48 : decode cX10_about 48 = .ok (.ireturn, 1) := dgX10_about_0.2.2.2.2.1
theorem dX10_about_49 : decode cX10_about 49 = .ok (.aload_n 0, 1) := dgX10_about_0.2.2.2.2.2.1
theorem dX10_about_50 : decode cX10_about 50 = .ok (.getfield 97, 3) := dgX10_about_0.2.2.2.2.2.2.1
theorem dX10_about_53 : decode cX10_about 53 = .ok (.ireturn, 1) := dgX10_about_0.2.2.2.2.2.2.2.1
theorem dX10_about_54 : decode cX10_about 54 = .ok (.aload_n 0, 1) := dgX10_about_0.2.2.2.2.2.2.2.2.1
theorem dX10_about_55 : decode cX10_about 55 = .ok (.getfield 214, 3) := dgX10_about_0.2.2.2.2.2.2.2.2.2.1
theorem dX10_about_58 : decode cX10_about 58 = .ok (.ireturn, 1) := dgX10_about_0.2.2.2.2.2.2.2.2.2.2.1
theorem dX10_about_59 : decode cX10_about 59 = .ok (.aload_n 0, 1) := dgX10_about_0.2.2.2.2.2.2.2.2.2.2.2.1
theorem dX10_about_60 : decode cX10_about 60 = .ok (.getfield 263, 3) := dgX10_about_0.2.2.2.2.2.2.2.2.2.2.2.2.1
theorem dX10_about_63 : decode cX10_about 63 = .ok (.ireturn, 1) := dgX10_about_0.2.2.2.2.2.2.2.2.2.2.2.2.2.1
theorem dX10_about_64 : decode cX10_about 64 = .ok (.aload_n 0, 1) := dgX10_about_0.2.2.2.2.2.2.2.2.2.2.2.2.2.2.1
theorem dX10_about_65 : decode cX10_about 65 = .ok (.getfield 43, 3) := dgX10_about_0.2.2.2.2.2.2.2.2.2.2.2.2.2.2.2
theorem dgX10_about_16 : (decode cX10_about 68 = .ok (.getfield 337, 3)) ∧ (decode cX10_about 71 = .ok (.ireturn, 1)) ∧ (decode cX10_about 72 = .ok (.aload_n 0, 1)) ∧ (decode cX10_about 73 = .ok (.getfield 57, 3)) ∧ (decode cX10_about 76 = .ok (.getfield 329, 3)) ∧ (decode cX10_about 79 = .ok (.ireturn, 1)) ∧ (decode cX10_about 80 = .ok (.aload_n 0, 1)) ∧ (decode cX10_about 81 = .ok (.invokevirtual 340, 3)) ∧ (decode cX10_about 84 = .ok (.ireturn, 1)) ∧ (decode cX10_about 85 = .ok (.iconst (-1), 1)) ∧ (decode cX10_about 86 = .ok (.ireturn, 1)) := by decide +kernel
theorem dX10_about_68 : decode cX10_about 68 = .ok (.getfield 337, 3) := dgX10_about_16.1
theorem dX10_about_71 : decode cX10_about 71 = .ok (.ireturn, 1) := dgX10_about_16.2.1
theorem dX10_about_72 : decode cX10_about 72 = .ok (.aload_n 0, 1) := dgX10_about_16.2.2.1
theorem dX10_about_73 : decode cX10_about 73 = .ok (.getfield 57, 3) := dgX10_about_16.2.2.2.1
theorem dX10_about_76 : decode cX10_about 76 = .ok (.getfield 329, 3) := dgX10_about_16.2.2.2.2.1
theorem dX10_about_79 : decode cX10_about 79 = .ok (.ireturn, 1) := dgX10_about_16.2.2.2.2.2.1
theorem dX10_about_80 : decode cX10_about 80 = .ok (.aload_n 0, 1) := dgX10_about_16.2.2.2.2.2.2.1
theorem dX10_about_81 : decode cX10_about 81 = .ok (.invokevirtual 340, 3) := dgX10_about_16.2.2.2.2.2.2.2.1
theorem dX10_about_84 : decode cX10_about 84 = .ok (.ireturn, 1) := dgX10_about_16.2.2.2.2.2.2.2.2.1
theorem dX10_about_85 : decode cX10_about 85 = .ok (.iconst (-1), 1) := dgX10_about_16.2.2.2.2.2.2.2.2.2.1
theorem dX10_about_86 : decode cX10_about 86 = .ok (.ireturn, 1) := dgX10_about_16.2.2.2.2.2.2.2.2.2.2
theorem dgX10_left_0 : (decode cX10_left 0 = .ok (.aload_n 0, 1)) ∧ (decode cX10_left 1 = .ok (.iload_n 1, 1)) ∧ (decode cX10_left 2 = .ok (.invokevirtual 107, 3)) ∧ (decode cX10_left 5 = .ok (.astore_n 2, 1)) ∧ (decode cX10_left 6 = .ok (.aload_n 2, 1)) ∧ (decode cX10_left 7 = .ok (.ifnonnull 7, 3)) ∧ (decode cX10_left 10 = .ok (.iconst (-1), 1)) ∧ (decode cX10_left 11 = .ok (.goto 7, 3)) ∧ (decode cX10_left 14 = .ok (.aload_n 2, 1)) ∧ (decode cX10_left 15 = .ok (.getfield 111, 3)) ∧ (decode cX10_left 18 = .ok (.ireturn, 1)) := by decide +kernel
theorem dX10_left_0 : decode cX10_left 0 = .ok (.aload_n 0, 1) := dgX10_left_0.1
theorem dX10_left_1 : decode cX10_left 1 = .ok (.iload_n 1, 1) := dgX10_left_0.2.1
theorem dX10_left_2 : decode cX10_left 2 = .ok (.invokevirtual 107, 3) := dgX10_left_0.2.2.1
theorem dX10_left_5 : decode cX10_left 5 = .ok (.astore_n 2, 1) := dgX10_left_0.2.2.2.1
theorem dX10_left_6 : decode cX10_left 6 = .ok (.aload_n 2, 1) := dgX10_left_0.2.2.2.2.1
theorem dX10_left_7 : decode cX10_left 7 = .ok (.ifnonnull 7, 3) := dgX10_left_0.2.2.2.2.2.1
theorem dX10_left_10 : decode cX10_left 10 = .ok (.iconst (-1), 1) := dgX10_left_0.2.2.2.2.2.2.1
theorem dX10_left_11 : decode cX10_left 11 = .ok (.goto 7, 3) := dgX10_left_0.2.2.2.2.2.2.2.1
theorem dX10_left_14 : decode cX10_left 14 = .ok (.aload_n 2, 1) := dgX10_left_0.2.2.2.2.2.2.2.2.1
theorem dX10_left_15 : decode cX10_left 15 = .ok (.getfield 111, 3) := dgX10_left_0.2.2.2.2.2.2.2.2.2.1
theorem dX10_left_18 : decode cX10_left 18 = .ok (.ireturn, 1) := dgX10_left_0.2.2.2.2.2.2.2.2.2.2
theorem dgX10_within_0 : (decode cX10_within 0 = .ok (.iload_n 0, 1)) ∧ (decode cX10_within 1 = .ok (.iload_n 1, 1)) ∧ (decode cX10_within 2 = .ok (.if_icmp .lt 12, 3)) ∧ (decode cX10_within 5 = .ok (.iload_n 0, 1)) ∧ (decode cX10_within 6 = .ok (.iload_n 2, 1)) ∧ (decode cX10_within 7 = .ok (.if_icmp .gt 7, 3)) ∧ (decode cX10_within 10 = .ok (.iconst 1, 1)) ∧ (decode cX10_within 11 = .ok (.goto 4, 3)) ∧ (decode cX10_within 14 = .ok (.iconst 0, 1)) ∧ (decode cX10_within 15 = .ok (.ireturn, 1)) := by decide +kernel
theorem dX10_within_0 : decode cX10_within 0 = .ok (.iload_n 0, 1) := dgX10_within_0.1
theorem dX10_within_1 : decode cX10_within 1 = .ok (.iload_n 1, 1) := dgX10_within_0.2.1
theorem dX10_within_2 : decode cX10_within 2 = .ok (.if_icmp .lt 12, 3) := dgX10_within_0.2.2.1
theorem dX10_within_5 : decode cX10_within 5 = .ok (.iload_n 0, 1) := dgX10_within_0.2.2.2.1
theorem dX10_within_6 : decode cX10_within 6 = .ok (.iload_n 2, 1) := dgX10_within_0.2.2.2.2.1
theorem dX10_within_7 : decode cX10_within 7 = .ok (.if_icmp .gt 7, 3) := dgX10_within_0.2.2.2.2.2.1
theorem dX10_within_10 : decode cX10_within 10 = .ok (.iconst 1, 1) := dgX10_within_0.2.2.2.2.2.2.1
theorem dX10_within_11 : decode cX10_within 11 = .ok (.goto 4, 3) := dgX10_within_0.2.2.2.2.2.2.2.1
theorem dX10_within_14 : decode cX10_within 14 = .ok (.iconst 0, 1) := dgX10_within_0.2.2.2.2.2.2.2.2.1
theorem dX10_within_15 : decode cX10_within 15 = .ok (.ireturn, 1) := dgX10_within_0.2.2.2.2.2.2.2.2.2
theorem dgX10_isKind_0 : (decode cX10_isKind 0 = .ok (.iload_n 0, 1)) ∧ (decode cX10_isKind 1 = .ok (.iconst 0, 1)) ∧ (decode cX10_isKind 2 = .ok (.iconst 5, 1)) ∧ (decode cX10_isKind 3 = .ok (.invokestatic 82, 3)) ∧ (decode cX10_isKind 6 = .ok (.ireturn, 1)) := by decide +kernel
theorem dX10_isKind_0 : decode cX10_isKind 0 = .ok (.iload_n 0, 1) := dgX10_isKind_0.1
theorem dX10_isKind_1 : decode cX10_isKind 1 = .ok (.iconst 0, 1) := dgX10_isKind_0.2.1
theorem dX10_isKind_2 : decode cX10_isKind 2 = .ok (.iconst 5, 1) := dgX10_isKind_0.2.2.1
theorem dX10_isKind_3 : decode cX10_isKind 3 = .ok (.invokestatic 82, 3) := dgX10_isKind_0.2.2.2.1
theorem dX10_isKind_6 : decode cX10_isKind 6 = .ok (.ireturn, 1) := dgX10_isKind_0.2.2.2.2
theorem dgX10_isCut_0 : (decode cX10_isCut 0 = .ok (.iload_n 0, 1)) ∧ (decode cX10_isCut 1 = .ok (.iconst 3, 1)) ∧ (decode cX10_isCut 2 = .ok (.if_icmp .eq 8, 3)) ∧ (decode cX10_isCut 5 = .ok (.iload_n 0, 1)) ∧ (decode cX10_isCut 6 = .ok (.iconst 4, 1)) ∧ (decode cX10_isCut 7 = .ok (.if_icmp .ne 7, 3)) ∧ (decode cX10_isCut 10 = .ok (.iconst 1, 1)) ∧ (decode cX10_isCut 11 = .ok (.goto 4, 3)) ∧ (decode cX10_isCut 14 = .ok (.iconst 0, 1)) ∧ (decode cX10_isCut 15 = .ok (.ireturn, 1)) := by decide +kernel
theorem dX10_isCut_0 : decode cX10_isCut 0 = .ok (.iload_n 0, 1) := dgX10_isCut_0.1
theorem dX10_isCut_1 : decode cX10_isCut 1 = .ok (.iconst 3, 1) := dgX10_isCut_0.2.1
theorem dX10_isCut_2 : decode cX10_isCut 2 = .ok (.if_icmp .eq 8, 3) := dgX10_isCut_0.2.2.1
theorem dX10_isCut_5 : decode cX10_isCut 5 = .ok (.iload_n 0, 1) := dgX10_isCut_0.2.2.2.1
theorem dX10_isCut_6 : decode cX10_isCut 6 = .ok (.iconst 4, 1) := dgX10_isCut_0.2.2.2.2.1
theorem dX10_isCut_7 : decode cX10_isCut 7 = .ok (.if_icmp .ne 7, 3) := dgX10_isCut_0.2.2.2.2.2.1
theorem dX10_isCut_10 : decode cX10_isCut 10 = .ok (.iconst 1, 1) := dgX10_isCut_0.2.2.2.2.2.2.1
theorem dX10_isCut_11 : decode cX10_isCut 11 = .ok (.goto 4, 3) := dgX10_isCut_0.2.2.2.2.2.2.2.1
theorem dX10_isCut_14 : decode cX10_isCut 14 = .ok (.iconst 0, 1) := dgX10_isCut_0.2.2.2.2.2.2.2.2.1
theorem dX10_isCut_15 : decode cX10_isCut 15 = .ok (.ireturn, 1) := dgX10_isCut_0.2.2.2.2.2.2.2.2.2
theorem dgX10_canBeAsked_0 : (decode cX10_canBeAsked 0 = .ok (.iload_n 0, 1)) ∧ (decode cX10_canBeAsked 1 = .ok (.iconst 1, 1)) ∧ (decode cX10_canBeAsked 2 = .ok (.bipush 15, 2)) ∧ (decode cX10_canBeAsked 4 = .ok (.invokestatic 82, 3)) ∧ (decode cX10_canBeAsked 7 = .ok (.ifCond .eq 29, 3)) ∧ (decode cX10_canBeAsked 10 = .ok (.iload_n 1, 1)) ∧ (decode cX10_canBeAsked 11 = .ok (.iconst 1, 1)) ∧ (decode cX10_canBeAsked 12 = .ok (.sipush 8000, 3)) ∧ (decode cX10_canBeAsked 15 = .ok (.invokestatic 82, 3)) ∧ (decode cX10_canBeAsked 18 = .ok (.ifCond .eq 18, 3)) ∧ (decode cX10_canBeAsked 21 = .ok (.iload_n 2, 1)) ∧ (decode cX10_canBeAsked 22 = .ok (.iconst 0, 1)) ∧ (decode cX10_canBeAsked 23 = .ok (.sipush 500, 3)) ∧ (decode cX10_canBeAsked 26 = .ok (.invokestatic 82, 3)) ∧ (decode cX10_canBeAsked 29 = .ok (.ifCond .eq 7, 3)) ∧ (decode cX10_canBeAsked 32 = .ok (.iconst 1, 1)) := by decide +kernel
theorem dX10_canBeAsked_0 : decode cX10_canBeAsked 0 = .ok (.iload_n 0, 1) := dgX10_canBeAsked_0.1
theorem dX10_canBeAsked_1 : decode cX10_canBeAsked 1 = .ok (.iconst 1, 1) := dgX10_canBeAsked_0.2.1
theorem dX10_canBeAsked_2 : decode cX10_canBeAsked 2 = .ok (.bipush 15, 2) := dgX10_canBeAsked_0.2.2.1
theorem dX10_canBeAsked_4 : decode cX10_canBeAsked 4 = .ok (.invokestatic 82, 3) := dgX10_canBeAsked_0.2.2.2.1
theorem dX10_canBeAsked_7 : decode cX10_canBeAsked 7 = .ok (.ifCond .eq 29, 3) := dgX10_canBeAsked_0.2.2.2.2.1
theorem dX10_canBeAsked_10 : decode cX10_canBeAsked 10 = .ok (.iload_n 1, 1) := dgX10_canBeAsked_0.2.2.2.2.2.1
theorem dX10_canBeAsked_11 : decode cX10_canBeAsked 11 = .ok (.iconst 1, 1) := dgX10_canBeAsked_0.2.2.2.2.2.2.1
theorem dX10_canBeAsked_12 : decode cX10_canBeAsked 12 = .ok (.sipush 8000, 3) := dgX10_canBeAsked_0.2.2.2.2.2.2.2.1
theorem dX10_canBeAsked_15 : decode cX10_canBeAsked 15 = .ok (.invokestatic 82, 3) := dgX10_canBeAsked_0.2.2.2.2.2.2.2.2.1
theorem dX10_canBeAsked_18 : decode cX10_canBeAsked 18 = .ok (.ifCond .eq 18, 3) := dgX10_canBeAsked_0.2.2.2.2.2.2.2.2.2.1
theorem dX10_canBeAsked_21 : decode cX10_canBeAsked 21 = .ok (.iload_n 2, 1) := dgX10_canBeAsked_0.2.2.2.2.2.2.2.2.2.2.1
theorem dX10_canBeAsked_22 : decode cX10_canBeAsked 22 = .ok (.iconst 0, 1) := dgX10_canBeAsked_0.2.2.2.2.2.2.2.2.2.2.2.1
theorem dX10_canBeAsked_23 : decode cX10_canBeAsked 23 = .ok (.sipush 500, 3) := dgX10_canBeAsked_0.2.2.2.2.2.2.2.2.2.2.2.2.1
theorem dX10_canBeAsked_26 : decode cX10_canBeAsked 26 = .ok (.invokestatic 82, 3) := dgX10_canBeAsked_0.2.2.2.2.2.2.2.2.2.2.2.2.2.1
theorem dX10_canBeAsked_29 : decode cX10_canBeAsked 29 = .ok (.ifCond .eq 7, 3) := dgX10_canBeAsked_0.2.2.2.2.2.2.2.2.2.2.2.2.2.2.1
theorem dX10_canBeAsked_32 : decode cX10_canBeAsked 32 = .ok (.iconst 1, 1) := dgX10_canBeAsked_0.2.2.2.2.2.2.2.2.2.2.2.2.2.2.2
theorem dgX10_canBeAsked_16 : (decode cX10_canBeAsked 33 = .ok (.goto 4, 3)) ∧ (decode cX10_canBeAsked 36 = .ok (.iconst 0, 1)) ∧ (decode cX10_canBeAsked 37 = .ok (.ireturn, 1)) := by decide +kernel
theorem dX10_canBeAsked_33 : decode cX10_canBeAsked 33 = .ok (.goto 4, 3) := dgX10_canBeAsked_16.1
theorem dX10_canBeAsked_36 : decode cX10_canBeAsked 36 = .ok (.iconst 0, 1) := dgX10_canBeAsked_16.2.1
theorem dX10_canBeAsked_37 : decode cX10_canBeAsked 37 = .ok (.ireturn, 1) := dgX10_canBeAsked_16.2.2
theorem dgX10_spotOf_0 : (decode cX10_spotOf 0 = .ok (.iload_n 0, 1)) ∧ (decode cX10_spotOf 1 = .ok (.iconst 0, 1)) ∧ (decode cX10_spotOf 2 = .ok (.iconst 5, 1)) ∧ (decode cX10_spotOf 3 = .ok (.invokestatic 82, 3)) ∧ (decode cX10_spotOf 6 = .ok (.ifCond .eq 17, 3)) ∧ (decode cX10_spotOf 9 = .ok (.iload_n 1, 1)) ∧ (decode cX10_spotOf 10 = .ok (.iconst 0, 1)) ∧ (decode cX10_spotOf 11 = .ok (.bipush 23, 2)) ∧ (decode cX10_spotOf 13 = .ok (.invokestatic 82, 3)) ∧ (decode cX10_spotOf 16 = .ok (.ifCond .eq 7, 3)) ∧ (decode cX10_spotOf 19 = .ok (.iconst 1, 1)) ∧ (decode cX10_spotOf 20 = .ok (.goto 4, 3)) ∧ (decode cX10_spotOf 23 = .ok (.iconst 0, 1)) ∧ (decode cX10_spotOf 24 = .ok (.istore_n 2, 1)) ∧ (decode cX10_spotOf 25 = .ok (.iload_n 2, 1)) ∧ (decode cX10_spotOf 26 = .ok (.ifCond .eq 12, 3)) := by decide +kernel
theorem dX10_spotOf_0 : decode cX10_spotOf 0 = .ok (.iload_n 0, 1) := dgX10_spotOf_0.1
theorem dX10_spotOf_1 : decode cX10_spotOf 1 = .ok (.iconst 0, 1) := dgX10_spotOf_0.2.1
theorem dX10_spotOf_2 : decode cX10_spotOf 2 = .ok (.iconst 5, 1) := dgX10_spotOf_0.2.2.1
theorem dX10_spotOf_3 : decode cX10_spotOf 3 = .ok (.invokestatic 82, 3) := dgX10_spotOf_0.2.2.2.1
theorem dX10_spotOf_6 : decode cX10_spotOf 6 = .ok (.ifCond .eq 17, 3) := dgX10_spotOf_0.2.2.2.2.1
theorem dX10_spotOf_9 : decode cX10_spotOf 9 = .ok (.iload_n 1, 1) := dgX10_spotOf_0.2.2.2.2.2.1
theorem dX10_spotOf_10 : decode cX10_spotOf 10 = .ok (.iconst 0, 1) := dgX10_spotOf_0.2.2.2.2.2.2.1
theorem dX10_spotOf_11 : decode cX10_spotOf 11 = .ok (.bipush 23, 2) := dgX10_spotOf_0.2.2.2.2.2.2.2.1
theorem dX10_spotOf_13 : decode cX10_spotOf 13 = .ok (.invokestatic 82, 3) := dgX10_spotOf_0.2.2.2.2.2.2.2.2.1
theorem dX10_spotOf_16 : decode cX10_spotOf 16 = .ok (.ifCond .eq 7, 3) := dgX10_spotOf_0.2.2.2.2.2.2.2.2.2.1
theorem dX10_spotOf_19 : decode cX10_spotOf 19 = .ok (.iconst 1, 1) := dgX10_spotOf_0.2.2.2.2.2.2.2.2.2.2.1
theorem dX10_spotOf_20 : decode cX10_spotOf 20 = .ok (.goto 4, 3) := dgX10_spotOf_0.2.2.2.2.2.2.2.2.2.2.2.1
theorem dX10_spotOf_23 : decode cX10_spotOf 23 = .ok (.iconst 0, 1) := dgX10_spotOf_0.2.2.2.2.2.2.2.2.2.2.2.2.1
theorem dX10_spotOf_24 : decode cX10_spotOf 24 = .ok (.istore_n 2, 1) := dgX10_spotOf_0.2.2.2.2.2.2.2.2.2.2.2.2.2.1
theorem dX10_spotOf_25 : decode cX10_spotOf 25 = .ok (.iload_n 2, 1) := dgX10_spotOf_0.2.2.2.2.2.2.2.2.2.2.2.2.2.2.1
theorem dX10_spotOf_26 : decode cX10_spotOf 26 = .ok (.ifCond .eq 12, 3) := dgX10_spotOf_0.2.2.2.2.2.2.2.2.2.2.2.2.2.2.2
theorem dgX10_spotOf_16 : (decode cX10_spotOf 29 = .ok (.iload_n 0, 1)) ∧ (decode cX10_spotOf 30 = .ok (.bipush 24, 2)) ∧ (decode cX10_spotOf 32 = .ok (.imul, 1)) ∧ (decode cX10_spotOf 33 = .ok (.iload_n 1, 1)) ∧ (decode cX10_spotOf 34 = .ok (.iadd, 1)) ∧ (decode cX10_spotOf 35 = .ok (.goto 4, 3)) ∧ (decode cX10_spotOf 38 = .ok (.iconst (-1), 1)) ∧ (decode cX10_spotOf 39 = .ok (.ireturn, 1)) := by decide +kernel
theorem dX10_spotOf_29 : decode cX10_spotOf 29 = .ok (.iload_n 0, 1) := dgX10_spotOf_16.1
theorem dX10_spotOf_30 : decode cX10_spotOf 30 = .ok (.bipush 24, 2) := dgX10_spotOf_16.2.1
theorem dX10_spotOf_32 : decode cX10_spotOf 32 = .ok (.imul, 1) := dgX10_spotOf_16.2.2.1
theorem dX10_spotOf_33 : decode cX10_spotOf 33 = .ok (.iload_n 1, 1) := dgX10_spotOf_16.2.2.2.1
theorem dX10_spotOf_34 : decode cX10_spotOf 34 = .ok (.iadd, 1) := dgX10_spotOf_16.2.2.2.2.1
theorem dX10_spotOf_35 : decode cX10_spotOf 35 = .ok (.goto 4, 3) := dgX10_spotOf_16.2.2.2.2.2.1
theorem dX10_spotOf_38 : decode cX10_spotOf 38 = .ok (.iconst (-1), 1) := dgX10_spotOf_16.2.2.2.2.2.2.1
theorem dX10_spotOf_39 : decode cX10_spotOf 39 = .ok (.ireturn, 1) := dgX10_spotOf_16.2.2.2.2.2.2.2
theorem dgX10_findLot_0 : (decode cX10_findLot 0 = .ok (.iload_n 1, 1)) ∧ (decode cX10_findLot 1 = .ok (.iconst 0, 1)) ∧ (decode cX10_findLot 2 = .ok (.aload_n 0, 1)) ∧ (decode cX10_findLot 3 = .ok (.getfield 86, 3)) ∧ (decode cX10_findLot 6 = .ok (.iconst 1, 1)) ∧ (decode cX10_findLot 7 = .ok (.isub, 1)) ∧ (decode cX10_findLot 8 = .ok (.invokestatic 82, 3)) ∧ (decode cX10_findLot 11 = .ok (.ifCond .eq 12, 3)) ∧ (decode cX10_findLot 14 = .ok (.aload_n 0, 1)) ∧ (decode cX10_findLot 15 = .ok (.getfield 11, 3)) ∧ (decode cX10_findLot 18 = .ok (.iload_n 1, 1)) ∧ (decode cX10_findLot 19 = .ok (.aaload, 1)) ∧ (decode cX10_findLot 20 = .ok (.goto 4, 3)) ∧ (decode cX10_findLot 23 = .ok (.aconst_null, 1)) ∧ (decode cX10_findLot 24 = .ok (.areturn, 1)) := by decide +kernel
theorem dX10_findLot_0 : decode cX10_findLot 0 = .ok (.iload_n 1, 1) := dgX10_findLot_0.1
theorem dX10_findLot_1 : decode cX10_findLot 1 = .ok (.iconst 0, 1) := dgX10_findLot_0.2.1
theorem dX10_findLot_2 : decode cX10_findLot 2 = .ok (.aload_n 0, 1) := dgX10_findLot_0.2.2.1
theorem dX10_findLot_3 : decode cX10_findLot 3 = .ok (.getfield 86, 3) := dgX10_findLot_0.2.2.2.1
theorem dX10_findLot_6 : decode cX10_findLot 6 = .ok (.iconst 1, 1) := dgX10_findLot_0.2.2.2.2.1
theorem dX10_findLot_7 : decode cX10_findLot 7 = .ok (.isub, 1) := dgX10_findLot_0.2.2.2.2.2.1
theorem dX10_findLot_8 : decode cX10_findLot 8 = .ok (.invokestatic 82, 3) := dgX10_findLot_0.2.2.2.2.2.2.1
theorem dX10_findLot_11 : decode cX10_findLot 11 = .ok (.ifCond .eq 12, 3) := dgX10_findLot_0.2.2.2.2.2.2.2.1
theorem dX10_findLot_14 : decode cX10_findLot 14 = .ok (.aload_n 0, 1) := dgX10_findLot_0.2.2.2.2.2.2.2.2.1
theorem dX10_findLot_15 : decode cX10_findLot 15 = .ok (.getfield 11, 3) := dgX10_findLot_0.2.2.2.2.2.2.2.2.2.1
theorem dX10_findLot_18 : decode cX10_findLot 18 = .ok (.iload_n 1, 1) := dgX10_findLot_0.2.2.2.2.2.2.2.2.2.2.1
theorem dX10_findLot_19 : decode cX10_findLot 19 = .ok (.aaload, 1) := dgX10_findLot_0.2.2.2.2.2.2.2.2.2.2.2.1
theorem dX10_findLot_20 : decode cX10_findLot 20 = .ok (.goto 4, 3) := dgX10_findLot_0.2.2.2.2.2.2.2.2.2.2.2.2.1
theorem dX10_findLot_23 : decode cX10_findLot 23 = .ok (.aconst_null, 1) := dgX10_findLot_0.2.2.2.2.2.2.2.2.2.2.2.2.2.1
theorem dX10_findLot_24 : decode cX10_findLot 24 = .ok (.areturn, 1) := dgX10_findLot_0.2.2.2.2.2.2.2.2.2.2.2.2.2.2
theorem dgX10_findBatch_0 : (decode cX10_findBatch 0 = .ok (.iload_n 1, 1)) ∧ (decode cX10_findBatch 1 = .ok (.iconst 0, 1)) ∧ (decode cX10_findBatch 2 = .ok (.aload_n 0, 1)) ∧ (decode cX10_findBatch 3 = .ok (.getfield 97, 3)) ∧ (decode cX10_findBatch 6 = .ok (.iconst 1, 1)) ∧ (decode cX10_findBatch 7 = .ok (.isub, 1)) ∧ (decode cX10_findBatch 8 = .ok (.invokestatic 82, 3)) ∧ (decode cX10_findBatch 11 = .ok (.ifCond .eq 12, 3)) ∧ (decode cX10_findBatch 14 = .ok (.aload_n 0, 1)) ∧ (decode cX10_findBatch 15 = .ok (.getfield 17, 3)) ∧ (decode cX10_findBatch 18 = .ok (.iload_n 1, 1)) ∧ (decode cX10_findBatch 19 = .ok (.aaload, 1)) ∧ (decode cX10_findBatch 20 = .ok (.goto 4, 3)) ∧ (decode cX10_findBatch 23 = .ok (.aconst_null, 1)) ∧ (decode cX10_findBatch 24 = .ok (.areturn, 1)) := by decide +kernel
theorem dX10_findBatch_0 : decode cX10_findBatch 0 = .ok (.iload_n 1, 1) := dgX10_findBatch_0.1
theorem dX10_findBatch_1 : decode cX10_findBatch 1 = .ok (.iconst 0, 1) := dgX10_findBatch_0.2.1
theorem dX10_findBatch_2 : decode cX10_findBatch 2 = .ok (.aload_n 0, 1) := dgX10_findBatch_0.2.2.1
theorem dX10_findBatch_3 : decode cX10_findBatch 3 = .ok (.getfield 97, 3) := dgX10_findBatch_0.2.2.2.1
theorem dX10_findBatch_6 : decode cX10_findBatch 6 = .ok (.iconst 1, 1) := dgX10_findBatch_0.2.2.2.2.1
theorem dX10_findBatch_7 : decode cX10_findBatch 7 = .ok (.isub, 1) := dgX10_findBatch_0.2.2.2.2.2.1
theorem dX10_findBatch_8 : decode cX10_findBatch 8 = .ok (.invokestatic 82, 3) := dgX10_findBatch_0.2.2.2.2.2.2.1
theorem dX10_findBatch_11 : decode cX10_findBatch 11 = .ok (.ifCond .eq 12, 3) := dgX10_findBatch_0.2.2.2.2.2.2.2.1
theorem dX10_findBatch_14 : decode cX10_findBatch 14 = .ok (.aload_n 0, 1) := dgX10_findBatch_0.2.2.2.2.2.2.2.2.1
theorem dX10_findBatch_15 : decode cX10_findBatch 15 = .ok (.getfield 17, 3) := dgX10_findBatch_0.2.2.2.2.2.2.2.2.2.1
theorem dX10_findBatch_18 : decode cX10_findBatch 18 = .ok (.iload_n 1, 1) := dgX10_findBatch_0.2.2.2.2.2.2.2.2.2.2.1
theorem dX10_findBatch_19 : decode cX10_findBatch 19 = .ok (.aaload, 1) := dgX10_findBatch_0.2.2.2.2.2.2.2.2.2.2.2.1
theorem dX10_findBatch_20 : decode cX10_findBatch 20 = .ok (.goto 4, 3) := dgX10_findBatch_0.2.2.2.2.2.2.2.2.2.2.2.2.1
theorem dX10_findBatch_23 : decode cX10_findBatch 23 = .ok (.aconst_null, 1) := dgX10_findBatch_0.2.2.2.2.2.2.2.2.2.2.2.2.2.1
theorem dX10_findBatch_24 : decode cX10_findBatch 24 = .ok (.areturn, 1) := dgX10_findBatch_0.2.2.2.2.2.2.2.2.2.2.2.2.2.2
theorem dgX10_findRaw_0 : (decode cX10_findRaw 0 = .ok (.aload_n 0, 1)) ∧ (decode cX10_findRaw 1 = .ok (.iload_n 1, 1)) ∧ (decode cX10_findRaw 2 = .ok (.invokevirtual 173, 3)) ∧ (decode cX10_findRaw 5 = .ok (.astore_n 2, 1)) ∧ (decode cX10_findRaw 6 = .ok (.aload_n 2, 1)) ∧ (decode cX10_findRaw 7 = .ok (.ifnull 10, 3)) ∧ (decode cX10_findRaw 10 = .ok (.aload_n 2, 1)) ∧ (decode cX10_findRaw 11 = .ok (.getfield 176, 3)) ∧ (decode cX10_findRaw 14 = .ok (.ifCond .eq 7, 3)) ∧ (decode cX10_findRaw 17 = .ok (.aconst_null, 1)) ∧ (decode cX10_findRaw 18 = .ok (.goto 4, 3)) ∧ (decode cX10_findRaw 21 = .ok (.aload_n 2, 1)) ∧ (decode cX10_findRaw 22 = .ok (.areturn, 1)) := by decide +kernel
theorem dX10_findRaw_0 : decode cX10_findRaw 0 = .ok (.aload_n 0, 1) := dgX10_findRaw_0.1
theorem dX10_findRaw_1 : decode cX10_findRaw 1 = .ok (.iload_n 1, 1) := dgX10_findRaw_0.2.1
theorem dX10_findRaw_2 : decode cX10_findRaw 2 = .ok (.invokevirtual 173, 3) := dgX10_findRaw_0.2.2.1
theorem dX10_findRaw_5 : decode cX10_findRaw 5 = .ok (.astore_n 2, 1) := dgX10_findRaw_0.2.2.2.1
theorem dX10_findRaw_6 : decode cX10_findRaw 6 = .ok (.aload_n 2, 1) := dgX10_findRaw_0.2.2.2.2.1
theorem dX10_findRaw_7 : decode cX10_findRaw 7 = .ok (.ifnull 10, 3) := dgX10_findRaw_0.2.2.2.2.2.1
theorem dX10_findRaw_10 : decode cX10_findRaw 10 = .ok (.aload_n 2, 1) := dgX10_findRaw_0.2.2.2.2.2.2.1
theorem dX10_findRaw_11 : decode cX10_findRaw 11 = .ok (.getfield 176, 3) := dgX10_findRaw_0.2.2.2.2.2.2.2.1
theorem dX10_findRaw_14 : decode cX10_findRaw 14 = .ok (.ifCond .eq 7, 3) := dgX10_findRaw_0.2.2.2.2.2.2.2.2.1
theorem dX10_findRaw_17 : decode cX10_findRaw 17 = .ok (.aconst_null, 1) := dgX10_findRaw_0.2.2.2.2.2.2.2.2.2.1
theorem dX10_findRaw_18 : decode cX10_findRaw 18 = .ok (.goto 4, 3) := dgX10_findRaw_0.2.2.2.2.2.2.2.2.2.2.1
theorem dX10_findRaw_21 : decode cX10_findRaw 21 = .ok (.aload_n 2, 1) := dgX10_findRaw_0.2.2.2.2.2.2.2.2.2.2.2.1
theorem dX10_findRaw_22 : decode cX10_findRaw 22 = .ok (.areturn, 1) := dgX10_findRaw_0.2.2.2.2.2.2.2.2.2.2.2.2
theorem dgX10_findGood_0 : (decode cX10_findGood 0 = .ok (.aload_n 0, 1)) ∧ (decode cX10_findGood 1 = .ok (.iload_n 1, 1)) ∧ (decode cX10_findGood 2 = .ok (.invokevirtual 173, 3)) ∧ (decode cX10_findGood 5 = .ok (.astore_n 2, 1)) ∧ (decode cX10_findGood 6 = .ok (.aload_n 2, 1)) ∧ (decode cX10_findGood 7 = .ok (.ifnull 14, 3)) ∧ (decode cX10_findGood 10 = .ok (.aload_n 2, 1)) ∧ (decode cX10_findGood 11 = .ok (.aload_n 0, 1)) ∧ (decode cX10_findGood 12 = .ok (.getfield 43, 3)) ∧ (decode cX10_findGood 15 = .ok (.invokevirtual 183, 3)) ∧ (decode cX10_findGood 18 = .ok (.ifCond .eq 7, 3)) ∧ (decode cX10_findGood 21 = .ok (.aconst_null, 1)) ∧ (decode cX10_findGood 22 = .ok (.goto 4, 3)) ∧ (decode cX10_findGood 25 = .ok (.aload_n 2, 1)) ∧ (decode cX10_findGood 26 = .ok (.areturn, 1)) := by decide +kernel
theorem dX10_findGood_0 : decode cX10_findGood 0 = .ok (.aload_n 0, 1) := dgX10_findGood_0.1
theorem dX10_findGood_1 : decode cX10_findGood 1 = .ok (.iload_n 1, 1) := dgX10_findGood_0.2.1
theorem dX10_findGood_2 : decode cX10_findGood 2 = .ok (.invokevirtual 173, 3) := dgX10_findGood_0.2.2.1
theorem dX10_findGood_5 : decode cX10_findGood 5 = .ok (.astore_n 2, 1) := dgX10_findGood_0.2.2.2.1
theorem dX10_findGood_6 : decode cX10_findGood 6 = .ok (.aload_n 2, 1) := dgX10_findGood_0.2.2.2.2.1
theorem dX10_findGood_7 : decode cX10_findGood 7 = .ok (.ifnull 14, 3) := dgX10_findGood_0.2.2.2.2.2.1
theorem dX10_findGood_10 : decode cX10_findGood 10 = .ok (.aload_n 2, 1) := dgX10_findGood_0.2.2.2.2.2.2.1
theorem dX10_findGood_11 : decode cX10_findGood 11 = .ok (.aload_n 0, 1) := dgX10_findGood_0.2.2.2.2.2.2.2.1
theorem dX10_findGood_12 : decode cX10_findGood 12 = .ok (.getfield 43, 3) := dgX10_findGood_0.2.2.2.2.2.2.2.2.1
theorem dX10_findGood_15 : decode cX10_findGood 15 = .ok (.invokevirtual 183, 3) := dgX10_findGood_0.2.2.2.2.2.2.2.2.2.1
theorem dX10_findGood_18 : decode cX10_findGood 18 = .ok (.ifCond .eq 7, 3) := dgX10_findGood_0.2.2.2.2.2.2.2.2.2.2.1
theorem dX10_findGood_21 : decode cX10_findGood 21 = .ok (.aconst_null, 1) := dgX10_findGood_0.2.2.2.2.2.2.2.2.2.2.2.1
theorem dX10_findGood_22 : decode cX10_findGood 22 = .ok (.goto 4, 3) := dgX10_findGood_0.2.2.2.2.2.2.2.2.2.2.2.2.1
theorem dX10_findGood_25 : decode cX10_findGood 25 = .ok (.aload_n 2, 1) := dgX10_findGood_0.2.2.2.2.2.2.2.2.2.2.2.2.2.1
theorem dX10_findGood_26 : decode cX10_findGood 26 = .ok (.areturn, 1) := dgX10_findGood_0.2.2.2.2.2.2.2.2.2.2.2.2.2.2
theorem dgX10_findPiece_0 : (decode cX10_findPiece 0 = .ok (.iload_n 1, 1)) ∧ (decode cX10_findPiece 1 = .ok (.iconst 0, 1)) ∧ (decode cX10_findPiece 2 = .ok (.aload_n 0, 1)) ∧ (decode cX10_findPiece 3 = .ok (.getfield 214, 3)) ∧ (decode cX10_findPiece 6 = .ok (.iconst 1, 1)) ∧ (decode cX10_findPiece 7 = .ok (.isub, 1)) ∧ (decode cX10_findPiece 8 = .ok (.invokestatic 82, 3)) ∧ (decode cX10_findPiece 11 = .ok (.ifCond .eq 12, 3)) ∧ (decode cX10_findPiece 14 = .ok (.aload_n 0, 1)) ∧ (decode cX10_findPiece 15 = .ok (.getfield 23, 3)) ∧ (decode cX10_findPiece 18 = .ok (.iload_n 1, 1)) ∧ (decode cX10_findPiece 19 = .ok (.aaload, 1)) ∧ (decode cX10_findPiece 20 = .ok (.goto 4, 3)) ∧ (decode cX10_findPiece 23 = .ok (.aconst_null, 1)) ∧ (decode cX10_findPiece 24 = .ok (.areturn, 1)) := by decide +kernel
theorem dX10_findPiece_0 : decode cX10_findPiece 0 = .ok (.iload_n 1, 1) := dgX10_findPiece_0.1
theorem dX10_findPiece_1 : decode cX10_findPiece 1 = .ok (.iconst 0, 1) := dgX10_findPiece_0.2.1
theorem dX10_findPiece_2 : decode cX10_findPiece 2 = .ok (.aload_n 0, 1) := dgX10_findPiece_0.2.2.1
theorem dX10_findPiece_3 : decode cX10_findPiece 3 = .ok (.getfield 214, 3) := dgX10_findPiece_0.2.2.2.1
theorem dX10_findPiece_6 : decode cX10_findPiece 6 = .ok (.iconst 1, 1) := dgX10_findPiece_0.2.2.2.2.1
theorem dX10_findPiece_7 : decode cX10_findPiece 7 = .ok (.isub, 1) := dgX10_findPiece_0.2.2.2.2.2.1
theorem dX10_findPiece_8 : decode cX10_findPiece 8 = .ok (.invokestatic 82, 3) := dgX10_findPiece_0.2.2.2.2.2.2.1
theorem dX10_findPiece_11 : decode cX10_findPiece 11 = .ok (.ifCond .eq 12, 3) := dgX10_findPiece_0.2.2.2.2.2.2.2.1
theorem dX10_findPiece_14 : decode cX10_findPiece 14 = .ok (.aload_n 0, 1) := dgX10_findPiece_0.2.2.2.2.2.2.2.2.1
theorem dX10_findPiece_15 : decode cX10_findPiece 15 = .ok (.getfield 23, 3) := dgX10_findPiece_0.2.2.2.2.2.2.2.2.2.1
theorem dX10_findPiece_18 : decode cX10_findPiece 18 = .ok (.iload_n 1, 1) := dgX10_findPiece_0.2.2.2.2.2.2.2.2.2.2.1
theorem dX10_findPiece_19 : decode cX10_findPiece 19 = .ok (.aaload, 1) := dgX10_findPiece_0.2.2.2.2.2.2.2.2.2.2.2.1
theorem dX10_findPiece_20 : decode cX10_findPiece 20 = .ok (.goto 4, 3) := dgX10_findPiece_0.2.2.2.2.2.2.2.2.2.2.2.2.1
theorem dX10_findPiece_23 : decode cX10_findPiece 23 = .ok (.aconst_null, 1) := dgX10_findPiece_0.2.2.2.2.2.2.2.2.2.2.2.2.2.1
theorem dX10_findPiece_24 : decode cX10_findPiece 24 = .ok (.areturn, 1) := dgX10_findPiece_0.2.2.2.2.2.2.2.2.2.2.2.2.2.2
theorem dgX10_findUnboxed_0 : (decode cX10_findUnboxed 0 = .ok (.aload_n 0, 1)) ∧ (decode cX10_findUnboxed 1 = .ok (.iload_n 1, 1)) ∧ (decode cX10_findUnboxed 2 = .ok (.invokevirtual 253, 3)) ∧ (decode cX10_findUnboxed 5 = .ok (.astore_n 2, 1)) ∧ (decode cX10_findUnboxed 6 = .ok (.aload_n 2, 1)) ∧ (decode cX10_findUnboxed 7 = .ok (.ifnull 11, 3)) ∧ (decode cX10_findUnboxed 10 = .ok (.aload_n 2, 1)) ∧ (decode cX10_findUnboxed 11 = .ok (.getfield 247, 3)) ∧ (decode cX10_findUnboxed 14 = .ok (.iconst 2, 1)) ∧ (decode cX10_findUnboxed 15 = .ok (.if_icmp .ne 7, 3)) ∧ (decode cX10_findUnboxed 18 = .ok (.aconst_null, 1)) ∧ (decode cX10_findUnboxed 19 = .ok (.goto 4, 3)) ∧ (decode cX10_findUnboxed 22 = .ok (.aload_n 2, 1)) ∧ (decode cX10_findUnboxed 23 = .ok (.areturn, 1)) := by decide +kernel
theorem dX10_findUnboxed_0 : decode cX10_findUnboxed 0 = .ok (.aload_n 0, 1) := dgX10_findUnboxed_0.1
theorem dX10_findUnboxed_1 : decode cX10_findUnboxed 1 = .ok (.iload_n 1, 1) := dgX10_findUnboxed_0.2.1
theorem dX10_findUnboxed_2 : decode cX10_findUnboxed 2 = .ok (.invokevirtual 253, 3) := dgX10_findUnboxed_0.2.2.1
theorem dX10_findUnboxed_5 : decode cX10_findUnboxed 5 = .ok (.astore_n 2, 1) := dgX10_findUnboxed_0.2.2.2.1
theorem dX10_findUnboxed_6 : decode cX10_findUnboxed 6 = .ok (.aload_n 2, 1) := dgX10_findUnboxed_0.2.2.2.2.1
theorem dX10_findUnboxed_7 : decode cX10_findUnboxed 7 = .ok (.ifnull 11, 3) := dgX10_findUnboxed_0.2.2.2.2.2.1
theorem dX10_findUnboxed_10 : decode cX10_findUnboxed 10 = .ok (.aload_n 2, 1) := dgX10_findUnboxed_0.2.2.2.2.2.2.1
theorem dX10_findUnboxed_11 : decode cX10_findUnboxed 11 = .ok (.getfield 247, 3) := dgX10_findUnboxed_0.2.2.2.2.2.2.2.1
theorem dX10_findUnboxed_14 : decode cX10_findUnboxed 14 = .ok (.iconst 2, 1) := dgX10_findUnboxed_0.2.2.2.2.2.2.2.2.1
theorem dX10_findUnboxed_15 : decode cX10_findUnboxed 15 = .ok (.if_icmp .ne 7, 3) := dgX10_findUnboxed_0.2.2.2.2.2.2.2.2.2.1
theorem dX10_findUnboxed_18 : decode cX10_findUnboxed 18 = .ok (.aconst_null, 1) := dgX10_findUnboxed_0.2.2.2.2.2.2.2.2.2.2.1
theorem dX10_findUnboxed_19 : decode cX10_findUnboxed 19 = .ok (.goto 4, 3) := dgX10_findUnboxed_0.2.2.2.2.2.2.2.2.2.2.2.1
theorem dX10_findUnboxed_22 : decode cX10_findUnboxed 22 = .ok (.aload_n 2, 1) := dgX10_findUnboxed_0.2.2.2.2.2.2.2.2.2.2.2.2.1
theorem dX10_findUnboxed_23 : decode cX10_findUnboxed 23 = .ok (.areturn, 1) := dgX10_findUnboxed_0.2.2.2.2.2.2.2.2.2.2.2.2.2
theorem dgX10_findBox_0 : (decode cX10_findBox 0 = .ok (.iload_n 1, 1)) ∧ (decode cX10_findBox 1 = .ok (.iconst 0, 1)) ∧ (decode cX10_findBox 2 = .ok (.aload_n 0, 1)) ∧ (decode cX10_findBox 3 = .ok (.getfield 263, 3)) ∧ (decode cX10_findBox 6 = .ok (.iconst 1, 1)) ∧ (decode cX10_findBox 7 = .ok (.isub, 1)) ∧ (decode cX10_findBox 8 = .ok (.invokestatic 82, 3)) ∧ (decode cX10_findBox 11 = .ok (.ifCond .eq 12, 3)) ∧ (decode cX10_findBox 14 = .ok (.aload_n 0, 1)) ∧ (decode cX10_findBox 15 = .ok (.getfield 29, 3)) ∧ (decode cX10_findBox 18 = .ok (.iload_n 1, 1)) ∧ (decode cX10_findBox 19 = .ok (.aaload, 1)) ∧ (decode cX10_findBox 20 = .ok (.goto 4, 3)) ∧ (decode cX10_findBox 23 = .ok (.aconst_null, 1)) ∧ (decode cX10_findBox 24 = .ok (.areturn, 1)) := by decide +kernel
theorem dX10_findBox_0 : decode cX10_findBox 0 = .ok (.iload_n 1, 1) := dgX10_findBox_0.1
theorem dX10_findBox_1 : decode cX10_findBox 1 = .ok (.iconst 0, 1) := dgX10_findBox_0.2.1
theorem dX10_findBox_2 : decode cX10_findBox 2 = .ok (.aload_n 0, 1) := dgX10_findBox_0.2.2.1
theorem dX10_findBox_3 : decode cX10_findBox 3 = .ok (.getfield 263, 3) := dgX10_findBox_0.2.2.2.1
theorem dX10_findBox_6 : decode cX10_findBox 6 = .ok (.iconst 1, 1) := dgX10_findBox_0.2.2.2.2.1
theorem dX10_findBox_7 : decode cX10_findBox 7 = .ok (.isub, 1) := dgX10_findBox_0.2.2.2.2.2.1
theorem dX10_findBox_8 : decode cX10_findBox 8 = .ok (.invokestatic 82, 3) := dgX10_findBox_0.2.2.2.2.2.2.1
theorem dX10_findBox_11 : decode cX10_findBox 11 = .ok (.ifCond .eq 12, 3) := dgX10_findBox_0.2.2.2.2.2.2.2.1
theorem dX10_findBox_14 : decode cX10_findBox 14 = .ok (.aload_n 0, 1) := dgX10_findBox_0.2.2.2.2.2.2.2.2.1
theorem dX10_findBox_15 : decode cX10_findBox 15 = .ok (.getfield 29, 3) := dgX10_findBox_0.2.2.2.2.2.2.2.2.2.1
theorem dX10_findBox_18 : decode cX10_findBox 18 = .ok (.iload_n 1, 1) := dgX10_findBox_0.2.2.2.2.2.2.2.2.2.2.1
theorem dX10_findBox_19 : decode cX10_findBox 19 = .ok (.aaload, 1) := dgX10_findBox_0.2.2.2.2.2.2.2.2.2.2.2.1
theorem dX10_findBox_20 : decode cX10_findBox 20 = .ok (.goto 4, 3) := dgX10_findBox_0.2.2.2.2.2.2.2.2.2.2.2.2.1
theorem dX10_findBox_23 : decode cX10_findBox 23 = .ok (.aconst_null, 1) := dgX10_findBox_0.2.2.2.2.2.2.2.2.2.2.2.2.2.1
theorem dX10_findBox_24 : decode cX10_findBox 24 = .ok (.areturn, 1) := dgX10_findBox_0.2.2.2.2.2.2.2.2.2.2.2.2.2.2
theorem dgX10_restartCoats_0 : (decode cX10_restartCoats 0 = .ok (.iconst 0, 1)) ∧ (decode cX10_restartCoats 1 = .ok (.istore_n 1, 1)) ∧ (decode cX10_restartCoats 2 = .ok (.iload_n 1, 1)) ∧ (decode cX10_restartCoats 3 = .ok (.aload_n 0, 1)) ∧ (decode cX10_restartCoats 4 = .ok (.getfield 97, 3)) ∧ (decode cX10_restartCoats 7 = .ok (.if_icmp .ge 29, 3)) ∧ (decode cX10_restartCoats 10 = .ok (.aload_n 0, 1)) ∧ (decode cX10_restartCoats 11 = .ok (.iload_n 1, 1)) ∧ (decode cX10_restartCoats 12 = .ok (.invokevirtual 173, 3)) ∧ (decode cX10_restartCoats 15 = .ok (.astore_n 2, 1)) ∧ (decode cX10_restartCoats 16 = .ok (.aload_n 2, 1)) ∧ (decode cX10_restartCoats 17 = .ok (.ifnull 13, 3)) ∧ (decode cX10_restartCoats 20 = .ok (.aload_n 2, 1)) ∧ (decode cX10_restartCoats 21 = .ok (.iconst 0, 1)) ∧ (decode cX10_restartCoats 22 = .ok (.putfield 205, 3)) ∧ (decode cX10_restartCoats 25 = .ok (.aload_n 2, 1)) := by decide +kernel
theorem dX10_restartCoats_0 : decode cX10_restartCoats 0 = .ok (.iconst 0, 1) := dgX10_restartCoats_0.1
theorem dX10_restartCoats_1 : decode cX10_restartCoats 1 = .ok (.istore_n 1, 1) := dgX10_restartCoats_0.2.1
theorem dX10_restartCoats_2 : decode cX10_restartCoats 2 = .ok (.iload_n 1, 1) := dgX10_restartCoats_0.2.2.1
theorem dX10_restartCoats_3 : decode cX10_restartCoats 3 = .ok (.aload_n 0, 1) := dgX10_restartCoats_0.2.2.2.1
theorem dX10_restartCoats_4 : decode cX10_restartCoats 4 = .ok (.getfield 97, 3) := dgX10_restartCoats_0.2.2.2.2.1
theorem dX10_restartCoats_7 : decode cX10_restartCoats 7 = .ok (.if_icmp .ge 29, 3) := dgX10_restartCoats_0.2.2.2.2.2.1
theorem dX10_restartCoats_10 : decode cX10_restartCoats 10 = .ok (.aload_n 0, 1) := dgX10_restartCoats_0.2.2.2.2.2.2.1
theorem dX10_restartCoats_11 : decode cX10_restartCoats 11 = .ok (.iload_n 1, 1) := dgX10_restartCoats_0.2.2.2.2.2.2.2.1
theorem dX10_restartCoats_12 : decode cX10_restartCoats 12 = .ok (.invokevirtual 173, 3) := dgX10_restartCoats_0.2.2.2.2.2.2.2.2.1
theorem dX10_restartCoats_15 : decode cX10_restartCoats 15 = .ok (.astore_n 2, 1) := dgX10_restartCoats_0.2.2.2.2.2.2.2.2.2.1
theorem dX10_restartCoats_16 : decode cX10_restartCoats 16 = .ok (.aload_n 2, 1) := dgX10_restartCoats_0.2.2.2.2.2.2.2.2.2.2.1
theorem dX10_restartCoats_17 : decode cX10_restartCoats 17 = .ok (.ifnull 13, 3) := dgX10_restartCoats_0.2.2.2.2.2.2.2.2.2.2.2.1
theorem dX10_restartCoats_20 : decode cX10_restartCoats 20 = .ok (.aload_n 2, 1) := dgX10_restartCoats_0.2.2.2.2.2.2.2.2.2.2.2.2.1
theorem dX10_restartCoats_21 : decode cX10_restartCoats 21 = .ok (.iconst 0, 1) := dgX10_restartCoats_0.2.2.2.2.2.2.2.2.2.2.2.2.2.1
theorem dX10_restartCoats_22 : decode cX10_restartCoats 22 = .ok (.putfield 205, 3) := dgX10_restartCoats_0.2.2.2.2.2.2.2.2.2.2.2.2.2.2.1
theorem dX10_restartCoats_25 : decode cX10_restartCoats 25 = .ok (.aload_n 2, 1) := dgX10_restartCoats_0.2.2.2.2.2.2.2.2.2.2.2.2.2.2.2
theorem dgX10_restartCoats_16 : (decode cX10_restartCoats 26 = .ok (.iconst 0, 1)) ∧ (decode cX10_restartCoats 27 = .ok (.putfield 343, 3)) ∧ (decode cX10_restartCoats 30 = .ok (.iinc 1 1, 3)) ∧ (decode cX10_restartCoats 33 = .ok (.goto (-31), 3)) ∧ (decode cX10_restartCoats 36 = .ok (.return_, 1)) := by decide +kernel
theorem dX10_restartCoats_26 : decode cX10_restartCoats 26 = .ok (.iconst 0, 1) := dgX10_restartCoats_16.1
theorem dX10_restartCoats_27 : decode cX10_restartCoats 27 = .ok (.putfield 343, 3) := dgX10_restartCoats_16.2.1
theorem dX10_restartCoats_30 : decode cX10_restartCoats 30 = .ok (.iinc 1 1, 3) := dgX10_restartCoats_16.2.2.1
theorem dX10_restartCoats_33 : decode cX10_restartCoats 33 = .ok (.goto (-31), 3) := dgX10_restartCoats_16.2.2.2.1
theorem dX10_restartCoats_36 : decode cX10_restartCoats 36 = .ok (.return_, 1) := dgX10_restartCoats_16.2.2.2.2
theorem dgX10_liftFromTray_0 : (decode cX10_liftFromTray 0 = .ok (.aload_n 1, 1)) ∧ (decode cX10_liftFromTray 1 = .ok (.getfield 247, 3)) ∧ (decode cX10_liftFromTray 4 = .ok (.iconst 1, 1)) ∧ (decode cX10_liftFromTray 5 = .ok (.if_icmp .ne 41, 3)) ∧ (decode cX10_liftFromTray 8 = .ok (.aload_n 1, 1)) ∧ (decode cX10_liftFromTray 9 = .ok (.getfield 250, 3)) ∧ (decode cX10_liftFromTray 12 = .ok (.iconst 0, 1)) ∧ (decode cX10_liftFromTray 13 = .ok (.aload_n 0, 1)) ∧ (decode cX10_liftFromTray 14 = .ok (.getfield 33, 3)) ∧ (decode cX10_liftFromTray 17 = .ok (.arraylength, 1)) ∧ (decode cX10_liftFromTray 18 = .ok (.iconst 1, 1)) ∧ (decode cX10_liftFromTray 19 = .ok (.isub, 1)) ∧ (decode cX10_liftFromTray 20 = .ok (.invokestatic 82, 3)) ∧ (decode cX10_liftFromTray 23 = .ok (.ifCond .eq 23, 3)) ∧ (decode cX10_liftFromTray 26 = .ok (.aload_n 0, 1)) ∧ (decode cX10_liftFromTray 27 = .ok (.getfield 33, 3)) := by decide +kernel
theorem dX10_liftFromTray_0 : decode cX10_liftFromTray 0 = .ok (.aload_n 1, 1) := dgX10_liftFromTray_0.1
theorem dX10_liftFromTray_1 : decode cX10_liftFromTray 1 = .ok (.getfield 247, 3) := dgX10_liftFromTray_0.2.1
theorem dX10_liftFromTray_4 : decode cX10_liftFromTray 4 = .ok (.iconst 1, 1) := dgX10_liftFromTray_0.2.2.1
theorem dX10_liftFromTray_5 : decode cX10_liftFromTray 5 = .ok (.if_icmp .ne 41, 3) := dgX10_liftFromTray_0.2.2.2.1
theorem dX10_liftFromTray_8 : decode cX10_liftFromTray 8 = .ok (.aload_n 1, 1) := dgX10_liftFromTray_0.2.2.2.2.1
theorem dX10_liftFromTray_9 : decode cX10_liftFromTray 9 = .ok (.getfield 250, 3) := dgX10_liftFromTray_0.2.2.2.2.2.1
theorem dX10_liftFromTray_12 : decode cX10_liftFromTray 12 = .ok (.iconst 0, 1) := dgX10_liftFromTray_0.2.2.2.2.2.2.1
theorem dX10_liftFromTray_13 : decode cX10_liftFromTray 13 = .ok (.aload_n 0, 1) := dgX10_liftFromTray_0.2.2.2.2.2.2.2.1
theorem dX10_liftFromTray_14 : decode cX10_liftFromTray 14 = .ok (.getfield 33, 3) := dgX10_liftFromTray_0.2.2.2.2.2.2.2.2.1
theorem dX10_liftFromTray_17 : decode cX10_liftFromTray 17 = .ok (.arraylength, 1) := dgX10_liftFromTray_0.2.2.2.2.2.2.2.2.2.1
theorem dX10_liftFromTray_18 : decode cX10_liftFromTray 18 = .ok (.iconst 1, 1) := dgX10_liftFromTray_0.2.2.2.2.2.2.2.2.2.2.1
theorem dX10_liftFromTray_19 : decode cX10_liftFromTray 19 = .ok (.isub, 1) := dgX10_liftFromTray_0.2.2.2.2.2.2.2.2.2.2.2.1
theorem dX10_liftFromTray_20 : decode cX10_liftFromTray 20 = .ok (.invokestatic 82, 3) := dgX10_liftFromTray_0.2.2.2.2.2.2.2.2.2.2.2.2.1
theorem dX10_liftFromTray_23 : decode cX10_liftFromTray 23 = .ok (.ifCond .eq 23, 3) := dgX10_liftFromTray_0.2.2.2.2.2.2.2.2.2.2.2.2.2.1
theorem dX10_liftFromTray_26 : decode cX10_liftFromTray 26 = .ok (.aload_n 0, 1) := dgX10_liftFromTray_0.2.2.2.2.2.2.2.2.2.2.2.2.2.2.1
theorem dX10_liftFromTray_27 : decode cX10_liftFromTray 27 = .ok (.getfield 33, 3) := dgX10_liftFromTray_0.2.2.2.2.2.2.2.2.2.2.2.2.2.2.2
theorem dgX10_liftFromTray_16 : (decode cX10_liftFromTray 30 = .ok (.aload_n 1, 1)) ∧ (decode cX10_liftFromTray 31 = .ok (.getfield 250, 3)) ∧ (decode cX10_liftFromTray 34 = .ok (.iconst (-1), 1)) ∧ (decode cX10_liftFromTray 35 = .ok (.iastore, 1)) ∧ (decode cX10_liftFromTray 36 = .ok (.aload_n 1, 1)) ∧ (decode cX10_liftFromTray 37 = .ok (.iconst 0, 1)) ∧ (decode cX10_liftFromTray 38 = .ok (.putfield 247, 3)) ∧ (decode cX10_liftFromTray 41 = .ok (.aload_n 1, 1)) ∧ (decode cX10_liftFromTray 42 = .ok (.iconst (-1), 1)) ∧ (decode cX10_liftFromTray 43 = .ok (.putfield 250, 3)) ∧ (decode cX10_liftFromTray 46 = .ok (.return_, 1)) := by decide +kernel
theorem dX10_liftFromTray_30 : decode cX10_liftFromTray 30 = .ok (.aload_n 1, 1) := dgX10_liftFromTray_16.1
theorem dX10_liftFromTray_31 : decode cX10_liftFromTray 31 = .ok (.getfield 250, 3) := dgX10_liftFromTray_16.2.1
theorem dX10_liftFromTray_34 : decode cX10_liftFromTray 34 = .ok (.iconst (-1), 1) := dgX10_liftFromTray_16.2.2.1
theorem dX10_liftFromTray_35 : decode cX10_liftFromTray 35 = .ok (.iastore, 1) := dgX10_liftFromTray_16.2.2.2.1
theorem dX10_liftFromTray_36 : decode cX10_liftFromTray 36 = .ok (.aload_n 1, 1) := dgX10_liftFromTray_16.2.2.2.2.1
theorem dX10_liftFromTray_37 : decode cX10_liftFromTray 37 = .ok (.iconst 0, 1) := dgX10_liftFromTray_16.2.2.2.2.2.1
theorem dX10_liftFromTray_38 : decode cX10_liftFromTray 38 = .ok (.putfield 247, 3) := dgX10_liftFromTray_16.2.2.2.2.2.2.1
theorem dX10_liftFromTray_41 : decode cX10_liftFromTray 41 = .ok (.aload_n 1, 1) := dgX10_liftFromTray_16.2.2.2.2.2.2.2.1
theorem dX10_liftFromTray_42 : decode cX10_liftFromTray 42 = .ok (.iconst (-1), 1) := dgX10_liftFromTray_16.2.2.2.2.2.2.2.2.1
theorem dX10_liftFromTray_43 : decode cX10_liftFromTray 43 = .ok (.putfield 250, 3) := dgX10_liftFromTray_16.2.2.2.2.2.2.2.2.2.1
theorem dX10_liftFromTray_46 : decode cX10_liftFromTray 46 = .ok (.return_, 1) := dgX10_liftFromTray_16.2.2.2.2.2.2.2.2.2.2
theorem dgX10_moveToBox_0 : (decode cX10_moveToBox 0 = .ok (.iload_n 1, 1)) ∧ (decode cX10_moveToBox 1 = .ok (.iconst 0, 1)) ∧ (decode cX10_moveToBox 2 = .ok (.aload_n 0, 1)) ∧ (decode cX10_moveToBox 3 = .ok (.getfield 33, 3)) ∧ (decode cX10_moveToBox 6 = .ok (.arraylength, 1)) ∧ (decode cX10_moveToBox 7 = .ok (.iconst 1, 1)) ∧ (decode cX10_moveToBox 8 = .ok (.isub, 1)) ∧ (decode cX10_moveToBox 9 = .ok (.invokestatic 82, 3)) ∧ (decode cX10_moveToBox 12 = .ok (.ifCond .eq 12, 3)) ∧ (decode cX10_moveToBox 15 = .ok (.aload_n 0, 1)) ∧ (decode cX10_moveToBox 16 = .ok (.getfield 33, 3)) ∧ (decode cX10_moveToBox 19 = .ok (.iload_n 1, 1)) ∧ (decode cX10_moveToBox 20 = .ok (.iaload, 1)) ∧ (decode cX10_moveToBox 21 = .ok (.goto 4, 3)) ∧ (decode cX10_moveToBox 24 = .ok (.iconst (-1), 1)) ∧ (decode cX10_moveToBox 25 = .ok (.istore_n 3, 1)) := by decide +kernel
theorem dX10_moveToBox_0 : decode cX10_moveToBox 0 = .ok (.iload_n 1, 1) := dgX10_moveToBox_0.1
theorem dX10_moveToBox_1 : decode cX10_moveToBox 1 = .ok (.iconst 0, 1) := dgX10_moveToBox_0.2.1
theorem dX10_moveToBox_2 : decode cX10_moveToBox 2 = .ok (.aload_n 0, 1) := dgX10_moveToBox_0.2.2.1
theorem dX10_moveToBox_3 : decode cX10_moveToBox 3 = .ok (.getfield 33, 3) := dgX10_moveToBox_0.2.2.2.1
theorem dX10_moveToBox_6 : decode cX10_moveToBox 6 = .ok (.arraylength, 1) := dgX10_moveToBox_0.2.2.2.2.1
theorem dX10_moveToBox_7 : decode cX10_moveToBox 7 = .ok (.iconst 1, 1) := dgX10_moveToBox_0.2.2.2.2.2.1
theorem dX10_moveToBox_8 : decode cX10_moveToBox 8 = .ok (.isub, 1) := dgX10_moveToBox_0.2.2.2.2.2.2.1
theorem dX10_moveToBox_9 : decode cX10_moveToBox 9 = .ok (.invokestatic 82, 3) := dgX10_moveToBox_0.2.2.2.2.2.2.2.1
theorem dX10_moveToBox_12 : decode cX10_moveToBox 12 = .ok (.ifCond .eq 12, 3) := dgX10_moveToBox_0.2.2.2.2.2.2.2.2.1
theorem dX10_moveToBox_15 : decode cX10_moveToBox 15 = .ok (.aload_n 0, 1) := dgX10_moveToBox_0.2.2.2.2.2.2.2.2.2.1
theorem dX10_moveToBox_16 : decode cX10_moveToBox 16 = .ok (.getfield 33, 3) := dgX10_moveToBox_0.2.2.2.2.2.2.2.2.2.2.1
theorem dX10_moveToBox_19 : decode cX10_moveToBox 19 = .ok (.iload_n 1, 1) := dgX10_moveToBox_0.2.2.2.2.2.2.2.2.2.2.2.1
theorem dX10_moveToBox_20 : decode cX10_moveToBox 20 = .ok (.iaload, 1) := dgX10_moveToBox_0.2.2.2.2.2.2.2.2.2.2.2.2.1
theorem dX10_moveToBox_21 : decode cX10_moveToBox 21 = .ok (.goto 4, 3) := dgX10_moveToBox_0.2.2.2.2.2.2.2.2.2.2.2.2.2.1
theorem dX10_moveToBox_24 : decode cX10_moveToBox 24 = .ok (.iconst (-1), 1) := dgX10_moveToBox_0.2.2.2.2.2.2.2.2.2.2.2.2.2.2.1
theorem dX10_moveToBox_25 : decode cX10_moveToBox 25 = .ok (.istore_n 3, 1) := dgX10_moveToBox_0.2.2.2.2.2.2.2.2.2.2.2.2.2.2.2
theorem dgX10_moveToBox_16 : (decode cX10_moveToBox 26 = .ok (.aload_n 0, 1)) ∧ (decode cX10_moveToBox 27 = .ok (.iload_n 3, 1)) ∧ (decode cX10_moveToBox 28 = .ok (.invokevirtual 253, 3)) ∧ (decode cX10_moveToBox 31 = .ok (.astore 4, 2)) ∧ (decode cX10_moveToBox 33 = .ok (.aload 4, 2)) ∧ (decode cX10_moveToBox 35 = .ok (.ifnonnull 4, 3)) ∧ (decode cX10_moveToBox 38 = .ok (.return_, 1)) ∧ (decode cX10_moveToBox 39 = .ok (.aload_n 0, 1)) ∧ (decode cX10_moveToBox 40 = .ok (.aload 4, 2)) ∧ (decode cX10_moveToBox 42 = .ok (.invokevirtual 243, 3)) ∧ (decode cX10_moveToBox 45 = .ok (.aload 4, 2)) ∧ (decode cX10_moveToBox 47 = .ok (.iconst 2, 1)) ∧ (decode cX10_moveToBox 48 = .ok (.putfield 247, 3)) ∧ (decode cX10_moveToBox 51 = .ok (.aload 4, 2)) ∧ (decode cX10_moveToBox 53 = .ok (.aload_n 0, 1)) ∧ (decode cX10_moveToBox 54 = .ok (.getfield 263, 3)) := by decide +kernel
theorem dX10_moveToBox_26 : decode cX10_moveToBox 26 = .ok (.aload_n 0, 1) := dgX10_moveToBox_16.1
theorem dX10_moveToBox_27 : decode cX10_moveToBox 27 = .ok (.iload_n 3, 1) := dgX10_moveToBox_16.2.1
theorem dX10_moveToBox_28 : decode cX10_moveToBox 28 = .ok (.invokevirtual 253, 3) := dgX10_moveToBox_16.2.2.1
theorem dX10_moveToBox_31 : decode cX10_moveToBox 31 = .ok (.astore 4, 2) := dgX10_moveToBox_16.2.2.2.1
theorem dX10_moveToBox_33 : decode cX10_moveToBox 33 = .ok (.aload 4, 2) := dgX10_moveToBox_16.2.2.2.2.1
theorem dX10_moveToBox_35 : decode cX10_moveToBox 35 = .ok (.ifnonnull 4, 3) := dgX10_moveToBox_16.2.2.2.2.2.1
theorem dX10_moveToBox_38 : decode cX10_moveToBox 38 = .ok (.return_, 1) := dgX10_moveToBox_16.2.2.2.2.2.2.1
theorem dX10_moveToBox_39 : decode cX10_moveToBox 39 = .ok (.aload_n 0, 1) := dgX10_moveToBox_16.2.2.2.2.2.2.2.1
theorem dX10_moveToBox_40 : decode cX10_moveToBox 40 = .ok (.aload 4, 2) := dgX10_moveToBox_16.2.2.2.2.2.2.2.2.1
theorem dX10_moveToBox_42 : decode cX10_moveToBox 42 = .ok (.invokevirtual 243, 3) := dgX10_moveToBox_16.2.2.2.2.2.2.2.2.2.1
theorem dX10_moveToBox_45 : decode cX10_moveToBox 45 = .ok (.aload 4, 2) := dgX10_moveToBox_16.2.2.2.2.2.2.2.2.2.2.1
theorem dX10_moveToBox_47 : decode cX10_moveToBox 47 = .ok (.iconst 2, 1) := dgX10_moveToBox_16.2.2.2.2.2.2.2.2.2.2.2.1
theorem dX10_moveToBox_48 : decode cX10_moveToBox 48 = .ok (.putfield 247, 3) := dgX10_moveToBox_16.2.2.2.2.2.2.2.2.2.2.2.2.1
theorem dX10_moveToBox_51 : decode cX10_moveToBox 51 = .ok (.aload 4, 2) := dgX10_moveToBox_16.2.2.2.2.2.2.2.2.2.2.2.2.2.1
theorem dX10_moveToBox_53 : decode cX10_moveToBox 53 = .ok (.aload_n 0, 1) := dgX10_moveToBox_16.2.2.2.2.2.2.2.2.2.2.2.2.2.2.1
theorem dX10_moveToBox_54 : decode cX10_moveToBox 54 = .ok (.getfield 263, 3) := dgX10_moveToBox_16.2.2.2.2.2.2.2.2.2.2.2.2.2.2.2
theorem dgX10_moveToBox_32 : (decode cX10_moveToBox 57 = .ok (.putfield 250, 3)) ∧ (decode cX10_moveToBox 60 = .ok (.aload_n 2, 1)) ∧ (decode cX10_moveToBox 61 = .ok (.iload_n 3, 1)) ∧ (decode cX10_moveToBox 62 = .ok (.aload 4, 2)) ∧ (decode cX10_moveToBox 64 = .ok (.getfield 236, 3)) ∧ (decode cX10_moveToBox 67 = .ok (.invokevirtual 346, 3)) ∧ (decode cX10_moveToBox 70 = .ok (.return_, 1)) := by decide +kernel
theorem dX10_moveToBox_57 : decode cX10_moveToBox 57 = .ok (.putfield 250, 3) := dgX10_moveToBox_32.1
theorem dX10_moveToBox_60 : decode cX10_moveToBox 60 = .ok (.aload_n 2, 1) := dgX10_moveToBox_32.2.1
theorem dX10_moveToBox_61 : decode cX10_moveToBox 61 = .ok (.iload_n 3, 1) := dgX10_moveToBox_32.2.2.1
theorem dX10_moveToBox_62 : decode cX10_moveToBox 62 = .ok (.aload 4, 2) := dgX10_moveToBox_32.2.2.2.1
theorem dX10_moveToBox_64 : decode cX10_moveToBox 64 = .ok (.getfield 236, 3) := dgX10_moveToBox_32.2.2.2.2.1
theorem dX10_moveToBox_67 : decode cX10_moveToBox 67 = .ok (.invokevirtual 346, 3) := dgX10_moveToBox_32.2.2.2.2.2.1
theorem dX10_moveToBox_70 : decode cX10_moveToBox 70 = .ok (.return_, 1) := dgX10_moveToBox_32.2.2.2.2.2.2
theorem dgX10_gather_0 : (decode cX10_gather 0 = .ok (.aload_n 0, 1)) ∧ (decode cX10_gather 1 = .ok (.getfield 64, 3)) ∧ (decode cX10_gather 4 = .ok (.iconst 0, 1)) ∧ (decode cX10_gather 5 = .ok (.putfield 279, 3)) ∧ (decode cX10_gather 8 = .ok (.iconst 0, 1)) ∧ (decode cX10_gather 9 = .ok (.istore_n 3, 1)) ∧ (decode cX10_gather 10 = .ok (.iload_n 3, 1)) ∧ (decode cX10_gather 11 = .ok (.aload_n 1, 1)) ∧ (decode cX10_gather 12 = .ok (.arraylength, 1)) ∧ (decode cX10_gather 13 = .ok (.if_icmp .ge 68, 3)) ∧ (decode cX10_gather 16 = .ok (.aload_n 0, 1)) ∧ (decode cX10_gather 17 = .ok (.getfield 64, 3)) ∧ (decode cX10_gather 20 = .ok (.getfield 279, 3)) ∧ (decode cX10_gather 23 = .ok (.bipush 40, 2)) ∧ (decode cX10_gather 25 = .ok (.if_icmp .ge 56, 3)) ∧ (decode cX10_gather 28 = .ok (.aload_n 0, 1)) := by decide +kernel
theorem dX10_gather_0 : decode cX10_gather 0 = .ok (.aload_n 0, 1) := dgX10_gather_0.1
theorem dX10_gather_1 : decode cX10_gather 1 = .ok (.getfield 64, 3) := dgX10_gather_0.2.1
theorem dX10_gather_4 : decode cX10_gather 4 = .ok (.iconst 0, 1) := dgX10_gather_0.2.2.1
theorem dX10_gather_5 : decode cX10_gather 5 = .ok (.putfield 279, 3) := dgX10_gather_0.2.2.2.1
theorem dX10_gather_8 : decode cX10_gather 8 = .ok (.iconst 0, 1) := dgX10_gather_0.2.2.2.2.1
theorem dX10_gather_9 : decode cX10_gather 9 = .ok (.istore_n 3, 1) := dgX10_gather_0.2.2.2.2.2.1
theorem dX10_gather_10 : decode cX10_gather 10 = .ok (.iload_n 3, 1) := dgX10_gather_0.2.2.2.2.2.2.1
theorem dX10_gather_11 : decode cX10_gather 11 = .ok (.aload_n 1, 1) := dgX10_gather_0.2.2.2.2.2.2.2.1
theorem dX10_gather_12 : decode cX10_gather 12 = .ok (.arraylength, 1) := dgX10_gather_0.2.2.2.2.2.2.2.2.1
theorem dX10_gather_13 : decode cX10_gather 13 = .ok (.if_icmp .ge 68, 3) := dgX10_gather_0.2.2.2.2.2.2.2.2.2.1
theorem dX10_gather_16 : decode cX10_gather 16 = .ok (.aload_n 0, 1) := dgX10_gather_0.2.2.2.2.2.2.2.2.2.2.1
theorem dX10_gather_17 : decode cX10_gather 17 = .ok (.getfield 64, 3) := dgX10_gather_0.2.2.2.2.2.2.2.2.2.2.2.1
theorem dX10_gather_20 : decode cX10_gather 20 = .ok (.getfield 279, 3) := dgX10_gather_0.2.2.2.2.2.2.2.2.2.2.2.2.1
theorem dX10_gather_23 : decode cX10_gather 23 = .ok (.bipush 40, 2) := dgX10_gather_0.2.2.2.2.2.2.2.2.2.2.2.2.2.1
theorem dX10_gather_25 : decode cX10_gather 25 = .ok (.if_icmp .ge 56, 3) := dgX10_gather_0.2.2.2.2.2.2.2.2.2.2.2.2.2.2.1
theorem dX10_gather_28 : decode cX10_gather 28 = .ok (.aload_n 0, 1) := dgX10_gather_0.2.2.2.2.2.2.2.2.2.2.2.2.2.2.2
theorem dgX10_gather_16 : (decode cX10_gather 29 = .ok (.aload_n 1, 1)) ∧ (decode cX10_gather 30 = .ok (.iload_n 3, 1)) ∧ (decode cX10_gather 31 = .ok (.iaload, 1)) ∧ (decode cX10_gather 32 = .ok (.invokevirtual 253, 3)) ∧ (decode cX10_gather 35 = .ok (.astore 4, 2)) ∧ (decode cX10_gather 37 = .ok (.aload 4, 2)) ∧ (decode cX10_gather 39 = .ok (.ifnull 36, 3)) ∧ (decode cX10_gather 42 = .ok (.aload 4, 2)) ∧ (decode cX10_gather 44 = .ok (.invokevirtual 349, 3)) ∧ (decode cX10_gather 47 = .ok (.ifCond .eq 28, 3)) ∧ (decode cX10_gather 50 = .ok (.iload_n 2, 1)) ∧ (decode cX10_gather 51 = .ok (.aload 4, 2)) ∧ (decode cX10_gather 53 = .ok (.invokevirtual 353, 3)) ∧ (decode cX10_gather 56 = .ok (.ishr, 1)) ∧ (decode cX10_gather 57 = .ok (.iconst 1, 1)) ∧ (decode cX10_gather 58 = .ok (.iand, 1)) := by decide +kernel
theorem dX10_gather_29 : decode cX10_gather 29 = .ok (.aload_n 1, 1) := dgX10_gather_16.1
theorem dX10_gather_30 : decode cX10_gather 30 = .ok (.iload_n 3, 1) := dgX10_gather_16.2.1
theorem dX10_gather_31 : decode cX10_gather 31 = .ok (.iaload, 1) := dgX10_gather_16.2.2.1
theorem dX10_gather_32 : decode cX10_gather 32 = .ok (.invokevirtual 253, 3) := dgX10_gather_16.2.2.2.1
theorem dX10_gather_35 : decode cX10_gather 35 = .ok (.astore 4, 2) := dgX10_gather_16.2.2.2.2.1
theorem dX10_gather_37 : decode cX10_gather 37 = .ok (.aload 4, 2) := dgX10_gather_16.2.2.2.2.2.1
theorem dX10_gather_39 : decode cX10_gather 39 = .ok (.ifnull 36, 3) := dgX10_gather_16.2.2.2.2.2.2.1
theorem dX10_gather_42 : decode cX10_gather 42 = .ok (.aload 4, 2) := dgX10_gather_16.2.2.2.2.2.2.2.1
theorem dX10_gather_44 : decode cX10_gather 44 = .ok (.invokevirtual 349, 3) := dgX10_gather_16.2.2.2.2.2.2.2.2.1
theorem dX10_gather_47 : decode cX10_gather 47 = .ok (.ifCond .eq 28, 3) := dgX10_gather_16.2.2.2.2.2.2.2.2.2.1
theorem dX10_gather_50 : decode cX10_gather 50 = .ok (.iload_n 2, 1) := dgX10_gather_16.2.2.2.2.2.2.2.2.2.2.1
theorem dX10_gather_51 : decode cX10_gather 51 = .ok (.aload 4, 2) := dgX10_gather_16.2.2.2.2.2.2.2.2.2.2.2.1
theorem dX10_gather_53 : decode cX10_gather 53 = .ok (.invokevirtual 353, 3) := dgX10_gather_16.2.2.2.2.2.2.2.2.2.2.2.2.1
theorem dX10_gather_56 : decode cX10_gather 56 = .ok (.ishr, 1) := dgX10_gather_16.2.2.2.2.2.2.2.2.2.2.2.2.2.1
theorem dX10_gather_57 : decode cX10_gather 57 = .ok (.iconst 1, 1) := dgX10_gather_16.2.2.2.2.2.2.2.2.2.2.2.2.2.2.1
theorem dX10_gather_58 : decode cX10_gather 58 = .ok (.iand, 1) := dgX10_gather_16.2.2.2.2.2.2.2.2.2.2.2.2.2.2.2
theorem dgX10_gather_32 : (decode cX10_gather 59 = .ok (.ifCond .eq 16, 3)) ∧ (decode cX10_gather 62 = .ok (.aload_n 0, 1)) ∧ (decode cX10_gather 63 = .ok (.getfield 64, 3)) ∧ (decode cX10_gather 66 = .ok (.iload_n 3, 1)) ∧ (decode cX10_gather 67 = .ok (.aload 4, 2)) ∧ (decode cX10_gather 69 = .ok (.getfield 233, 3)) ∧ (decode cX10_gather 72 = .ok (.invokevirtual 356, 3)) ∧ (decode cX10_gather 75 = .ok (.iinc 3 1, 3)) ∧ (decode cX10_gather 78 = .ok (.goto (-68), 3)) ∧ (decode cX10_gather 81 = .ok (.return_, 1)) := by decide +kernel
theorem dX10_gather_59 : decode cX10_gather 59 = .ok (.ifCond .eq 16, 3) := dgX10_gather_32.1
theorem dX10_gather_62 : decode cX10_gather 62 = .ok (.aload_n 0, 1) := dgX10_gather_32.2.1
theorem dX10_gather_63 : decode cX10_gather 63 = .ok (.getfield 64, 3) := dgX10_gather_32.2.2.1
theorem dX10_gather_66 : decode cX10_gather 66 = .ok (.iload_n 3, 1) := dgX10_gather_32.2.2.2.1
theorem dX10_gather_67 : decode cX10_gather 67 = .ok (.aload 4, 2) := dgX10_gather_32.2.2.2.2.1
theorem dX10_gather_69 : decode cX10_gather 69 = .ok (.getfield 233, 3) := dgX10_gather_32.2.2.2.2.2.1
theorem dX10_gather_72 : decode cX10_gather 72 = .ok (.invokevirtual 356, 3) := dgX10_gather_32.2.2.2.2.2.2.1
theorem dX10_gather_75 : decode cX10_gather 75 = .ok (.iinc 3 1, 3) := dgX10_gather_32.2.2.2.2.2.2.2.1
theorem dX10_gather_78 : decode cX10_gather 78 = .ok (.goto (-68), 3) := dgX10_gather_32.2.2.2.2.2.2.2.2.1
theorem dX10_gather_81 : decode cX10_gather 81 = .ok (.return_, 1) := dgX10_gather_32.2.2.2.2.2.2.2.2.2
theorem dgX10_countFull_0 : (decode cX10_countFull 0 = .ok (.aload_n 0, 1)) ∧ (decode cX10_countFull 1 = .ok (.getfield 33, 3)) ∧ (decode cX10_countFull 4 = .ok (.iconst 0, 1)) ∧ (decode cX10_countFull 5 = .ok (.aload_n 0, 1)) ∧ (decode cX10_countFull 6 = .ok (.getfield 37, 3)) ∧ (decode cX10_countFull 9 = .ok (.iconst 0, 1)) ∧ (decode cX10_countFull 10 = .ok (.aload_n 0, 1)) ∧ (decode cX10_countFull 11 = .ok (.getfield 33, 3)) ∧ (decode cX10_countFull 14 = .ok (.arraylength, 1)) ∧ (decode cX10_countFull 15 = .ok (.invokestatic 358, 3)) ∧ (decode cX10_countFull 18 = .ok (.iconst 0, 1)) ∧ (decode cX10_countFull 19 = .ok (.istore 4, 2)) ∧ (decode cX10_countFull 21 = .ok (.iload 4, 2)) ∧ (decode cX10_countFull 23 = .ok (.aload_n 0, 1)) ∧ (decode cX10_countFull 24 = .ok (.getfield 37, 3)) ∧ (decode cX10_countFull 27 = .ok (.arraylength, 1)) := by decide +kernel
theorem dX10_countFull_0 : decode cX10_countFull 0 = .ok (.aload_n 0, 1) := dgX10_countFull_0.1
theorem dX10_countFull_1 : decode cX10_countFull 1 = .ok (.getfield 33, 3) := dgX10_countFull_0.2.1
theorem dX10_countFull_4 : decode cX10_countFull 4 = .ok (.iconst 0, 1) := dgX10_countFull_0.2.2.1
theorem dX10_countFull_5 : decode cX10_countFull 5 = .ok (.aload_n 0, 1) := dgX10_countFull_0.2.2.2.1
theorem dX10_countFull_6 : decode cX10_countFull 6 = .ok (.getfield 37, 3) := dgX10_countFull_0.2.2.2.2.1
theorem dX10_countFull_9 : decode cX10_countFull 9 = .ok (.iconst 0, 1) := dgX10_countFull_0.2.2.2.2.2.1
theorem dX10_countFull_10 : decode cX10_countFull 10 = .ok (.aload_n 0, 1) := dgX10_countFull_0.2.2.2.2.2.2.1
theorem dX10_countFull_11 : decode cX10_countFull 11 = .ok (.getfield 33, 3) := dgX10_countFull_0.2.2.2.2.2.2.2.1
theorem dX10_countFull_14 : decode cX10_countFull 14 = .ok (.arraylength, 1) := dgX10_countFull_0.2.2.2.2.2.2.2.2.1
theorem dX10_countFull_15 : decode cX10_countFull 15 = .ok (.invokestatic 358, 3) := dgX10_countFull_0.2.2.2.2.2.2.2.2.2.1
theorem dX10_countFull_18 : decode cX10_countFull 18 = .ok (.iconst 0, 1) := dgX10_countFull_0.2.2.2.2.2.2.2.2.2.2.1
theorem dX10_countFull_19 : decode cX10_countFull 19 = .ok (.istore 4, 2) := dgX10_countFull_0.2.2.2.2.2.2.2.2.2.2.2.1
theorem dX10_countFull_21 : decode cX10_countFull 21 = .ok (.iload 4, 2) := dgX10_countFull_0.2.2.2.2.2.2.2.2.2.2.2.2.1
theorem dX10_countFull_23 : decode cX10_countFull 23 = .ok (.aload_n 0, 1) := dgX10_countFull_0.2.2.2.2.2.2.2.2.2.2.2.2.2.1
theorem dX10_countFull_24 : decode cX10_countFull 24 = .ok (.getfield 37, 3) := dgX10_countFull_0.2.2.2.2.2.2.2.2.2.2.2.2.2.2.1
theorem dX10_countFull_27 : decode cX10_countFull 27 = .ok (.arraylength, 1) := dgX10_countFull_0.2.2.2.2.2.2.2.2.2.2.2.2.2.2.2
theorem dgX10_countFull_16 : (decode cX10_countFull 28 = .ok (.if_icmp .ge 84, 3)) ∧ (decode cX10_countFull 31 = .ok (.aload_n 0, 1)) ∧ (decode cX10_countFull 32 = .ok (.aload_n 0, 1)) ∧ (decode cX10_countFull 33 = .ok (.getfield 37, 3)) ∧ (decode cX10_countFull 36 = .ok (.iload_n 1, 1)) ∧ (decode cX10_countFull 37 = .ok (.invokevirtual 266, 3)) ∧ (decode cX10_countFull 40 = .ok (.aload_n 0, 1)) ∧ (decode cX10_countFull 41 = .ok (.getfield 64, 3)) ∧ (decode cX10_countFull 44 = .ok (.iload_n 2, 1)) ∧ (decode cX10_countFull 45 = .ok (.iload_n 3, 1)) ∧ (decode cX10_countFull 46 = .ok (.invokevirtual 269, 3)) ∧ (decode cX10_countFull 49 = .ok (.iconst (-1), 1)) ∧ (decode cX10_countFull 50 = .ok (.if_icmp .ne 6, 3)) ∧ (decode cX10_countFull 53 = .ok (.iload 4, 2)) ∧ (decode cX10_countFull 55 = .ok (.ireturn, 1)) ∧ (decode cX10_countFull 56 = .ok (.iconst 0, 1)) := by decide +kernel
theorem dX10_countFull_28 : decode cX10_countFull 28 = .ok (.if_icmp .ge 84, 3) := dgX10_countFull_16.1
theorem dX10_countFull_31 : decode cX10_countFull 31 = .ok (.aload_n 0, 1) := dgX10_countFull_16.2.1
theorem dX10_countFull_32 : decode cX10_countFull 32 = .ok (.aload_n 0, 1) := dgX10_countFull_16.2.2.1
theorem dX10_countFull_33 : decode cX10_countFull 33 = .ok (.getfield 37, 3) := dgX10_countFull_16.2.2.2.1
theorem dX10_countFull_36 : decode cX10_countFull 36 = .ok (.iload_n 1, 1) := dgX10_countFull_16.2.2.2.2.1
theorem dX10_countFull_37 : decode cX10_countFull 37 = .ok (.invokevirtual 266, 3) := dgX10_countFull_16.2.2.2.2.2.1
theorem dX10_countFull_40 : decode cX10_countFull 40 = .ok (.aload_n 0, 1) := dgX10_countFull_16.2.2.2.2.2.2.1
theorem dX10_countFull_41 : decode cX10_countFull 41 = .ok (.getfield 64, 3) := dgX10_countFull_16.2.2.2.2.2.2.2.1
theorem dX10_countFull_44 : decode cX10_countFull 44 = .ok (.iload_n 2, 1) := dgX10_countFull_16.2.2.2.2.2.2.2.2.1
theorem dX10_countFull_45 : decode cX10_countFull 45 = .ok (.iload_n 3, 1) := dgX10_countFull_16.2.2.2.2.2.2.2.2.2.1
theorem dX10_countFull_46 : decode cX10_countFull 46 = .ok (.invokevirtual 269, 3) := dgX10_countFull_16.2.2.2.2.2.2.2.2.2.2.1
theorem dX10_countFull_49 : decode cX10_countFull 49 = .ok (.iconst (-1), 1) := dgX10_countFull_16.2.2.2.2.2.2.2.2.2.2.2.1
theorem dX10_countFull_50 : decode cX10_countFull 50 = .ok (.if_icmp .ne 6, 3) := dgX10_countFull_16.2.2.2.2.2.2.2.2.2.2.2.2.1
theorem dX10_countFull_53 : decode cX10_countFull 53 = .ok (.iload 4, 2) := dgX10_countFull_16.2.2.2.2.2.2.2.2.2.2.2.2.2.1
theorem dX10_countFull_55 : decode cX10_countFull 55 = .ok (.ireturn, 1) := dgX10_countFull_16.2.2.2.2.2.2.2.2.2.2.2.2.2.2.1
theorem dX10_countFull_56 : decode cX10_countFull 56 = .ok (.iconst 0, 1) := dgX10_countFull_16.2.2.2.2.2.2.2.2.2.2.2.2.2.2.2
theorem dgX10_countFull_32 : (decode cX10_countFull 57 = .ok (.istore 5, 2)) ∧ (decode cX10_countFull 59 = .ok (.iload 5, 2)) ∧ (decode cX10_countFull 61 = .ok (.aload_n 0, 1)) ∧ (decode cX10_countFull 62 = .ok (.getfield 64, 3)) ∧ (decode cX10_countFull 65 = .ok (.getfield 279, 3)) ∧ (decode cX10_countFull 68 = .ok (.if_icmp .ge 38, 3)) ∧ (decode cX10_countFull 71 = .ok (.aload_n 0, 1)) ∧ (decode cX10_countFull 72 = .ok (.getfield 64, 3)) ∧ (decode cX10_countFull 75 = .ok (.getfield 282, 3)) ∧ (decode cX10_countFull 78 = .ok (.iload 5, 2)) ∧ (decode cX10_countFull 80 = .ok (.baload, 1)) ∧ (decode cX10_countFull 81 = .ok (.ifCond .eq 19, 3)) ∧ (decode cX10_countFull 84 = .ok (.aload_n 0, 1)) ∧ (decode cX10_countFull 85 = .ok (.getfield 37, 3)) ∧ (decode cX10_countFull 88 = .ok (.aload_n 0, 1)) ∧ (decode cX10_countFull 89 = .ok (.getfield 64, 3)) := by decide +kernel
theorem dX10_countFull_57 : decode cX10_countFull 57 = .ok (.istore 5, 2) := dgX10_countFull_32.1
theorem dX10_countFull_59 : decode cX10_countFull 59 = .ok (.iload 5, 2) := dgX10_countFull_32.2.1
theorem dX10_countFull_61 : decode cX10_countFull 61 = .ok (.aload_n 0, 1) := dgX10_countFull_32.2.2.1
theorem dX10_countFull_62 : decode cX10_countFull 62 = .ok (.getfield 64, 3) := dgX10_countFull_32.2.2.2.1
theorem dX10_countFull_65 : decode cX10_countFull 65 = .ok (.getfield 279, 3) := dgX10_countFull_32.2.2.2.2.1
theorem dX10_countFull_68 : decode cX10_countFull 68 = .ok (.if_icmp .ge 38, 3) := dgX10_countFull_32.2.2.2.2.2.1
theorem dX10_countFull_71 : decode cX10_countFull 71 = .ok (.aload_n 0, 1) := dgX10_countFull_32.2.2.2.2.2.2.1
theorem dX10_countFull_72 : decode cX10_countFull 72 = .ok (.getfield 64, 3) := dgX10_countFull_32.2.2.2.2.2.2.2.1
theorem dX10_countFull_75 : decode cX10_countFull 75 = .ok (.getfield 282, 3) := dgX10_countFull_32.2.2.2.2.2.2.2.2.1
theorem dX10_countFull_78 : decode cX10_countFull 78 = .ok (.iload 5, 2) := dgX10_countFull_32.2.2.2.2.2.2.2.2.2.1
theorem dX10_countFull_80 : decode cX10_countFull 80 = .ok (.baload, 1) := dgX10_countFull_32.2.2.2.2.2.2.2.2.2.2.1
theorem dX10_countFull_81 : decode cX10_countFull 81 = .ok (.ifCond .eq 19, 3) := dgX10_countFull_32.2.2.2.2.2.2.2.2.2.2.2.1
theorem dX10_countFull_84 : decode cX10_countFull 84 = .ok (.aload_n 0, 1) := dgX10_countFull_32.2.2.2.2.2.2.2.2.2.2.2.2.1
theorem dX10_countFull_85 : decode cX10_countFull 85 = .ok (.getfield 37, 3) := dgX10_countFull_32.2.2.2.2.2.2.2.2.2.2.2.2.2.1
theorem dX10_countFull_88 : decode cX10_countFull 88 = .ok (.aload_n 0, 1) := dgX10_countFull_32.2.2.2.2.2.2.2.2.2.2.2.2.2.2.1
theorem dX10_countFull_89 : decode cX10_countFull 89 = .ok (.getfield 64, 3) := dgX10_countFull_32.2.2.2.2.2.2.2.2.2.2.2.2.2.2.2
theorem dgX10_countFull_48 : (decode cX10_countFull 92 = .ok (.getfield 285, 3)) ∧ (decode cX10_countFull 95 = .ok (.iload 5, 2)) ∧ (decode cX10_countFull 97 = .ok (.iaload, 1)) ∧ (decode cX10_countFull 98 = .ok (.iconst (-1), 1)) ∧ (decode cX10_countFull 99 = .ok (.iastore, 1)) ∧ (decode cX10_countFull 100 = .ok (.iinc 5 1, 3)) ∧ (decode cX10_countFull 103 = .ok (.goto (-44), 3)) ∧ (decode cX10_countFull 106 = .ok (.iinc 4 1, 3)) ∧ (decode cX10_countFull 109 = .ok (.goto (-88), 3)) ∧ (decode cX10_countFull 112 = .ok (.aload_n 0, 1)) ∧ (decode cX10_countFull 113 = .ok (.getfield 37, 3)) ∧ (decode cX10_countFull 116 = .ok (.arraylength, 1)) ∧ (decode cX10_countFull 117 = .ok (.ireturn, 1)) := by decide +kernel
theorem dX10_countFull_92 : decode cX10_countFull 92 = .ok (.getfield 285, 3) := dgX10_countFull_48.1
theorem dX10_countFull_95 : decode cX10_countFull 95 = .ok (.iload 5, 2) := dgX10_countFull_48.2.1
theorem dX10_countFull_97 : decode cX10_countFull 97 = .ok (.iaload, 1) := dgX10_countFull_48.2.2.1
theorem dX10_countFull_98 : decode cX10_countFull 98 = .ok (.iconst (-1), 1) := dgX10_countFull_48.2.2.2.1
theorem dX10_countFull_99 : decode cX10_countFull 99 = .ok (.iastore, 1) := dgX10_countFull_48.2.2.2.2.1
theorem dX10_countFull_100 : decode cX10_countFull 100 = .ok (.iinc 5 1, 3) := dgX10_countFull_48.2.2.2.2.2.1
theorem dX10_countFull_103 : decode cX10_countFull 103 = .ok (.goto (-44), 3) := dgX10_countFull_48.2.2.2.2.2.2.1
theorem dX10_countFull_106 : decode cX10_countFull 106 = .ok (.iinc 4 1, 3) := dgX10_countFull_48.2.2.2.2.2.2.2.1
theorem dX10_countFull_109 : decode cX10_countFull 109 = .ok (.goto (-88), 3) := dgX10_countFull_48.2.2.2.2.2.2.2.2.1
theorem dX10_countFull_112 : decode cX10_countFull 112 = .ok (.aload_n 0, 1) := dgX10_countFull_48.2.2.2.2.2.2.2.2.2.1
theorem dX10_countFull_113 : decode cX10_countFull 113 = .ok (.getfield 37, 3) := dgX10_countFull_48.2.2.2.2.2.2.2.2.2.2.1
theorem dX10_countFull_116 : decode cX10_countFull 116 = .ok (.arraylength, 1) := dgX10_countFull_48.2.2.2.2.2.2.2.2.2.2.2.1
theorem dX10_countFull_117 : decode cX10_countFull 117 = .ok (.ireturn, 1) := dgX10_countFull_48.2.2.2.2.2.2.2.2.2.2.2.2
theorem dgX10_warningsOf_0 : (decode cX10_warningsOf 0 = .ok (.iconst 0, 1)) ∧ (decode cX10_warningsOf 1 = .ok (.istore_n 3, 1)) ∧ (decode cX10_warningsOf 2 = .ok (.iconst 0, 1)) ∧ (decode cX10_warningsOf 3 = .ok (.istore 4, 2)) ∧ (decode cX10_warningsOf 5 = .ok (.iload 4, 2)) ∧ (decode cX10_warningsOf 7 = .ok (.aload_n 0, 1)) ∧ (decode cX10_warningsOf 8 = .ok (.getfield 86, 3)) ∧ (decode cX10_warningsOf 11 = .ok (.if_icmp .ge 41, 3)) ∧ (decode cX10_warningsOf 14 = .ok (.aload_n 0, 1)) ∧ (decode cX10_warningsOf 15 = .ok (.iload 4, 2)) ∧ (decode cX10_warningsOf 17 = .ok (.invokevirtual 107, 3)) ∧ (decode cX10_warningsOf 20 = .ok (.astore 5, 2)) ∧ (decode cX10_warningsOf 22 = .ok (.aload 5, 2)) ∧ (decode cX10_warningsOf 24 = .ok (.ifnull 22, 3)) ∧ (decode cX10_warningsOf 27 = .ok (.lload_n 1, 1)) ∧ (decode cX10_warningsOf 28 = .ok (.iload 4, 2)) := by decide +kernel
theorem dX10_warningsOf_0 : decode cX10_warningsOf 0 = .ok (.iconst 0, 1) := dgX10_warningsOf_0.1
theorem dX10_warningsOf_1 : decode cX10_warningsOf 1 = .ok (.istore_n 3, 1) := dgX10_warningsOf_0.2.1
theorem dX10_warningsOf_2 : decode cX10_warningsOf 2 = .ok (.iconst 0, 1) := dgX10_warningsOf_0.2.2.1
theorem dX10_warningsOf_3 : decode cX10_warningsOf 3 = .ok (.istore 4, 2) := dgX10_warningsOf_0.2.2.2.1
theorem dX10_warningsOf_5 : decode cX10_warningsOf 5 = .ok (.iload 4, 2) := dgX10_warningsOf_0.2.2.2.2.1
theorem dX10_warningsOf_7 : decode cX10_warningsOf 7 = .ok (.aload_n 0, 1) := dgX10_warningsOf_0.2.2.2.2.2.1
theorem dX10_warningsOf_8 : decode cX10_warningsOf 8 = .ok (.getfield 86, 3) := dgX10_warningsOf_0.2.2.2.2.2.2.1
theorem dX10_warningsOf_11 : decode cX10_warningsOf 11 = .ok (.if_icmp .ge 41, 3) := dgX10_warningsOf_0.2.2.2.2.2.2.2.1
theorem dX10_warningsOf_14 : decode cX10_warningsOf 14 = .ok (.aload_n 0, 1) := dgX10_warningsOf_0.2.2.2.2.2.2.2.2.1
theorem dX10_warningsOf_15 : decode cX10_warningsOf 15 = .ok (.iload 4, 2) := dgX10_warningsOf_0.2.2.2.2.2.2.2.2.2.1
theorem dX10_warningsOf_17 : decode cX10_warningsOf 17 = .ok (.invokevirtual 107, 3) := dgX10_warningsOf_0.2.2.2.2.2.2.2.2.2.2.1
theorem dX10_warningsOf_20 : decode cX10_warningsOf 20 = .ok (.astore 5, 2) := dgX10_warningsOf_0.2.2.2.2.2.2.2.2.2.2.2.1
theorem dX10_warningsOf_22 : decode cX10_warningsOf 22 = .ok (.aload 5, 2) := dgX10_warningsOf_0.2.2.2.2.2.2.2.2.2.2.2.2.1
theorem dX10_warningsOf_24 : decode cX10_warningsOf 24 = .ok (.ifnull 22, 3) := dgX10_warningsOf_0.2.2.2.2.2.2.2.2.2.2.2.2.2.1
theorem dX10_warningsOf_27 : decode cX10_warningsOf 27 = .ok (.lload_n 1, 1) := dgX10_warningsOf_0.2.2.2.2.2.2.2.2.2.2.2.2.2.2.1
theorem dX10_warningsOf_28 : decode cX10_warningsOf 28 = .ok (.iload 4, 2) := dgX10_warningsOf_0.2.2.2.2.2.2.2.2.2.2.2.2.2.2.2
theorem dgX10_warningsOf_16 : (decode cX10_warningsOf 30 = .ok (.lshr, 1)) ∧ (decode cX10_warningsOf 31 = .ok (.lconst 1, 1)) ∧ (decode cX10_warningsOf 32 = .ok (.land, 1)) ∧ (decode cX10_warningsOf 33 = .ok (.lconst 0, 1)) ∧ (decode cX10_warningsOf 34 = .ok (.lcmp, 1)) ∧ (decode cX10_warningsOf 35 = .ok (.ifCond .eq 11, 3)) ∧ (decode cX10_warningsOf 38 = .ok (.iload_n 3, 1)) ∧ (decode cX10_warningsOf 39 = .ok (.aload 5, 2)) ∧ (decode cX10_warningsOf 41 = .ok (.getfield 364, 3)) ∧ (decode cX10_warningsOf 44 = .ok (.ior, 1)) ∧ (decode cX10_warningsOf 45 = .ok (.istore_n 3, 1)) ∧ (decode cX10_warningsOf 46 = .ok (.iinc 4 1, 3)) ∧ (decode cX10_warningsOf 49 = .ok (.goto (-44), 3)) ∧ (decode cX10_warningsOf 52 = .ok (.iload_n 3, 1)) ∧ (decode cX10_warningsOf 53 = .ok (.ireturn, 1)) := by decide +kernel
theorem dX10_warningsOf_30 : decode cX10_warningsOf 30 = .ok (.lshr, 1) := dgX10_warningsOf_16.1
theorem dX10_warningsOf_31 : decode cX10_warningsOf 31 = .ok (.lconst 1, 1) := dgX10_warningsOf_16.2.1
theorem dX10_warningsOf_32 : decode cX10_warningsOf 32 = .ok (.land, 1) := dgX10_warningsOf_16.2.2.1
theorem dX10_warningsOf_33 : decode cX10_warningsOf 33 = .ok (.lconst 0, 1) := dgX10_warningsOf_16.2.2.2.1
theorem dX10_warningsOf_34 : decode cX10_warningsOf 34 = .ok (.lcmp, 1) := dgX10_warningsOf_16.2.2.2.2.1
theorem dX10_warningsOf_35 : decode cX10_warningsOf 35 = .ok (.ifCond .eq 11, 3) := dgX10_warningsOf_16.2.2.2.2.2.1
theorem dX10_warningsOf_38 : decode cX10_warningsOf 38 = .ok (.iload_n 3, 1) := dgX10_warningsOf_16.2.2.2.2.2.2.1
theorem dX10_warningsOf_39 : decode cX10_warningsOf 39 = .ok (.aload 5, 2) := dgX10_warningsOf_16.2.2.2.2.2.2.2.1
theorem dX10_warningsOf_41 : decode cX10_warningsOf 41 = .ok (.getfield 364, 3) := dgX10_warningsOf_16.2.2.2.2.2.2.2.2.1
theorem dX10_warningsOf_44 : decode cX10_warningsOf 44 = .ok (.ior, 1) := dgX10_warningsOf_16.2.2.2.2.2.2.2.2.2.1
theorem dX10_warningsOf_45 : decode cX10_warningsOf 45 = .ok (.istore_n 3, 1) := dgX10_warningsOf_16.2.2.2.2.2.2.2.2.2.2.1
theorem dX10_warningsOf_46 : decode cX10_warningsOf 46 = .ok (.iinc 4 1, 3) := dgX10_warningsOf_16.2.2.2.2.2.2.2.2.2.2.2.1
theorem dX10_warningsOf_49 : decode cX10_warningsOf 49 = .ok (.goto (-44), 3) := dgX10_warningsOf_16.2.2.2.2.2.2.2.2.2.2.2.2.1
theorem dX10_warningsOf_52 : decode cX10_warningsOf 52 = .ok (.iload_n 3, 1) := dgX10_warningsOf_16.2.2.2.2.2.2.2.2.2.2.2.2.2.1
theorem dX10_warningsOf_53 : decode cX10_warningsOf 53 = .ok (.ireturn, 1) := dgX10_warningsOf_16.2.2.2.2.2.2.2.2.2.2.2.2.2.2
theorem dgX10_lotsIn_0 : (decode cX10_lotsIn 0 = .ok (.iload_n 1, 1)) ∧ (decode cX10_lotsIn 1 = .ok (.ifCond .ne 22, 3)) ∧ (decode cX10_lotsIn 4 = .ok (.aload_n 0, 1)) ∧ (decode cX10_lotsIn 5 = .ok (.iload_n 2, 1)) ∧ (decode cX10_lotsIn 6 = .ok (.invokevirtual 173, 3)) ∧ (decode cX10_lotsIn 9 = .ok (.astore_n 3, 1)) ∧ (decode cX10_lotsIn 10 = .ok (.aload_n 3, 1)) ∧ (decode cX10_lotsIn 11 = .ok (.ifnonnull 7, 3)) ∧ (decode cX10_lotsIn 14 = .ok (.lconst 0, 1)) ∧ (decode cX10_lotsIn 15 = .ok (.goto 7, 3)) ∧ (decode cX10_lotsIn 18 = .ok (.aload_n 3, 1)) ∧ (decode cX10_lotsIn 19 = .ok (.getfield 120, 3)) ∧ (decode cX10_lotsIn 22 = .ok (.lreturn, 1)) ∧ (decode cX10_lotsIn 23 = .ok (.iload_n 1, 1)) ∧ (decode cX10_lotsIn 24 = .ok (.iconst 1, 1)) ∧ (decode cX10_lotsIn 25 = .ok (.if_icmp .ne 22, 3)) := by decide +kernel
theorem dX10_lotsIn_0 : decode cX10_lotsIn 0 = .ok (.iload_n 1, 1) := dgX10_lotsIn_0.1
theorem dX10_lotsIn_1 : decode cX10_lotsIn 1 = .ok (.ifCond .ne 22, 3) := dgX10_lotsIn_0.2.1
theorem dX10_lotsIn_4 : decode cX10_lotsIn 4 = .ok (.aload_n 0, 1) := dgX10_lotsIn_0.2.2.1
theorem dX10_lotsIn_5 : decode cX10_lotsIn 5 = .ok (.iload_n 2, 1) := dgX10_lotsIn_0.2.2.2.1
theorem dX10_lotsIn_6 : decode cX10_lotsIn 6 = .ok (.invokevirtual 173, 3) := dgX10_lotsIn_0.2.2.2.2.1
theorem dX10_lotsIn_9 : decode cX10_lotsIn 9 = .ok (.astore_n 3, 1) := dgX10_lotsIn_0.2.2.2.2.2.1
theorem dX10_lotsIn_10 : decode cX10_lotsIn 10 = .ok (.aload_n 3, 1) := dgX10_lotsIn_0.2.2.2.2.2.2.1
theorem dX10_lotsIn_11 : decode cX10_lotsIn 11 = .ok (.ifnonnull 7, 3) := dgX10_lotsIn_0.2.2.2.2.2.2.2.1
theorem dX10_lotsIn_14 : decode cX10_lotsIn 14 = .ok (.lconst 0, 1) := dgX10_lotsIn_0.2.2.2.2.2.2.2.2.1
theorem dX10_lotsIn_15 : decode cX10_lotsIn 15 = .ok (.goto 7, 3) := dgX10_lotsIn_0.2.2.2.2.2.2.2.2.2.1
theorem dX10_lotsIn_18 : decode cX10_lotsIn 18 = .ok (.aload_n 3, 1) := dgX10_lotsIn_0.2.2.2.2.2.2.2.2.2.2.1
theorem dX10_lotsIn_19 : decode cX10_lotsIn 19 = .ok (.getfield 120, 3) := dgX10_lotsIn_0.2.2.2.2.2.2.2.2.2.2.2.1
theorem dX10_lotsIn_22 : decode cX10_lotsIn 22 = .ok (.lreturn, 1) := dgX10_lotsIn_0.2.2.2.2.2.2.2.2.2.2.2.2.1
theorem dX10_lotsIn_23 : decode cX10_lotsIn 23 = .ok (.iload_n 1, 1) := dgX10_lotsIn_0.2.2.2.2.2.2.2.2.2.2.2.2.2.1
theorem dX10_lotsIn_24 : decode cX10_lotsIn 24 = .ok (.iconst 1, 1) := dgX10_lotsIn_0.2.2.2.2.2.2.2.2.2.2.2.2.2.2.1
theorem dX10_lotsIn_25 : decode cX10_lotsIn 25 = .ok (.if_icmp .ne 22, 3) := dgX10_lotsIn_0.2.2.2.2.2.2.2.2.2.2.2.2.2.2.2
theorem dgX10_lotsIn_16 : (decode cX10_lotsIn 28 = .ok (.aload_n 0, 1)) ∧ (decode cX10_lotsIn 29 = .ok (.iload_n 2, 1)) ∧ (decode cX10_lotsIn 30 = .ok (.invokevirtual 253, 3)) ∧ (decode cX10_lotsIn 33 = .ok (.astore_n 3, 1)) ∧ (decode cX10_lotsIn 34 = .ok (.aload_n 3, 1)) ∧ (decode cX10_lotsIn 35 = .ok (.ifnonnull 7, 3)) ∧ (decode cX10_lotsIn 38 = .ok (.lconst 0, 1)) ∧ (decode cX10_lotsIn 39 = .ok (.goto 7, 3)) ∧ (decode cX10_lotsIn 42 = .ok (.aload_n 3, 1)) ∧ (decode cX10_lotsIn 43 = .ok (.getfield 236, 3)) ∧ (decode cX10_lotsIn 46 = .ok (.lreturn, 1)) ∧ (decode cX10_lotsIn 47 = .ok (.aload_n 0, 1)) ∧ (decode cX10_lotsIn 48 = .ok (.iload_n 2, 1)) ∧ (decode cX10_lotsIn 49 = .ok (.invokevirtual 308, 3)) ∧ (decode cX10_lotsIn 52 = .ok (.astore_n 3, 1)) ∧ (decode cX10_lotsIn 53 = .ok (.aload_n 3, 1)) := by decide +kernel
theorem dX10_lotsIn_28 : decode cX10_lotsIn 28 = .ok (.aload_n 0, 1) := dgX10_lotsIn_16.1
theorem dX10_lotsIn_29 : decode cX10_lotsIn 29 = .ok (.iload_n 2, 1) := dgX10_lotsIn_16.2.1
theorem dX10_lotsIn_30 : decode cX10_lotsIn 30 = .ok (.invokevirtual 253, 3) := dgX10_lotsIn_16.2.2.1
theorem dX10_lotsIn_33 : decode cX10_lotsIn 33 = .ok (.astore_n 3, 1) := dgX10_lotsIn_16.2.2.2.1
theorem dX10_lotsIn_34 : decode cX10_lotsIn 34 = .ok (.aload_n 3, 1) := dgX10_lotsIn_16.2.2.2.2.1
theorem dX10_lotsIn_35 : decode cX10_lotsIn 35 = .ok (.ifnonnull 7, 3) := dgX10_lotsIn_16.2.2.2.2.2.1
theorem dX10_lotsIn_38 : decode cX10_lotsIn 38 = .ok (.lconst 0, 1) := dgX10_lotsIn_16.2.2.2.2.2.2.1
theorem dX10_lotsIn_39 : decode cX10_lotsIn 39 = .ok (.goto 7, 3) := dgX10_lotsIn_16.2.2.2.2.2.2.2.1
theorem dX10_lotsIn_42 : decode cX10_lotsIn 42 = .ok (.aload_n 3, 1) := dgX10_lotsIn_16.2.2.2.2.2.2.2.2.1
theorem dX10_lotsIn_43 : decode cX10_lotsIn 43 = .ok (.getfield 236, 3) := dgX10_lotsIn_16.2.2.2.2.2.2.2.2.2.1
theorem dX10_lotsIn_46 : decode cX10_lotsIn 46 = .ok (.lreturn, 1) := dgX10_lotsIn_16.2.2.2.2.2.2.2.2.2.2.1
theorem dX10_lotsIn_47 : decode cX10_lotsIn 47 = .ok (.aload_n 0, 1) := dgX10_lotsIn_16.2.2.2.2.2.2.2.2.2.2.2.1
theorem dX10_lotsIn_48 : decode cX10_lotsIn 48 = .ok (.iload_n 2, 1) := dgX10_lotsIn_16.2.2.2.2.2.2.2.2.2.2.2.2.1
theorem dX10_lotsIn_49 : decode cX10_lotsIn 49 = .ok (.invokevirtual 308, 3) := dgX10_lotsIn_16.2.2.2.2.2.2.2.2.2.2.2.2.2.1
theorem dX10_lotsIn_52 : decode cX10_lotsIn 52 = .ok (.astore_n 3, 1) := dgX10_lotsIn_16.2.2.2.2.2.2.2.2.2.2.2.2.2.2.1
theorem dX10_lotsIn_53 : decode cX10_lotsIn 53 = .ok (.aload_n 3, 1) := dgX10_lotsIn_16.2.2.2.2.2.2.2.2.2.2.2.2.2.2.2
theorem dgX10_lotsIn_32 : (decode cX10_lotsIn 54 = .ok (.ifnonnull 7, 3)) ∧ (decode cX10_lotsIn 57 = .ok (.lconst 0, 1)) ∧ (decode cX10_lotsIn 58 = .ok (.goto 7, 3)) ∧ (decode cX10_lotsIn 61 = .ok (.aload_n 3, 1)) ∧ (decode cX10_lotsIn 62 = .ok (.getfield 292, 3)) ∧ (decode cX10_lotsIn 65 = .ok (.lreturn, 1)) := by decide +kernel
theorem dX10_lotsIn_54 : decode cX10_lotsIn 54 = .ok (.ifnonnull 7, 3) := dgX10_lotsIn_32.1
theorem dX10_lotsIn_57 : decode cX10_lotsIn 57 = .ok (.lconst 0, 1) := dgX10_lotsIn_32.2.1
theorem dX10_lotsIn_58 : decode cX10_lotsIn 58 = .ok (.goto 7, 3) := dgX10_lotsIn_32.2.2.1
theorem dX10_lotsIn_61 : decode cX10_lotsIn 61 = .ok (.aload_n 3, 1) := dgX10_lotsIn_32.2.2.2.1
theorem dX10_lotsIn_62 : decode cX10_lotsIn 62 = .ok (.getfield 292, 3) := dgX10_lotsIn_32.2.2.2.2.1
theorem dX10_lotsIn_65 : decode cX10_lotsIn 65 = .ok (.lreturn, 1) := dgX10_lotsIn_32.2.2.2.2.2
theorem dgX10_countFit_0 : (decode cX10_countFit 0 = .ok (.iconst 0, 1)) ∧ (decode cX10_countFit 1 = .ok (.istore_n 1, 1)) ∧ (decode cX10_countFit 2 = .ok (.iconst 0, 1)) ∧ (decode cX10_countFit 3 = .ok (.istore_n 2, 1)) ∧ (decode cX10_countFit 4 = .ok (.iload_n 2, 1)) ∧ (decode cX10_countFit 5 = .ok (.aload_n 0, 1)) ∧ (decode cX10_countFit 6 = .ok (.getfield 33, 3)) ∧ (decode cX10_countFit 9 = .ok (.arraylength, 1)) ∧ (decode cX10_countFit 10 = .ok (.if_icmp .ge 34, 3)) ∧ (decode cX10_countFit 13 = .ok (.aload_n 0, 1)) ∧ (decode cX10_countFit 14 = .ok (.aload_n 0, 1)) ∧ (decode cX10_countFit 15 = .ok (.getfield 33, 3)) ∧ (decode cX10_countFit 18 = .ok (.iload_n 2, 1)) ∧ (decode cX10_countFit 19 = .ok (.iaload, 1)) ∧ (decode cX10_countFit 20 = .ok (.invokevirtual 253, 3)) ∧ (decode cX10_countFit 23 = .ok (.astore_n 3, 1)) := by decide +kernel
theorem dX10_countFit_0 : decode cX10_countFit 0 = .ok (.iconst 0, 1) := dgX10_countFit_0.1
theorem dX10_countFit_1 : decode cX10_countFit 1 = .ok (.istore_n 1, 1) := dgX10_countFit_0.2.1
theorem dX10_countFit_2 : decode cX10_countFit 2 = .ok (.iconst 0, 1) := dgX10_countFit_0.2.2.1
theorem dX10_countFit_3 : decode cX10_countFit 3 = .ok (.istore_n 2, 1) := dgX10_countFit_0.2.2.2.1
theorem dX10_countFit_4 : decode cX10_countFit 4 = .ok (.iload_n 2, 1) := dgX10_countFit_0.2.2.2.2.1
theorem dX10_countFit_5 : decode cX10_countFit 5 = .ok (.aload_n 0, 1) := dgX10_countFit_0.2.2.2.2.2.1
theorem dX10_countFit_6 : decode cX10_countFit 6 = .ok (.getfield 33, 3) := dgX10_countFit_0.2.2.2.2.2.2.1
theorem dX10_countFit_9 : decode cX10_countFit 9 = .ok (.arraylength, 1) := dgX10_countFit_0.2.2.2.2.2.2.2.1
theorem dX10_countFit_10 : decode cX10_countFit 10 = .ok (.if_icmp .ge 34, 3) := dgX10_countFit_0.2.2.2.2.2.2.2.2.1
theorem dX10_countFit_13 : decode cX10_countFit 13 = .ok (.aload_n 0, 1) := dgX10_countFit_0.2.2.2.2.2.2.2.2.2.1
theorem dX10_countFit_14 : decode cX10_countFit 14 = .ok (.aload_n 0, 1) := dgX10_countFit_0.2.2.2.2.2.2.2.2.2.2.1
theorem dX10_countFit_15 : decode cX10_countFit 15 = .ok (.getfield 33, 3) := dgX10_countFit_0.2.2.2.2.2.2.2.2.2.2.2.1
theorem dX10_countFit_18 : decode cX10_countFit 18 = .ok (.iload_n 2, 1) := dgX10_countFit_0.2.2.2.2.2.2.2.2.2.2.2.2.1
theorem dX10_countFit_19 : decode cX10_countFit 19 = .ok (.iaload, 1) := dgX10_countFit_0.2.2.2.2.2.2.2.2.2.2.2.2.2.1
theorem dX10_countFit_20 : decode cX10_countFit 20 = .ok (.invokevirtual 253, 3) := dgX10_countFit_0.2.2.2.2.2.2.2.2.2.2.2.2.2.2.1
theorem dX10_countFit_23 : decode cX10_countFit 23 = .ok (.astore_n 3, 1) := dgX10_countFit_0.2.2.2.2.2.2.2.2.2.2.2.2.2.2.2
theorem dgX10_countFit_16 : (decode cX10_countFit 24 = .ok (.aload_n 3, 1)) ∧ (decode cX10_countFit 25 = .ok (.ifnull 13, 3)) ∧ (decode cX10_countFit 28 = .ok (.aload_n 3, 1)) ∧ (decode cX10_countFit 29 = .ok (.invokevirtual 349, 3)) ∧ (decode cX10_countFit 32 = .ok (.ifCond .eq 6, 3)) ∧ (decode cX10_countFit 35 = .ok (.iinc 1 1, 3)) ∧ (decode cX10_countFit 38 = .ok (.iinc 2 1, 3)) ∧ (decode cX10_countFit 41 = .ok (.goto (-37), 3)) ∧ (decode cX10_countFit 44 = .ok (.iload_n 1, 1)) ∧ (decode cX10_countFit 45 = .ok (.ireturn, 1)) := by decide +kernel
theorem dX10_countFit_24 : decode cX10_countFit 24 = .ok (.aload_n 3, 1) := dgX10_countFit_16.1
theorem dX10_countFit_25 : decode cX10_countFit 25 = .ok (.ifnull 13, 3) := dgX10_countFit_16.2.1
theorem dX10_countFit_28 : decode cX10_countFit 28 = .ok (.aload_n 3, 1) := dgX10_countFit_16.2.2.1
theorem dX10_countFit_29 : decode cX10_countFit 29 = .ok (.invokevirtual 349, 3) := dgX10_countFit_16.2.2.2.1
theorem dX10_countFit_32 : decode cX10_countFit 32 = .ok (.ifCond .eq 6, 3) := dgX10_countFit_16.2.2.2.2.1
theorem dX10_countFit_35 : decode cX10_countFit 35 = .ok (.iinc 1 1, 3) := dgX10_countFit_16.2.2.2.2.2.1
theorem dX10_countFit_38 : decode cX10_countFit 38 = .ok (.iinc 2 1, 3) := dgX10_countFit_16.2.2.2.2.2.2.1
theorem dX10_countFit_41 : decode cX10_countFit 41 = .ok (.goto (-37), 3) := dgX10_countFit_16.2.2.2.2.2.2.2.1
theorem dX10_countFit_44 : decode cX10_countFit 44 = .ok (.iload_n 1, 1) := dgX10_countFit_16.2.2.2.2.2.2.2.2.1
theorem dX10_countFit_45 : decode cX10_countFit 45 = .ok (.ireturn, 1) := dgX10_countFit_16.2.2.2.2.2.2.2.2.2
