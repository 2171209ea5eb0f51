section
-- ===== PART A: goes FIRST, ahead of the names: the tables' words, and 'selects' of the private methods out of them =====
/-- a private method of a class that the tables say can be made, by its rows of tables_1 -/
def lw_okq (q : MethodName × Nat) : Prop := (q.1.cls ≠ "java/lang/invoke/MethodHandle" ∧ q.1.cls ≠ "java/lang/invoke/VarHandle") ∧ Cond.instantiable q.1.cls q.2 ∈ tables_1 ∧ Cond.privateMethod q.1 ∈ tables_1 ∧ Cond.instanceMethod q.1 ∈ tables_1
theorem lw_p0 : lw_okq (⟨"SugarKitchen", "findRaw", "(I)LSugarKitchen$Batch;"⟩, 15) := ⟨⟨by decide +kernel, by decide +kernel⟩, List.mem_of_getElem? (i := 19) (by decide +kernel), List.mem_of_getElem? (i := 372) (by decide +kernel), List.mem_of_getElem? (i := 373) (by decide +kernel)⟩
theorem lw_p1 : lw_okq (⟨"SugarKitchen", "findBatch", "(I)LSugarKitchen$Batch;"⟩, 15) := ⟨⟨by decide +kernel, by decide +kernel⟩, List.mem_of_getElem? (i := 19) (by decide +kernel), List.mem_of_getElem? (i := 376) (by decide +kernel), List.mem_of_getElem? (i := 377) (by decide +kernel)⟩
theorem lw_p2 : lw_okq (⟨"SugarKitchen", "findLot", "(I)LSugarKitchen$Lot;"⟩, 15) := ⟨⟨by decide +kernel, by decide +kernel⟩, List.mem_of_getElem? (i := 19) (by decide +kernel), List.mem_of_getElem? (i := 380) (by decide +kernel), List.mem_of_getElem? (i := 381) (by decide +kernel)⟩
theorem lw_p3 : lw_okq (⟨"SugarKitchen$Batch", "findTop", "(I)I"⟩, 16) := ⟨⟨by decide +kernel, by decide +kernel⟩, List.mem_of_getElem? (i := 276) (by decide +kernel), List.mem_of_getElem? (i := 445) (by decide +kernel), List.mem_of_getElem? (i := 446) (by decide +kernel)⟩
theorem lw_p4 : lw_okq (⟨"SugarKitchen$Batch", "findGrained", "(IILSugarKitchen$Rules;)I"⟩, 16) := ⟨⟨by decide +kernel, by decide +kernel⟩, List.mem_of_getElem? (i := 276) (by decide +kernel), List.mem_of_getElem? (i := 472) (by decide +kernel), List.mem_of_getElem? (i := 473) (by decide +kernel)⟩
theorem lw_p5 : lw_okq (⟨"SugarKitchen", "restartCoats", "()V"⟩, 15) := ⟨⟨by decide +kernel, by decide +kernel⟩, List.mem_of_getElem? (i := 19) (by decide +kernel), List.mem_of_getElem? (i := 517) (by decide +kernel), List.mem_of_getElem? (i := 518) (by decide +kernel)⟩
theorem lw_p6 : lw_okq (⟨"SugarKitchen$Tempering", "isSpoilt", "(II)Z"⟩, 6) := ⟨⟨by decide +kernel, by decide +kernel⟩, List.mem_of_getElem? (i := 74) (by decide +kernel), List.mem_of_getElem? (i := 529) (by decide +kernel), List.mem_of_getElem? (i := 530) (by decide +kernel)⟩
theorem lw_p7 : lw_okq (⟨"SugarKitchen$Tempering", "counts", "(II)Z"⟩, 6) := ⟨⟨by decide +kernel, by decide +kernel⟩, List.mem_of_getElem? (i := 74) (by decide +kernel), List.mem_of_getElem? (i := 533) (by decide +kernel), List.mem_of_getElem? (i := 534) (by decide +kernel)⟩
theorem lw_p8 : lw_okq (⟨"SugarKitchen", "findGood", "(I)LSugarKitchen$Batch;"⟩, 15) := ⟨⟨by decide +kernel, by decide +kernel⟩, List.mem_of_getElem? (i := 19) (by decide +kernel), List.mem_of_getElem? (i := 541) (by decide +kernel), List.mem_of_getElem? (i := 542) (by decide +kernel)⟩
theorem lw_p9 : lw_okq (⟨"SugarKitchen", "findUnboxed", "(I)LSugarKitchen$Piece;"⟩, 15) := ⟨⟨by decide +kernel, by decide +kernel⟩, List.mem_of_getElem? (i := 19) (by decide +kernel), List.mem_of_getElem? (i := 590) (by decide +kernel), List.mem_of_getElem? (i := 591) (by decide +kernel)⟩
theorem lw_p10 : lw_okq (⟨"SugarKitchen", "findPiece", "(I)LSugarKitchen$Piece;"⟩, 15) := ⟨⟨by decide +kernel, by decide +kernel⟩, List.mem_of_getElem? (i := 19) (by decide +kernel), List.mem_of_getElem? (i := 594) (by decide +kernel), List.mem_of_getElem? (i := 595) (by decide +kernel)⟩
theorem lw_p11 : lw_okq (⟨"SugarKitchen", "liftFromTray", "(LSugarKitchen$Piece;)V"⟩, 15) := ⟨⟨by decide +kernel, by decide +kernel⟩, List.mem_of_getElem? (i := 19) (by decide +kernel), List.mem_of_getElem? (i := 605) (by decide +kernel), List.mem_of_getElem? (i := 606) (by decide +kernel)⟩
theorem lw_p12 : lw_okq (⟨"SugarKitchen", "gather", "([II)V"⟩, 15) := ⟨⟨by decide +kernel, by decide +kernel⟩, List.mem_of_getElem? (i := 19) (by decide +kernel), List.mem_of_getElem? (i := 644) (by decide +kernel), List.mem_of_getElem? (i := 645) (by decide +kernel)⟩
theorem lw_p13 : lw_okq (⟨"SugarKitchen$Choice", "total", "()I"⟩, 6) := ⟨⟨by decide +kernel, by decide +kernel⟩, List.mem_of_getElem? (i := 149) (by decide +kernel), List.mem_of_getElem? (i := 658) (by decide +kernel), List.mem_of_getElem? (i := 659) (by decide +kernel)⟩
theorem lw_p14 : lw_okq (⟨"SugarKitchen$Choice", "sumUp", "(I)V"⟩, 6) := ⟨⟨by decide +kernel, by decide +kernel⟩, List.mem_of_getElem? (i := 149) (by decide +kernel), List.mem_of_getElem? (i := 663) (by decide +kernel), List.mem_of_getElem? (i := 664) (by decide +kernel)⟩
theorem lw_p15 : lw_okq (⟨"SugarKitchen$Choice", "addPiece", "(II)V"⟩, 6) := ⟨⟨by decide +kernel, by decide +kernel⟩, List.mem_of_getElem? (i := 149) (by decide +kernel), List.mem_of_getElem? (i := 667) (by decide +kernel), List.mem_of_getElem? (i := 668) (by decide +kernel)⟩
def lw_privs_1 : List (MethodName × Nat) := [(⟨"SugarKitchen", "findRaw", "(I)LSugarKitchen$Batch;"⟩, 15), (⟨"SugarKitchen", "findBatch", "(I)LSugarKitchen$Batch;"⟩, 15), (⟨"SugarKitchen", "findLot", "(I)LSugarKitchen$Lot;"⟩, 15), (⟨"SugarKitchen$Batch", "findTop", "(I)I"⟩, 16), (⟨"SugarKitchen$Batch", "findGrained", "(IILSugarKitchen$Rules;)I"⟩, 16), (⟨"SugarKitchen", "restartCoats", "()V"⟩, 15), (⟨"SugarKitchen$Tempering", "isSpoilt", "(II)Z"⟩, 6), (⟨"SugarKitchen$Tempering", "counts", "(II)Z"⟩, 6), (⟨"SugarKitchen", "findGood", "(I)LSugarKitchen$Batch;"⟩, 15), (⟨"SugarKitchen", "findUnboxed", "(I)LSugarKitchen$Piece;"⟩, 15), (⟨"SugarKitchen", "findPiece", "(I)LSugarKitchen$Piece;"⟩, 15), (⟨"SugarKitchen", "liftFromTray", "(LSugarKitchen$Piece;)V"⟩, 15), (⟨"SugarKitchen", "gather", "([II)V"⟩, 15), (⟨"SugarKitchen$Choice", "total", "()I"⟩, 6), (⟨"SugarKitchen$Choice", "sumUp", "(I)V"⟩, 6), (⟨"SugarKitchen$Choice", "addPiece", "(II)V"⟩, 6)]
theorem lw_r1 : ∀ q ∈ lw_privs_1, lw_okq q := List.forall_mem_cons.mpr ⟨lw_p0, List.forall_mem_cons.mpr ⟨lw_p1, List.forall_mem_cons.mpr ⟨lw_p2, List.forall_mem_cons.mpr ⟨lw_p3, List.forall_mem_cons.mpr ⟨lw_p4, List.forall_mem_cons.mpr ⟨lw_p5, List.forall_mem_cons.mpr ⟨lw_p6, List.forall_mem_cons.mpr ⟨lw_p7, List.forall_mem_cons.mpr ⟨lw_p8, List.forall_mem_cons.mpr ⟨lw_p9, List.forall_mem_cons.mpr ⟨lw_p10, List.forall_mem_cons.mpr ⟨lw_p11, List.forall_mem_cons.mpr ⟨lw_p12, List.forall_mem_cons.mpr ⟨lw_p13, List.forall_mem_cons.mpr ⟨lw_p14, List.forall_mem_cons.mpr ⟨lw_p15, fun _ h => absurd h List.not_mem_nil⟩⟩⟩⟩⟩⟩⟩⟩⟩⟩⟩⟩⟩⟩⟩⟩
theorem lw_p16 : lw_okq (⟨"SugarKitchen$Choice", "canWeigh", "(II)Z"⟩, 6) := ⟨⟨by decide +kernel, by decide +kernel⟩, List.mem_of_getElem? (i := 149) (by decide +kernel), List.mem_of_getElem? (i := 675) (by decide +kernel), List.mem_of_getElem? (i := 676) (by decide +kernel)⟩
theorem lw_p17 : lw_okq (⟨"SugarKitchen$Choice", "markFirst", "(I)V"⟩, 6) := ⟨⟨by decide +kernel, by decide +kernel⟩, List.mem_of_getElem? (i := 149) (by decide +kernel), List.mem_of_getElem? (i := 679) (by decide +kernel), List.mem_of_getElem? (i := 680) (by decide +kernel)⟩
theorem lw_p18 : lw_okq (⟨"SugarKitchen", "moveToBox", "(ILSugarKitchen$Box;)V"⟩, 15) := ⟨⟨by decide +kernel, by decide +kernel⟩, List.mem_of_getElem? (i := 19) (by decide +kernel), List.mem_of_getElem? (i := 715) (by decide +kernel), List.mem_of_getElem? (i := 716) (by decide +kernel)⟩
theorem lw_p19 : lw_okq (⟨"SugarKitchen", "warningsOf", "(J)I"⟩, 15) := ⟨⟨by decide +kernel, by decide +kernel⟩, List.mem_of_getElem? (i := 19) (by decide +kernel), List.mem_of_getElem? (i := 723) (by decide +kernel), List.mem_of_getElem? (i := 724) (by decide +kernel)⟩
theorem lw_p20 : lw_okq (⟨"SugarKitchen", "countFull", "(III)I"⟩, 15) := ⟨⟨by decide +kernel, by decide +kernel⟩, List.mem_of_getElem? (i := 19) (by decide +kernel), List.mem_of_getElem? (i := 731) (by decide +kernel), List.mem_of_getElem? (i := 732) (by decide +kernel)⟩
theorem lw_p21 : lw_okq (⟨"SugarKitchen$Parting", "insert", "(I)V"⟩, 5) := ⟨⟨by decide +kernel, by decide +kernel⟩, List.mem_of_getElem? (i := 179) (by decide +kernel), List.mem_of_getElem? (i := 741) (by decide +kernel), List.mem_of_getElem? (i := 742) (by decide +kernel)⟩
theorem lw_p22 : lw_okq (⟨"SugarKitchen$Parting", "forget", "()V"⟩, 5) := ⟨⟨by decide +kernel, by decide +kernel⟩, List.mem_of_getElem? (i := 179) (by decide +kernel), List.mem_of_getElem? (i := 745) (by decide +kernel), List.mem_of_getElem? (i := 746) (by decide +kernel)⟩
theorem lw_p23 : lw_okq (⟨"SugarKitchen$Parting", "mostOf", "(II)I"⟩, 5) := ⟨⟨by decide +kernel, by decide +kernel⟩, List.mem_of_getElem? (i := 179) (by decide +kernel), List.mem_of_getElem? (i := 749) (by decide +kernel), List.mem_of_getElem? (i := 750) (by decide +kernel)⟩
theorem lw_p24 : lw_okq (⟨"SugarKitchen$Parting", "isFree", "(II)Z"⟩, 5) := ⟨⟨by decide +kernel, by decide +kernel⟩, List.mem_of_getElem? (i := 179) (by decide +kernel), List.mem_of_getElem? (i := 753) (by decide +kernel), List.mem_of_getElem? (i := 754) (by decide +kernel)⟩
theorem lw_p25 : lw_okq (⟨"SugarKitchen$Parting", "fillBox", "(IIIII)I"⟩, 5) := ⟨⟨by decide +kernel, by decide +kernel⟩, List.mem_of_getElem? (i := 179) (by decide +kernel), List.mem_of_getElem? (i := 757) (by decide +kernel), List.mem_of_getElem? (i := 758) (by decide +kernel)⟩
theorem lw_p26 : lw_okq (⟨"SugarKitchen", "findBox", "(I)LSugarKitchen$Box;"⟩, 15) := ⟨⟨by decide +kernel, by decide +kernel⟩, List.mem_of_getElem? (i := 19) (by decide +kernel), List.mem_of_getElem? (i := 767) (by decide +kernel), List.mem_of_getElem? (i := 768) (by decide +kernel)⟩
theorem lw_p27 : lw_okq (⟨"SugarKitchen$Box", "lotAt", "(I)I"⟩, 6) := ⟨⟨by decide +kernel, by decide +kernel⟩, List.mem_of_getElem? (i := 682) (by decide +kernel), List.mem_of_getElem? (i := 776) (by decide +kernel), List.mem_of_getElem? (i := 777) (by decide +kernel)⟩
theorem lw_p28 : lw_okq (⟨"SugarKitchen$Kettle", "countKinds", "()I"⟩, 13) := ⟨⟨by decide +kernel, by decide +kernel⟩, List.mem_of_getElem? (i := 99) (by decide +kernel), List.mem_of_getElem? (i := 814) (by decide +kernel), List.mem_of_getElem? (i := 815) (by decide +kernel)⟩
theorem lw_p29 : lw_okq (⟨"SugarKitchen$Kettle", "findLeast", "(IZ)V"⟩, 13) := ⟨⟨by decide +kernel, by decide +kernel⟩, List.mem_of_getElem? (i := 99) (by decide +kernel), List.mem_of_getElem? (i := 820) (by decide +kernel), List.mem_of_getElem? (i := 821) (by decide +kernel)⟩
theorem lw_p30 : lw_okq (⟨"SugarKitchen$Kettle", "countOn", "()V"⟩, 13) := ⟨⟨by decide +kernel, by decide +kernel⟩, List.mem_of_getElem? (i := 99) (by decide +kernel), List.mem_of_getElem? (i := 824) (by decide +kernel), List.mem_of_getElem? (i := 825) (by decide +kernel)⟩
theorem lw_p31 : lw_okq (⟨"SugarKitchen$Kettle", "findLeastOf", "(IZ)V"⟩, 13) := ⟨⟨by decide +kernel, by decide +kernel⟩, List.mem_of_getElem? (i := 99) (by decide +kernel), List.mem_of_getElem? (i := 828) (by decide +kernel), List.mem_of_getElem? (i := 829) (by decide +kernel)⟩
def lw_privs_2 : List (MethodName × Nat) := [(⟨"SugarKitchen$Choice", "canWeigh", "(II)Z"⟩, 6), (⟨"SugarKitchen$Choice", "markFirst", "(I)V"⟩, 6), (⟨"SugarKitchen", "moveToBox", "(ILSugarKitchen$Box;)V"⟩, 15), (⟨"SugarKitchen", "warningsOf", "(J)I"⟩, 15), (⟨"SugarKitchen", "countFull", "(III)I"⟩, 15), (⟨"SugarKitchen$Parting", "insert", "(I)V"⟩, 5), (⟨"SugarKitchen$Parting", "forget", "()V"⟩, 5), (⟨"SugarKitchen$Parting", "mostOf", "(II)I"⟩, 5), (⟨"SugarKitchen$Parting", "isFree", "(II)Z"⟩, 5), (⟨"SugarKitchen$Parting", "fillBox", "(IIIII)I"⟩, 5), (⟨"SugarKitchen", "findBox", "(I)LSugarKitchen$Box;"⟩, 15), (⟨"SugarKitchen$Box", "lotAt", "(I)I"⟩, 6), (⟨"SugarKitchen$Kettle", "countKinds", "()I"⟩, 13), (⟨"SugarKitchen$Kettle", "findLeast", "(IZ)V"⟩, 13), (⟨"SugarKitchen$Kettle", "countOn", "()V"⟩, 13), (⟨"SugarKitchen$Kettle", "findLeastOf", "(IZ)V"⟩, 13)]
theorem lw_r2 : ∀ q ∈ lw_privs_2, lw_okq q := List.forall_mem_cons.mpr ⟨lw_p16, List.forall_mem_cons.mpr ⟨lw_p17, List.forall_mem_cons.mpr ⟨lw_p18, List.forall_mem_cons.mpr ⟨lw_p19, List.forall_mem_cons.mpr ⟨lw_p20, List.forall_mem_cons.mpr ⟨lw_p21, List.forall_mem_cons.mpr ⟨lw_p22, List.forall_mem_cons.mpr ⟨lw_p23, List.forall_mem_cons.mpr ⟨lw_p24, List.forall_mem_cons.mpr ⟨lw_p25, List.forall_mem_cons.mpr ⟨lw_p26, List.forall_mem_cons.mpr ⟨lw_p27, List.forall_mem_cons.mpr ⟨lw_p28, List.forall_mem_cons.mpr ⟨lw_p29, List.forall_mem_cons.mpr ⟨lw_p30, List.forall_mem_cons.mpr ⟨lw_p31, fun _ h => absurd h List.not_mem_nil⟩⟩⟩⟩⟩⟩⟩⟩⟩⟩⟩⟩⟩⟩⟩⟩
theorem lw_p32 : lw_okq (⟨"SugarKitchen$Kettle", "mayCome", "(IZ)Z"⟩, 13) := ⟨⟨by decide +kernel, by decide +kernel⟩, List.mem_of_getElem? (i := 99) (by decide +kernel), List.mem_of_getElem? (i := 833) (by decide +kernel), List.mem_of_getElem? (i := 834) (by decide +kernel)⟩
theorem lw_p33 : lw_okq (⟨"SugarKitchen$Kettle", "onlyNutsWait", "()Z"⟩, 13) := ⟨⟨by decide +kernel, by decide +kernel⟩, List.mem_of_getElem? (i := 99) (by decide +kernel), List.mem_of_getElem? (i := 837) (by decide +kernel), List.mem_of_getElem? (i := 838) (by decide +kernel)⟩
theorem lw_p34 : lw_okq (⟨"SugarKitchen$Kettle", "leastOnce", "(II)I"⟩, 13) := ⟨⟨by decide +kernel, by decide +kernel⟩, List.mem_of_getElem? (i := 99) (by decide +kernel), List.mem_of_getElem? (i := 841) (by decide +kernel), List.mem_of_getElem? (i := 842) (by decide +kernel)⟩
theorem lw_p35 : lw_okq (⟨"SugarKitchen$Kettle", "followLeast", "(IZ)V"⟩, 13) := ⟨⟨by decide +kernel, by decide +kernel⟩, List.mem_of_getElem? (i := 99) (by decide +kernel), List.mem_of_getElem? (i := 845) (by decide +kernel), List.mem_of_getElem? (i := 846) (by decide +kernel)⟩
theorem lw_p36 : lw_okq (⟨"SugarKitchen$Kettle", "findNext", "(IIZ)I"⟩, 13) := ⟨⟨by decide +kernel, by decide +kernel⟩, List.mem_of_getElem? (i := 99) (by decide +kernel), List.mem_of_getElem? (i := 850) (by decide +kernel), List.mem_of_getElem? (i := 851) (by decide +kernel)⟩
theorem lw_p37 : lw_okq (⟨"SugarKitchen", "lotsIn", "(II)J"⟩, 15) := ⟨⟨by decide +kernel, by decide +kernel⟩, List.mem_of_getElem? (i := 19) (by decide +kernel), List.mem_of_getElem? (i := 858) (by decide +kernel), List.mem_of_getElem? (i := 859) (by decide +kernel)⟩
theorem lw_p38 : lw_okq (⟨"SugarKitchen", "countFit", "()I"⟩, 15) := ⟨⟨by decide +kernel, by decide +kernel⟩, List.mem_of_getElem? (i := 19) (by decide +kernel), List.mem_of_getElem? (i := 866) (by decide +kernel), List.mem_of_getElem? (i := 867) (by decide +kernel)⟩
theorem lw_p39 : lw_okq (⟨"SugarKitchenModel", "isBatch", "(I)Z"⟩, 56) := ⟨⟨by decide +kernel, by decide +kernel⟩, List.mem_of_getElem? (i := 874) (by decide +kernel), List.mem_of_getElem? (i := 1068) (by decide +kernel), List.mem_of_getElem? (i := 1069) (by decide +kernel)⟩
theorem lw_p40 : lw_okq (⟨"SugarKitchenModel", "isRead", "(II)Z"⟩, 56) := ⟨⟨by decide +kernel, by decide +kernel⟩, List.mem_of_getElem? (i := 874) (by decide +kernel), List.mem_of_getElem? (i := 1103) (by decide +kernel), List.mem_of_getElem? (i := 1104) (by decide +kernel)⟩
theorem lw_p41 : lw_okq (⟨"SugarKitchenModel", "degree", "(II)I"⟩, 56) := ⟨⟨by decide +kernel, by decide +kernel⟩, List.mem_of_getElem? (i := 874) (by decide +kernel), List.mem_of_getElem? (i := 1107) (by decide +kernel), List.mem_of_getElem? (i := 1108) (by decide +kernel)⟩
theorem lw_p42 : lw_okq (⟨"SugarKitchenModel", "lossOf", "(IZ)I"⟩, 56) := ⟨⟨by decide +kernel, by decide +kernel⟩, List.mem_of_getElem? (i := 874) (by decide +kernel), List.mem_of_getElem? (i := 1112) (by decide +kernel), List.mem_of_getElem? (i := 1113) (by decide +kernel)⟩
theorem lw_p43 : lw_okq (⟨"SugarKitchenModel", "isGood", "(I)Z"⟩, 56) := ⟨⟨by decide +kernel, by decide +kernel⟩, List.mem_of_getElem? (i := 874) (by decide +kernel), List.mem_of_getElem? (i := 1141) (by decide +kernel), List.mem_of_getElem? (i := 1142) (by decide +kernel)⟩
theorem lw_p44 : lw_okq (⟨"SugarKitchenModel", "isOut", "(I)Z"⟩, 56) := ⟨⟨by decide +kernel, by decide +kernel⟩, List.mem_of_getElem? (i := 874) (by decide +kernel), List.mem_of_getElem? (i := 1150) (by decide +kernel), List.mem_of_getElem? (i := 1151) (by decide +kernel)⟩
theorem lw_p45 : lw_okq (⟨"SugarKitchenModel", "leave", "(I)V"⟩, 56) := ⟨⟨by decide +kernel, by decide +kernel⟩, List.mem_of_getElem? (i := 874) (by decide +kernel), List.mem_of_getElem? (i := 1158) (by decide +kernel), List.mem_of_getElem? (i := 1159) (by decide +kernel)⟩
theorem lw_p46 : lw_okq (⟨"SugarKitchenModel", "sort", "(I)I"⟩, 56) := ⟨⟨by decide +kernel, by decide +kernel⟩, List.mem_of_getElem? (i := 874) (by decide +kernel), List.mem_of_getElem? (i := 1174) (by decide +kernel), List.mem_of_getElem? (i := 1175) (by decide +kernel)⟩
theorem lw_p47 : lw_okq (⟨"SugarKitchenModel", "isFit", "(I)Z"⟩, 56) := ⟨⟨by decide +kernel, by decide +kernel⟩, List.mem_of_getElem? (i := 874) (by decide +kernel), List.mem_of_getElem? (i := 1178) (by decide +kernel), List.mem_of_getElem? (i := 1179) (by decide +kernel)⟩
def lw_privs_3 : List (MethodName × Nat) := [(⟨"SugarKitchen$Kettle", "mayCome", "(IZ)Z"⟩, 13), (⟨"SugarKitchen$Kettle", "onlyNutsWait", "()Z"⟩, 13), (⟨"SugarKitchen$Kettle", "leastOnce", "(II)I"⟩, 13), (⟨"SugarKitchen$Kettle", "followLeast", "(IZ)V"⟩, 13), (⟨"SugarKitchen$Kettle", "findNext", "(IIZ)I"⟩, 13), (⟨"SugarKitchen", "lotsIn", "(II)J"⟩, 15), (⟨"SugarKitchen", "countFit", "()I"⟩, 15), (⟨"SugarKitchenModel", "isBatch", "(I)Z"⟩, 56), (⟨"SugarKitchenModel", "isRead", "(II)Z"⟩, 56), (⟨"SugarKitchenModel", "degree", "(II)I"⟩, 56), (⟨"SugarKitchenModel", "lossOf", "(IZ)I"⟩, 56), (⟨"SugarKitchenModel", "isGood", "(I)Z"⟩, 56), (⟨"SugarKitchenModel", "isOut", "(I)Z"⟩, 56), (⟨"SugarKitchenModel", "leave", "(I)V"⟩, 56), (⟨"SugarKitchenModel", "sort", "(I)I"⟩, 56), (⟨"SugarKitchenModel", "isFit", "(I)Z"⟩, 56)]
theorem lw_r3 : ∀ q ∈ lw_privs_3, lw_okq q := List.forall_mem_cons.mpr ⟨lw_p32, List.forall_mem_cons.mpr ⟨lw_p33, List.forall_mem_cons.mpr ⟨lw_p34, List.forall_mem_cons.mpr ⟨lw_p35, List.forall_mem_cons.mpr ⟨lw_p36, List.forall_mem_cons.mpr ⟨lw_p37, List.forall_mem_cons.mpr ⟨lw_p38, List.forall_mem_cons.mpr ⟨lw_p39, List.forall_mem_cons.mpr ⟨lw_p40, List.forall_mem_cons.mpr ⟨lw_p41, List.forall_mem_cons.mpr ⟨lw_p42, List.forall_mem_cons.mpr ⟨lw_p43, List.forall_mem_cons.mpr ⟨lw_p44, List.forall_mem_cons.mpr ⟨lw_p45, List.forall_mem_cons.mpr ⟨lw_p46, List.forall_mem_cons.mpr ⟨lw_p47, fun _ h => absurd h List.not_mem_nil⟩⟩⟩⟩⟩⟩⟩⟩⟩⟩⟩⟩⟩⟩⟩⟩
theorem lw_p48 : lw_okq (⟨"SugarKitchenModel", "list", "(I)V"⟩, 56) := ⟨⟨by decide +kernel, by decide +kernel⟩, List.mem_of_getElem? (i := 874) (by decide +kernel), List.mem_of_getElem? (i := 1193) (by decide +kernel), List.mem_of_getElem? (i := 1194) (by decide +kernel)⟩
theorem lw_p49 : lw_okq (⟨"SugarKitchenModel", "gather", "()V"⟩, 56) := ⟨⟨by decide +kernel, by decide +kernel⟩, List.mem_of_getElem? (i := 874) (by decide +kernel), List.mem_of_getElem? (i := 1197) (by decide +kernel), List.mem_of_getElem? (i := 1198) (by decide +kernel)⟩
theorem lw_p50 : lw_okq (⟨"SugarKitchenModel", "leastSum", "(II)I"⟩, 56) := ⟨⟨by decide +kernel, by decide +kernel⟩, List.mem_of_getElem? (i := 874) (by decide +kernel), List.mem_of_getElem? (i := 1201) (by decide +kernel), List.mem_of_getElem? (i := 1202) (by decide +kernel)⟩
theorem lw_p51 : lw_okq (⟨"SugarKitchenModel", "reaches8500", "()Z"⟩, 56) := ⟨⟨by decide +kernel, by decide +kernel⟩, List.mem_of_getElem? (i := 874) (by decide +kernel), List.mem_of_getElem? (i := 1205) (by decide +kernel), List.mem_of_getElem? (i := 1206) (by decide +kernel)⟩
theorem lw_p52 : lw_okq (⟨"SugarKitchenModel", "choose", "(I)I"⟩, 56) := ⟨⟨by decide +kernel, by decide +kernel⟩, List.mem_of_getElem? (i := 874) (by decide +kernel), List.mem_of_getElem? (i := 1209) (by decide +kernel), List.mem_of_getElem? (i := 1210) (by decide +kernel)⟩
theorem lw_p53 : lw_okq (⟨"SugarKitchenModel", "most", "(II)I"⟩, 56) := ⟨⟨by decide +kernel, by decide +kernel⟩, List.mem_of_getElem? (i := 874) (by decide +kernel), List.mem_of_getElem? (i := 1217) (by decide +kernel), List.mem_of_getElem? (i := 1218) (by decide +kernel)⟩
theorem lw_p54 : lw_okq (⟨"SugarKitchenModel", "full", "(II)I"⟩, 56) := ⟨⟨by decide +kernel, by decide +kernel⟩, List.mem_of_getElem? (i := 874) (by decide +kernel), List.mem_of_getElem? (i := 1221) (by decide +kernel), List.mem_of_getElem? (i := 1222) (by decide +kernel)⟩
theorem lw_p55 : lw_okq (⟨"SugarKitchenModel", "isInBox", "(II)Z"⟩, 56) := ⟨⟨by decide +kernel, by decide +kernel⟩, List.mem_of_getElem? (i := 874) (by decide +kernel), List.mem_of_getElem? (i := 1229) (by decide +kernel), List.mem_of_getElem? (i := 1230) (by decide +kernel)⟩
theorem lw_p56 : lw_okq (⟨"SugarKitchenModel", "boxHas", "(II)Z"⟩, 56) := ⟨⟨by decide +kernel, by decide +kernel⟩, List.mem_of_getElem? (i := 874) (by decide +kernel), List.mem_of_getElem? (i := 1233) (by decide +kernel), List.mem_of_getElem? (i := 1234) (by decide +kernel)⟩
theorem lw_p57 : lw_okq (⟨"SugarKitchenModel", "pieceHas", "(II)Z"⟩, 56) := ⟨⟨by decide +kernel, by decide +kernel⟩, List.mem_of_getElem? (i := 874) (by decide +kernel), List.mem_of_getElem? (i := 1237) (by decide +kernel), List.mem_of_getElem? (i := 1238) (by decide +kernel)⟩
theorem lw_p58 : lw_okq (⟨"SugarKitchenModel", "hasLot", "(II)Z"⟩, 56) := ⟨⟨by decide +kernel, by decide +kernel⟩, List.mem_of_getElem? (i := 874) (by decide +kernel), List.mem_of_getElem? (i := 1241) (by decide +kernel), List.mem_of_getElem? (i := 1242) (by decide +kernel)⟩
theorem lw_p59 : lw_okq (⟨"SugarKitchenModel", "lotInBox", "(II)I"⟩, 56) := ⟨⟨by decide +kernel, by decide +kernel⟩, List.mem_of_getElem? (i := 874) (by decide +kernel), List.mem_of_getElem? (i := 1245) (by decide +kernel), List.mem_of_getElem? (i := 1246) (by decide +kernel)⟩
theorem lw_p60 : lw_okq (⟨"SugarKitchenModel", "pieceInBox", "(II)I"⟩, 56) := ⟨⟨by decide +kernel, by decide +kernel⟩, List.mem_of_getElem? (i := 874) (by decide +kernel), List.mem_of_getElem? (i := 1249) (by decide +kernel), List.mem_of_getElem? (i := 1250) (by decide +kernel)⟩
theorem lw_p61 : lw_okq (⟨"SugarKitchenModel", "reckon", "(Z)V"⟩, 56) := ⟨⟨by decide +kernel, by decide +kernel⟩, List.mem_of_getElem? (i := 874) (by decide +kernel), List.mem_of_getElem? (i := 1265) (by decide +kernel), List.mem_of_getElem? (i := 1266) (by decide +kernel)⟩
theorem lw_p62 : lw_okq (⟨"SugarKitchenModel", "mayCome", "(IIZ)Z"⟩, 56) := ⟨⟨by decide +kernel, by decide +kernel⟩, List.mem_of_getElem? (i := 874) (by decide +kernel), List.mem_of_getElem? (i := 1270) (by decide +kernel), List.mem_of_getElem? (i := 1271) (by decide +kernel)⟩
theorem lw_p63 : lw_okq (⟨"SugarKitchenModel", "isNut", "(I)Z"⟩, 56) := ⟨⟨by decide +kernel, by decide +kernel⟩, List.mem_of_getElem? (i := 874) (by decide +kernel), List.mem_of_getElem? (i := 1274) (by decide +kernel), List.mem_of_getElem? (i := 1275) (by decide +kernel)⟩
def lw_privs_4 : List (MethodName × Nat) := [(⟨"SugarKitchenModel", "list", "(I)V"⟩, 56), (⟨"SugarKitchenModel", "gather", "()V"⟩, 56), (⟨"SugarKitchenModel", "leastSum", "(II)I"⟩, 56), (⟨"SugarKitchenModel", "reaches8500", "()Z"⟩, 56), (⟨"SugarKitchenModel", "choose", "(I)I"⟩, 56), (⟨"SugarKitchenModel", "most", "(II)I"⟩, 56), (⟨"SugarKitchenModel", "full", "(II)I"⟩, 56), (⟨"SugarKitchenModel", "isInBox", "(II)Z"⟩, 56), (⟨"SugarKitchenModel", "boxHas", "(II)Z"⟩, 56), (⟨"SugarKitchenModel", "pieceHas", "(II)Z"⟩, 56), (⟨"SugarKitchenModel", "hasLot", "(II)Z"⟩, 56), (⟨"SugarKitchenModel", "lotInBox", "(II)I"⟩, 56), (⟨"SugarKitchenModel", "pieceInBox", "(II)I"⟩, 56), (⟨"SugarKitchenModel", "reckon", "(Z)V"⟩, 56), (⟨"SugarKitchenModel", "mayCome", "(IIZ)Z"⟩, 56), (⟨"SugarKitchenModel", "isNut", "(I)Z"⟩, 56)]
theorem lw_r4 : ∀ q ∈ lw_privs_4, lw_okq q := List.forall_mem_cons.mpr ⟨lw_p48, List.forall_mem_cons.mpr ⟨lw_p49, List.forall_mem_cons.mpr ⟨lw_p50, List.forall_mem_cons.mpr ⟨lw_p51, List.forall_mem_cons.mpr ⟨lw_p52, List.forall_mem_cons.mpr ⟨lw_p53, List.forall_mem_cons.mpr ⟨lw_p54, List.forall_mem_cons.mpr ⟨lw_p55, List.forall_mem_cons.mpr ⟨lw_p56, List.forall_mem_cons.mpr ⟨lw_p57, List.forall_mem_cons.mpr ⟨lw_p58, List.forall_mem_cons.mpr ⟨lw_p59, List.forall_mem_cons.mpr ⟨lw_p60, List.forall_mem_cons.mpr ⟨lw_p61, List.forall_mem_cons.mpr ⟨lw_p62, List.forall_mem_cons.mpr ⟨lw_p63, fun _ h => absurd h List.not_mem_nil⟩⟩⟩⟩⟩⟩⟩⟩⟩⟩⟩⟩⟩⟩⟩⟩
theorem lw_p64 : lw_okq (⟨"SugarKitchenModel", "minutes", "(II)I"⟩, 56) := ⟨⟨by decide +kernel, by decide +kernel⟩, List.mem_of_getElem? (i := 874) (by decide +kernel), List.mem_of_getElem? (i := 1278) (by decide +kernel), List.mem_of_getElem? (i := 1279) (by decide +kernel)⟩
theorem lw_p65 : lw_okq (⟨"SugarKitchenModel", "restOf", "(II)I"⟩, 56) := ⟨⟨by decide +kernel, by decide +kernel⟩, List.mem_of_getElem? (i := 874) (by decide +kernel), List.mem_of_getElem? (i := 1282) (by decide +kernel), List.mem_of_getElem? (i := 1283) (by decide +kernel)⟩
theorem lw_p66 : lw_okq (⟨"SugarKitchenModel", "hasSome", "(III)Z"⟩, 56) := ⟨⟨by decide +kernel, by decide +kernel⟩, List.mem_of_getElem? (i := 874) (by decide +kernel), List.mem_of_getElem? (i := 1290) (by decide +kernel), List.mem_of_getElem? (i := 1291) (by decide +kernel)⟩
def lw_privs_5 : List (MethodName × Nat) := [(⟨"SugarKitchenModel", "minutes", "(II)I"⟩, 56), (⟨"SugarKitchenModel", "restOf", "(II)I"⟩, 56), (⟨"SugarKitchenModel", "hasSome", "(III)Z"⟩, 56)]
theorem lw_r5 : ∀ q ∈ lw_privs_5, lw_okq q := List.forall_mem_cons.mpr ⟨lw_p64, List.forall_mem_cons.mpr ⟨lw_p65, List.forall_mem_cons.mpr ⟨lw_p66, fun _ h => absurd h List.not_mem_nil⟩⟩⟩
def lw_privs : List (MethodName × Nat) := lw_privs_1 ++ (lw_privs_2 ++ (lw_privs_3 ++ (lw_privs_4 ++ (lw_privs_5))))
def lw_tbl : List Cond := k2_sels lw_privs ++ tables_1
theorem lw_privs_ok : ∀ q ∈ lw_privs, lw_okq q := by
  show ∀ q ∈ lw_privs_1 ++ (lw_privs_2 ++ (lw_privs_3 ++ (lw_privs_4 ++ (lw_privs_5)))), lw_okq q
  exact List.forall_mem_append.mpr ⟨lw_r1, List.forall_mem_append.mpr ⟨lw_r2, List.forall_mem_append.mpr ⟨lw_r3, List.forall_mem_append.mpr ⟨lw_r4, lw_r5⟩⟩⟩⟩
/-- the streams that the claim lets the run draw from -/
abbrev lw_cs : List Choice := [Jvm.Choice.named "NaN.bits", Jvm.Choice.named "NaN.copy"]
theorem lw_bits : nanBits ∈ lw_cs := by first | decide | exact List.mem_cons_self | simp [lw_cs, nanBits]
end
section
def RX0 : String := "SugarKitchen$Batch"
def TX0 : u_T := fun k => match k with
  | 0 => ("SugarKitchen$Batch", "kind", "I", true)
  | 1 => ("SugarKitchen$Batch", "rows", "LSugarKitchen$Rows;", true)
  | 2 => ("SugarKitchen$Batch", "mass", "I", false)
  | 3 => ("SugarKitchen$Batch", "putIn", "I", false)
  | 4 => ("SugarKitchen$Batch", "lots", "J", false)
  | 5 => ("SugarKitchen$Batch", "cooked", "Z", false)
  | 6 => ("SugarKitchen$Batch", "vouched", "Z", false)
  | 7 => ("SugarKitchen$Batch", "lost", "I", false)
  | 8 => ("SugarKitchen$Batch", "loss", "I", false)
  | 9 => ("SugarKitchen$Batch", "top", "I", false)
  | 10 => ("SugarKitchen$Batch", "missingAt", "I", false)
  | 11 => ("SugarKitchen$Batch", "grainedAt", "I", false)
  | 12 => ("SugarKitchen$Batch", "phase", "I", false)
  | 13 => ("SugarKitchen$Batch", "count", "I", false)
  | 14 => ("SugarKitchen$Batch", "cutAway", "I", false)
  | _ => ("SugarKitchen$Batch", "dippedAway", "I", false)
def tyX0 : Nat → FieldType := fun k => match k with
  | 0 => .int
  | 1 => .object "SugarKitchen$Rows"
  | 2 => .int
  | 3 => .int
  | 4 => .long
  | 5 => .boolean
  | 6 => .boolean
  | 7 => .int
  | 8 => .int
  | 9 => .int
  | 10 => .int
  | 11 => .int
  | 12 => .int
  | 13 => .int
  | 14 => .int
  | _ => .int
abbrev wsX00 : List Cond := u_ws RX0 TX0 16
theorem nmX0 : ∀ a, a < 16 → ∀ b, b < 16 → a ≠ b → (TX0 a).2.1 ≠ (TX0 b).2.1 := by decide +kernel
theorem tyX0_ok : ∀ k, k < 16 → parseFieldDescriptor (TX0 k).2.2.1 = some (tyX0 k) := by decide +kernel
abbrev cX0_init : ByteArray := prog_2_method_1_code
def yX0_init : MethodName := ⟨RX0, "<init>", "(I)V"⟩
abbrev cX0_cookOver : ByteArray := prog_2_method_2_code
def yX0_cookOver : MethodName := ⟨RX0, "cookOver", "(ILSugarKitchen$Rules;)V"⟩
abbrev cX0_findTop : ByteArray := prog_2_method_3_code
def yX0_findTop : MethodName := ⟨RX0, "findTop", "(I)I"⟩
abbrev cX0_findGrained : ByteArray := prog_2_method_4_code
def yX0_findGrained : MethodName := ⟨RX0, "findGrained", "(IILSugarKitchen$Rules;)I"⟩
abbrev cX0_fault : ByteArray := prog_2_method_5_code
def yX0_fault : MethodName := ⟨RX0, "fault", "(LSugarKitchen$Rules;)I"⟩
abbrev cX0_tell : ByteArray := prog_2_method_6_code
def yX0_tell : MethodName := ⟨RX0, "tell", "(I)I"⟩
def RX1 : String := "SugarKitchen$Box"
def TX1 : u_T := fun k => match k with
  | 0 => ("SugarKitchen$Box", "told", "I", true)
  | 1 => ("SugarKitchen$Box", "weight", "I", true)
  | 2 => ("SugarKitchen$Box", "numbers", "[I", true)
  | 3 => ("SugarKitchen$Box", "many", "I", false)
  | 4 => ("SugarKitchen$Box", "lots", "J", false)
  | _ => ("SugarKitchen$Box", "warnings", "I", false)
def tyX1 : Nat → FieldType := fun k => match k with
  | 0 => .int
  | 1 => .int
  | 2 => .array .int
  | 3 => .int
  | 4 => .long
  | _ => .int
abbrev wsX10 : List Cond := u_ws RX1 TX1 6
theorem nmX1 : ∀ a, a < 6 → ∀ b, b < 6 → a ≠ b → (TX1 a).2.1 ≠ (TX1 b).2.1 := by decide +kernel
theorem tyX1_ok : ∀ k, k < 6 → parseFieldDescriptor (TX1 k).2.2.1 = some (tyX1 k) := by decide +kernel
abbrev cX1_init : ByteArray := prog_3_method_1_code
def yX1_init : MethodName := ⟨RX1, "<init>", "(III)V"⟩
abbrev cX1_add : ByteArray := prog_3_method_2_code
def yX1_add : MethodName := ⟨RX1, "add", "(IJ)V"⟩
abbrev cX1_tell : ByteArray := prog_3_method_3_code
def yX1_tell : MethodName := ⟨RX1, "tell", "(I)I"⟩
abbrev cX1_lotAt : ByteArray := prog_3_method_4_code
def yX1_lotAt : MethodName := ⟨RX1, "lotAt", "(I)I"⟩
def RX2 : String := "SugarKitchen$Choice"
def TX2 : u_T := fun k => match k with
  | 0 => ("SugarKitchen$Choice", "spots", "[I", true)
  | 1 => ("SugarKitchen$Choice", "weights", "[I", true)
  | 2 => ("SugarKitchen$Choice", "chosen", "[Z", true)
  | 3 => ("SugarKitchen$Choice", "many", "I", false)
  | 4 => ("SugarKitchen$Choice", "sums", "[J", false)
  | _ => ("SugarKitchen$Choice", "words", "I", false)
def tyX2 : Nat → FieldType := fun k => match k with
  | 0 => .array .int
  | 1 => .array .int
  | 2 => .array .boolean
  | 3 => .int
  | 4 => .array .long
  | _ => .int
abbrev wsX20 : List Cond := u_ws RX2 TX2 6
theorem nmX2 : ∀ a, a < 6 → ∀ b, b < 6 → a ≠ b → (TX2 a).2.1 ≠ (TX2 b).2.1 := by decide +kernel
theorem tyX2_ok : ∀ k, k < 6 → parseFieldDescriptor (TX2 k).2.2.1 = some (tyX2 k) := by decide +kernel
abbrev cX2_init : ByteArray := prog_4_method_1_code
def yX2_init : MethodName := ⟨RX2, "<init>", "()V"⟩
abbrev cX2_add : ByteArray := prog_4_method_2_code
def yX2_add : MethodName := ⟨RX2, "add", "(II)V"⟩
abbrev cX2_choose : ByteArray := prog_4_method_3_code
def yX2_choose : MethodName := ⟨RX2, "choose", "(II)I"⟩
abbrev cX2_countChosen : ByteArray := prog_4_method_4_code
def yX2_countChosen : MethodName := ⟨RX2, "countChosen", "()I"⟩
abbrev cX2_total : ByteArray := prog_4_method_5_code
def yX2_total : MethodName := ⟨RX2, "total", "()I"⟩
abbrev cX2_sumUp : ByteArray := prog_4_method_6_code
def yX2_sumUp : MethodName := ⟨RX2, "sumUp", "(I)V"⟩
abbrev cX2_addPiece : ByteArray := prog_4_method_7_code
def yX2_addPiece : MethodName := ⟨RX2, "addPiece", "(II)V"⟩
abbrev cX2_canWeigh : ByteArray := prog_4_method_8_code
def yX2_canWeigh : MethodName := ⟨RX2, "canWeigh", "(II)Z"⟩
abbrev cX2_markFirst : ByteArray := prog_4_method_9_code
def yX2_markFirst : MethodName := ⟨RX2, "markFirst", "(I)V"⟩
def RX3 : String := "SugarKitchen$Kettle"
def TX3 : u_T := fun k => match k with
  | 0 => ("SugarKitchen$Kettle", "washing", "[I", true)
  | 1 => ("SugarKitchen$Kettle", "queued", "[I", true)
  | 2 => ("SugarKitchen$Kettle", "kinds", "[I", true)
  | 3 => ("SugarKitchen$Kettle", "many", "I", false)
  | 4 => ("SugarKitchen$Kettle", "ordered", "[I", true)
  | 5 => ("SugarKitchen$Kettle", "orderMinutes", "I", false)
  | 6 => ("SugarKitchen$Kettle", "known", "Z", false)
  | 7 => ("SugarKitchen$Kettle", "knownNutsLast", "Z", false)
  | 8 => ("SugarKitchen$Kettle", "used", "[Z", true)
  | 9 => ("SugarKitchen$Kettle", "counts", "[I", true)
  | 10 => ("SugarKitchen$Kettle", "strides", "[I", true)
  | 11 => ("SugarKitchen$Kettle", "waiting", "[I", true)
  | _ => ("SugarKitchen$Kettle", "least", "[I", false)
def tyX3 : Nat → FieldType := fun k => match k with
  | 0 => .array .int
  | 1 => .array .int
  | 2 => .array .int
  | 3 => .int
  | 4 => .array .int
  | 5 => .int
  | 6 => .boolean
  | 7 => .boolean
  | 8 => .array .boolean
  | 9 => .array .int
  | 10 => .array .int
  | 11 => .array .int
  | _ => .array .int
abbrev wsX30 : List Cond := u_ws RX3 TX3 13
theorem nmX3 : ∀ a, a < 13 → ∀ b, b < 13 → a ≠ b → (TX3 a).2.1 ≠ (TX3 b).2.1 := by decide +kernel
theorem tyX3_ok : ∀ k, k < 13 → parseFieldDescriptor (TX3 k).2.2.1 = some (tyX3 k) := by decide +kernel
abbrev cX3_init : ByteArray := prog_5_method_1_code
def yX3_init : MethodName := ⟨RX3, "<init>", "()V"⟩
abbrev cX3_setWashing : ByteArray := prog_5_method_2_code
def yX3_setWashing : MethodName := ⟨RX3, "setWashing", "(III)V"⟩
abbrev cX3_empty : ByteArray := prog_5_method_3_code
def yX3_empty : MethodName := ⟨RX3, "empty", "()V"⟩
abbrev cX3_add : ByteArray := prog_5_method_4_code
def yX3_add : MethodName := ⟨RX3, "add", "(II)I"⟩
abbrev cX3_findOrder : ByteArray := prog_5_method_5_code
def yX3_findOrder : MethodName := ⟨RX3, "findOrder", "(Z)V"⟩
abbrev cX3_countKinds : ByteArray := prog_5_method_6_code
def yX3_countKinds : MethodName := ⟨RX3, "countKinds", "()I"⟩
abbrev cX3_findLeast : ByteArray := prog_5_method_7_code
def yX3_findLeast : MethodName := ⟨RX3, "findLeast", "(IZ)V"⟩
abbrev cX3_countOn : ByteArray := prog_5_method_8_code
def yX3_countOn : MethodName := ⟨RX3, "countOn", "()V"⟩
abbrev cX3_findLeastOf : ByteArray := prog_5_method_9_code
def yX3_findLeastOf : MethodName := ⟨RX3, "findLeastOf", "(IZ)V"⟩
abbrev cX3_leastOnce : ByteArray := prog_5_method_10_code
def yX3_leastOnce : MethodName := ⟨RX3, "leastOnce", "(II)I"⟩
abbrev cX3_mayCome : ByteArray := prog_5_method_11_code
def yX3_mayCome : MethodName := ⟨RX3, "mayCome", "(IZ)Z"⟩
abbrev cX3_onlyNutsWait : ByteArray := prog_5_method_12_code
def yX3_onlyNutsWait : MethodName := ⟨RX3, "onlyNutsWait", "()Z"⟩
abbrev cX3_followLeast : ByteArray := prog_5_method_13_code
def yX3_followLeast : MethodName := ⟨RX3, "followLeast", "(IZ)V"⟩
abbrev cX3_findNext : ByteArray := prog_5_method_14_code
def yX3_findNext : MethodName := ⟨RX3, "findNext", "(IIZ)I"⟩
def RX4 : String := "SugarKitchen$Lot"
def TX4 : u_T := fun k => match k with
  | 0 => ("SugarKitchen$Lot", "left", "I", false)
  | _ => ("SugarKitchen$Lot", "warnings", "I", true)
def tyX4 : Nat → FieldType := fun k => match k with
  | 0 => .int
  | _ => .int
abbrev wsX40 : List Cond := u_ws RX4 TX4 2
theorem nmX4 : ∀ a, a < 2 → ∀ b, b < 2 → a ≠ b → (TX4 a).2.1 ≠ (TX4 b).2.1 := by decide +kernel
theorem tyX4_ok : ∀ k, k < 2 → parseFieldDescriptor (TX4 k).2.2.1 = some (tyX4 k) := by decide +kernel
abbrev cX4_init : ByteArray := prog_6_method_1_code
def yX4_init : MethodName := ⟨RX4, "<init>", "(II)V"⟩
def RX5 : String := "SugarKitchen$Parting"
def TX5 : u_T := fun k => match k with
  | 0 => ("SugarKitchen$Parting", "weights", "[I", true)
  | 1 => ("SugarKitchen$Parting", "many", "I", false)
  | 2 => ("SugarKitchen$Parting", "low", "I", false)
  | 3 => ("SugarKitchen$Parting", "high", "I", false)
  | _ => ("SugarKitchen$Parting", "known", "[B", false)
def tyX5 : Nat → FieldType := fun k => match k with
  | 0 => .array .int
  | 1 => .int
  | 2 => .int
  | 3 => .int
  | _ => .array .byte
abbrev wsX50 : List Cond := u_ws RX5 TX5 5
theorem nmX5 : ∀ a, a < 5 → ∀ b, b < 5 → a ≠ b → (TX5 a).2.1 ≠ (TX5 b).2.1 := by decide +kernel
theorem tyX5_ok : ∀ k, k < 5 → parseFieldDescriptor (TX5 k).2.2.1 = some (tyX5 k) := by decide +kernel
abbrev cX5_init : ByteArray := prog_7_method_1_code
def yX5_init : MethodName := ⟨RX5, "<init>", "()V"⟩
abbrev cX5_mostBoxes : ByteArray := prog_7_method_2_code
def yX5_mostBoxes : MethodName := ⟨RX5, "mostBoxes", "(LSugarKitchen$Choice;II)I"⟩
abbrev cX5_insert : ByteArray := prog_7_method_3_code
def yX5_insert : MethodName := ⟨RX5, "insert", "(I)V"⟩
abbrev cX5_forget : ByteArray := prog_7_method_4_code
def yX5_forget : MethodName := ⟨RX5, "forget", "()V"⟩
abbrev cX5_isFree : ByteArray := prog_7_method_5_code
def yX5_isFree : MethodName := ⟨RX5, "isFree", "(II)Z"⟩
abbrev cX5_mostOf : ByteArray := prog_7_method_6_code
def yX5_mostOf : MethodName := ⟨RX5, "mostOf", "(II)I"⟩
abbrev cX5_fillBox : ByteArray := prog_7_method_7_code
def yX5_fillBox : MethodName := ⟨RX5, "fillBox", "(IIIII)I"⟩
def RX6 : String := "SugarKitchen$Piece"
def TX6 : u_T := fun k => match k with
  | 0 => ("SugarKitchen$Piece", "batch", "I", true)
  | 1 => ("SugarKitchen$Piece", "nut", "Z", true)
  | 2 => ("SugarKitchen$Piece", "weight", "I", false)
  | 3 => ("SugarKitchen$Piece", "lots", "J", false)
  | 4 => ("SugarKitchen$Piece", "coat", "I", false)
  | 5 => ("SugarKitchen$Piece", "tempered", "Z", false)
  | 6 => ("SugarKitchen$Piece", "allowed", "Z", false)
  | 7 => ("SugarKitchen$Piece", "where", "I", false)
  | _ => ("SugarKitchen$Piece", "there", "I", false)
def tyX6 : Nat → FieldType := fun k => match k with
  | 0 => .int
  | 1 => .boolean
  | 2 => .int
  | 3 => .long
  | 4 => .int
  | 5 => .boolean
  | 6 => .boolean
  | 7 => .int
  | _ => .int
abbrev wsX60 : List Cond := u_ws RX6 TX6 9
theorem nmX6 : ∀ a, a < 9 → ∀ b, b < 9 → a ≠ b → (TX6 a).2.1 ≠ (TX6 b).2.1 := by decide +kernel
theorem tyX6_ok : ∀ k, k < 9 → parseFieldDescriptor (TX6 k).2.2.1 = some (tyX6 k) := by decide +kernel
abbrev cX6_init : ByteArray := prog_8_method_1_code
def yX6_init : MethodName := ⟨RX6, "<init>", "(ILSugarKitchen$Batch;I)V"⟩
abbrev cX6_sort : ByteArray := prog_8_method_2_code
def yX6_sort : MethodName := ⟨RX6, "sort", "()I"⟩
abbrev cX6_isFit : ByteArray := prog_8_method_3_code
def yX6_isFit : MethodName := ⟨RX6, "isFit", "()Z"⟩
abbrev cX6_tell : ByteArray := prog_8_method_4_code
def yX6_tell : MethodName := ⟨RX6, "tell", "(I)I"⟩
def RX7 : String := "SugarKitchen$Rows"
def TX7 : u_T := fun k => match k with
  | 0 => ("SugarKitchen$Rows", "floatBits", "[I", true)
  | 1 => ("SugarKitchen$Rows", "stirred", "[Z", true)
  | 2 => ("SugarKitchen$Rows", "degrees", "I", false)
  | _ => ("SugarKitchen$Rows", "stirrings", "I", false)
def tyX7 : Nat → FieldType := fun k => match k with
  | 0 => .array .int
  | 1 => .array .boolean
  | 2 => .int
  | _ => .int
abbrev wsX70 : List Cond := u_ws RX7 TX7 4
theorem nmX7 : ∀ a, a < 4 → ∀ b, b < 4 → a ≠ b → (TX7 a).2.1 ≠ (TX7 b).2.1 := by decide +kernel
theorem tyX7_ok : ∀ k, k < 4 → parseFieldDescriptor (TX7 k).2.2.1 = some (tyX7 k) := by decide +kernel
abbrev cX7_init : ByteArray := prog_9_method_1_code
def yX7_init : MethodName := ⟨RX7, "<init>", "()V"⟩
abbrev cX7_renewDegrees : ByteArray := prog_9_method_2_code
def yX7_renewDegrees : MethodName := ⟨RX7, "renewDegrees", "(I)V"⟩
abbrev cX7_renewStirring : ByteArray := prog_9_method_3_code
def yX7_renewStirring : MethodName := ⟨RX7, "renewStirring", "(I)V"⟩
abbrev cX7_hasDegree : ByteArray := prog_9_method_4_code
def yX7_hasDegree : MethodName := ⟨RX7, "hasDegree", "(I)Z"⟩
abbrev cX7_hasStirring : ByteArray := prog_9_method_5_code
def yX7_hasStirring : MethodName := ⟨RX7, "hasStirring", "(I)Z"⟩
abbrev cX7_wasStirred : ByteArray := prog_9_method_6_code
def yX7_wasStirred : MethodName := ⟨RX7, "wasStirred", "(I)Z"⟩
abbrev cX7_isNumber : ByteArray := prog_9_method_7_code
def yX7_isNumber : MethodName := ⟨RX7, "isNumber", "(I)Z"⟩
abbrev cX7_degreeAt : ByteArray := prog_9_method_8_code
def yX7_degreeAt : MethodName := ⟨RX7, "degreeAt", "(I)I"⟩
abbrev cX7_tenfold : ByteArray := prog_9_method_9_code
def yX7_tenfold : MethodName := ⟨RX7, "tenfold", "(I)I"⟩
def RX8 : String := "SugarKitchen$Rules"
def TX8 : u_T := fun k => match k with
  | 0 => ("SugarKitchen$Rules", "fromDegree", "[I", true)
  | 1 => ("SugarKitchen$Rules", "lossThere", "[I", true)
  | 2 => ("SugarKitchen$Rules", "losses", "I", false)
  | 3 => ("SugarKitchen$Rules", "grainLow", "I", false)
  | 4 => ("SugarKitchen$Rules", "grainHigh", "I", false)
  | 5 => ("SugarKitchen$Rules", "leastLoss", "[I", true)
  | _ => ("SugarKitchen$Rules", "mostLoss", "[I", true)
def tyX8 : Nat → FieldType := fun k => match k with
  | 0 => .array .int
  | 1 => .array .int
  | 2 => .int
  | 3 => .int
  | 4 => .int
  | 5 => .array .int
  | _ => .array .int
abbrev wsX80 : List Cond := u_ws RX8 TX8 7
theorem nmX8 : ∀ a, a < 7 → ∀ b, b < 7 → a ≠ b → (TX8 a).2.1 ≠ (TX8 b).2.1 := by decide +kernel
theorem tyX8_ok : ∀ k, k < 7 → parseFieldDescriptor (TX8 k).2.2.1 = some (tyX8 k) := by decide +kernel
abbrev cX8_init : ByteArray := prog_10_method_1_code
def yX8_init : MethodName := ⟨RX8, "<init>", "()V"⟩
abbrev cX8_addLoss : ByteArray := prog_10_method_2_code
def yX8_addLoss : MethodName := ⟨RX8, "addLoss", "(II)I"⟩
abbrev cX8_lossAt : ByteArray := prog_10_method_3_code
def yX8_lossAt : MethodName := ⟨RX8, "lossAt", "(I)I"⟩
abbrev cX8_isGrain : ByteArray := prog_10_method_4_code
def yX8_isGrain : MethodName := ⟨RX8, "isGrain", "(I)Z"⟩
def RX9 : String := "SugarKitchen$Tempering"
def TX9 : u_T := fun k => match k with
  | 0 => ("SugarKitchen$Tempering", "melted", "I", false)
  | 1 => ("SugarKitchen$Tempering", "cooled", "I", false)
  | 2 => ("SugarKitchen$Tempering", "warmed", "I", false)
  | 3 => ("SugarKitchen$Tempering", "tooWarm", "I", false)
  | 4 => ("SugarKitchen$Tempering", "leastWarm", "I", false)
  | _ => ("SugarKitchen$Tempering", "ticks", "I", false)
def tyX9 : Nat → FieldType := fun k => match k with
  | 0 => .int
  | 1 => .int
  | 2 => .int
  | 3 => .int
  | 4 => .int
  | _ => .int
abbrev wsX90 : List Cond := u_ws RX9 TX9 6
theorem nmX9 : ∀ a, a < 6 → ∀ b, b < 6 → a ≠ b → (TX9 a).2.1 ≠ (TX9 b).2.1 := by decide +kernel
theorem tyX9_ok : ∀ k, k < 6 → parseFieldDescriptor (TX9 k).2.2.1 = some (tyX9 k) := by decide +kernel
abbrev cX9_init : ByteArray := prog_11_method_1_code
def yX9_init : MethodName := ⟨RX9, "<init>", "()V"⟩
abbrev cX9_change : ByteArray := prog_11_method_2_code
def yX9_change : MethodName := ⟨RX9, "change", "(IIIIII)Z"⟩
abbrev cX9_heatOneTick : ByteArray := prog_11_method_3_code
def yX9_heatOneTick : MethodName := ⟨RX9, "heatOneTick", "(LSugarKitchen$Batch;I)V"⟩
abbrev cX9_isSpoilt : ByteArray := prog_11_method_4_code
def yX9_isSpoilt : MethodName := ⟨RX9, "isSpoilt", "(II)Z"⟩
abbrev cX9_counts : ByteArray := prog_11_method_5_code
def yX9_counts : MethodName := ⟨RX9, "counts", "(II)Z"⟩
def RX10 : String := "SugarKitchen"
def TX10 : u_T := fun k => match k with
  | 0 => ("SugarKitchen", "lots", "[LSugarKitchen$Lot;", true)
  | 1 => ("SugarKitchen", "lotCount", "I", false)
  | 2 => ("SugarKitchen", "batches", "[LSugarKitchen$Batch;", true)
  | 3 => ("SugarKitchen", "batchCount", "I", false)
  | 4 => ("SugarKitchen", "pieces", "[LSugarKitchen$Piece;", true)
  | 5 => ("SugarKitchen", "pieceCount", "I", false)
  | 6 => ("SugarKitchen", "boxes", "[LSugarKitchen$Box;", true)
  | 7 => ("SugarKitchen", "boxCount", "I", false)
  | 8 => ("SugarKitchen", "trays", "[I", true)
  | 9 => ("SugarKitchen", "trialTrays", "[I", true)
  | 10 => ("SugarKitchen", "rules", "LSugarKitchen$Rules;", true)
  | 11 => ("SugarKitchen", "tempering", "LSugarKitchen$Tempering;", true)
  | 12 => ("SugarKitchen", "kettle", "LSugarKitchen$Kettle;", true)
  | 13 => ("SugarKitchen", "choice", "LSugarKitchen$Choice;", true)
  | _ => ("SugarKitchen", "parting", "LSugarKitchen$Parting;", true)
def tyX10 : Nat → FieldType := fun k => match k with
  | 0 => .array (.object "SugarKitchen$Lot")
  | 1 => .int
  | 2 => .array (.object "SugarKitchen$Batch")
  | 3 => .int
  | 4 => .array (.object "SugarKitchen$Piece")
  | 5 => .int
  | 6 => .array (.object "SugarKitchen$Box")
  | 7 => .int
  | 8 => .array .int
  | 9 => .array .int
  | 10 => .object "SugarKitchen$Rules"
  | 11 => .object "SugarKitchen$Tempering"
  | 12 => .object "SugarKitchen$Kettle"
  | 13 => .object "SugarKitchen$Choice"
  | _ => .object "SugarKitchen$Parting"
abbrev wsX100 : List Cond := u_ws RX10 TX10 15
theorem nmX10 : ∀ a, a < 15 → ∀ b, b < 15 → a ≠ b → (TX10 a).2.1 ≠ (TX10 b).2.1 := by decide +kernel
theorem tyX10_ok : ∀ k, k < 15 → parseFieldDescriptor (TX10 k).2.2.1 = some (tyX10 k) := by decide +kernel
abbrev cX10_init : ByteArray := prog_1_method_1_code
def yX10_init : MethodName := ⟨RX10, "<init>", "()V"⟩
abbrev cX10_lot : ByteArray := prog_1_method_2_code
def yX10_lot : MethodName := ⟨RX10, "lot", "(II)I"⟩
abbrev cX10_batch : ByteArray := prog_1_method_3_code
def yX10_batch : MethodName := ⟨RX10, "batch", "(I)I"⟩
abbrev cX10_put : ByteArray := prog_1_method_4_code
def yX10_put : MethodName := ⟨RX10, "put", "(III)I"⟩
abbrev cX10_row : ByteArray := prog_1_method_5_code
def yX10_row : MethodName := ⟨RX10, "row", "(III)Z"⟩
abbrev cX10_tick : ByteArray := prog_1_method_6_code
def yX10_tick : MethodName := ⟨RX10, "tick", "(III)Z"⟩
abbrev cX10_stir : ByteArray := prog_1_method_7_code
def yX10_stir : MethodName := ⟨RX10, "stir", "(IIZ)Z"⟩
abbrev cX10_table : ByteArray := prog_1_method_8_code
def yX10_table : MethodName := ⟨RX10, "table", "(II)I"⟩
abbrev cX10_grain : ByteArray := prog_1_method_9_code
def yX10_grain : MethodName := ⟨RX10, "grain", "(II)Z"⟩
abbrev cX10_bounds : ByteArray := prog_1_method_10_code
def yX10_bounds : MethodName := ⟨RX10, "bounds", "(III)Z"⟩
abbrev cX10_cook : ByteArray := prog_1_method_11_code
def yX10_cook : MethodName := ⟨RX10, "cook", "(II)I"⟩
abbrev cX10_vouch : ByteArray := prog_1_method_12_code
def yX10_vouch : MethodName := ⟨RX10, "vouch", "(I)Z"⟩
abbrev cX10_why : ByteArray := prog_1_method_13_code
def yX10_why : MethodName := ⟨RX10, "why", "(I)I"⟩
abbrev cX10_batchOf : ByteArray := prog_1_method_14_code
def yX10_batchOf : MethodName := ⟨RX10, "batchOf", "(II)I"⟩
abbrev cX10_temper : ByteArray := prog_1_method_15_code
def yX10_temper : MethodName := ⟨RX10, "temper", "(IIIIII)Z"⟩
abbrev cX10_heat : ByteArray := prog_1_method_16_code
def yX10_heat : MethodName := ⟨RX10, "heat", "(II)I"⟩
abbrev cX10_cut : ByteArray := prog_1_method_17_code
def yX10_cut : MethodName := ⟨RX10, "cut", "(III)I"⟩
abbrev cX10_dip : ByteArray := prog_1_method_18_code
def yX10_dip : MethodName := ⟨RX10, "dip", "(III)I"⟩
abbrev cX10_place : ByteArray := prog_1_method_19_code
def yX10_place : MethodName := ⟨RX10, "place", "(III)Z"⟩
abbrev cX10_take : ByteArray := prog_1_method_20_code
def yX10_take : MethodName := ⟨RX10, "take", "(I)Z"⟩
abbrev cX10_allow : ByteArray := prog_1_method_21_code
def yX10_allow : MethodName := ⟨RX10, "allow", "(I)Z"⟩
abbrev cX10_pieceOf : ByteArray := prog_1_method_22_code
def yX10_pieceOf : MethodName := ⟨RX10, "pieceOf", "(II)I"⟩
abbrev cX10_at : ByteArray := prog_1_method_23_code
def yX10_at : MethodName := ⟨RX10, "at", "(II)I"⟩
abbrev cX10_pack : ByteArray := prog_1_method_24_code
def yX10_pack : MethodName := ⟨RX10, "pack", "(III)I"⟩
abbrev cX10_would : ByteArray := prog_1_method_25_code
def yX10_would : MethodName := ⟨RX10, "would", "(IIII)I"⟩
abbrev cX10_boxOf : ByteArray := prog_1_method_26_code
def yX10_boxOf : MethodName := ⟨RX10, "boxOf", "(II)I"⟩
abbrev cX10_wash : ByteArray := prog_1_method_27_code
def yX10_wash : MethodName := ⟨RX10, "wash", "(III)Z"⟩
abbrev cX10_queue : ByteArray := prog_1_method_28_code
def yX10_queue : MethodName := ⟨RX10, "queue", "(I)I"⟩
abbrev cX10_order : ByteArray := prog_1_method_29_code
def yX10_order : MethodName := ⟨RX10, "order", "(ZI)I"⟩
abbrev cX10_recall : ByteArray := prog_1_method_30_code
def yX10_recall : MethodName := ⟨RX10, "recall", "(III)I"⟩
abbrev cX10_about : ByteArray := prog_1_method_31_code
def yX10_about : MethodName := ⟨RX10, "about", "(I)I"⟩
abbrev cX10_left : ByteArray := prog_1_method_32_code
def yX10_left : MethodName := ⟨RX10, "left", "(I)I"⟩
abbrev cX10_within : ByteArray := prog_1_method_33_code
def yX10_within : MethodName := ⟨RX10, "within", "(III)Z"⟩
abbrev cX10_isKind : ByteArray := prog_1_method_34_code
def yX10_isKind : MethodName := ⟨RX10, "isKind", "(I)Z"⟩
abbrev cX10_isCut : ByteArray := prog_1_method_35_code
def yX10_isCut : MethodName := ⟨RX10, "isCut", "(I)Z"⟩
abbrev cX10_canBeAsked : ByteArray := prog_1_method_36_code
def yX10_canBeAsked : MethodName := ⟨RX10, "canBeAsked", "(III)Z"⟩
abbrev cX10_spotOf : ByteArray := prog_1_method_37_code
def yX10_spotOf : MethodName := ⟨RX10, "spotOf", "(II)I"⟩
abbrev cX10_findLot : ByteArray := prog_1_method_38_code
def yX10_findLot : MethodName := ⟨RX10, "findLot", "(I)LSugarKitchen$Lot;"⟩
abbrev cX10_findBatch : ByteArray := prog_1_method_39_code
def yX10_findBatch : MethodName := ⟨RX10, "findBatch", "(I)LSugarKitchen$Batch;"⟩
abbrev cX10_findRaw : ByteArray := prog_1_method_40_code
def yX10_findRaw : MethodName := ⟨RX10, "findRaw", "(I)LSugarKitchen$Batch;"⟩
abbrev cX10_findGood : ByteArray := prog_1_method_41_code
def yX10_findGood : MethodName := ⟨RX10, "findGood", "(I)LSugarKitchen$Batch;"⟩
abbrev cX10_findPiece : ByteArray := prog_1_method_42_code
def yX10_findPiece : MethodName := ⟨RX10, "findPiece", "(I)LSugarKitchen$Piece;"⟩
abbrev cX10_findUnboxed : ByteArray := prog_1_method_43_code
def yX10_findUnboxed : MethodName := ⟨RX10, "findUnboxed", "(I)LSugarKitchen$Piece;"⟩
abbrev cX10_findBox : ByteArray := prog_1_method_44_code
def yX10_findBox : MethodName := ⟨RX10, "findBox", "(I)LSugarKitchen$Box;"⟩
abbrev cX10_restartCoats : ByteArray := prog_1_method_45_code
def yX10_restartCoats : MethodName := ⟨RX10, "restartCoats", "()V"⟩
abbrev cX10_liftFromTray : ByteArray := prog_1_method_46_code
def yX10_liftFromTray : MethodName := ⟨RX10, "liftFromTray", "(LSugarKitchen$Piece;)V"⟩
abbrev cX10_moveToBox : ByteArray := prog_1_method_47_code
def yX10_moveToBox : MethodName := ⟨RX10, "moveToBox", "(ILSugarKitchen$Box;)V"⟩
abbrev cX10_gather : ByteArray := prog_1_method_48_code
def yX10_gather : MethodName := ⟨RX10, "gather", "([II)V"⟩
abbrev cX10_countFull : ByteArray := prog_1_method_49_code
def yX10_countFull : MethodName := ⟨RX10, "countFull", "(III)I"⟩
abbrev cX10_warningsOf : ByteArray := prog_1_method_50_code
def yX10_warningsOf : MethodName := ⟨RX10, "warningsOf", "(J)I"⟩
abbrev cX10_lotsIn : ByteArray := prog_1_method_51_code
def yX10_lotsIn : MethodName := ⟨RX10, "lotsIn", "(II)J"⟩
abbrev cX10_countFit : ByteArray := prog_1_method_52_code
def yX10_countFit : MethodName := ⟨RX10, "countFit", "()I"⟩
def RX11 : String := "SugarKitchenModel"
def TX11 : u_T := fun k => match k with
  | 0 => ("SugarKitchenModel", "lots", "I", false)
  | 1 => ("SugarKitchenModel", "batches", "I", false)
  | 2 => ("SugarKitchenModel", "pieces", "I", false)
  | 3 => ("SugarKitchenModel", "boxes", "I", false)
  | 4 => ("SugarKitchenModel", "rows", "I", false)
  | 5 => ("SugarKitchenModel", "queued", "I", false)
  | 6 => ("SugarKitchenModel", "left", "[I", true)
  | 7 => ("SugarKitchenModel", "warnings", "[I", true)
  | 8 => ("SugarKitchenModel", "kind", "[I", true)
  | 9 => ("SugarKitchenModel", "mass", "[I", true)
  | 10 => ("SugarKitchenModel", "given", "[I", true)
  | 11 => ("SugarKitchenModel", "lost", "[I", true)
  | 12 => ("SugarKitchenModel", "loss", "[I", true)
  | 13 => ("SugarKitchenModel", "top", "[I", true)
  | 14 => ("SugarKitchenModel", "grained", "[I", true)
  | 15 => ("SugarKitchenModel", "missing", "[I", true)
  | 16 => ("SugarKitchenModel", "cooked", "[Z", true)
  | 17 => ("SugarKitchenModel", "vouched", "[Z", true)
  | 18 => ("SugarKitchenModel", "phase", "[I", true)
  | 19 => ("SugarKitchenModel", "count", "[I", true)
  | 20 => ("SugarKitchenModel", "cutOf", "[I", true)
  | 21 => ("SugarKitchenModel", "dippedOf", "[I", true)
  | 22 => ("SugarKitchenModel", "has", "[I", true)
  | 23 => ("SugarKitchenModel", "heatLength", "[I", true)
  | 24 => ("SugarKitchenModel", "stirLength", "[I", true)
  | 25 => ("SugarKitchenModel", "heat", "[F", true)
  | 26 => ("SugarKitchenModel", "stirred", "[Z", true)
  | 27 => ("SugarKitchenModel", "tableFrom", "[I", true)
  | 28 => ("SugarKitchenModel", "tableLoss", "[I", true)
  | 29 => ("SugarKitchenModel", "grainLow", "I", false)
  | 30 => ("SugarKitchenModel", "grainHigh", "I", false)
  | 31 => ("SugarKitchenModel", "low", "[I", true)
  | 32 => ("SugarKitchenModel", "high", "[I", true)
  | 33 => ("SugarKitchenModel", "degrees", "[I", true)
  | 34 => ("SugarKitchenModel", "washing", "[I", true)
  | 35 => ("SugarKitchenModel", "queue", "[I", true)
  | 36 => ("SugarKitchenModel", "batchOfPiece", "[I", true)
  | 37 => ("SugarKitchenModel", "weight", "[I", true)
  | 38 => ("SugarKitchenModel", "coat", "[I", true)
  | 39 => ("SugarKitchenModel", "temper", "[I", true)
  | 40 => ("SugarKitchenModel", "allowed", "[Z", true)
  | 41 => ("SugarKitchenModel", "whereIs", "[I", true)
  | 42 => ("SugarKitchenModel", "place", "[I", true)
  | 43 => ("SugarKitchenModel", "tray", "[I", true)
  | 44 => ("SugarKitchenModel", "boxWeight", "[I", true)
  | 45 => ("SugarKitchenModel", "choice", "[I", true)
  | 46 => ("SugarKitchenModel", "gone", "[Z", true)
  | 47 => ("SugarKitchenModel", "chosen", "[Z", true)
  | 48 => ("SugarKitchenModel", "choices", "I", false)
  | 49 => ("SugarKitchenModel", "listed", "I", false)
  | 50 => ("SugarKitchenModel", "reach", "[Z", true)
  | 51 => ("SugarKitchenModel", "now", "[I", true)
  | 52 => ("SugarKitchenModel", "nows", "I", false)
  | 53 => ("SugarKitchenModel", "sums", "[I", true)
  | 54 => ("SugarKitchenModel", "parts", "[B", true)
  | _ => ("SugarKitchenModel", "rest", "[I", true)
def tyX11 : Nat → FieldType := fun k => match k with
  | 0 => .int
  | 1 => .int
  | 2 => .int
  | 3 => .int
  | 4 => .int
  | 5 => .int
  | 6 => .array .int
  | 7 => .array .int
  | 8 => .array .int
  | 9 => .array .int
  | 10 => .array .int
  | 11 => .array .int
  | 12 => .array .int
  | 13 => .array .int
  | 14 => .array .int
  | 15 => .array .int
  | 16 => .array .boolean
  | 17 => .array .boolean
  | 18 => .array .int
  | 19 => .array .int
  | 20 => .array .int
  | 21 => .array .int
  | 22 => .array .int
  | 23 => .array .int
  | 24 => .array .int
  | 25 => .array .float
  | 26 => .array .boolean
  | 27 => .array .int
  | 28 => .array .int
  | 29 => .int
  | 30 => .int
  | 31 => .array .int
  | 32 => .array .int
  | 33 => .array .int
  | 34 => .array .int
  | 35 => .array .int
  | 36 => .array .int
  | 37 => .array .int
  | 38 => .array .int
  | 39 => .array .int
  | 40 => .array .boolean
  | 41 => .array .int
  | 42 => .array .int
  | 43 => .array .int
  | 44 => .array .int
  | 45 => .array .int
  | 46 => .array .boolean
  | 47 => .array .boolean
  | 48 => .int
  | 49 => .int
  | 50 => .array .boolean
  | 51 => .array .int
  | 52 => .int
  | 53 => .array .int
  | 54 => .array .byte
  | _ => .array .int
abbrev wsX110 : List Cond := u_ws RX11 TX11 56
theorem nmX11 : ∀ a, a < 56 → ∀ b, b < 56 → a ≠ b → (TX11 a).2.1 ≠ (TX11 b).2.1 := by decide +kernel
theorem tyX11_ok : ∀ k, k < 56 → parseFieldDescriptor (TX11 k).2.2.1 = some (tyX11 k) := by decide +kernel
abbrev cX11_init : ByteArray := prog_13_method_1_code
def yX11_init : MethodName := ⟨RX11, "<init>", "()V"⟩
abbrev cX11_isIn : ByteArray := prog_13_method_2_code
def yX11_isIn : MethodName := ⟨RX11, "isIn", "(III)Z"⟩
abbrev cX11_isBatch : ByteArray := prog_13_method_3_code
def yX11_isBatch : MethodName := ⟨RX11, "isBatch", "(I)Z"⟩
abbrev cX11_lot : ByteArray := prog_13_method_4_code
def yX11_lot : MethodName := ⟨RX11, "lot", "(II)I"⟩
abbrev cX11_batch : ByteArray := prog_13_method_5_code
def yX11_batch : MethodName := ⟨RX11, "batch", "(I)I"⟩
abbrev cX11_put : ByteArray := prog_13_method_6_code
def yX11_put : MethodName := ⟨RX11, "put", "(III)I"⟩
abbrev cX11_row : ByteArray := prog_13_method_7_code
def yX11_row : MethodName := ⟨RX11, "row", "(III)Z"⟩
abbrev cX11_tick : ByteArray := prog_13_method_8_code
def yX11_tick : MethodName := ⟨RX11, "tick", "(III)Z"⟩
abbrev cX11_stir : ByteArray := prog_13_method_9_code
def yX11_stir : MethodName := ⟨RX11, "stir", "(IIZ)Z"⟩
abbrev cX11_table : ByteArray := prog_13_method_10_code
def yX11_table : MethodName := ⟨RX11, "table", "(II)I"⟩
abbrev cX11_grain : ByteArray := prog_13_method_11_code
def yX11_grain : MethodName := ⟨RX11, "grain", "(II)Z"⟩
abbrev cX11_bounds : ByteArray := prog_13_method_12_code
def yX11_bounds : MethodName := ⟨RX11, "bounds", "(III)Z"⟩
abbrev cX11_isRead : ByteArray := prog_13_method_13_code
def yX11_isRead : MethodName := ⟨RX11, "isRead", "(II)Z"⟩
abbrev cX11_degree : ByteArray := prog_13_method_14_code
def yX11_degree : MethodName := ⟨RX11, "degree", "(II)I"⟩
abbrev cX11_lossOf : ByteArray := prog_13_method_15_code
def yX11_lossOf : MethodName := ⟨RX11, "lossOf", "(IZ)I"⟩
abbrev cX11_cook : ByteArray := prog_13_method_16_code
def yX11_cook : MethodName := ⟨RX11, "cook", "(II)I"⟩
abbrev cX11_vouch : ByteArray := prog_13_method_17_code
def yX11_vouch : MethodName := ⟨RX11, "vouch", "(I)Z"⟩
abbrev cX11_why : ByteArray := prog_13_method_18_code
def yX11_why : MethodName := ⟨RX11, "why", "(I)I"⟩
abbrev cX11_isGood : ByteArray := prog_13_method_19_code
def yX11_isGood : MethodName := ⟨RX11, "isGood", "(I)Z"⟩
abbrev cX11_batchOf : ByteArray := prog_13_method_20_code
def yX11_batchOf : MethodName := ⟨RX11, "batchOf", "(II)I"⟩
abbrev cX11_temper : ByteArray := prog_13_method_21_code
def yX11_temper : MethodName := ⟨RX11, "temper", "(IIIIII)Z"⟩
abbrev cX11_heat : ByteArray := prog_13_method_22_code
def yX11_heat : MethodName := ⟨RX11, "heat", "(II)I"⟩
abbrev cX11_cut : ByteArray := prog_13_method_23_code
def yX11_cut : MethodName := ⟨RX11, "cut", "(III)I"⟩
abbrev cX11_isOut : ByteArray := prog_13_method_24_code
def yX11_isOut : MethodName := ⟨RX11, "isOut", "(I)Z"⟩
abbrev cX11_dip : ByteArray := prog_13_method_25_code
def yX11_dip : MethodName := ⟨RX11, "dip", "(III)I"⟩
abbrev cX11_leave : ByteArray := prog_13_method_26_code
def yX11_leave : MethodName := ⟨RX11, "leave", "(I)V"⟩
abbrev cX11_place : ByteArray := prog_13_method_27_code
def yX11_place : MethodName := ⟨RX11, "place", "(III)Z"⟩
abbrev cX11_take : ByteArray := prog_13_method_28_code
def yX11_take : MethodName := ⟨RX11, "take", "(I)Z"⟩
abbrev cX11_allow : ByteArray := prog_13_method_29_code
def yX11_allow : MethodName := ⟨RX11, "allow", "(I)Z"⟩
abbrev cX11_sort : ByteArray := prog_13_method_30_code
def yX11_sort : MethodName := ⟨RX11, "sort", "(I)I"⟩
abbrev cX11_isFit : ByteArray := prog_13_method_31_code
def yX11_isFit : MethodName := ⟨RX11, "isFit", "(I)Z"⟩
abbrev cX11_pieceOf : ByteArray := prog_13_method_32_code
def yX11_pieceOf : MethodName := ⟨RX11, "pieceOf", "(II)I"⟩
abbrev cX11_at : ByteArray := prog_13_method_33_code
def yX11_at : MethodName := ⟨RX11, "at", "(II)I"⟩
abbrev cX11_list : ByteArray := prog_13_method_34_code
def yX11_list : MethodName := ⟨RX11, "list", "(I)V"⟩
abbrev cX11_gather : ByteArray := prog_13_method_35_code
def yX11_gather : MethodName := ⟨RX11, "gather", "()V"⟩
abbrev cX11_leastSum : ByteArray := prog_13_method_36_code
def yX11_leastSum : MethodName := ⟨RX11, "leastSum", "(II)I"⟩
abbrev cX11_reaches8500 : ByteArray := prog_13_method_37_code
def yX11_reaches8500 : MethodName := ⟨RX11, "reaches8500", "()Z"⟩
abbrev cX11_choose : ByteArray := prog_13_method_38_code
def yX11_choose : MethodName := ⟨RX11, "choose", "(I)I"⟩
abbrev cX11_areNumbers : ByteArray := prog_13_method_39_code
def yX11_areNumbers : MethodName := ⟨RX11, "areNumbers", "(III)Z"⟩
abbrev cX11_pack : ByteArray := prog_13_method_40_code
def yX11_pack : MethodName := ⟨RX11, "pack", "(III)I"⟩
abbrev cX11_full : ByteArray := prog_13_method_41_code
def yX11_full : MethodName := ⟨RX11, "full", "(II)I"⟩
abbrev cX11_most : ByteArray := prog_13_method_42_code
def yX11_most : MethodName := ⟨RX11, "most", "(II)I"⟩
abbrev cX11_would : ByteArray := prog_13_method_43_code
def yX11_would : MethodName := ⟨RX11, "would", "(IIII)I"⟩
abbrev cX11_isInBox : ByteArray := prog_13_method_44_code
def yX11_isInBox : MethodName := ⟨RX11, "isInBox", "(II)Z"⟩
abbrev cX11_hasLot : ByteArray := prog_13_method_45_code
def yX11_hasLot : MethodName := ⟨RX11, "hasLot", "(II)Z"⟩
abbrev cX11_pieceHas : ByteArray := prog_13_method_46_code
def yX11_pieceHas : MethodName := ⟨RX11, "pieceHas", "(II)Z"⟩
abbrev cX11_boxHas : ByteArray := prog_13_method_47_code
def yX11_boxHas : MethodName := ⟨RX11, "boxHas", "(II)Z"⟩
abbrev cX11_pieceInBox : ByteArray := prog_13_method_48_code
def yX11_pieceInBox : MethodName := ⟨RX11, "pieceInBox", "(II)I"⟩
abbrev cX11_lotInBox : ByteArray := prog_13_method_49_code
def yX11_lotInBox : MethodName := ⟨RX11, "lotInBox", "(II)I"⟩
abbrev cX11_boxOf : ByteArray := prog_13_method_50_code
def yX11_boxOf : MethodName := ⟨RX11, "boxOf", "(II)I"⟩
abbrev cX11_wash : ByteArray := prog_13_method_51_code
def yX11_wash : MethodName := ⟨RX11, "wash", "(III)Z"⟩
abbrev cX11_queue : ByteArray := prog_13_method_52_code
def yX11_queue : MethodName := ⟨RX11, "queue", "(I)I"⟩
abbrev cX11_isNut : ByteArray := prog_13_method_53_code
def yX11_isNut : MethodName := ⟨RX11, "isNut", "(I)Z"⟩
abbrev cX11_mayCome : ByteArray := prog_13_method_54_code
def yX11_mayCome : MethodName := ⟨RX11, "mayCome", "(IIZ)Z"⟩
abbrev cX11_minutes : ByteArray := prog_13_method_55_code
def yX11_minutes : MethodName := ⟨RX11, "minutes", "(II)I"⟩
abbrev cX11_restOf : ByteArray := prog_13_method_56_code
def yX11_restOf : MethodName := ⟨RX11, "restOf", "(II)I"⟩
abbrev cX11_reckon : ByteArray := prog_13_method_57_code
def yX11_reckon : MethodName := ⟨RX11, "reckon", "(Z)V"⟩
abbrev cX11_order : ByteArray := prog_13_method_58_code
def yX11_order : MethodName := ⟨RX11, "order", "(ZI)I"⟩
abbrev cX11_hasSome : ByteArray := prog_13_method_59_code
def yX11_hasSome : MethodName := ⟨RX11, "hasSome", "(III)Z"⟩
abbrev cX11_recall : ByteArray := prog_13_method_60_code
def yX11_recall : MethodName := ⟨RX11, "recall", "(III)I"⟩
abbrev cX11_about : ByteArray := prog_13_method_61_code
def yX11_about : MethodName := ⟨RX11, "about", "(I)I"⟩
abbrev cX11_left : ByteArray := prog_13_method_62_code
def yX11_left : MethodName := ⟨RX11, "left", "(I)I"⟩
def RJxf58ca : String := "java/lang/Float"
def TJxf58ca : u_T := fun k => match k with
  | _ => ("", "", "", false)
def tyJxf58ca : Nat → FieldType := fun k => match k with
  | _ => .int
abbrev wsJxf58ca0 : List Cond := u_ws RJxf58ca TJxf58ca 0
theorem nmJxf58ca : ∀ a, a < 0 → ∀ b, b < 0 → a ≠ b → (TJxf58ca a).2.1 ≠ (TJxf58ca b).2.1 := by decide +kernel
theorem tyJxf58ca_ok : ∀ k, k < 0 → parseFieldDescriptor (TJxf58ca k).2.2.1 = some (tyJxf58ca k) := by decide +kernel
def RJ13 : String := "java/lang/Long"
def TJ13 : u_T := fun k => match k with
  | _ => ("", "", "", false)
def tyJ13 : Nat → FieldType := fun k => match k with
  | _ => .int
abbrev wsJ130 : List Cond := u_ws RJ13 TJ13 0
theorem nmJ13 : ∀ a, a < 0 → ∀ b, b < 0 → a ≠ b → (TJ13 a).2.1 ≠ (TJ13 b).2.1 := by decide +kernel
theorem tyJ13_ok : ∀ k, k < 0 → parseFieldDescriptor (TJ13 k).2.2.1 = some (tyJ13 k) := by decide +kernel
abbrev cJ13_bitCount_95d88 : ByteArray := prog_15_method_50_code
def yJ13_bitCount_95d88 : MethodName := ⟨RJ13, "bitCount", "(J)I"⟩
def RJ9 : String := "java/lang/Math"
def TJ9 : u_T := fun k => match k with
  | _ => ("", "", "", false)
def tyJ9 : Nat → FieldType := fun k => match k with
  | _ => .int
abbrev wsJ90 : List Cond := u_ws RJ9 TJ9 0
theorem nmJ9 : ∀ a, a < 0 → ∀ b, b < 0 → a ≠ b → (TJ9 a).2.1 ≠ (TJ9 b).2.1 := by decide +kernel
theorem tyJ9_ok : ∀ k, k < 0 → parseFieldDescriptor (TJ9 k).2.2.1 = some (tyJ9 k) := by decide +kernel
abbrev cJ9_max_7cf53 : ByteArray := prog_16_method_65_code
def yJ9_max_7cf53 : MethodName := ⟨RJ9, "max", "(II)I"⟩
abbrev cJ9_min_7cf53 : ByteArray := prog_16_method_69_code
def yJ9_min_7cf53 : MethodName := ⟨RJ9, "min", "(II)I"⟩
def RJ10 : String := "java/lang/System"
def TJ10 : u_T := fun k => match k with
  | _ => ("", "", "", false)
def tyJ10 : Nat → FieldType := fun k => match k with
  | _ => .int
abbrev wsJ100 : List Cond := u_ws RJ10 TJ10 0
theorem nmJ10 : ∀ a, a < 0 → ∀ b, b < 0 → a ≠ b → (TJ10 a).2.1 ≠ (TJ10 b).2.1 := by decide +kernel
theorem tyJ10_ok : ∀ k, k < 0 → parseFieldDescriptor (TJ10 k).2.2.1 = some (tyJ10 k) := by decide +kernel
def RJ7 : String := "java/util/Arrays"
def TJ7 : u_T := fun k => match k with
  | _ => ("", "", "", false)
def tyJ7 : Nat → FieldType := fun k => match k with
  | _ => .int
abbrev wsJ70 : List Cond := u_ws RJ7 TJ7 0
theorem nmJ7 : ∀ a, a < 0 → ∀ b, b < 0 → a ≠ b → (TJ7 a).2.1 ≠ (TJ7 b).2.1 := by decide +kernel
theorem tyJ7_ok : ∀ k, k < 0 → parseFieldDescriptor (TJ7 k).2.2.1 = some (tyJ7 k) := by decide +kernel
abbrev cJ7_fill_53178 : ByteArray := prog_18_method_103_code
def yJ7_fill_53178 : MethodName := ⟨RJ7, "fill", "([II)V"⟩
def RL : String := "SugarKitchenLaw"
abbrev cL_law : ByteArray := code
def yL_law : MethodName := ⟨RL, "law", "([I)Z"⟩
abbrev vwCl : List vw_C := [(RX0, TX0, 16), (RX1, TX1, 6), (RX2, TX2, 6), (RX3, TX3, 13), (RX4, TX4, 2), (RX5, TX5, 5), (RX6, TX6, 9), (RX7, TX7, 4), (RX8, TX8, 7), (RX9, TX9, 6), (RX10, TX10, 15), (RX11, TX11, 56)]
end
section
/-- the words that a call hands on -/
def gT : List Cond := lw_tbl.filter goodWord
theorem gT_mem {w : Cond} : w ∈ gT ↔ w ∈ lw_tbl ∧ goodWord w = true := List.mem_filter
theorem gI (i : Nat) {w : Cond} (h : tables_1[i]? = some w) (g : goodWord w = true) : w ∈ gT := gT_mem.mpr ⟨List.mem_append_right _ (List.mem_of_getElem? h), g⟩
theorem gP (i : Nat) {w : Cond} (h : (k2_sels lw_privs)[i]? = some w) (g : goodWord w = true) : w ∈ gT := gT_mem.mpr ⟨List.mem_append_left _ (List.mem_of_getElem? h), g⟩
theorem mw_0 : ((Jvm.Cond.initialized "SugarKitchenLaw") : Cond) ∈ gT := gI 0 (by decide +kernel) rfl
theorem mw_1 : ((Jvm.Cond.initialized "SugarKitchen") : Cond) ∈ gT := gI 1 (by decide +kernel) rfl
theorem mw_2 : ((Jvm.Cond.initialized "SugarKitchen$Rules") : Cond) ∈ gT := gI 2 (by decide +kernel) rfl
theorem mw_3 : ((Jvm.Cond.initialized "java/util/Arrays") : Cond) ∈ gT := gI 3 (by decide +kernel) rfl
theorem mw_4 : ((Jvm.Cond.initialized "SugarKitchen$Tempering") : Cond) ∈ gT := gI 4 (by decide +kernel) rfl
theorem mw_5 : ((Jvm.Cond.initialized "SugarKitchen$Kettle") : Cond) ∈ gT := gI 5 (by decide +kernel) rfl
theorem mw_6 : ((Jvm.Cond.initialized "SugarKitchen$Choice") : Cond) ∈ gT := gI 6 (by decide +kernel) rfl
theorem mw_7 : ((Jvm.Cond.initialized "SugarKitchen$Parting") : Cond) ∈ gT := gI 7 (by decide +kernel) rfl
theorem mw_8 : ((Jvm.Cond.initialized "SugarKitchenModel") : Cond) ∈ gT := gI 8 (by decide +kernel) rfl
theorem mw_9 : ((Jvm.Cond.initialized "SugarKitchen$Lot") : Cond) ∈ gT := gI 9 (by decide +kernel) rfl
theorem mw_10 : ((Jvm.Cond.initialized "SugarKitchen$Batch") : Cond) ∈ gT := gI 10 (by decide +kernel) rfl
theorem mw_11 : ((Jvm.Cond.initialized "SugarKitchen$Rows") : Cond) ∈ gT := gI 11 (by decide +kernel) rfl
theorem mw_12 : ((Jvm.Cond.initialized "java/lang/Math") : Cond) ∈ gT := gI 12 (by decide +kernel) rfl
theorem mw_13 : ((Jvm.Cond.initialized "java/lang/Float") : Cond) ∈ gT := gI 13 (by decide +kernel) rfl
theorem mw_14 : ((Jvm.Cond.initialized "SugarKitchen$Piece") : Cond) ∈ gT := gI 14 (by decide +kernel) rfl
theorem mw_15 : ((Jvm.Cond.initialized "java/lang/System") : Cond) ∈ gT := gI 15 (by decide +kernel) rfl
theorem mw_16 : ((Jvm.Cond.initialized "SugarKitchen$Box") : Cond) ∈ gT := gI 16 (by decide +kernel) rfl
theorem mw_17 : ((Jvm.Cond.initialized "java/lang/Long") : Cond) ∈ gT := gI 17 (by decide +kernel) rfl
theorem mw_18 : ((Jvm.Cond.classLink "SugarKitchenLaw" (7 : Nat) "SugarKitchen") : Cond) ∈ gT := gI 18 (by decide +kernel) rfl
theorem mw_19 : ((Jvm.Cond.instantiable "SugarKitchen" (15 : Nat)) : Cond) ∈ gT := gI 19 (by decide +kernel) rfl
theorem mw_20 : ((Jvm.Cond.methodLink "SugarKitchenLaw" (9 : Nat) ({ cls := "SugarKitchen", name := "<init>", desc := "()V" } : Jvm.MethodName)) : Cond) ∈ gT := gI 20 (by decide +kernel) rfl
theorem mw_21 : ((Jvm.Cond.instanceMethod ({ cls := "SugarKitchen", name := "<init>", desc := "()V" } : Jvm.MethodName)) : Cond) ∈ gT := gI 21 (by decide +kernel) rfl
set_option maxRecDepth 100000 in
theorem mw_22 : ((Jvm.Cond.code ({ cls := "SugarKitchen", name := "<init>", desc := "()V" } : Jvm.MethodName) prog_1_method_1_code (1 : Nat) (Option.none : Option Jvm.ClassFile.FieldType)) : Cond) ∈ gT := gI 22 rfl rfl
theorem mw_23 : ((Jvm.Cond.methodLink "SugarKitchen" (3 : Nat) ({ cls := "java/lang/Object", name := "<init>", desc := "()V" } : Jvm.MethodName)) : Cond) ∈ gT := gI 23 (by decide +kernel) rfl
theorem mw_24 : ((Jvm.Cond.instanceMethod ({ cls := "java/lang/Object", name := "<init>", desc := "()V" } : Jvm.MethodName)) : Cond) ∈ gT := gI 24 (by decide +kernel) rfl
set_option maxRecDepth 100000 in
theorem mw_25 : ((Jvm.Cond.code ({ cls := "java/lang/Object", name := "<init>", desc := "()V" } : Jvm.MethodName) object_method_1_code (1 : Nat) (Option.none : Option Jvm.ClassFile.FieldType)) : Cond) ∈ gT := gI 25 rfl rfl
theorem mw_26 : ((Jvm.Cond.classLink "SugarKitchen" (9 : Nat) "SugarKitchen$Lot") : Cond) ∈ gT := gI 26 (by decide +kernel) rfl
theorem mt_27 : ((Jvm.Cond.arrayOver (Jvm.ClassFile.FieldType.object "SugarKitchen$Lot")) : Cond) ∈ lw_tbl := List.mem_append_right _ (List.mem_of_getElem? (i := 27) (by decide +kernel))
theorem mw_28 : ((Jvm.Cond.classLink "SugarKitchen" (15 : Nat) "SugarKitchen$Batch") : Cond) ∈ gT := gI 28 (by decide +kernel) rfl
theorem mt_29 : ((Jvm.Cond.arrayOver (Jvm.ClassFile.FieldType.object "SugarKitchen$Batch")) : Cond) ∈ lw_tbl := List.mem_append_right _ (List.mem_of_getElem? (i := 29) (by decide +kernel))
theorem mw_30 : ((Jvm.Cond.classLink "SugarKitchen" (21 : Nat) "SugarKitchen$Piece") : Cond) ∈ gT := gI 30 (by decide +kernel) rfl
theorem mt_31 : ((Jvm.Cond.arrayOver (Jvm.ClassFile.FieldType.object "SugarKitchen$Piece")) : Cond) ∈ lw_tbl := List.mem_append_right _ (List.mem_of_getElem? (i := 31) (by decide +kernel))
theorem mw_32 : ((Jvm.Cond.classLink "SugarKitchen" (27 : Nat) "SugarKitchen$Box") : Cond) ∈ gT := gI 32 (by decide +kernel) rfl
theorem mt_33 : ((Jvm.Cond.arrayOver (Jvm.ClassFile.FieldType.object "SugarKitchen$Box")) : Cond) ∈ lw_tbl := List.mem_append_right _ (List.mem_of_getElem? (i := 33) (by decide +kernel))
theorem mw_34 : ((Jvm.Cond.classLink "SugarKitchen" (40 : Nat) "SugarKitchen$Rules") : Cond) ∈ gT := gI 34 (by decide +kernel) rfl
theorem mw_35 : ((Jvm.Cond.instantiable "SugarKitchen$Rules" (7 : Nat)) : Cond) ∈ gT := gI 35 (by decide +kernel) rfl
theorem mw_36 : ((Jvm.Cond.methodLink "SugarKitchen" (42 : Nat) ({ cls := "SugarKitchen$Rules", name := "<init>", desc := "()V" } : Jvm.MethodName)) : Cond) ∈ gT := gI 36 (by decide +kernel) rfl
theorem mw_37 : ((Jvm.Cond.instanceMethod ({ cls := "SugarKitchen$Rules", name := "<init>", desc := "()V" } : Jvm.MethodName)) : Cond) ∈ gT := gI 37 (by decide +kernel) rfl
set_option maxRecDepth 100000 in
theorem mw_38 : ((Jvm.Cond.code ({ cls := "SugarKitchen$Rules", name := "<init>", desc := "()V" } : Jvm.MethodName) prog_10_method_1_code (1 : Nat) (Option.none : Option Jvm.ClassFile.FieldType)) : Cond) ∈ gT := gI 38 rfl rfl
theorem mw_39 : ((Jvm.Cond.methodLink "SugarKitchen$Rules" (3 : Nat) ({ cls := "java/lang/Object", name := "<init>", desc := "()V" } : Jvm.MethodName)) : Cond) ∈ gT := gI 39 (by decide +kernel) rfl
theorem mw_40 : ((Jvm.Cond.methodLink "SugarKitchen$Rules" (31 : Nat) ({ cls := "java/util/Arrays", name := "fill", desc := "([II)V" } : Jvm.MethodName)) : Cond) ∈ gT := gI 40 (by decide +kernel) rfl
theorem mw_41 : ((Jvm.Cond.static ({ cls := "java/util/Arrays", name := "fill", desc := "([II)V" } : Jvm.MethodName)) : Cond) ∈ gT := gI 41 (by decide +kernel) rfl
set_option maxRecDepth 100000 in
theorem mw_42 : ((Jvm.Cond.code ({ cls := "java/util/Arrays", name := "fill", desc := "([II)V" } : Jvm.MethodName) prog_18_method_103_code (4 : Nat) (Option.none : Option Jvm.ClassFile.FieldType)) : Cond) ∈ gT := gI 42 rfl rfl
theorem mw_43 : ((Jvm.Cond.fieldLink "SugarKitchen$Rules" (11 : Nat) "SugarKitchen$Rules" "fromDegree" "[I") : Cond) ∈ gT := gI 43 (by decide +kernel) rfl
theorem mw_44 : ((Jvm.Cond.fieldLink "SugarKitchen$Rules" (15 : Nat) "SugarKitchen$Rules" "lossThere" "[I") : Cond) ∈ gT := gI 44 (by decide +kernel) rfl
theorem mw_45 : ((Jvm.Cond.fieldLink "SugarKitchen$Rules" (37 : Nat) "SugarKitchen$Rules" "losses" "I") : Cond) ∈ gT := gI 45 (by decide +kernel) rfl
theorem mw_46 : ((Jvm.Cond.fieldLink "SugarKitchen" (337 : Nat) "SugarKitchen$Rules" "losses" "I") : Cond) ∈ gT := gI 46 (by decide +kernel) rfl
theorem mw_47 : ((Jvm.Cond.fieldLink "SugarKitchen$Rules" (18 : Nat) "SugarKitchen$Rules" "grainLow" "I") : Cond) ∈ gT := gI 47 (by decide +kernel) rfl
theorem mw_48 : ((Jvm.Cond.fieldLink "SugarKitchen" (157 : Nat) "SugarKitchen$Rules" "grainLow" "I") : Cond) ∈ gT := gI 48 (by decide +kernel) rfl
theorem mw_49 : ((Jvm.Cond.fieldLink "SugarKitchen$Rules" (22 : Nat) "SugarKitchen$Rules" "grainHigh" "I") : Cond) ∈ gT := gI 49 (by decide +kernel) rfl
theorem mw_50 : ((Jvm.Cond.fieldLink "SugarKitchen" (160 : Nat) "SugarKitchen$Rules" "grainHigh" "I") : Cond) ∈ gT := gI 50 (by decide +kernel) rfl
theorem mw_51 : ((Jvm.Cond.fieldLink "SugarKitchen$Rules" (25 : Nat) "SugarKitchen$Rules" "leastLoss" "[I") : Cond) ∈ gT := gI 51 (by decide +kernel) rfl
theorem mw_52 : ((Jvm.Cond.fieldLink "SugarKitchen$Batch" (85 : Nat) "SugarKitchen$Rules" "leastLoss" "[I") : Cond) ∈ gT := gI 52 (by decide +kernel) rfl
theorem mw_53 : ((Jvm.Cond.fieldLink "SugarKitchen" (163 : Nat) "SugarKitchen$Rules" "leastLoss" "[I") : Cond) ∈ gT := gI 53 (by decide +kernel) rfl
theorem mw_54 : ((Jvm.Cond.fieldLink "SugarKitchen$Rules" (28 : Nat) "SugarKitchen$Rules" "mostLoss" "[I") : Cond) ∈ gT := gI 54 (by decide +kernel) rfl
theorem mw_55 : ((Jvm.Cond.fieldLink "SugarKitchen$Batch" (89 : Nat) "SugarKitchen$Rules" "mostLoss" "[I") : Cond) ∈ gT := gI 55 (by decide +kernel) rfl
theorem mw_56 : ((Jvm.Cond.fieldLink "SugarKitchen" (166 : Nat) "SugarKitchen$Rules" "mostLoss" "[I") : Cond) ∈ gT := gI 56 (by decide +kernel) rfl
theorem mw_57 : ((Jvm.Cond.laysFinal "SugarKitchen$Rules" "SugarKitchen$Rules" "fromDegree" "[I") : Cond) ∈ gT := gI 57 (by decide +kernel) rfl
theorem mw_58 : ((Jvm.Cond.soleField "SugarKitchen$Rules" "fromDegree") : Cond) ∈ gT := gI 58 (by decide +kernel) rfl
theorem mw_59 : ((Jvm.Cond.laysFinal "SugarKitchen$Rules" "SugarKitchen$Rules" "lossThere" "[I") : Cond) ∈ gT := gI 59 (by decide +kernel) rfl
theorem mw_60 : ((Jvm.Cond.soleField "SugarKitchen$Rules" "lossThere") : Cond) ∈ gT := gI 60 (by decide +kernel) rfl
theorem mw_61 : ((Jvm.Cond.lays "SugarKitchen$Rules" "SugarKitchen$Rules" "losses" "I") : Cond) ∈ gT := gI 61 (by decide +kernel) rfl
theorem mw_62 : ((Jvm.Cond.soleField "SugarKitchen$Rules" "losses") : Cond) ∈ gT := gI 62 (by decide +kernel) rfl
theorem mw_63 : ((Jvm.Cond.lays "SugarKitchen$Rules" "SugarKitchen$Rules" "grainLow" "I") : Cond) ∈ gT := gI 63 (by decide +kernel) rfl
theorem mw_64 : ((Jvm.Cond.soleField "SugarKitchen$Rules" "grainLow") : Cond) ∈ gT := gI 64 (by decide +kernel) rfl
theorem mw_65 : ((Jvm.Cond.lays "SugarKitchen$Rules" "SugarKitchen$Rules" "grainHigh" "I") : Cond) ∈ gT := gI 65 (by decide +kernel) rfl
theorem mw_66 : ((Jvm.Cond.soleField "SugarKitchen$Rules" "grainHigh") : Cond) ∈ gT := gI 66 (by decide +kernel) rfl
theorem mw_67 : ((Jvm.Cond.laysFinal "SugarKitchen$Rules" "SugarKitchen$Rules" "leastLoss" "[I") : Cond) ∈ gT := gI 67 (by decide +kernel) rfl
theorem mw_68 : ((Jvm.Cond.soleField "SugarKitchen$Rules" "leastLoss") : Cond) ∈ gT := gI 68 (by decide +kernel) rfl
theorem mw_69 : ((Jvm.Cond.laysFinal "SugarKitchen$Rules" "SugarKitchen$Rules" "mostLoss" "[I") : Cond) ∈ gT := gI 69 (by decide +kernel) rfl
theorem mw_70 : ((Jvm.Cond.soleField "SugarKitchen$Rules" "mostLoss") : Cond) ∈ gT := gI 70 (by decide +kernel) rfl
theorem mw_71 : ((Jvm.Cond.superclass "SugarKitchen$Rules" "java/lang/Object") : Cond) ∈ gT := gI 71 (by decide +kernel) rfl
theorem mw_72 : ((Jvm.Cond.arrayClass Jvm.ClassFile.FieldType.int) : Cond) ∈ gT := gI 72 (by decide +kernel) rfl
theorem mw_73 : ((Jvm.Cond.classLink "SugarKitchen" (47 : Nat) "SugarKitchen$Tempering") : Cond) ∈ gT := gI 73 (by decide +kernel) rfl
theorem mw_74 : ((Jvm.Cond.instantiable "SugarKitchen$Tempering" (6 : Nat)) : Cond) ∈ gT := gI 74 (by decide +kernel) rfl
theorem mw_75 : ((Jvm.Cond.methodLink "SugarKitchen" (49 : Nat) ({ cls := "SugarKitchen$Tempering", name := "<init>", desc := "()V" } : Jvm.MethodName)) : Cond) ∈ gT := gI 75 (by decide +kernel) rfl
theorem mw_76 : ((Jvm.Cond.instanceMethod ({ cls := "SugarKitchen$Tempering", name := "<init>", desc := "()V" } : Jvm.MethodName)) : Cond) ∈ gT := gI 76 (by decide +kernel) rfl
set_option maxRecDepth 100000 in
theorem mw_77 : ((Jvm.Cond.code ({ cls := "SugarKitchen$Tempering", name := "<init>", desc := "()V" } : Jvm.MethodName) prog_11_method_1_code (1 : Nat) (Option.none : Option Jvm.ClassFile.FieldType)) : Cond) ∈ gT := gI 77 rfl rfl
theorem mw_78 : ((Jvm.Cond.methodLink "SugarKitchen$Tempering" (3 : Nat) ({ cls := "java/lang/Object", name := "<init>", desc := "()V" } : Jvm.MethodName)) : Cond) ∈ gT := gI 78 (by decide +kernel) rfl
theorem mw_79 : ((Jvm.Cond.fieldLink "SugarKitchen$Tempering" (9 : Nat) "SugarKitchen$Tempering" "melted" "I") : Cond) ∈ gT := gI 79 (by decide +kernel) rfl
theorem mw_80 : ((Jvm.Cond.fieldLink "SugarKitchen$Tempering" (15 : Nat) "SugarKitchen$Tempering" "cooled" "I") : Cond) ∈ gT := gI 80 (by decide +kernel) rfl
theorem mw_81 : ((Jvm.Cond.fieldLink "SugarKitchen$Tempering" (18 : Nat) "SugarKitchen$Tempering" "warmed" "I") : Cond) ∈ gT := gI 81 (by decide +kernel) rfl
theorem mw_82 : ((Jvm.Cond.fieldLink "SugarKitchen$Tempering" (21 : Nat) "SugarKitchen$Tempering" "tooWarm" "I") : Cond) ∈ gT := gI 82 (by decide +kernel) rfl
theorem mw_83 : ((Jvm.Cond.fieldLink "SugarKitchen$Tempering" (24 : Nat) "SugarKitchen$Tempering" "leastWarm" "I") : Cond) ∈ gT := gI 83 (by decide +kernel) rfl
theorem mw_84 : ((Jvm.Cond.fieldLink "SugarKitchen$Tempering" (27 : Nat) "SugarKitchen$Tempering" "ticks" "I") : Cond) ∈ gT := gI 84 (by decide +kernel) rfl
theorem mw_85 : ((Jvm.Cond.lays "SugarKitchen$Tempering" "SugarKitchen$Tempering" "melted" "I") : Cond) ∈ gT := gI 85 (by decide +kernel) rfl
theorem mw_86 : ((Jvm.Cond.soleField "SugarKitchen$Tempering" "melted") : Cond) ∈ gT := gI 86 (by decide +kernel) rfl
theorem mw_87 : ((Jvm.Cond.lays "SugarKitchen$Tempering" "SugarKitchen$Tempering" "cooled" "I") : Cond) ∈ gT := gI 87 (by decide +kernel) rfl
theorem mw_88 : ((Jvm.Cond.soleField "SugarKitchen$Tempering" "cooled") : Cond) ∈ gT := gI 88 (by decide +kernel) rfl
theorem mw_89 : ((Jvm.Cond.lays "SugarKitchen$Tempering" "SugarKitchen$Tempering" "warmed" "I") : Cond) ∈ gT := gI 89 (by decide +kernel) rfl
theorem mw_90 : ((Jvm.Cond.soleField "SugarKitchen$Tempering" "warmed") : Cond) ∈ gT := gI 90 (by decide +kernel) rfl
theorem mw_91 : ((Jvm.Cond.lays "SugarKitchen$Tempering" "SugarKitchen$Tempering" "tooWarm" "I") : Cond) ∈ gT := gI 91 (by decide +kernel) rfl
theorem mw_92 : ((Jvm.Cond.soleField "SugarKitchen$Tempering" "tooWarm") : Cond) ∈ gT := gI 92 (by decide +kernel) rfl
theorem mw_93 : ((Jvm.Cond.lays "SugarKitchen$Tempering" "SugarKitchen$Tempering" "leastWarm" "I") : Cond) ∈ gT := gI 93 (by decide +kernel) rfl
theorem mw_94 : ((Jvm.Cond.soleField "SugarKitchen$Tempering" "leastWarm") : Cond) ∈ gT := gI 94 (by decide +kernel) rfl
theorem mw_95 : ((Jvm.Cond.lays "SugarKitchen$Tempering" "SugarKitchen$Tempering" "ticks" "I") : Cond) ∈ gT := gI 95 (by decide +kernel) rfl
theorem mw_96 : ((Jvm.Cond.soleField "SugarKitchen$Tempering" "ticks") : Cond) ∈ gT := gI 96 (by decide +kernel) rfl
theorem mw_97 : ((Jvm.Cond.superclass "SugarKitchen$Tempering" "java/lang/Object") : Cond) ∈ gT := gI 97 (by decide +kernel) rfl
theorem mw_98 : ((Jvm.Cond.classLink "SugarKitchen" (54 : Nat) "SugarKitchen$Kettle") : Cond) ∈ gT := gI 98 (by decide +kernel) rfl
theorem mw_99 : ((Jvm.Cond.instantiable "SugarKitchen$Kettle" (13 : Nat)) : Cond) ∈ gT := gI 99 (by decide +kernel) rfl
theorem mw_100 : ((Jvm.Cond.methodLink "SugarKitchen" (56 : Nat) ({ cls := "SugarKitchen$Kettle", name := "<init>", desc := "()V" } : Jvm.MethodName)) : Cond) ∈ gT := gI 100 (by decide +kernel) rfl
theorem mw_101 : ((Jvm.Cond.instanceMethod ({ cls := "SugarKitchen$Kettle", name := "<init>", desc := "()V" } : Jvm.MethodName)) : Cond) ∈ gT := gI 101 (by decide +kernel) rfl
set_option maxRecDepth 100000 in
theorem mw_102 : ((Jvm.Cond.code ({ cls := "SugarKitchen$Kettle", name := "<init>", desc := "()V" } : Jvm.MethodName) prog_5_method_1_code (1 : Nat) (Option.none : Option Jvm.ClassFile.FieldType)) : Cond) ∈ gT := gI 102 rfl rfl
theorem mw_103 : ((Jvm.Cond.methodLink "SugarKitchen$Kettle" (3 : Nat) ({ cls := "java/lang/Object", name := "<init>", desc := "()V" } : Jvm.MethodName)) : Cond) ∈ gT := gI 103 (by decide +kernel) rfl
theorem mw_104 : ((Jvm.Cond.fieldLink "SugarKitchen$Kettle" (9 : Nat) "SugarKitchen$Kettle" "washing" "[I") : Cond) ∈ gT := gI 104 (by decide +kernel) rfl
theorem mw_105 : ((Jvm.Cond.fieldLink "SugarKitchen$Kettle" (15 : Nat) "SugarKitchen$Kettle" "queued" "[I") : Cond) ∈ gT := gI 105 (by decide +kernel) rfl
theorem mw_106 : ((Jvm.Cond.fieldLink "SugarKitchen$Kettle" (18 : Nat) "SugarKitchen$Kettle" "kinds" "[I") : Cond) ∈ gT := gI 106 (by decide +kernel) rfl
theorem mw_107 : ((Jvm.Cond.fieldLink "SugarKitchen$Kettle" (41 : Nat) "SugarKitchen$Kettle" "many" "I") : Cond) ∈ gT := gI 107 (by decide +kernel) rfl
theorem mw_108 : ((Jvm.Cond.fieldLink "SugarKitchen" (329 : Nat) "SugarKitchen$Kettle" "many" "I") : Cond) ∈ gT := gI 108 (by decide +kernel) rfl
theorem mw_109 : ((Jvm.Cond.fieldLink "SugarKitchen$Kettle" (21 : Nat) "SugarKitchen$Kettle" "ordered" "[I") : Cond) ∈ gT := gI 109 (by decide +kernel) rfl
theorem mw_110 : ((Jvm.Cond.fieldLink "SugarKitchen" (330 : Nat) "SugarKitchen$Kettle" "ordered" "[I") : Cond) ∈ gT := gI 110 (by decide +kernel) rfl
theorem mw_111 : ((Jvm.Cond.fieldLink "SugarKitchen$Kettle" (48 : Nat) "SugarKitchen$Kettle" "orderMinutes" "I") : Cond) ∈ gT := gI 111 (by decide +kernel) rfl
theorem mw_112 : ((Jvm.Cond.fieldLink "SugarKitchen" (326 : Nat) "SugarKitchen$Kettle" "orderMinutes" "I") : Cond) ∈ gT := gI 112 (by decide +kernel) rfl
theorem mw_113 : ((Jvm.Cond.fieldLink "SugarKitchen$Kettle" (37 : Nat) "SugarKitchen$Kettle" "known" "Z") : Cond) ∈ gT := gI 113 (by decide +kernel) rfl
theorem mw_114 : ((Jvm.Cond.fieldLink "SugarKitchen$Kettle" (45 : Nat) "SugarKitchen$Kettle" "knownNutsLast" "Z") : Cond) ∈ gT := gI 114 (by decide +kernel) rfl
theorem mw_115 : ((Jvm.Cond.fieldLink "SugarKitchen$Kettle" (24 : Nat) "SugarKitchen$Kettle" "used" "[Z") : Cond) ∈ gT := gI 115 (by decide +kernel) rfl
theorem mw_116 : ((Jvm.Cond.fieldLink "SugarKitchen$Kettle" (28 : Nat) "SugarKitchen$Kettle" "counts" "[I") : Cond) ∈ gT := gI 116 (by decide +kernel) rfl
theorem mw_117 : ((Jvm.Cond.fieldLink "SugarKitchen$Kettle" (31 : Nat) "SugarKitchen$Kettle" "strides" "[I") : Cond) ∈ gT := gI 117 (by decide +kernel) rfl
theorem mw_118 : ((Jvm.Cond.fieldLink "SugarKitchen$Kettle" (34 : Nat) "SugarKitchen$Kettle" "waiting" "[I") : Cond) ∈ gT := gI 118 (by decide +kernel) rfl
theorem mw_119 : ((Jvm.Cond.fieldLink "SugarKitchen$Kettle" (74 : Nat) "SugarKitchen$Kettle" "least" "[I") : Cond) ∈ gT := gI 119 (by decide +kernel) rfl
theorem mw_120 : ((Jvm.Cond.laysFinal "SugarKitchen$Kettle" "SugarKitchen$Kettle" "washing" "[I") : Cond) ∈ gT := gI 120 (by decide +kernel) rfl
theorem mw_121 : ((Jvm.Cond.soleField "SugarKitchen$Kettle" "washing") : Cond) ∈ gT := gI 121 (by decide +kernel) rfl
theorem mw_122 : ((Jvm.Cond.laysFinal "SugarKitchen$Kettle" "SugarKitchen$Kettle" "queued" "[I") : Cond) ∈ gT := gI 122 (by decide +kernel) rfl
theorem mw_123 : ((Jvm.Cond.soleField "SugarKitchen$Kettle" "queued") : Cond) ∈ gT := gI 123 (by decide +kernel) rfl
theorem mw_124 : ((Jvm.Cond.laysFinal "SugarKitchen$Kettle" "SugarKitchen$Kettle" "kinds" "[I") : Cond) ∈ gT := gI 124 (by decide +kernel) rfl
theorem mw_125 : ((Jvm.Cond.soleField "SugarKitchen$Kettle" "kinds") : Cond) ∈ gT := gI 125 (by decide +kernel) rfl
theorem mw_126 : ((Jvm.Cond.lays "SugarKitchen$Kettle" "SugarKitchen$Kettle" "many" "I") : Cond) ∈ gT := gI 126 (by decide +kernel) rfl
theorem mw_127 : ((Jvm.Cond.soleField "SugarKitchen$Kettle" "many") : Cond) ∈ gT := gI 127 (by decide +kernel) rfl
theorem mw_128 : ((Jvm.Cond.laysFinal "SugarKitchen$Kettle" "SugarKitchen$Kettle" "ordered" "[I") : Cond) ∈ gT := gI 128 (by decide +kernel) rfl
theorem mw_129 : ((Jvm.Cond.soleField "SugarKitchen$Kettle" "ordered") : Cond) ∈ gT := gI 129 (by decide +kernel) rfl
theorem mw_130 : ((Jvm.Cond.lays "SugarKitchen$Kettle" "SugarKitchen$Kettle" "orderMinutes" "I") : Cond) ∈ gT := gI 130 (by decide +kernel) rfl
theorem mw_131 : ((Jvm.Cond.soleField "SugarKitchen$Kettle" "orderMinutes") : Cond) ∈ gT := gI 131 (by decide +kernel) rfl
theorem mw_132 : ((Jvm.Cond.lays "SugarKitchen$Kettle" "SugarKitchen$Kettle" "known" "Z") : Cond) ∈ gT := gI 132 (by decide +kernel) rfl
theorem mw_133 : ((Jvm.Cond.soleField "SugarKitchen$Kettle" "known") : Cond) ∈ gT := gI 133 (by decide +kernel) rfl
theorem mw_134 : ((Jvm.Cond.lays "SugarKitchen$Kettle" "SugarKitchen$Kettle" "knownNutsLast" "Z") : Cond) ∈ gT := gI 134 (by decide +kernel) rfl
theorem mw_135 : ((Jvm.Cond.soleField "SugarKitchen$Kettle" "knownNutsLast") : Cond) ∈ gT := gI 135 (by decide +kernel) rfl
theorem mw_136 : ((Jvm.Cond.laysFinal "SugarKitchen$Kettle" "SugarKitchen$Kettle" "used" "[Z") : Cond) ∈ gT := gI 136 (by decide +kernel) rfl
theorem mw_137 : ((Jvm.Cond.soleField "SugarKitchen$Kettle" "used") : Cond) ∈ gT := gI 137 (by decide +kernel) rfl
theorem mw_138 : ((Jvm.Cond.laysFinal "SugarKitchen$Kettle" "SugarKitchen$Kettle" "counts" "[I") : Cond) ∈ gT := gI 138 (by decide +kernel) rfl
theorem mw_139 : ((Jvm.Cond.soleField "SugarKitchen$Kettle" "counts") : Cond) ∈ gT := gI 139 (by decide +kernel) rfl
theorem mw_140 : ((Jvm.Cond.laysFinal "SugarKitchen$Kettle" "SugarKitchen$Kettle" "strides" "[I") : Cond) ∈ gT := gI 140 (by decide +kernel) rfl
theorem mw_141 : ((Jvm.Cond.soleField "SugarKitchen$Kettle" "strides") : Cond) ∈ gT := gI 141 (by decide +kernel) rfl
theorem mw_142 : ((Jvm.Cond.laysFinal "SugarKitchen$Kettle" "SugarKitchen$Kettle" "waiting" "[I") : Cond) ∈ gT := gI 142 (by decide +kernel) rfl
theorem mw_143 : ((Jvm.Cond.soleField "SugarKitchen$Kettle" "waiting") : Cond) ∈ gT := gI 143 (by decide +kernel) rfl
theorem mw_144 : ((Jvm.Cond.lays "SugarKitchen$Kettle" "SugarKitchen$Kettle" "least" "[I") : Cond) ∈ gT := gI 144 (by decide +kernel) rfl
theorem mw_145 : ((Jvm.Cond.soleField "SugarKitchen$Kettle" "least") : Cond) ∈ gT := gI 145 (by decide +kernel) rfl
theorem mw_146 : ((Jvm.Cond.superclass "SugarKitchen$Kettle" "java/lang/Object") : Cond) ∈ gT := gI 146 (by decide +kernel) rfl
theorem mw_147 : ((Jvm.Cond.arrayClass Jvm.ClassFile.FieldType.boolean) : Cond) ∈ gT := gI 147 (by decide +kernel) rfl
theorem mw_148 : ((Jvm.Cond.classLink "SugarKitchen" (61 : Nat) "SugarKitchen$Choice") : Cond) ∈ gT := gI 148 (by decide +kernel) rfl
theorem mw_149 : ((Jvm.Cond.instantiable "SugarKitchen$Choice" (6 : Nat)) : Cond) ∈ gT := gI 149 (by decide +kernel) rfl
theorem mw_150 : ((Jvm.Cond.methodLink "SugarKitchen" (63 : Nat) ({ cls := "SugarKitchen$Choice", name := "<init>", desc := "()V" } : Jvm.MethodName)) : Cond) ∈ gT := gI 150 (by decide +kernel) rfl
theorem mw_151 : ((Jvm.Cond.instanceMethod ({ cls := "SugarKitchen$Choice", name := "<init>", desc := "()V" } : Jvm.MethodName)) : Cond) ∈ gT := gI 151 (by decide +kernel) rfl
set_option maxRecDepth 100000 in
theorem mw_152 : ((Jvm.Cond.code ({ cls := "SugarKitchen$Choice", name := "<init>", desc := "()V" } : Jvm.MethodName) prog_4_method_1_code (1 : Nat) (Option.none : Option Jvm.ClassFile.FieldType)) : Cond) ∈ gT := gI 152 rfl rfl
theorem mw_153 : ((Jvm.Cond.methodLink "SugarKitchen$Choice" (3 : Nat) ({ cls := "java/lang/Object", name := "<init>", desc := "()V" } : Jvm.MethodName)) : Cond) ∈ gT := gI 153 (by decide +kernel) rfl
theorem mw_154 : ((Jvm.Cond.fieldLink "SugarKitchen$Choice" (9 : Nat) "SugarKitchen$Choice" "spots" "[I") : Cond) ∈ gT := gI 154 (by decide +kernel) rfl
theorem mw_155 : ((Jvm.Cond.fieldLink "SugarKitchen" (285 : Nat) "SugarKitchen$Choice" "spots" "[I") : Cond) ∈ gT := gI 155 (by decide +kernel) rfl
theorem mw_156 : ((Jvm.Cond.fieldLink "SugarKitchen$Choice" (15 : Nat) "SugarKitchen$Choice" "weights" "[I") : Cond) ∈ gT := gI 156 (by decide +kernel) rfl
theorem mw_157 : ((Jvm.Cond.fieldLink "SugarKitchen$Parting" (34 : Nat) "SugarKitchen$Choice" "weights" "[I") : Cond) ∈ gT := gI 157 (by decide +kernel) rfl
theorem mw_158 : ((Jvm.Cond.fieldLink "SugarKitchen$Choice" (18 : Nat) "SugarKitchen$Choice" "chosen" "[Z") : Cond) ∈ gT := gI 158 (by decide +kernel) rfl
theorem mw_159 : ((Jvm.Cond.fieldLink "SugarKitchen" (282 : Nat) "SugarKitchen$Choice" "chosen" "[Z") : Cond) ∈ gT := gI 159 (by decide +kernel) rfl
theorem mw_160 : ((Jvm.Cond.fieldLink "SugarKitchen$Choice" (22 : Nat) "SugarKitchen$Choice" "many" "I") : Cond) ∈ gT := gI 160 (by decide +kernel) rfl
theorem mw_161 : ((Jvm.Cond.fieldLink "SugarKitchen$Parting" (25 : Nat) "SugarKitchen$Choice" "many" "I") : Cond) ∈ gT := gI 161 (by decide +kernel) rfl
theorem mw_162 : ((Jvm.Cond.fieldLink "SugarKitchen" (279 : Nat) "SugarKitchen$Choice" "many" "I") : Cond) ∈ gT := gI 162 (by decide +kernel) rfl
theorem mw_163 : ((Jvm.Cond.fieldLink "SugarKitchen$Choice" (50 : Nat) "SugarKitchen$Choice" "sums" "[J") : Cond) ∈ gT := gI 163 (by decide +kernel) rfl
theorem mw_164 : ((Jvm.Cond.fieldLink "SugarKitchen$Choice" (54 : Nat) "SugarKitchen$Choice" "words" "I") : Cond) ∈ gT := gI 164 (by decide +kernel) rfl
theorem mw_165 : ((Jvm.Cond.laysFinal "SugarKitchen$Choice" "SugarKitchen$Choice" "spots" "[I") : Cond) ∈ gT := gI 165 (by decide +kernel) rfl
theorem mw_166 : ((Jvm.Cond.soleField "SugarKitchen$Choice" "spots") : Cond) ∈ gT := gI 166 (by decide +kernel) rfl
theorem mw_167 : ((Jvm.Cond.laysFinal "SugarKitchen$Choice" "SugarKitchen$Choice" "weights" "[I") : Cond) ∈ gT := gI 167 (by decide +kernel) rfl
theorem mw_168 : ((Jvm.Cond.soleField "SugarKitchen$Choice" "weights") : Cond) ∈ gT := gI 168 (by decide +kernel) rfl
theorem mw_169 : ((Jvm.Cond.laysFinal "SugarKitchen$Choice" "SugarKitchen$Choice" "chosen" "[Z") : Cond) ∈ gT := gI 169 (by decide +kernel) rfl
theorem mw_170 : ((Jvm.Cond.soleField "SugarKitchen$Choice" "chosen") : Cond) ∈ gT := gI 170 (by decide +kernel) rfl
theorem mw_171 : ((Jvm.Cond.lays "SugarKitchen$Choice" "SugarKitchen$Choice" "many" "I") : Cond) ∈ gT := gI 171 (by decide +kernel) rfl
theorem mw_172 : ((Jvm.Cond.soleField "SugarKitchen$Choice" "many") : Cond) ∈ gT := gI 172 (by decide +kernel) rfl
theorem mw_173 : ((Jvm.Cond.lays "SugarKitchen$Choice" "SugarKitchen$Choice" "sums" "[J") : Cond) ∈ gT := gI 173 (by decide +kernel) rfl
theorem mw_174 : ((Jvm.Cond.soleField "SugarKitchen$Choice" "sums") : Cond) ∈ gT := gI 174 (by decide +kernel) rfl
theorem mw_175 : ((Jvm.Cond.lays "SugarKitchen$Choice" "SugarKitchen$Choice" "words" "I") : Cond) ∈ gT := gI 175 (by decide +kernel) rfl
theorem mw_176 : ((Jvm.Cond.soleField "SugarKitchen$Choice" "words") : Cond) ∈ gT := gI 176 (by decide +kernel) rfl
theorem mw_177 : ((Jvm.Cond.superclass "SugarKitchen$Choice" "java/lang/Object") : Cond) ∈ gT := gI 177 (by decide +kernel) rfl
theorem mw_178 : ((Jvm.Cond.classLink "SugarKitchen" (68 : Nat) "SugarKitchen$Parting") : Cond) ∈ gT := gI 178 (by decide +kernel) rfl
theorem mw_179 : ((Jvm.Cond.instantiable "SugarKitchen$Parting" (5 : Nat)) : Cond) ∈ gT := gI 179 (by decide +kernel) rfl
theorem mw_180 : ((Jvm.Cond.methodLink "SugarKitchen" (70 : Nat) ({ cls := "SugarKitchen$Parting", name := "<init>", desc := "()V" } : Jvm.MethodName)) : Cond) ∈ gT := gI 180 (by decide +kernel) rfl
theorem mw_181 : ((Jvm.Cond.instanceMethod ({ cls := "SugarKitchen$Parting", name := "<init>", desc := "()V" } : Jvm.MethodName)) : Cond) ∈ gT := gI 181 (by decide +kernel) rfl
set_option maxRecDepth 100000 in
theorem mw_182 : ((Jvm.Cond.code ({ cls := "SugarKitchen$Parting", name := "<init>", desc := "()V" } : Jvm.MethodName) prog_7_method_1_code (1 : Nat) (Option.none : Option Jvm.ClassFile.FieldType)) : Cond) ∈ gT := gI 182 rfl rfl
theorem mw_183 : ((Jvm.Cond.methodLink "SugarKitchen$Parting" (3 : Nat) ({ cls := "java/lang/Object", name := "<init>", desc := "()V" } : Jvm.MethodName)) : Cond) ∈ gT := gI 183 (by decide +kernel) rfl
theorem mw_184 : ((Jvm.Cond.fieldLink "SugarKitchen$Parting" (9 : Nat) "SugarKitchen$Parting" "weights" "[I") : Cond) ∈ gT := gI 184 (by decide +kernel) rfl
theorem mw_185 : ((Jvm.Cond.fieldLink "SugarKitchen$Parting" (22 : Nat) "SugarKitchen$Parting" "many" "I") : Cond) ∈ gT := gI 185 (by decide +kernel) rfl
theorem mw_186 : ((Jvm.Cond.fieldLink "SugarKitchen$Parting" (15 : Nat) "SugarKitchen$Parting" "low" "I") : Cond) ∈ gT := gI 186 (by decide +kernel) rfl
theorem mw_187 : ((Jvm.Cond.fieldLink "SugarKitchen$Parting" (19 : Nat) "SugarKitchen$Parting" "high" "I") : Cond) ∈ gT := gI 187 (by decide +kernel) rfl
theorem mw_188 : ((Jvm.Cond.fieldLink "SugarKitchen$Parting" (45 : Nat) "SugarKitchen$Parting" "known" "[B") : Cond) ∈ gT := gI 188 (by decide +kernel) rfl
theorem mw_189 : ((Jvm.Cond.laysFinal "SugarKitchen$Parting" "SugarKitchen$Parting" "weights" "[I") : Cond) ∈ gT := gI 189 (by decide +kernel) rfl
theorem mw_190 : ((Jvm.Cond.soleField "SugarKitchen$Parting" "weights") : Cond) ∈ gT := gI 190 (by decide +kernel) rfl
theorem mw_191 : ((Jvm.Cond.lays "SugarKitchen$Parting" "SugarKitchen$Parting" "many" "I") : Cond) ∈ gT := gI 191 (by decide +kernel) rfl
theorem mw_192 : ((Jvm.Cond.soleField "SugarKitchen$Parting" "many") : Cond) ∈ gT := gI 192 (by decide +kernel) rfl
theorem mw_193 : ((Jvm.Cond.lays "SugarKitchen$Parting" "SugarKitchen$Parting" "low" "I") : Cond) ∈ gT := gI 193 (by decide +kernel) rfl
theorem mw_194 : ((Jvm.Cond.soleField "SugarKitchen$Parting" "low") : Cond) ∈ gT := gI 194 (by decide +kernel) rfl
theorem mw_195 : ((Jvm.Cond.lays "SugarKitchen$Parting" "SugarKitchen$Parting" "high" "I") : Cond) ∈ gT := gI 195 (by decide +kernel) rfl
theorem mw_196 : ((Jvm.Cond.soleField "SugarKitchen$Parting" "high") : Cond) ∈ gT := gI 196 (by decide +kernel) rfl
theorem mw_197 : ((Jvm.Cond.lays "SugarKitchen$Parting" "SugarKitchen$Parting" "known" "[B") : Cond) ∈ gT := gI 197 (by decide +kernel) rfl
theorem mw_198 : ((Jvm.Cond.soleField "SugarKitchen$Parting" "known") : Cond) ∈ gT := gI 198 (by decide +kernel) rfl
theorem mw_199 : ((Jvm.Cond.superclass "SugarKitchen$Parting" "java/lang/Object") : Cond) ∈ gT := gI 199 (by decide +kernel) rfl
theorem mw_200 : ((Jvm.Cond.methodLink "SugarKitchen" (75 : Nat) ({ cls := "java/util/Arrays", name := "fill", desc := "([II)V" } : Jvm.MethodName)) : Cond) ∈ gT := gI 200 (by decide +kernel) rfl
theorem mw_201 : ((Jvm.Cond.fieldLink "SugarKitchen" (11 : Nat) "SugarKitchen" "lots" "[LSugarKitchen$Lot;") : Cond) ∈ gT := gI 201 (by decide +kernel) rfl
theorem mw_202 : ((Jvm.Cond.fieldLink "SugarKitchen" (86 : Nat) "SugarKitchen" "lotCount" "I") : Cond) ∈ gT := gI 202 (by decide +kernel) rfl
theorem mw_203 : ((Jvm.Cond.fieldLink "SugarKitchen" (17 : Nat) "SugarKitchen" "batches" "[LSugarKitchen$Batch;") : Cond) ∈ gT := gI 203 (by decide +kernel) rfl
theorem mw_204 : ((Jvm.Cond.fieldLink "SugarKitchen" (97 : Nat) "SugarKitchen" "batchCount" "I") : Cond) ∈ gT := gI 204 (by decide +kernel) rfl
theorem mw_205 : ((Jvm.Cond.fieldLink "SugarKitchen" (23 : Nat) "SugarKitchen" "pieces" "[LSugarKitchen$Piece;") : Cond) ∈ gT := gI 205 (by decide +kernel) rfl
theorem mw_206 : ((Jvm.Cond.fieldLink "SugarKitchen" (214 : Nat) "SugarKitchen" "pieceCount" "I") : Cond) ∈ gT := gI 206 (by decide +kernel) rfl
theorem mw_207 : ((Jvm.Cond.fieldLink "SugarKitchen" (29 : Nat) "SugarKitchen" "boxes" "[LSugarKitchen$Box;") : Cond) ∈ gT := gI 207 (by decide +kernel) rfl
theorem mw_208 : ((Jvm.Cond.fieldLink "SugarKitchen" (263 : Nat) "SugarKitchen" "boxCount" "I") : Cond) ∈ gT := gI 208 (by decide +kernel) rfl
theorem mw_209 : ((Jvm.Cond.fieldLink "SugarKitchen" (33 : Nat) "SugarKitchen" "trays" "[I") : Cond) ∈ gT := gI 209 (by decide +kernel) rfl
theorem mw_210 : ((Jvm.Cond.fieldLink "SugarKitchen" (37 : Nat) "SugarKitchen" "trialTrays" "[I") : Cond) ∈ gT := gI 210 (by decide +kernel) rfl
theorem mw_211 : ((Jvm.Cond.fieldLink "SugarKitchen" (43 : Nat) "SugarKitchen" "rules" "LSugarKitchen$Rules;") : Cond) ∈ gT := gI 211 (by decide +kernel) rfl
theorem mw_212 : ((Jvm.Cond.fieldLink "SugarKitchen" (50 : Nat) "SugarKitchen" "tempering" "LSugarKitchen$Tempering;") : Cond) ∈ gT := gI 212 (by decide +kernel) rfl
theorem mw_213 : ((Jvm.Cond.fieldLink "SugarKitchen" (57 : Nat) "SugarKitchen" "kettle" "LSugarKitchen$Kettle;") : Cond) ∈ gT := gI 213 (by decide +kernel) rfl
theorem mw_214 : ((Jvm.Cond.fieldLink "SugarKitchen" (64 : Nat) "SugarKitchen" "choice" "LSugarKitchen$Choice;") : Cond) ∈ gT := gI 214 (by decide +kernel) rfl
theorem mw_215 : ((Jvm.Cond.fieldLink "SugarKitchen" (71 : Nat) "SugarKitchen" "parting" "LSugarKitchen$Parting;") : Cond) ∈ gT := gI 215 (by decide +kernel) rfl
theorem mw_216 : ((Jvm.Cond.laysFinal "SugarKitchen" "SugarKitchen" "lots" "[LSugarKitchen$Lot;") : Cond) ∈ gT := gI 216 (by decide +kernel) rfl
theorem mw_217 : ((Jvm.Cond.soleField "SugarKitchen" "lots") : Cond) ∈ gT := gI 217 (by decide +kernel) rfl
theorem mw_218 : ((Jvm.Cond.lays "SugarKitchen" "SugarKitchen" "lotCount" "I") : Cond) ∈ gT := gI 218 (by decide +kernel) rfl
theorem mw_219 : ((Jvm.Cond.soleField "SugarKitchen" "lotCount") : Cond) ∈ gT := gI 219 (by decide +kernel) rfl
theorem mw_220 : ((Jvm.Cond.laysFinal "SugarKitchen" "SugarKitchen" "batches" "[LSugarKitchen$Batch;") : Cond) ∈ gT := gI 220 (by decide +kernel) rfl
theorem mw_221 : ((Jvm.Cond.soleField "SugarKitchen" "batches") : Cond) ∈ gT := gI 221 (by decide +kernel) rfl
theorem mw_222 : ((Jvm.Cond.lays "SugarKitchen" "SugarKitchen" "batchCount" "I") : Cond) ∈ gT := gI 222 (by decide +kernel) rfl
theorem mw_223 : ((Jvm.Cond.soleField "SugarKitchen" "batchCount") : Cond) ∈ gT := gI 223 (by decide +kernel) rfl
theorem mw_224 : ((Jvm.Cond.laysFinal "SugarKitchen" "SugarKitchen" "pieces" "[LSugarKitchen$Piece;") : Cond) ∈ gT := gI 224 (by decide +kernel) rfl
theorem mw_225 : ((Jvm.Cond.soleField "SugarKitchen" "pieces") : Cond) ∈ gT := gI 225 (by decide +kernel) rfl
theorem mw_226 : ((Jvm.Cond.lays "SugarKitchen" "SugarKitchen" "pieceCount" "I") : Cond) ∈ gT := gI 226 (by decide +kernel) rfl
theorem mw_227 : ((Jvm.Cond.soleField "SugarKitchen" "pieceCount") : Cond) ∈ gT := gI 227 (by decide +kernel) rfl
theorem mw_228 : ((Jvm.Cond.laysFinal "SugarKitchen" "SugarKitchen" "boxes" "[LSugarKitchen$Box;") : Cond) ∈ gT := gI 228 (by decide +kernel) rfl
theorem mw_229 : ((Jvm.Cond.soleField "SugarKitchen" "boxes") : Cond) ∈ gT := gI 229 (by decide +kernel) rfl
theorem mw_230 : ((Jvm.Cond.lays "SugarKitchen" "SugarKitchen" "boxCount" "I") : Cond) ∈ gT := gI 230 (by decide +kernel) rfl
theorem mw_231 : ((Jvm.Cond.soleField "SugarKitchen" "boxCount") : Cond) ∈ gT := gI 231 (by decide +kernel) rfl
theorem mw_232 : ((Jvm.Cond.laysFinal "SugarKitchen" "SugarKitchen" "trays" "[I") : Cond) ∈ gT := gI 232 (by decide +kernel) rfl
theorem mw_233 : ((Jvm.Cond.soleField "SugarKitchen" "trays") : Cond) ∈ gT := gI 233 (by decide +kernel) rfl
theorem mw_234 : ((Jvm.Cond.laysFinal "SugarKitchen" "SugarKitchen" "trialTrays" "[I") : Cond) ∈ gT := gI 234 (by decide +kernel) rfl
theorem mw_235 : ((Jvm.Cond.soleField "SugarKitchen" "trialTrays") : Cond) ∈ gT := gI 235 (by decide +kernel) rfl
theorem mw_236 : ((Jvm.Cond.laysFinal "SugarKitchen" "SugarKitchen" "rules" "LSugarKitchen$Rules;") : Cond) ∈ gT := gI 236 (by decide +kernel) rfl
theorem mw_237 : ((Jvm.Cond.soleField "SugarKitchen" "rules") : Cond) ∈ gT := gI 237 (by decide +kernel) rfl
theorem mw_238 : ((Jvm.Cond.laysFinal "SugarKitchen" "SugarKitchen" "tempering" "LSugarKitchen$Tempering;") : Cond) ∈ gT := gI 238 (by decide +kernel) rfl
theorem mw_239 : ((Jvm.Cond.soleField "SugarKitchen" "tempering") : Cond) ∈ gT := gI 239 (by decide +kernel) rfl
theorem mw_240 : ((Jvm.Cond.laysFinal "SugarKitchen" "SugarKitchen" "kettle" "LSugarKitchen$Kettle;") : Cond) ∈ gT := gI 240 (by decide +kernel) rfl
theorem mw_241 : ((Jvm.Cond.soleField "SugarKitchen" "kettle") : Cond) ∈ gT := gI 241 (by decide +kernel) rfl
theorem mw_242 : ((Jvm.Cond.laysFinal "SugarKitchen" "SugarKitchen" "choice" "LSugarKitchen$Choice;") : Cond) ∈ gT := gI 242 (by decide +kernel) rfl
theorem mw_243 : ((Jvm.Cond.soleField "SugarKitchen" "choice") : Cond) ∈ gT := gI 243 (by decide +kernel) rfl
theorem mw_244 : ((Jvm.Cond.laysFinal "SugarKitchen" "SugarKitchen" "parting" "LSugarKitchen$Parting;") : Cond) ∈ gT := gI 244 (by decide +kernel) rfl
theorem mw_245 : ((Jvm.Cond.soleField "SugarKitchen" "parting") : Cond) ∈ gT := gI 245 (by decide +kernel) rfl
theorem mw_246 : ((Jvm.Cond.superclass "SugarKitchen" "java/lang/Object") : Cond) ∈ gT := gI 246 (by decide +kernel) rfl
theorem mw_247 : ((Jvm.Cond.methodLink "SugarKitchenLaw" (13 : Nat) ({ cls := "SugarKitchen", name := "lot", desc := "(II)I" } : Jvm.MethodName)) : Cond) ∈ gT := gI 247 (by decide +kernel) rfl
theorem mw_248 : ((Jvm.Cond.instanceMethod ({ cls := "SugarKitchen", name := "lot", desc := "(II)I" } : Jvm.MethodName)) : Cond) ∈ gT := gI 248 (by decide +kernel) rfl
theorem mw_249 : ((Jvm.Cond.selects "SugarKitchen" ({ cls := "SugarKitchen", name := "lot", desc := "(II)I" } : Jvm.MethodName) ({ cls := "SugarKitchen", name := "lot", desc := "(II)I" } : Jvm.MethodName)) : Cond) ∈ gT := gI 249 (by decide +kernel) rfl
set_option maxRecDepth 100000 in
theorem mw_250 : ((Jvm.Cond.code ({ cls := "SugarKitchen", name := "lot", desc := "(II)I" } : Jvm.MethodName) prog_1_method_2_code (3 : Nat) (Option.some Jvm.ClassFile.FieldType.int)) : Cond) ∈ gT := gI 250 rfl rfl
theorem mw_251 : ((Jvm.Cond.constant "SugarKitchen" (81 : Nat) (1000000 : Int32)) : Cond) ∈ gT := gI 251 (by decide +kernel) rfl
theorem mw_252 : ((Jvm.Cond.methodLink "SugarKitchen" (82 : Nat) ({ cls := "SugarKitchen", name := "within", desc := "(III)Z" } : Jvm.MethodName)) : Cond) ∈ gT := gI 252 (by decide +kernel) rfl
theorem mw_253 : ((Jvm.Cond.static ({ cls := "SugarKitchen", name := "within", desc := "(III)Z" } : Jvm.MethodName)) : Cond) ∈ gT := gI 253 (by decide +kernel) rfl
set_option maxRecDepth 100000 in
theorem mw_254 : ((Jvm.Cond.code ({ cls := "SugarKitchen", name := "within", desc := "(III)Z" } : Jvm.MethodName) prog_1_method_33_code (3 : Nat) (Option.some Jvm.ClassFile.FieldType.boolean)) : Cond) ∈ gT := gI 254 rfl rfl
theorem mw_255 : ((Jvm.Cond.instantiable "SugarKitchen$Lot" (2 : Nat)) : Cond) ∈ gT := gI 255 (by decide +kernel) rfl
theorem mw_256 : ((Jvm.Cond.methodLink "SugarKitchen" (90 : Nat) ({ cls := "SugarKitchen$Lot", name := "<init>", desc := "(II)V" } : Jvm.MethodName)) : Cond) ∈ gT := gI 256 (by decide +kernel) rfl
theorem mw_257 : ((Jvm.Cond.instanceMethod ({ cls := "SugarKitchen$Lot", name := "<init>", desc := "(II)V" } : Jvm.MethodName)) : Cond) ∈ gT := gI 257 (by decide +kernel) rfl
set_option maxRecDepth 100000 in
theorem mw_258 : ((Jvm.Cond.code ({ cls := "SugarKitchen$Lot", name := "<init>", desc := "(II)V" } : Jvm.MethodName) prog_6_method_1_code (3 : Nat) (Option.none : Option Jvm.ClassFile.FieldType)) : Cond) ∈ gT := gI 258 rfl rfl
theorem mw_259 : ((Jvm.Cond.methodLink "SugarKitchen$Lot" (1 : Nat) ({ cls := "java/lang/Object", name := "<init>", desc := "()V" } : Jvm.MethodName)) : Cond) ∈ gT := gI 259 (by decide +kernel) rfl
theorem mw_260 : ((Jvm.Cond.fieldLink "SugarKitchen$Lot" (7 : Nat) "SugarKitchen$Lot" "left" "I") : Cond) ∈ gT := gI 260 (by decide +kernel) rfl
theorem mw_261 : ((Jvm.Cond.fieldLink "SugarKitchen" (111 : Nat) "SugarKitchen$Lot" "left" "I") : Cond) ∈ gT := gI 261 (by decide +kernel) rfl
theorem mw_262 : ((Jvm.Cond.fieldLink "SugarKitchen$Lot" (13 : Nat) "SugarKitchen$Lot" "warnings" "I") : Cond) ∈ gT := gI 262 (by decide +kernel) rfl
theorem mw_263 : ((Jvm.Cond.fieldLink "SugarKitchen" (364 : Nat) "SugarKitchen$Lot" "warnings" "I") : Cond) ∈ gT := gI 263 (by decide +kernel) rfl
theorem mw_264 : ((Jvm.Cond.lays "SugarKitchen$Lot" "SugarKitchen$Lot" "left" "I") : Cond) ∈ gT := gI 264 (by decide +kernel) rfl
theorem mw_265 : ((Jvm.Cond.soleField "SugarKitchen$Lot" "left") : Cond) ∈ gT := gI 265 (by decide +kernel) rfl
theorem mw_266 : ((Jvm.Cond.laysFinal "SugarKitchen$Lot" "SugarKitchen$Lot" "warnings" "I") : Cond) ∈ gT := gI 266 (by decide +kernel) rfl
theorem mw_267 : ((Jvm.Cond.soleField "SugarKitchen$Lot" "warnings") : Cond) ∈ gT := gI 267 (by decide +kernel) rfl
theorem mw_268 : ((Jvm.Cond.superclass "SugarKitchen$Lot" "java/lang/Object") : Cond) ∈ gT := gI 268 (by decide +kernel) rfl
theorem mw_269 : ((Jvm.Cond.methodLink "SugarKitchenLaw" (18 : Nat) ({ cls := "SugarKitchen", name := "batch", desc := "(I)I" } : Jvm.MethodName)) : Cond) ∈ gT := gI 269 (by decide +kernel) rfl
theorem mw_270 : ((Jvm.Cond.instanceMethod ({ cls := "SugarKitchen", name := "batch", desc := "(I)I" } : Jvm.MethodName)) : Cond) ∈ gT := gI 270 (by decide +kernel) rfl
theorem mw_271 : ((Jvm.Cond.selects "SugarKitchen" ({ cls := "SugarKitchen", name := "batch", desc := "(I)I" } : Jvm.MethodName) ({ cls := "SugarKitchen", name := "batch", desc := "(I)I" } : Jvm.MethodName)) : Cond) ∈ gT := gI 271 (by decide +kernel) rfl
set_option maxRecDepth 100000 in
theorem mw_272 : ((Jvm.Cond.code ({ cls := "SugarKitchen", name := "batch", desc := "(I)I" } : Jvm.MethodName) prog_1_method_3_code (2 : Nat) (Option.some Jvm.ClassFile.FieldType.int)) : Cond) ∈ gT := gI 272 rfl rfl
theorem mw_273 : ((Jvm.Cond.methodLink "SugarKitchen" (93 : Nat) ({ cls := "SugarKitchen", name := "isKind", desc := "(I)Z" } : Jvm.MethodName)) : Cond) ∈ gT := gI 273 (by decide +kernel) rfl
theorem mw_274 : ((Jvm.Cond.static ({ cls := "SugarKitchen", name := "isKind", desc := "(I)Z" } : Jvm.MethodName)) : Cond) ∈ gT := gI 274 (by decide +kernel) rfl
set_option maxRecDepth 100000 in
theorem mw_275 : ((Jvm.Cond.code ({ cls := "SugarKitchen", name := "isKind", desc := "(I)Z" } : Jvm.MethodName) prog_1_method_34_code (1 : Nat) (Option.some Jvm.ClassFile.FieldType.boolean)) : Cond) ∈ gT := gI 275 rfl rfl
theorem mw_276 : ((Jvm.Cond.instantiable "SugarKitchen$Batch" (16 : Nat)) : Cond) ∈ gT := gI 276 (by decide +kernel) rfl
theorem mw_277 : ((Jvm.Cond.methodLink "SugarKitchen" (100 : Nat) ({ cls := "SugarKitchen$Batch", name := "<init>", desc := "(I)V" } : Jvm.MethodName)) : Cond) ∈ gT := gI 277 (by decide +kernel) rfl
theorem mw_278 : ((Jvm.Cond.instanceMethod ({ cls := "SugarKitchen$Batch", name := "<init>", desc := "(I)V" } : Jvm.MethodName)) : Cond) ∈ gT := gI 278 (by decide +kernel) rfl
set_option maxRecDepth 100000 in
theorem mw_279 : ((Jvm.Cond.code ({ cls := "SugarKitchen$Batch", name := "<init>", desc := "(I)V" } : Jvm.MethodName) prog_2_method_1_code (2 : Nat) (Option.none : Option Jvm.ClassFile.FieldType)) : Cond) ∈ gT := gI 279 rfl rfl
theorem mw_280 : ((Jvm.Cond.methodLink "SugarKitchen$Batch" (3 : Nat) ({ cls := "java/lang/Object", name := "<init>", desc := "()V" } : Jvm.MethodName)) : Cond) ∈ gT := gI 280 (by decide +kernel) rfl
theorem mw_281 : ((Jvm.Cond.classLink "SugarKitchen$Batch" (9 : Nat) "SugarKitchen$Rows") : Cond) ∈ gT := gI 281 (by decide +kernel) rfl
theorem mw_282 : ((Jvm.Cond.instantiable "SugarKitchen$Rows" (4 : Nat)) : Cond) ∈ gT := gI 282 (by decide +kernel) rfl
theorem mw_283 : ((Jvm.Cond.methodLink "SugarKitchen$Batch" (11 : Nat) ({ cls := "SugarKitchen$Rows", name := "<init>", desc := "()V" } : Jvm.MethodName)) : Cond) ∈ gT := gI 283 (by decide +kernel) rfl
theorem mw_284 : ((Jvm.Cond.instanceMethod ({ cls := "SugarKitchen$Rows", name := "<init>", desc := "()V" } : Jvm.MethodName)) : Cond) ∈ gT := gI 284 (by decide +kernel) rfl
set_option maxRecDepth 100000 in
theorem mw_285 : ((Jvm.Cond.code ({ cls := "SugarKitchen$Rows", name := "<init>", desc := "()V" } : Jvm.MethodName) prog_9_method_1_code (1 : Nat) (Option.none : Option Jvm.ClassFile.FieldType)) : Cond) ∈ gT := gI 285 rfl rfl
theorem mw_286 : ((Jvm.Cond.methodLink "SugarKitchen$Rows" (3 : Nat) ({ cls := "java/lang/Object", name := "<init>", desc := "()V" } : Jvm.MethodName)) : Cond) ∈ gT := gI 286 (by decide +kernel) rfl
theorem mw_287 : ((Jvm.Cond.fieldLink "SugarKitchen$Rows" (9 : Nat) "SugarKitchen$Rows" "floatBits" "[I") : Cond) ∈ gT := gI 287 (by decide +kernel) rfl
theorem mw_288 : ((Jvm.Cond.fieldLink "SugarKitchen" (144 : Nat) "SugarKitchen$Rows" "floatBits" "[I") : Cond) ∈ gT := gI 288 (by decide +kernel) rfl
theorem mw_289 : ((Jvm.Cond.fieldLink "SugarKitchen$Rows" (15 : Nat) "SugarKitchen$Rows" "stirred" "[Z") : Cond) ∈ gT := gI 289 (by decide +kernel) rfl
theorem mw_290 : ((Jvm.Cond.fieldLink "SugarKitchen" (150 : Nat) "SugarKitchen$Rows" "stirred" "[Z") : Cond) ∈ gT := gI 290 (by decide +kernel) rfl
theorem mw_291 : ((Jvm.Cond.fieldLink "SugarKitchen$Rows" (19 : Nat) "SugarKitchen$Rows" "degrees" "I") : Cond) ∈ gT := gI 291 (by decide +kernel) rfl
theorem mw_292 : ((Jvm.Cond.fieldLink "SugarKitchen$Batch" (36 : Nat) "SugarKitchen$Rows" "degrees" "I") : Cond) ∈ gT := gI 292 (by decide +kernel) rfl
theorem mw_293 : ((Jvm.Cond.fieldLink "SugarKitchen$Rows" (29 : Nat) "SugarKitchen$Rows" "stirrings" "I") : Cond) ∈ gT := gI 293 (by decide +kernel) rfl
theorem mw_294 : ((Jvm.Cond.laysFinal "SugarKitchen$Rows" "SugarKitchen$Rows" "floatBits" "[I") : Cond) ∈ gT := gI 294 (by decide +kernel) rfl
theorem mw_295 : ((Jvm.Cond.soleField "SugarKitchen$Rows" "floatBits") : Cond) ∈ gT := gI 295 (by decide +kernel) rfl
theorem mw_296 : ((Jvm.Cond.laysFinal "SugarKitchen$Rows" "SugarKitchen$Rows" "stirred" "[Z") : Cond) ∈ gT := gI 296 (by decide +kernel) rfl
theorem mw_297 : ((Jvm.Cond.soleField "SugarKitchen$Rows" "stirred") : Cond) ∈ gT := gI 297 (by decide +kernel) rfl
theorem mw_298 : ((Jvm.Cond.lays "SugarKitchen$Rows" "SugarKitchen$Rows" "degrees" "I") : Cond) ∈ gT := gI 298 (by decide +kernel) rfl
theorem mw_299 : ((Jvm.Cond.soleField "SugarKitchen$Rows" "degrees") : Cond) ∈ gT := gI 299 (by decide +kernel) rfl
theorem mw_300 : ((Jvm.Cond.lays "SugarKitchen$Rows" "SugarKitchen$Rows" "stirrings" "I") : Cond) ∈ gT := gI 300 (by decide +kernel) rfl
theorem mw_301 : ((Jvm.Cond.soleField "SugarKitchen$Rows" "stirrings") : Cond) ∈ gT := gI 301 (by decide +kernel) rfl
theorem mw_302 : ((Jvm.Cond.superclass "SugarKitchen$Rows" "java/lang/Object") : Cond) ∈ gT := gI 302 (by decide +kernel) rfl
theorem mw_303 : ((Jvm.Cond.constant "SugarKitchen$Batch" (18 : Nat) (-1000001 : Int32)) : Cond) ∈ gT := gI 303 (by decide +kernel) rfl
theorem mw_304 : ((Jvm.Cond.fieldLink "SugarKitchen$Piece" (24 : Nat) "SugarKitchen$Batch" "kind" "I") : Cond) ∈ gT := gI 304 (by decide +kernel) rfl
theorem mw_305 : ((Jvm.Cond.fieldLink "SugarKitchen$Batch" (29 : Nat) "SugarKitchen$Batch" "kind" "I") : Cond) ∈ gT := gI 305 (by decide +kernel) rfl
theorem mw_306 : ((Jvm.Cond.fieldLink "SugarKitchen" (198 : Nat) "SugarKitchen$Batch" "kind" "I") : Cond) ∈ gT := gI 306 (by decide +kernel) rfl
theorem mw_307 : ((Jvm.Cond.fieldLink "SugarKitchen$Batch" (12 : Nat) "SugarKitchen$Batch" "rows" "LSugarKitchen$Rows;") : Cond) ∈ gT := gI 307 (by decide +kernel) rfl
theorem mw_308 : ((Jvm.Cond.fieldLink "SugarKitchen" (129 : Nat) "SugarKitchen$Batch" "rows" "LSugarKitchen$Rows;") : Cond) ∈ gT := gI 308 (by decide +kernel) rfl
theorem mw_309 : ((Jvm.Cond.fieldLink "SugarKitchen$Batch" (64 : Nat) "SugarKitchen$Batch" "mass" "I") : Cond) ∈ gT := gI 309 (by decide +kernel) rfl
theorem mw_310 : ((Jvm.Cond.fieldLink "SugarKitchen" (114 : Nat) "SugarKitchen$Batch" "mass" "I") : Cond) ∈ gT := gI 310 (by decide +kernel) rfl
theorem mw_311 : ((Jvm.Cond.fieldLink "SugarKitchen" (117 : Nat) "SugarKitchen$Batch" "putIn" "I") : Cond) ∈ gT := gI 311 (by decide +kernel) rfl
theorem mw_312 : ((Jvm.Cond.fieldLink "SugarKitchen$Batch" (95 : Nat) "SugarKitchen$Batch" "putIn" "I") : Cond) ∈ gT := gI 312 (by decide +kernel) rfl
theorem mw_313 : ((Jvm.Cond.fieldLink "SugarKitchen$Piece" (36 : Nat) "SugarKitchen$Batch" "lots" "J") : Cond) ∈ gT := gI 313 (by decide +kernel) rfl
theorem mw_314 : ((Jvm.Cond.fieldLink "SugarKitchen" (120 : Nat) "SugarKitchen$Batch" "lots" "J") : Cond) ∈ gT := gI 314 (by decide +kernel) rfl
theorem mw_315 : ((Jvm.Cond.fieldLink "SugarKitchen$Batch" (32 : Nat) "SugarKitchen$Batch" "cooked" "Z") : Cond) ∈ gT := gI 315 (by decide +kernel) rfl
theorem mw_316 : ((Jvm.Cond.fieldLink "SugarKitchen" (176 : Nat) "SugarKitchen$Batch" "cooked" "Z") : Cond) ∈ gT := gI 316 (by decide +kernel) rfl
theorem mw_317 : ((Jvm.Cond.fieldLink "SugarKitchen$Batch" (82 : Nat) "SugarKitchen$Batch" "vouched" "Z") : Cond) ∈ gT := gI 317 (by decide +kernel) rfl
theorem mw_318 : ((Jvm.Cond.fieldLink "SugarKitchen" (180 : Nat) "SugarKitchen$Batch" "vouched" "Z") : Cond) ∈ gT := gI 318 (by decide +kernel) rfl
theorem mw_319 : ((Jvm.Cond.fieldLink "SugarKitchen$Batch" (69 : Nat) "SugarKitchen$Batch" "lost" "I") : Cond) ∈ gT := gI 319 (by decide +kernel) rfl
theorem mw_320 : ((Jvm.Cond.fieldLink "SugarKitchen$Batch" (57 : Nat) "SugarKitchen$Batch" "loss" "I") : Cond) ∈ gT := gI 320 (by decide +kernel) rfl
theorem mw_321 : ((Jvm.Cond.fieldLink "SugarKitchen$Batch" (19 : Nat) "SugarKitchen$Batch" "top" "I") : Cond) ∈ gT := gI 321 (by decide +kernel) rfl
theorem mw_322 : ((Jvm.Cond.fieldLink "SugarKitchen$Batch" (23 : Nat) "SugarKitchen$Batch" "missingAt" "I") : Cond) ∈ gT := gI 322 (by decide +kernel) rfl
theorem mw_323 : ((Jvm.Cond.fieldLink "SugarKitchen$Batch" (26 : Nat) "SugarKitchen$Batch" "grainedAt" "I") : Cond) ∈ gT := gI 323 (by decide +kernel) rfl
theorem mw_324 : ((Jvm.Cond.fieldLink "SugarKitchen$Tempering" (30 : Nat) "SugarKitchen$Batch" "phase" "I") : Cond) ∈ gT := gI 324 (by decide +kernel) rfl
theorem mw_325 : ((Jvm.Cond.fieldLink "SugarKitchen$Batch" (98 : Nat) "SugarKitchen$Batch" "phase" "I") : Cond) ∈ gT := gI 325 (by decide +kernel) rfl
theorem mw_326 : ((Jvm.Cond.fieldLink "SugarKitchen" (205 : Nat) "SugarKitchen$Batch" "phase" "I") : Cond) ∈ gT := gI 326 (by decide +kernel) rfl
theorem mw_327 : ((Jvm.Cond.fieldLink "SugarKitchen$Tempering" (39 : Nat) "SugarKitchen$Batch" "count" "I") : Cond) ∈ gT := gI 327 (by decide +kernel) rfl
theorem mw_328 : ((Jvm.Cond.fieldLink "SugarKitchen$Batch" (101 : Nat) "SugarKitchen$Batch" "count" "I") : Cond) ∈ gT := gI 328 (by decide +kernel) rfl
theorem mw_329 : ((Jvm.Cond.fieldLink "SugarKitchen" (343 : Nat) "SugarKitchen$Batch" "count" "I") : Cond) ∈ gT := gI 329 (by decide +kernel) rfl
theorem mw_330 : ((Jvm.Cond.fieldLink "SugarKitchen$Batch" (104 : Nat) "SugarKitchen$Batch" "cutAway" "I") : Cond) ∈ gT := gI 330 (by decide +kernel) rfl
theorem mw_331 : ((Jvm.Cond.fieldLink "SugarKitchen" (220 : Nat) "SugarKitchen$Batch" "cutAway" "I") : Cond) ∈ gT := gI 331 (by decide +kernel) rfl
theorem mw_332 : ((Jvm.Cond.fieldLink "SugarKitchen$Batch" (107 : Nat) "SugarKitchen$Batch" "dippedAway" "I") : Cond) ∈ gT := gI 332 (by decide +kernel) rfl
theorem mw_333 : ((Jvm.Cond.fieldLink "SugarKitchen" (230 : Nat) "SugarKitchen$Batch" "dippedAway" "I") : Cond) ∈ gT := gI 333 (by decide +kernel) rfl
theorem mw_334 : ((Jvm.Cond.laysFinal "SugarKitchen$Batch" "SugarKitchen$Batch" "kind" "I") : Cond) ∈ gT := gI 334 (by decide +kernel) rfl
theorem mw_335 : ((Jvm.Cond.soleField "SugarKitchen$Batch" "kind") : Cond) ∈ gT := gI 335 (by decide +kernel) rfl
theorem mw_336 : ((Jvm.Cond.laysFinal "SugarKitchen$Batch" "SugarKitchen$Batch" "rows" "LSugarKitchen$Rows;") : Cond) ∈ gT := gI 336 (by decide +kernel) rfl
theorem mw_337 : ((Jvm.Cond.soleField "SugarKitchen$Batch" "rows") : Cond) ∈ gT := gI 337 (by decide +kernel) rfl
theorem mw_338 : ((Jvm.Cond.lays "SugarKitchen$Batch" "SugarKitchen$Batch" "mass" "I") : Cond) ∈ gT := gI 338 (by decide +kernel) rfl
theorem mw_339 : ((Jvm.Cond.soleField "SugarKitchen$Batch" "mass") : Cond) ∈ gT := gI 339 (by decide +kernel) rfl
theorem mw_340 : ((Jvm.Cond.lays "SugarKitchen$Batch" "SugarKitchen$Batch" "putIn" "I") : Cond) ∈ gT := gI 340 (by decide +kernel) rfl
theorem mw_341 : ((Jvm.Cond.soleField "SugarKitchen$Batch" "putIn") : Cond) ∈ gT := gI 341 (by decide +kernel) rfl
theorem mw_342 : ((Jvm.Cond.lays "SugarKitchen$Batch" "SugarKitchen$Batch" "lots" "J") : Cond) ∈ gT := gI 342 (by decide +kernel) rfl
theorem mw_343 : ((Jvm.Cond.soleField "SugarKitchen$Batch" "lots") : Cond) ∈ gT := gI 343 (by decide +kernel) rfl
theorem mw_344 : ((Jvm.Cond.lays "SugarKitchen$Batch" "SugarKitchen$Batch" "cooked" "Z") : Cond) ∈ gT := gI 344 (by decide +kernel) rfl
theorem mw_345 : ((Jvm.Cond.soleField "SugarKitchen$Batch" "cooked") : Cond) ∈ gT := gI 345 (by decide +kernel) rfl
theorem mw_346 : ((Jvm.Cond.lays "SugarKitchen$Batch" "SugarKitchen$Batch" "vouched" "Z") : Cond) ∈ gT := gI 346 (by decide +kernel) rfl
theorem mw_347 : ((Jvm.Cond.soleField "SugarKitchen$Batch" "vouched") : Cond) ∈ gT := gI 347 (by decide +kernel) rfl
theorem mw_348 : ((Jvm.Cond.lays "SugarKitchen$Batch" "SugarKitchen$Batch" "lost" "I") : Cond) ∈ gT := gI 348 (by decide +kernel) rfl
theorem mw_349 : ((Jvm.Cond.soleField "SugarKitchen$Batch" "lost") : Cond) ∈ gT := gI 349 (by decide +kernel) rfl
theorem mw_350 : ((Jvm.Cond.lays "SugarKitchen$Batch" "SugarKitchen$Batch" "loss" "I") : Cond) ∈ gT := gI 350 (by decide +kernel) rfl
theorem mw_351 : ((Jvm.Cond.soleField "SugarKitchen$Batch" "loss") : Cond) ∈ gT := gI 351 (by decide +kernel) rfl
theorem mw_352 : ((Jvm.Cond.lays "SugarKitchen$Batch" "SugarKitchen$Batch" "top" "I") : Cond) ∈ gT := gI 352 (by decide +kernel) rfl
theorem mw_353 : ((Jvm.Cond.soleField "SugarKitchen$Batch" "top") : Cond) ∈ gT := gI 353 (by decide +kernel) rfl
theorem mw_354 : ((Jvm.Cond.lays "SugarKitchen$Batch" "SugarKitchen$Batch" "missingAt" "I") : Cond) ∈ gT := gI 354 (by decide +kernel) rfl
theorem mw_355 : ((Jvm.Cond.soleField "SugarKitchen$Batch" "missingAt") : Cond) ∈ gT := gI 355 (by decide +kernel) rfl
theorem mw_356 : ((Jvm.Cond.lays "SugarKitchen$Batch" "SugarKitchen$Batch" "grainedAt" "I") : Cond) ∈ gT := gI 356 (by decide +kernel) rfl
theorem mw_357 : ((Jvm.Cond.soleField "SugarKitchen$Batch" "grainedAt") : Cond) ∈ gT := gI 357 (by decide +kernel) rfl
theorem mw_358 : ((Jvm.Cond.lays "SugarKitchen$Batch" "SugarKitchen$Batch" "phase" "I") : Cond) ∈ gT := gI 358 (by decide +kernel) rfl
theorem mw_359 : ((Jvm.Cond.soleField "SugarKitchen$Batch" "phase") : Cond) ∈ gT := gI 359 (by decide +kernel) rfl
theorem mw_360 : ((Jvm.Cond.lays "SugarKitchen$Batch" "SugarKitchen$Batch" "count" "I") : Cond) ∈ gT := gI 360 (by decide +kernel) rfl
theorem mw_361 : ((Jvm.Cond.soleField "SugarKitchen$Batch" "count") : Cond) ∈ gT := gI 361 (by decide +kernel) rfl
theorem mw_362 : ((Jvm.Cond.lays "SugarKitchen$Batch" "SugarKitchen$Batch" "cutAway" "I") : Cond) ∈ gT := gI 362 (by decide +kernel) rfl
theorem mw_363 : ((Jvm.Cond.soleField "SugarKitchen$Batch" "cutAway") : Cond) ∈ gT := gI 363 (by decide +kernel) rfl
theorem mw_364 : ((Jvm.Cond.lays "SugarKitchen$Batch" "SugarKitchen$Batch" "dippedAway" "I") : Cond) ∈ gT := gI 364 (by decide +kernel) rfl
theorem mw_365 : ((Jvm.Cond.soleField "SugarKitchen$Batch" "dippedAway") : Cond) ∈ gT := gI 365 (by decide +kernel) rfl
theorem mw_366 : ((Jvm.Cond.superclass "SugarKitchen$Batch" "java/lang/Object") : Cond) ∈ gT := gI 366 (by decide +kernel) rfl
theorem mw_367 : ((Jvm.Cond.methodLink "SugarKitchenLaw" (23 : Nat) ({ cls := "SugarKitchen", name := "put", desc := "(III)I" } : Jvm.MethodName)) : Cond) ∈ gT := gI 367 (by decide +kernel) rfl
theorem mw_368 : ((Jvm.Cond.instanceMethod ({ cls := "SugarKitchen", name := "put", desc := "(III)I" } : Jvm.MethodName)) : Cond) ∈ gT := gI 368 (by decide +kernel) rfl
theorem mw_369 : ((Jvm.Cond.selects "SugarKitchen" ({ cls := "SugarKitchen", name := "put", desc := "(III)I" } : Jvm.MethodName) ({ cls := "SugarKitchen", name := "put", desc := "(III)I" } : Jvm.MethodName)) : Cond) ∈ gT := gI 369 (by decide +kernel) rfl
set_option maxRecDepth 100000 in
theorem mw_370 : ((Jvm.Cond.code ({ cls := "SugarKitchen", name := "put", desc := "(III)I" } : Jvm.MethodName) prog_1_method_4_code (6 : Nat) (Option.some Jvm.ClassFile.FieldType.int)) : Cond) ∈ gT := gI 370 rfl rfl
theorem mw_371 : ((Jvm.Cond.methodLink "SugarKitchen" (103 : Nat) ({ cls := "SugarKitchen", name := "findRaw", desc := "(I)LSugarKitchen$Batch;" } : Jvm.MethodName)) : Cond) ∈ gT := gI 371 (by decide +kernel) rfl
theorem mw_373 : ((Jvm.Cond.instanceMethod ({ cls := "SugarKitchen", name := "findRaw", desc := "(I)LSugarKitchen$Batch;" } : Jvm.MethodName)) : Cond) ∈ gT := gI 373 (by decide +kernel) rfl
set_option maxRecDepth 100000 in
theorem mw_374 : ((Jvm.Cond.code ({ cls := "SugarKitchen", name := "findRaw", desc := "(I)LSugarKitchen$Batch;" } : Jvm.MethodName) prog_1_method_40_code (3 : Nat) (Option.some (Jvm.ClassFile.FieldType.object "SugarKitchen$Batch"))) : Cond) ∈ gT := gI 374 rfl rfl
theorem mw_375 : ((Jvm.Cond.methodLink "SugarKitchen" (173 : Nat) ({ cls := "SugarKitchen", name := "findBatch", desc := "(I)LSugarKitchen$Batch;" } : Jvm.MethodName)) : Cond) ∈ gT := gI 375 (by decide +kernel) rfl
theorem mw_377 : ((Jvm.Cond.instanceMethod ({ cls := "SugarKitchen", name := "findBatch", desc := "(I)LSugarKitchen$Batch;" } : Jvm.MethodName)) : Cond) ∈ gT := gI 377 (by decide +kernel) rfl
set_option maxRecDepth 100000 in
theorem mw_378 : ((Jvm.Cond.code ({ cls := "SugarKitchen", name := "findBatch", desc := "(I)LSugarKitchen$Batch;" } : Jvm.MethodName) prog_1_method_39_code (2 : Nat) (Option.some (Jvm.ClassFile.FieldType.object "SugarKitchen$Batch"))) : Cond) ∈ gT := gI 378 rfl rfl
theorem mw_379 : ((Jvm.Cond.methodLink "SugarKitchen" (107 : Nat) ({ cls := "SugarKitchen", name := "findLot", desc := "(I)LSugarKitchen$Lot;" } : Jvm.MethodName)) : Cond) ∈ gT := gI 379 (by decide +kernel) rfl
theorem mw_381 : ((Jvm.Cond.instanceMethod ({ cls := "SugarKitchen", name := "findLot", desc := "(I)LSugarKitchen$Lot;" } : Jvm.MethodName)) : Cond) ∈ gT := gI 381 (by decide +kernel) rfl
set_option maxRecDepth 100000 in
theorem mw_382 : ((Jvm.Cond.code ({ cls := "SugarKitchen", name := "findLot", desc := "(I)LSugarKitchen$Lot;" } : Jvm.MethodName) prog_1_method_38_code (2 : Nat) (Option.some (Jvm.ClassFile.FieldType.object "SugarKitchen$Lot"))) : Cond) ∈ gT := gI 382 rfl rfl
theorem mw_383 : ((Jvm.Cond.methodLink "SugarKitchenLaw" (28 : Nat) ({ cls := "SugarKitchen", name := "row", desc := "(III)Z" } : Jvm.MethodName)) : Cond) ∈ gT := gI 383 (by decide +kernel) rfl
theorem mw_384 : ((Jvm.Cond.instanceMethod ({ cls := "SugarKitchen", name := "row", desc := "(III)Z" } : Jvm.MethodName)) : Cond) ∈ gT := gI 384 (by decide +kernel) rfl
theorem mw_385 : ((Jvm.Cond.selects "SugarKitchen" ({ cls := "SugarKitchen", name := "row", desc := "(III)Z" } : Jvm.MethodName) ({ cls := "SugarKitchen", name := "row", desc := "(III)Z" } : Jvm.MethodName)) : Cond) ∈ gT := gI 385 (by decide +kernel) rfl
set_option maxRecDepth 100000 in
theorem mw_386 : ((Jvm.Cond.code ({ cls := "SugarKitchen", name := "row", desc := "(III)Z" } : Jvm.MethodName) prog_1_method_5_code (6 : Nat) (Option.some Jvm.ClassFile.FieldType.boolean)) : Cond) ∈ gT := gI 386 rfl rfl
theorem mw_387 : ((Jvm.Cond.methodLink "SugarKitchen" (123 : Nat) ({ cls := "java/lang/Math", name := "max", desc := "(II)I" } : Jvm.MethodName)) : Cond) ∈ gT := gI 387 (by decide +kernel) rfl
theorem mw_388 : ((Jvm.Cond.static ({ cls := "java/lang/Math", name := "max", desc := "(II)I" } : Jvm.MethodName)) : Cond) ∈ gT := gI 388 (by decide +kernel) rfl
set_option maxRecDepth 100000 in
theorem mw_389 : ((Jvm.Cond.code ({ cls := "java/lang/Math", name := "max", desc := "(II)I" } : Jvm.MethodName) prog_16_method_65_code (2 : Nat) (Option.some Jvm.ClassFile.FieldType.int)) : Cond) ∈ gT := gI 389 rfl rfl
theorem mw_390 : ((Jvm.Cond.methodLink "SugarKitchen" (133 : Nat) ({ cls := "SugarKitchen$Rows", name := "renewDegrees", desc := "(I)V" } : Jvm.MethodName)) : Cond) ∈ gT := gI 390 (by decide +kernel) rfl
theorem mw_391 : ((Jvm.Cond.instanceMethod ({ cls := "SugarKitchen$Rows", name := "renewDegrees", desc := "(I)V" } : Jvm.MethodName)) : Cond) ∈ gT := gI 391 (by decide +kernel) rfl
theorem mw_392 : ((Jvm.Cond.selects "SugarKitchen$Rows" ({ cls := "SugarKitchen$Rows", name := "renewDegrees", desc := "(I)V" } : Jvm.MethodName) ({ cls := "SugarKitchen$Rows", name := "renewDegrees", desc := "(I)V" } : Jvm.MethodName)) : Cond) ∈ gT := gI 392 (by decide +kernel) rfl
set_option maxRecDepth 100000 in
theorem mw_393 : ((Jvm.Cond.code ({ cls := "SugarKitchen$Rows", name := "renewDegrees", desc := "(I)V" } : Jvm.MethodName) prog_9_method_2_code (2 : Nat) (Option.none : Option Jvm.ClassFile.FieldType)) : Cond) ∈ gT := gI 393 rfl rfl
theorem mw_394 : ((Jvm.Cond.methodLink "SugarKitchen$Rows" (23 : Nat) ({ cls := "java/util/Arrays", name := "fill", desc := "([II)V" } : Jvm.MethodName)) : Cond) ∈ gT := gI 394 (by decide +kernel) rfl
theorem mw_395 : ((Jvm.Cond.methodLink "SugarKitchen" (138 : Nat) ({ cls := "SugarKitchen$Rows", name := "renewStirring", desc := "(I)V" } : Jvm.MethodName)) : Cond) ∈ gT := gI 395 (by decide +kernel) rfl
theorem mw_396 : ((Jvm.Cond.instanceMethod ({ cls := "SugarKitchen$Rows", name := "renewStirring", desc := "(I)V" } : Jvm.MethodName)) : Cond) ∈ gT := gI 396 (by decide +kernel) rfl
theorem mw_397 : ((Jvm.Cond.selects "SugarKitchen$Rows" ({ cls := "SugarKitchen$Rows", name := "renewStirring", desc := "(I)V" } : Jvm.MethodName) ({ cls := "SugarKitchen$Rows", name := "renewStirring", desc := "(I)V" } : Jvm.MethodName)) : Cond) ∈ gT := gI 397 (by decide +kernel) rfl
set_option maxRecDepth 100000 in
theorem mw_398 : ((Jvm.Cond.code ({ cls := "SugarKitchen$Rows", name := "renewStirring", desc := "(I)V" } : Jvm.MethodName) prog_9_method_3_code (3 : Nat) (Option.none : Option Jvm.ClassFile.FieldType)) : Cond) ∈ gT := gI 398 rfl rfl
theorem mw_399 : ((Jvm.Cond.methodLink "SugarKitchenLaw" (33 : Nat) ({ cls := "SugarKitchen", name := "tick", desc := "(III)Z" } : Jvm.MethodName)) : Cond) ∈ gT := gI 399 (by decide +kernel) rfl
theorem mw_400 : ((Jvm.Cond.instanceMethod ({ cls := "SugarKitchen", name := "tick", desc := "(III)Z" } : Jvm.MethodName)) : Cond) ∈ gT := gI 400 (by decide +kernel) rfl
theorem mw_401 : ((Jvm.Cond.selects "SugarKitchen" ({ cls := "SugarKitchen", name := "tick", desc := "(III)Z" } : Jvm.MethodName) ({ cls := "SugarKitchen", name := "tick", desc := "(III)Z" } : Jvm.MethodName)) : Cond) ∈ gT := gI 401 (by decide +kernel) rfl
set_option maxRecDepth 100000 in
theorem mw_402 : ((Jvm.Cond.code ({ cls := "SugarKitchen", name := "tick", desc := "(III)Z" } : Jvm.MethodName) prog_1_method_6_code (5 : Nat) (Option.some Jvm.ClassFile.FieldType.boolean)) : Cond) ∈ gT := gI 402 rfl rfl
theorem mw_403 : ((Jvm.Cond.methodLink "SugarKitchen" (141 : Nat) ({ cls := "SugarKitchen$Rows", name := "hasDegree", desc := "(I)Z" } : Jvm.MethodName)) : Cond) ∈ gT := gI 403 (by decide +kernel) rfl
theorem mw_404 : ((Jvm.Cond.instanceMethod ({ cls := "SugarKitchen$Rows", name := "hasDegree", desc := "(I)Z" } : Jvm.MethodName)) : Cond) ∈ gT := gI 404 (by decide +kernel) rfl
theorem mw_405 : ((Jvm.Cond.selects "SugarKitchen$Rows" ({ cls := "SugarKitchen$Rows", name := "hasDegree", desc := "(I)Z" } : Jvm.MethodName) ({ cls := "SugarKitchen$Rows", name := "hasDegree", desc := "(I)Z" } : Jvm.MethodName)) : Cond) ∈ gT := gI 405 (by decide +kernel) rfl
set_option maxRecDepth 100000 in
theorem mw_406 : ((Jvm.Cond.code ({ cls := "SugarKitchen$Rows", name := "hasDegree", desc := "(I)Z" } : Jvm.MethodName) prog_9_method_4_code (2 : Nat) (Option.some Jvm.ClassFile.FieldType.boolean)) : Cond) ∈ gT := gI 406 rfl rfl
theorem mt_407 : ((Jvm.Cond.methodLinkNest "SugarKitchen$Rows" (32 : Nat) ({ cls := "SugarKitchen", name := "within", desc := "(III)Z" } : Jvm.MethodName) "SugarKitchen") : Cond) ∈ lw_tbl := List.mem_append_right _ (List.mem_of_getElem? (i := 407) (by decide +kernel))
theorem mw_408 : ((Jvm.Cond.methodLink "SugarKitchenLaw" (37 : Nat) ({ cls := "SugarKitchen", name := "stir", desc := "(IIZ)Z" } : Jvm.MethodName)) : Cond) ∈ gT := gI 408 (by decide +kernel) rfl
theorem mw_409 : ((Jvm.Cond.instanceMethod ({ cls := "SugarKitchen", name := "stir", desc := "(IIZ)Z" } : Jvm.MethodName)) : Cond) ∈ gT := gI 409 (by decide +kernel) rfl
theorem mw_410 : ((Jvm.Cond.selects "SugarKitchen" ({ cls := "SugarKitchen", name := "stir", desc := "(IIZ)Z" } : Jvm.MethodName) ({ cls := "SugarKitchen", name := "stir", desc := "(IIZ)Z" } : Jvm.MethodName)) : Cond) ∈ gT := gI 410 (by decide +kernel) rfl
set_option maxRecDepth 100000 in
theorem mw_411 : ((Jvm.Cond.code ({ cls := "SugarKitchen", name := "stir", desc := "(IIZ)Z" } : Jvm.MethodName) prog_1_method_7_code (5 : Nat) (Option.some Jvm.ClassFile.FieldType.boolean)) : Cond) ∈ gT := gI 411 rfl rfl
theorem mw_412 : ((Jvm.Cond.methodLink "SugarKitchen" (147 : Nat) ({ cls := "SugarKitchen$Rows", name := "hasStirring", desc := "(I)Z" } : Jvm.MethodName)) : Cond) ∈ gT := gI 412 (by decide +kernel) rfl
theorem mw_413 : ((Jvm.Cond.instanceMethod ({ cls := "SugarKitchen$Rows", name := "hasStirring", desc := "(I)Z" } : Jvm.MethodName)) : Cond) ∈ gT := gI 413 (by decide +kernel) rfl
theorem mw_414 : ((Jvm.Cond.selects "SugarKitchen$Rows" ({ cls := "SugarKitchen$Rows", name := "hasStirring", desc := "(I)Z" } : Jvm.MethodName) ({ cls := "SugarKitchen$Rows", name := "hasStirring", desc := "(I)Z" } : Jvm.MethodName)) : Cond) ∈ gT := gI 414 (by decide +kernel) rfl
set_option maxRecDepth 100000 in
theorem mw_415 : ((Jvm.Cond.code ({ cls := "SugarKitchen$Rows", name := "hasStirring", desc := "(I)Z" } : Jvm.MethodName) prog_9_method_5_code (2 : Nat) (Option.some Jvm.ClassFile.FieldType.boolean)) : Cond) ∈ gT := gI 415 rfl rfl
theorem mw_416 : ((Jvm.Cond.methodLink "SugarKitchenLaw" (42 : Nat) ({ cls := "SugarKitchen", name := "table", desc := "(II)I" } : Jvm.MethodName)) : Cond) ∈ gT := gI 416 (by decide +kernel) rfl
theorem mw_417 : ((Jvm.Cond.instanceMethod ({ cls := "SugarKitchen", name := "table", desc := "(II)I" } : Jvm.MethodName)) : Cond) ∈ gT := gI 417 (by decide +kernel) rfl
theorem mw_418 : ((Jvm.Cond.selects "SugarKitchen" ({ cls := "SugarKitchen", name := "table", desc := "(II)I" } : Jvm.MethodName) ({ cls := "SugarKitchen", name := "table", desc := "(II)I" } : Jvm.MethodName)) : Cond) ∈ gT := gI 418 (by decide +kernel) rfl
set_option maxRecDepth 100000 in
theorem mw_419 : ((Jvm.Cond.code ({ cls := "SugarKitchen", name := "table", desc := "(II)I" } : Jvm.MethodName) prog_1_method_8_code (3 : Nat) (Option.some Jvm.ClassFile.FieldType.int)) : Cond) ∈ gT := gI 419 rfl rfl
theorem mw_420 : ((Jvm.Cond.methodLink "SugarKitchen" (154 : Nat) ({ cls := "SugarKitchen$Rules", name := "addLoss", desc := "(II)I" } : Jvm.MethodName)) : Cond) ∈ gT := gI 420 (by decide +kernel) rfl
theorem mw_421 : ((Jvm.Cond.instanceMethod ({ cls := "SugarKitchen$Rules", name := "addLoss", desc := "(II)I" } : Jvm.MethodName)) : Cond) ∈ gT := gI 421 (by decide +kernel) rfl
theorem mw_422 : ((Jvm.Cond.selects "SugarKitchen$Rules" ({ cls := "SugarKitchen$Rules", name := "addLoss", desc := "(II)I" } : Jvm.MethodName) ({ cls := "SugarKitchen$Rules", name := "addLoss", desc := "(II)I" } : Jvm.MethodName)) : Cond) ∈ gT := gI 422 (by decide +kernel) rfl
set_option maxRecDepth 100000 in
theorem mw_423 : ((Jvm.Cond.code ({ cls := "SugarKitchen$Rules", name := "addLoss", desc := "(II)I" } : Jvm.MethodName) prog_10_method_2_code (4 : Nat) (Option.some Jvm.ClassFile.FieldType.int)) : Cond) ∈ gT := gI 423 rfl rfl
theorem mt_424 : ((Jvm.Cond.methodLinkNest "SugarKitchen$Rules" (40 : Nat) ({ cls := "SugarKitchen", name := "within", desc := "(III)Z" } : Jvm.MethodName) "SugarKitchen") : Cond) ∈ lw_tbl := List.mem_append_right _ (List.mem_of_getElem? (i := 424) (by decide +kernel))
theorem mw_425 : ((Jvm.Cond.methodLink "SugarKitchenLaw" (46 : Nat) ({ cls := "SugarKitchen", name := "grain", desc := "(II)Z" } : Jvm.MethodName)) : Cond) ∈ gT := gI 425 (by decide +kernel) rfl
theorem mw_426 : ((Jvm.Cond.instanceMethod ({ cls := "SugarKitchen", name := "grain", desc := "(II)Z" } : Jvm.MethodName)) : Cond) ∈ gT := gI 426 (by decide +kernel) rfl
theorem mw_427 : ((Jvm.Cond.selects "SugarKitchen" ({ cls := "SugarKitchen", name := "grain", desc := "(II)Z" } : Jvm.MethodName) ({ cls := "SugarKitchen", name := "grain", desc := "(II)Z" } : Jvm.MethodName)) : Cond) ∈ gT := gI 427 (by decide +kernel) rfl
set_option maxRecDepth 100000 in
theorem mw_428 : ((Jvm.Cond.code ({ cls := "SugarKitchen", name := "grain", desc := "(II)Z" } : Jvm.MethodName) prog_1_method_9_code (3 : Nat) (Option.some Jvm.ClassFile.FieldType.boolean)) : Cond) ∈ gT := gI 428 rfl rfl
theorem mw_429 : ((Jvm.Cond.methodLink "SugarKitchenLaw" (51 : Nat) ({ cls := "SugarKitchen", name := "bounds", desc := "(III)Z" } : Jvm.MethodName)) : Cond) ∈ gT := gI 429 (by decide +kernel) rfl
theorem mw_430 : ((Jvm.Cond.instanceMethod ({ cls := "SugarKitchen", name := "bounds", desc := "(III)Z" } : Jvm.MethodName)) : Cond) ∈ gT := gI 430 (by decide +kernel) rfl
theorem mw_431 : ((Jvm.Cond.selects "SugarKitchen" ({ cls := "SugarKitchen", name := "bounds", desc := "(III)Z" } : Jvm.MethodName) ({ cls := "SugarKitchen", name := "bounds", desc := "(III)Z" } : Jvm.MethodName)) : Cond) ∈ gT := gI 431 (by decide +kernel) rfl
set_option maxRecDepth 100000 in
theorem mw_432 : ((Jvm.Cond.code ({ cls := "SugarKitchen", name := "bounds", desc := "(III)Z" } : Jvm.MethodName) prog_1_method_10_code (4 : Nat) (Option.some Jvm.ClassFile.FieldType.boolean)) : Cond) ∈ gT := gI 432 rfl rfl
theorem mw_433 : ((Jvm.Cond.methodLink "SugarKitchenLaw" (55 : Nat) ({ cls := "SugarKitchen", name := "cook", desc := "(II)I" } : Jvm.MethodName)) : Cond) ∈ gT := gI 433 (by decide +kernel) rfl
theorem mw_434 : ((Jvm.Cond.instanceMethod ({ cls := "SugarKitchen", name := "cook", desc := "(II)I" } : Jvm.MethodName)) : Cond) ∈ gT := gI 434 (by decide +kernel) rfl
theorem mw_435 : ((Jvm.Cond.selects "SugarKitchen" ({ cls := "SugarKitchen", name := "cook", desc := "(II)I" } : Jvm.MethodName) ({ cls := "SugarKitchen", name := "cook", desc := "(II)I" } : Jvm.MethodName)) : Cond) ∈ gT := gI 435 (by decide +kernel) rfl
set_option maxRecDepth 100000 in
theorem mw_436 : ((Jvm.Cond.code ({ cls := "SugarKitchen", name := "cook", desc := "(II)I" } : Jvm.MethodName) prog_1_method_11_code (4 : Nat) (Option.some Jvm.ClassFile.FieldType.int)) : Cond) ∈ gT := gI 436 rfl rfl
theorem mw_437 : ((Jvm.Cond.methodLink "SugarKitchen" (169 : Nat) ({ cls := "SugarKitchen$Batch", name := "cookOver", desc := "(ILSugarKitchen$Rules;)V" } : Jvm.MethodName)) : Cond) ∈ gT := gI 437 (by decide +kernel) rfl
theorem mw_438 : ((Jvm.Cond.instanceMethod ({ cls := "SugarKitchen$Batch", name := "cookOver", desc := "(ILSugarKitchen$Rules;)V" } : Jvm.MethodName)) : Cond) ∈ gT := gI 438 (by decide +kernel) rfl
theorem mw_439 : ((Jvm.Cond.selects "SugarKitchen$Batch" ({ cls := "SugarKitchen$Batch", name := "cookOver", desc := "(ILSugarKitchen$Rules;)V" } : Jvm.MethodName) ({ cls := "SugarKitchen$Batch", name := "cookOver", desc := "(ILSugarKitchen$Rules;)V" } : Jvm.MethodName)) : Cond) ∈ gT := gI 439 (by decide +kernel) rfl
set_option maxRecDepth 100000 in
theorem mw_440 : ((Jvm.Cond.code ({ cls := "SugarKitchen$Batch", name := "cookOver", desc := "(ILSugarKitchen$Rules;)V" } : Jvm.MethodName) prog_2_method_2_code (5 : Nat) (Option.none : Option Jvm.ClassFile.FieldType)) : Cond) ∈ gT := gI 440 rfl rfl
theorem mw_441 : ((Jvm.Cond.methodLink "SugarKitchen$Batch" (39 : Nat) ({ cls := "java/lang/Math", name := "min", desc := "(II)I" } : Jvm.MethodName)) : Cond) ∈ gT := gI 441 (by decide +kernel) rfl
theorem mw_442 : ((Jvm.Cond.static ({ cls := "java/lang/Math", name := "min", desc := "(II)I" } : Jvm.MethodName)) : Cond) ∈ gT := gI 442 (by decide +kernel) rfl
set_option maxRecDepth 100000 in
theorem mw_443 : ((Jvm.Cond.code ({ cls := "java/lang/Math", name := "min", desc := "(II)I" } : Jvm.MethodName) prog_16_method_69_code (2 : Nat) (Option.some Jvm.ClassFile.FieldType.int)) : Cond) ∈ gT := gI 443 rfl rfl
theorem mw_444 : ((Jvm.Cond.methodLink "SugarKitchen$Batch" (45 : Nat) ({ cls := "SugarKitchen$Batch", name := "findTop", desc := "(I)I" } : Jvm.MethodName)) : Cond) ∈ gT := gI 444 (by decide +kernel) rfl
theorem mw_446 : ((Jvm.Cond.instanceMethod ({ cls := "SugarKitchen$Batch", name := "findTop", desc := "(I)I" } : Jvm.MethodName)) : Cond) ∈ gT := gI 446 (by decide +kernel) rfl
set_option maxRecDepth 100000 in
theorem mw_447 : ((Jvm.Cond.code ({ cls := "SugarKitchen$Batch", name := "findTop", desc := "(I)I" } : Jvm.MethodName) prog_2_method_3_code (6 : Nat) (Option.some Jvm.ClassFile.FieldType.int)) : Cond) ∈ gT := gI 447 rfl rfl
theorem mw_448 : ((Jvm.Cond.methodLink "SugarKitchen$Batch" (72 : Nat) ({ cls := "SugarKitchen$Rows", name := "isNumber", desc := "(I)Z" } : Jvm.MethodName)) : Cond) ∈ gT := gI 448 (by decide +kernel) rfl
theorem mw_449 : ((Jvm.Cond.instanceMethod ({ cls := "SugarKitchen$Rows", name := "isNumber", desc := "(I)Z" } : Jvm.MethodName)) : Cond) ∈ gT := gI 449 (by decide +kernel) rfl
theorem mw_450 : ((Jvm.Cond.selects "SugarKitchen$Rows" ({ cls := "SugarKitchen$Rows", name := "isNumber", desc := "(I)Z" } : Jvm.MethodName) ({ cls := "SugarKitchen$Rows", name := "isNumber", desc := "(I)Z" } : Jvm.MethodName)) : Cond) ∈ gT := gI 450 (by decide +kernel) rfl
set_option maxRecDepth 100000 in
theorem mw_451 : ((Jvm.Cond.code ({ cls := "SugarKitchen$Rows", name := "isNumber", desc := "(I)Z" } : Jvm.MethodName) prog_9_method_7_code (2 : Nat) (Option.some Jvm.ClassFile.FieldType.boolean)) : Cond) ∈ gT := gI 451 rfl rfl
theorem mw_452 : ((Jvm.Cond.methodLink "SugarKitchen$Rows" (40 : Nat) ({ cls := "SugarKitchen$Rows", name := "hasDegree", desc := "(I)Z" } : Jvm.MethodName)) : Cond) ∈ gT := gI 452 (by decide +kernel) rfl
theorem mw_453 : ((Jvm.Cond.constant "SugarKitchen$Rows" (43 : Nat) (2147483647 : Int32)) : Cond) ∈ gT := gI 453 (by decide +kernel) rfl
theorem mw_454 : ((Jvm.Cond.constant "SugarKitchen$Rows" (44 : Nat) (2139095040 : Int32)) : Cond) ∈ gT := gI 454 (by decide +kernel) rfl
theorem mw_455 : ((Jvm.Cond.methodLink "SugarKitchen$Batch" (49 : Nat) ({ cls := "SugarKitchen$Rows", name := "degreeAt", desc := "(I)I" } : Jvm.MethodName)) : Cond) ∈ gT := gI 455 (by decide +kernel) rfl
theorem mw_456 : ((Jvm.Cond.instanceMethod ({ cls := "SugarKitchen$Rows", name := "degreeAt", desc := "(I)I" } : Jvm.MethodName)) : Cond) ∈ gT := gI 456 (by decide +kernel) rfl
theorem mw_457 : ((Jvm.Cond.selects "SugarKitchen$Rows" ({ cls := "SugarKitchen$Rows", name := "degreeAt", desc := "(I)I" } : Jvm.MethodName) ({ cls := "SugarKitchen$Rows", name := "degreeAt", desc := "(I)I" } : Jvm.MethodName)) : Cond) ∈ gT := gI 457 (by decide +kernel) rfl
set_option maxRecDepth 100000 in
theorem mw_458 : ((Jvm.Cond.code ({ cls := "SugarKitchen$Rows", name := "degreeAt", desc := "(I)I" } : Jvm.MethodName) prog_9_method_8_code (2 : Nat) (Option.some Jvm.ClassFile.FieldType.int)) : Cond) ∈ gT := gI 458 rfl rfl
theorem mw_459 : ((Jvm.Cond.methodLink "SugarKitchen$Rows" (45 : Nat) ({ cls := "SugarKitchen$Rows", name := "tenfold", desc := "(I)I" } : Jvm.MethodName)) : Cond) ∈ gT := gI 459 (by decide +kernel) rfl
theorem mw_460 : ((Jvm.Cond.static ({ cls := "SugarKitchen$Rows", name := "tenfold", desc := "(I)I" } : Jvm.MethodName)) : Cond) ∈ gT := gI 460 (by decide +kernel) rfl
set_option maxRecDepth 100000 in
theorem mw_461 : ((Jvm.Cond.code ({ cls := "SugarKitchen$Rows", name := "tenfold", desc := "(I)I" } : Jvm.MethodName) prog_9_method_9_code (4 : Nat) (Option.some Jvm.ClassFile.FieldType.int)) : Cond) ∈ gT := gI 461 rfl rfl
theorem mw_462 : ((Jvm.Cond.constant "SugarKitchen$Rows" (49 : Nat) (8388607 : Int32)) : Cond) ∈ gT := gI 462 (by decide +kernel) rfl
theorem mw_463 : ((Jvm.Cond.constant "SugarKitchen$Rows" (50 : Nat) (8388608 : Int32)) : Cond) ∈ gT := gI 463 (by decide +kernel) rfl
theorem mw_464 : ((Jvm.Cond.constant "SugarKitchen$Rows" (51 : Nat) (-2147483648 : Int32)) : Cond) ∈ gT := gI 464 (by decide +kernel) rfl
theorem mw_465 : ((Jvm.Cond.constantFloat "SugarKitchen$Rows" (52 : Nat) (3240099840 : UInt32)) : Cond) ∈ gT := gI 465 (by decide +kernel) rfl
theorem mw_466 : ((Jvm.Cond.constantFloat "SugarKitchen$Rows" (53 : Nat) (1092616192 : UInt32)) : Cond) ∈ gT := gI 466 (by decide +kernel) rfl
theorem mw_467 : ((Jvm.Cond.methodLink "SugarKitchen$Batch" (52 : Nat) ({ cls := "SugarKitchen$Rules", name := "lossAt", desc := "(I)I" } : Jvm.MethodName)) : Cond) ∈ gT := gI 467 (by decide +kernel) rfl
theorem mw_468 : ((Jvm.Cond.instanceMethod ({ cls := "SugarKitchen$Rules", name := "lossAt", desc := "(I)I" } : Jvm.MethodName)) : Cond) ∈ gT := gI 468 (by decide +kernel) rfl
theorem mw_469 : ((Jvm.Cond.selects "SugarKitchen$Rules" ({ cls := "SugarKitchen$Rules", name := "lossAt", desc := "(I)I" } : Jvm.MethodName) ({ cls := "SugarKitchen$Rules", name := "lossAt", desc := "(I)I" } : Jvm.MethodName)) : Cond) ∈ gT := gI 469 (by decide +kernel) rfl
set_option maxRecDepth 100000 in
theorem mw_470 : ((Jvm.Cond.code ({ cls := "SugarKitchen$Rules", name := "lossAt", desc := "(I)I" } : Jvm.MethodName) prog_10_method_3_code (4 : Nat) (Option.some Jvm.ClassFile.FieldType.int)) : Cond) ∈ gT := gI 470 rfl rfl
theorem mw_471 : ((Jvm.Cond.methodLink "SugarKitchen$Batch" (60 : Nat) ({ cls := "SugarKitchen$Batch", name := "findGrained", desc := "(IILSugarKitchen$Rules;)I" } : Jvm.MethodName)) : Cond) ∈ gT := gI 471 (by decide +kernel) rfl
theorem mw_473 : ((Jvm.Cond.instanceMethod ({ cls := "SugarKitchen$Batch", name := "findGrained", desc := "(IILSugarKitchen$Rules;)I" } : Jvm.MethodName)) : Cond) ∈ gT := gI 473 (by decide +kernel) rfl
set_option maxRecDepth 100000 in
theorem mw_474 : ((Jvm.Cond.code ({ cls := "SugarKitchen$Batch", name := "findGrained", desc := "(IILSugarKitchen$Rules;)I" } : Jvm.MethodName) prog_2_method_4_code (5 : Nat) (Option.some Jvm.ClassFile.FieldType.int)) : Cond) ∈ gT := gI 474 rfl rfl
theorem mw_475 : ((Jvm.Cond.methodLink "SugarKitchen$Batch" (76 : Nat) ({ cls := "SugarKitchen$Rows", name := "wasStirred", desc := "(I)Z" } : Jvm.MethodName)) : Cond) ∈ gT := gI 475 (by decide +kernel) rfl
theorem mw_476 : ((Jvm.Cond.instanceMethod ({ cls := "SugarKitchen$Rows", name := "wasStirred", desc := "(I)Z" } : Jvm.MethodName)) : Cond) ∈ gT := gI 476 (by decide +kernel) rfl
theorem mw_477 : ((Jvm.Cond.selects "SugarKitchen$Rows" ({ cls := "SugarKitchen$Rows", name := "wasStirred", desc := "(I)Z" } : Jvm.MethodName) ({ cls := "SugarKitchen$Rows", name := "wasStirred", desc := "(I)Z" } : Jvm.MethodName)) : Cond) ∈ gT := gI 477 (by decide +kernel) rfl
set_option maxRecDepth 100000 in
theorem mw_478 : ((Jvm.Cond.code ({ cls := "SugarKitchen$Rows", name := "wasStirred", desc := "(I)Z" } : Jvm.MethodName) prog_9_method_6_code (2 : Nat) (Option.some Jvm.ClassFile.FieldType.boolean)) : Cond) ∈ gT := gI 478 rfl rfl
theorem mw_479 : ((Jvm.Cond.methodLink "SugarKitchen$Rows" (36 : Nat) ({ cls := "SugarKitchen$Rows", name := "hasStirring", desc := "(I)Z" } : Jvm.MethodName)) : Cond) ∈ gT := gI 479 (by decide +kernel) rfl
theorem mw_480 : ((Jvm.Cond.methodLink "SugarKitchen$Batch" (79 : Nat) ({ cls := "SugarKitchen$Rules", name := "isGrain", desc := "(I)Z" } : Jvm.MethodName)) : Cond) ∈ gT := gI 480 (by decide +kernel) rfl
theorem mw_481 : ((Jvm.Cond.instanceMethod ({ cls := "SugarKitchen$Rules", name := "isGrain", desc := "(I)Z" } : Jvm.MethodName)) : Cond) ∈ gT := gI 481 (by decide +kernel) rfl
theorem mw_482 : ((Jvm.Cond.selects "SugarKitchen$Rules" ({ cls := "SugarKitchen$Rules", name := "isGrain", desc := "(I)Z" } : Jvm.MethodName) ({ cls := "SugarKitchen$Rules", name := "isGrain", desc := "(I)Z" } : Jvm.MethodName)) : Cond) ∈ gT := gI 482 (by decide +kernel) rfl
set_option maxRecDepth 100000 in
theorem mw_483 : ((Jvm.Cond.code ({ cls := "SugarKitchen$Rules", name := "isGrain", desc := "(I)Z" } : Jvm.MethodName) prog_10_method_4_code (2 : Nat) (Option.some Jvm.ClassFile.FieldType.boolean)) : Cond) ∈ gT := gI 483 rfl rfl
theorem mw_484 : ((Jvm.Cond.constantLong "SugarKitchen$Batch" (67 : Nat) (1000 : Int64)) : Cond) ∈ gT := gI 484 (by decide +kernel) rfl
theorem mw_485 : ((Jvm.Cond.methodLink "SugarKitchenLaw" (59 : Nat) ({ cls := "SugarKitchen", name := "vouch", desc := "(I)Z" } : Jvm.MethodName)) : Cond) ∈ gT := gI 485 (by decide +kernel) rfl
theorem mw_486 : ((Jvm.Cond.instanceMethod ({ cls := "SugarKitchen", name := "vouch", desc := "(I)Z" } : Jvm.MethodName)) : Cond) ∈ gT := gI 486 (by decide +kernel) rfl
theorem mw_487 : ((Jvm.Cond.selects "SugarKitchen" ({ cls := "SugarKitchen", name := "vouch", desc := "(I)Z" } : Jvm.MethodName) ({ cls := "SugarKitchen", name := "vouch", desc := "(I)Z" } : Jvm.MethodName)) : Cond) ∈ gT := gI 487 (by decide +kernel) rfl
set_option maxRecDepth 100000 in
theorem mw_488 : ((Jvm.Cond.code ({ cls := "SugarKitchen", name := "vouch", desc := "(I)Z" } : Jvm.MethodName) prog_1_method_12_code (3 : Nat) (Option.some Jvm.ClassFile.FieldType.boolean)) : Cond) ∈ gT := gI 488 rfl rfl
theorem mw_489 : ((Jvm.Cond.methodLink "SugarKitchenLaw" (64 : Nat) ({ cls := "SugarKitchen", name := "why", desc := "(I)I" } : Jvm.MethodName)) : Cond) ∈ gT := gI 489 (by decide +kernel) rfl
theorem mw_490 : ((Jvm.Cond.instanceMethod ({ cls := "SugarKitchen", name := "why", desc := "(I)I" } : Jvm.MethodName)) : Cond) ∈ gT := gI 490 (by decide +kernel) rfl
theorem mw_491 : ((Jvm.Cond.selects "SugarKitchen" ({ cls := "SugarKitchen", name := "why", desc := "(I)I" } : Jvm.MethodName) ({ cls := "SugarKitchen", name := "why", desc := "(I)I" } : Jvm.MethodName)) : Cond) ∈ gT := gI 491 (by decide +kernel) rfl
set_option maxRecDepth 100000 in
theorem mw_492 : ((Jvm.Cond.code ({ cls := "SugarKitchen", name := "why", desc := "(I)I" } : Jvm.MethodName) prog_1_method_13_code (3 : Nat) (Option.some Jvm.ClassFile.FieldType.int)) : Cond) ∈ gT := gI 492 rfl rfl
theorem mw_493 : ((Jvm.Cond.methodLink "SugarKitchen" (183 : Nat) ({ cls := "SugarKitchen$Batch", name := "fault", desc := "(LSugarKitchen$Rules;)I" } : Jvm.MethodName)) : Cond) ∈ gT := gI 493 (by decide +kernel) rfl
theorem mw_494 : ((Jvm.Cond.instanceMethod ({ cls := "SugarKitchen$Batch", name := "fault", desc := "(LSugarKitchen$Rules;)I" } : Jvm.MethodName)) : Cond) ∈ gT := gI 494 (by decide +kernel) rfl
theorem mw_495 : ((Jvm.Cond.selects "SugarKitchen$Batch" ({ cls := "SugarKitchen$Batch", name := "fault", desc := "(LSugarKitchen$Rules;)I" } : Jvm.MethodName) ({ cls := "SugarKitchen$Batch", name := "fault", desc := "(LSugarKitchen$Rules;)I" } : Jvm.MethodName)) : Cond) ∈ gT := gI 495 (by decide +kernel) rfl
set_option maxRecDepth 100000 in
theorem mw_496 : ((Jvm.Cond.code ({ cls := "SugarKitchen$Batch", name := "fault", desc := "(LSugarKitchen$Rules;)I" } : Jvm.MethodName) prog_2_method_5_code (3 : Nat) (Option.some Jvm.ClassFile.FieldType.int)) : Cond) ∈ gT := gI 496 rfl rfl
theorem mt_497 : ((Jvm.Cond.methodLinkNest "SugarKitchen$Batch" (92 : Nat) ({ cls := "SugarKitchen", name := "isCut", desc := "(I)Z" } : Jvm.MethodName) "SugarKitchen") : Cond) ∈ lw_tbl := List.mem_append_right _ (List.mem_of_getElem? (i := 497) (by decide +kernel))
theorem mw_498 : ((Jvm.Cond.static ({ cls := "SugarKitchen", name := "isCut", desc := "(I)Z" } : Jvm.MethodName)) : Cond) ∈ gT := gI 498 (by decide +kernel) rfl
set_option maxRecDepth 100000 in
theorem mw_499 : ((Jvm.Cond.code ({ cls := "SugarKitchen", name := "isCut", desc := "(I)Z" } : Jvm.MethodName) prog_1_method_35_code (1 : Nat) (Option.some Jvm.ClassFile.FieldType.boolean)) : Cond) ∈ gT := gI 499 rfl rfl
theorem mw_500 : ((Jvm.Cond.methodLink "SugarKitchenLaw" (68 : Nat) ({ cls := "SugarKitchen", name := "batchOf", desc := "(II)I" } : Jvm.MethodName)) : Cond) ∈ gT := gI 500 (by decide +kernel) rfl
theorem mw_501 : ((Jvm.Cond.instanceMethod ({ cls := "SugarKitchen", name := "batchOf", desc := "(II)I" } : Jvm.MethodName)) : Cond) ∈ gT := gI 501 (by decide +kernel) rfl
theorem mw_502 : ((Jvm.Cond.selects "SugarKitchen" ({ cls := "SugarKitchen", name := "batchOf", desc := "(II)I" } : Jvm.MethodName) ({ cls := "SugarKitchen", name := "batchOf", desc := "(II)I" } : Jvm.MethodName)) : Cond) ∈ gT := gI 502 (by decide +kernel) rfl
set_option maxRecDepth 100000 in
theorem mw_503 : ((Jvm.Cond.code ({ cls := "SugarKitchen", name := "batchOf", desc := "(II)I" } : Jvm.MethodName) prog_1_method_14_code (4 : Nat) (Option.some Jvm.ClassFile.FieldType.int)) : Cond) ∈ gT := gI 503 rfl rfl
theorem mw_504 : ((Jvm.Cond.methodLink "SugarKitchen" (187 : Nat) ({ cls := "SugarKitchen$Batch", name := "tell", desc := "(I)I" } : Jvm.MethodName)) : Cond) ∈ gT := gI 504 (by decide +kernel) rfl
theorem mw_505 : ((Jvm.Cond.instanceMethod ({ cls := "SugarKitchen$Batch", name := "tell", desc := "(I)I" } : Jvm.MethodName)) : Cond) ∈ gT := gI 505 (by decide +kernel) rfl
theorem mw_506 : ((Jvm.Cond.selects "SugarKitchen$Batch" ({ cls := "SugarKitchen$Batch", name := "tell", desc := "(I)I" } : Jvm.MethodName) ({ cls := "SugarKitchen$Batch", name := "tell", desc := "(I)I" } : Jvm.MethodName)) : Cond) ∈ gT := gI 506 (by decide +kernel) rfl
set_option maxRecDepth 100000 in
theorem mw_507 : ((Jvm.Cond.code ({ cls := "SugarKitchen$Batch", name := "tell", desc := "(I)I" } : Jvm.MethodName) prog_2_method_6_code (2 : Nat) (Option.some Jvm.ClassFile.FieldType.int)) : Cond) ∈ gT := gI 507 rfl rfl
theorem mw_508 : ((Jvm.Cond.methodLink "SugarKitchenLaw" (72 : Nat) ({ cls := "SugarKitchen", name := "temper", desc := "(IIIIII)Z" } : Jvm.MethodName)) : Cond) ∈ gT := gI 508 (by decide +kernel) rfl
theorem mw_509 : ((Jvm.Cond.instanceMethod ({ cls := "SugarKitchen", name := "temper", desc := "(IIIIII)Z" } : Jvm.MethodName)) : Cond) ∈ gT := gI 509 (by decide +kernel) rfl
theorem mw_510 : ((Jvm.Cond.selects "SugarKitchen" ({ cls := "SugarKitchen", name := "temper", desc := "(IIIIII)Z" } : Jvm.MethodName) ({ cls := "SugarKitchen", name := "temper", desc := "(IIIIII)Z" } : Jvm.MethodName)) : Cond) ∈ gT := gI 510 (by decide +kernel) rfl
set_option maxRecDepth 100000 in
theorem mw_511 : ((Jvm.Cond.code ({ cls := "SugarKitchen", name := "temper", desc := "(IIIIII)Z" } : Jvm.MethodName) prog_1_method_15_code (8 : Nat) (Option.some Jvm.ClassFile.FieldType.boolean)) : Cond) ∈ gT := gI 511 rfl rfl
theorem mw_512 : ((Jvm.Cond.methodLink "SugarKitchen" (191 : Nat) ({ cls := "SugarKitchen$Tempering", name := "change", desc := "(IIIIII)Z" } : Jvm.MethodName)) : Cond) ∈ gT := gI 512 (by decide +kernel) rfl
theorem mw_513 : ((Jvm.Cond.instanceMethod ({ cls := "SugarKitchen$Tempering", name := "change", desc := "(IIIIII)Z" } : Jvm.MethodName)) : Cond) ∈ gT := gI 513 (by decide +kernel) rfl
theorem mw_514 : ((Jvm.Cond.selects "SugarKitchen$Tempering" ({ cls := "SugarKitchen$Tempering", name := "change", desc := "(IIIIII)Z" } : Jvm.MethodName) ({ cls := "SugarKitchen$Tempering", name := "change", desc := "(IIIIII)Z" } : Jvm.MethodName)) : Cond) ∈ gT := gI 514 (by decide +kernel) rfl
set_option maxRecDepth 100000 in
theorem mw_515 : ((Jvm.Cond.code ({ cls := "SugarKitchen$Tempering", name := "change", desc := "(IIIIII)Z" } : Jvm.MethodName) prog_11_method_2_code (8 : Nat) (Option.some Jvm.ClassFile.FieldType.boolean)) : Cond) ∈ gT := gI 515 rfl rfl
theorem mw_516 : ((Jvm.Cond.methodLink "SugarKitchen" (195 : Nat) ({ cls := "SugarKitchen", name := "restartCoats", desc := "()V" } : Jvm.MethodName)) : Cond) ∈ gT := gI 516 (by decide +kernel) rfl
theorem mw_518 : ((Jvm.Cond.instanceMethod ({ cls := "SugarKitchen", name := "restartCoats", desc := "()V" } : Jvm.MethodName)) : Cond) ∈ gT := gI 518 (by decide +kernel) rfl
set_option maxRecDepth 100000 in
theorem mw_519 : ((Jvm.Cond.code ({ cls := "SugarKitchen", name := "restartCoats", desc := "()V" } : Jvm.MethodName) prog_1_method_45_code (3 : Nat) (Option.none : Option Jvm.ClassFile.FieldType)) : Cond) ∈ gT := gI 519 rfl rfl
theorem mw_520 : ((Jvm.Cond.methodLink "SugarKitchenLaw" (77 : Nat) ({ cls := "SugarKitchen", name := "heat", desc := "(II)I" } : Jvm.MethodName)) : Cond) ∈ gT := gI 520 (by decide +kernel) rfl
theorem mw_521 : ((Jvm.Cond.instanceMethod ({ cls := "SugarKitchen", name := "heat", desc := "(II)I" } : Jvm.MethodName)) : Cond) ∈ gT := gI 521 (by decide +kernel) rfl
theorem mw_522 : ((Jvm.Cond.selects "SugarKitchen" ({ cls := "SugarKitchen", name := "heat", desc := "(II)I" } : Jvm.MethodName) ({ cls := "SugarKitchen", name := "heat", desc := "(II)I" } : Jvm.MethodName)) : Cond) ∈ gT := gI 522 (by decide +kernel) rfl
set_option maxRecDepth 100000 in
theorem mw_523 : ((Jvm.Cond.code ({ cls := "SugarKitchen", name := "heat", desc := "(II)I" } : Jvm.MethodName) prog_1_method_16_code (4 : Nat) (Option.some Jvm.ClassFile.FieldType.int)) : Cond) ∈ gT := gI 523 rfl rfl
theorem mw_524 : ((Jvm.Cond.methodLink "SugarKitchen" (201 : Nat) ({ cls := "SugarKitchen$Tempering", name := "heatOneTick", desc := "(LSugarKitchen$Batch;I)V" } : Jvm.MethodName)) : Cond) ∈ gT := gI 524 (by decide +kernel) rfl
theorem mw_525 : ((Jvm.Cond.instanceMethod ({ cls := "SugarKitchen$Tempering", name := "heatOneTick", desc := "(LSugarKitchen$Batch;I)V" } : Jvm.MethodName)) : Cond) ∈ gT := gI 525 (by decide +kernel) rfl
theorem mw_526 : ((Jvm.Cond.selects "SugarKitchen$Tempering" ({ cls := "SugarKitchen$Tempering", name := "heatOneTick", desc := "(LSugarKitchen$Batch;I)V" } : Jvm.MethodName) ({ cls := "SugarKitchen$Tempering", name := "heatOneTick", desc := "(LSugarKitchen$Batch;I)V" } : Jvm.MethodName)) : Cond) ∈ gT := gI 526 (by decide +kernel) rfl
set_option maxRecDepth 100000 in
theorem mw_527 : ((Jvm.Cond.code ({ cls := "SugarKitchen$Tempering", name := "heatOneTick", desc := "(LSugarKitchen$Batch;I)V" } : Jvm.MethodName) prog_11_method_3_code (3 : Nat) (Option.none : Option Jvm.ClassFile.FieldType)) : Cond) ∈ gT := gI 527 rfl rfl
theorem mw_528 : ((Jvm.Cond.methodLink "SugarKitchen$Tempering" (35 : Nat) ({ cls := "SugarKitchen$Tempering", name := "isSpoilt", desc := "(II)Z" } : Jvm.MethodName)) : Cond) ∈ gT := gI 528 (by decide +kernel) rfl
theorem mw_530 : ((Jvm.Cond.instanceMethod ({ cls := "SugarKitchen$Tempering", name := "isSpoilt", desc := "(II)Z" } : Jvm.MethodName)) : Cond) ∈ gT := gI 530 (by decide +kernel) rfl
set_option maxRecDepth 100000 in
theorem mw_531 : ((Jvm.Cond.code ({ cls := "SugarKitchen$Tempering", name := "isSpoilt", desc := "(II)Z" } : Jvm.MethodName) prog_11_method_4_code (4 : Nat) (Option.some Jvm.ClassFile.FieldType.boolean)) : Cond) ∈ gT := gI 531 rfl rfl
theorem mw_532 : ((Jvm.Cond.methodLink "SugarKitchen$Tempering" (42 : Nat) ({ cls := "SugarKitchen$Tempering", name := "counts", desc := "(II)Z" } : Jvm.MethodName)) : Cond) ∈ gT := gI 532 (by decide +kernel) rfl
theorem mw_534 : ((Jvm.Cond.instanceMethod ({ cls := "SugarKitchen$Tempering", name := "counts", desc := "(II)Z" } : Jvm.MethodName)) : Cond) ∈ gT := gI 534 (by decide +kernel) rfl
set_option maxRecDepth 100000 in
theorem mw_535 : ((Jvm.Cond.code ({ cls := "SugarKitchen$Tempering", name := "counts", desc := "(II)Z" } : Jvm.MethodName) prog_11_method_5_code (3 : Nat) (Option.some Jvm.ClassFile.FieldType.boolean)) : Cond) ∈ gT := gI 535 rfl rfl
theorem mw_536 : ((Jvm.Cond.methodLink "SugarKitchenLaw" (81 : Nat) ({ cls := "SugarKitchen", name := "cut", desc := "(III)I" } : Jvm.MethodName)) : Cond) ∈ gT := gI 536 (by decide +kernel) rfl
theorem mw_537 : ((Jvm.Cond.instanceMethod ({ cls := "SugarKitchen", name := "cut", desc := "(III)I" } : Jvm.MethodName)) : Cond) ∈ gT := gI 537 (by decide +kernel) rfl
theorem mw_538 : ((Jvm.Cond.selects "SugarKitchen" ({ cls := "SugarKitchen", name := "cut", desc := "(III)I" } : Jvm.MethodName) ({ cls := "SugarKitchen", name := "cut", desc := "(III)I" } : Jvm.MethodName)) : Cond) ∈ gT := gI 538 (by decide +kernel) rfl
set_option maxRecDepth 100000 in
theorem mw_539 : ((Jvm.Cond.code ({ cls := "SugarKitchen", name := "cut", desc := "(III)I" } : Jvm.MethodName) prog_1_method_17_code (6 : Nat) (Option.some Jvm.ClassFile.FieldType.int)) : Cond) ∈ gT := gI 539 rfl rfl
theorem mw_540 : ((Jvm.Cond.methodLink "SugarKitchen" (208 : Nat) ({ cls := "SugarKitchen", name := "findGood", desc := "(I)LSugarKitchen$Batch;" } : Jvm.MethodName)) : Cond) ∈ gT := gI 540 (by decide +kernel) rfl
theorem mw_542 : ((Jvm.Cond.instanceMethod ({ cls := "SugarKitchen", name := "findGood", desc := "(I)LSugarKitchen$Batch;" } : Jvm.MethodName)) : Cond) ∈ gT := gI 542 (by decide +kernel) rfl
set_option maxRecDepth 100000 in
theorem mw_543 : ((Jvm.Cond.code ({ cls := "SugarKitchen", name := "findGood", desc := "(I)LSugarKitchen$Batch;" } : Jvm.MethodName) prog_1_method_41_code (3 : Nat) (Option.some (Jvm.ClassFile.FieldType.object "SugarKitchen$Batch"))) : Cond) ∈ gT := gI 543 rfl rfl
theorem mw_544 : ((Jvm.Cond.methodLink "SugarKitchen" (211 : Nat) ({ cls := "SugarKitchen", name := "isCut", desc := "(I)Z" } : Jvm.MethodName)) : Cond) ∈ gT := gI 544 (by decide +kernel) rfl
theorem mw_545 : ((Jvm.Cond.instantiable "SugarKitchen$Piece" (9 : Nat)) : Cond) ∈ gT := gI 545 (by decide +kernel) rfl
theorem mw_546 : ((Jvm.Cond.methodLink "SugarKitchen" (217 : Nat) ({ cls := "SugarKitchen$Piece", name := "<init>", desc := "(ILSugarKitchen$Batch;I)V" } : Jvm.MethodName)) : Cond) ∈ gT := gI 546 (by decide +kernel) rfl
theorem mw_547 : ((Jvm.Cond.instanceMethod ({ cls := "SugarKitchen$Piece", name := "<init>", desc := "(ILSugarKitchen$Batch;I)V" } : Jvm.MethodName)) : Cond) ∈ gT := gI 547 (by decide +kernel) rfl
set_option maxRecDepth 100000 in
theorem mw_548 : ((Jvm.Cond.code ({ cls := "SugarKitchen$Piece", name := "<init>", desc := "(ILSugarKitchen$Batch;I)V" } : Jvm.MethodName) prog_8_method_1_code (4 : Nat) (Option.none : Option Jvm.ClassFile.FieldType)) : Cond) ∈ gT := gI 548 rfl rfl
theorem mw_549 : ((Jvm.Cond.methodLink "SugarKitchen$Piece" (3 : Nat) ({ cls := "java/lang/Object", name := "<init>", desc := "()V" } : Jvm.MethodName)) : Cond) ∈ gT := gI 549 (by decide +kernel) rfl
theorem mw_550 : ((Jvm.Cond.fieldLink "SugarKitchen$Piece" (21 : Nat) "SugarKitchen$Piece" "batch" "I") : Cond) ∈ gT := gI 550 (by decide +kernel) rfl
theorem mw_551 : ((Jvm.Cond.fieldLink "SugarKitchen$Piece" (29 : Nat) "SugarKitchen$Piece" "nut" "Z") : Cond) ∈ gT := gI 551 (by decide +kernel) rfl
theorem mw_552 : ((Jvm.Cond.fieldLink "SugarKitchen$Piece" (33 : Nat) "SugarKitchen$Piece" "weight" "I") : Cond) ∈ gT := gI 552 (by decide +kernel) rfl
theorem mw_553 : ((Jvm.Cond.fieldLink "SugarKitchen" (233 : Nat) "SugarKitchen$Piece" "weight" "I") : Cond) ∈ gT := gI 553 (by decide +kernel) rfl
theorem mw_554 : ((Jvm.Cond.fieldLink "SugarKitchen$Piece" (40 : Nat) "SugarKitchen$Piece" "lots" "J") : Cond) ∈ gT := gI 554 (by decide +kernel) rfl
theorem mw_555 : ((Jvm.Cond.fieldLink "SugarKitchen" (236 : Nat) "SugarKitchen$Piece" "lots" "J") : Cond) ∈ gT := gI 555 (by decide +kernel) rfl
theorem mw_556 : ((Jvm.Cond.fieldLink "SugarKitchen$Piece" (9 : Nat) "SugarKitchen$Piece" "coat" "I") : Cond) ∈ gT := gI 556 (by decide +kernel) rfl
theorem mw_557 : ((Jvm.Cond.fieldLink "SugarKitchen" (227 : Nat) "SugarKitchen$Piece" "coat" "I") : Cond) ∈ gT := gI 557 (by decide +kernel) rfl
theorem mw_558 : ((Jvm.Cond.fieldLink "SugarKitchen$Piece" (41 : Nat) "SugarKitchen$Piece" "tempered" "Z") : Cond) ∈ gT := gI 558 (by decide +kernel) rfl
theorem mw_559 : ((Jvm.Cond.fieldLink "SugarKitchen" (237 : Nat) "SugarKitchen$Piece" "tempered" "Z") : Cond) ∈ gT := gI 559 (by decide +kernel) rfl
theorem mw_560 : ((Jvm.Cond.fieldLink "SugarKitchen$Piece" (44 : Nat) "SugarKitchen$Piece" "allowed" "Z") : Cond) ∈ gT := gI 560 (by decide +kernel) rfl
theorem mw_561 : ((Jvm.Cond.fieldLink "SugarKitchen" (256 : Nat) "SugarKitchen$Piece" "allowed" "Z") : Cond) ∈ gT := gI 561 (by decide +kernel) rfl
theorem mw_562 : ((Jvm.Cond.fieldLink "SugarKitchen$Piece" (15 : Nat) "SugarKitchen$Piece" "where" "I") : Cond) ∈ gT := gI 562 (by decide +kernel) rfl
theorem mw_563 : ((Jvm.Cond.fieldLink "SugarKitchen" (247 : Nat) "SugarKitchen$Piece" "where" "I") : Cond) ∈ gT := gI 563 (by decide +kernel) rfl
theorem mw_564 : ((Jvm.Cond.fieldLink "SugarKitchen$Piece" (18 : Nat) "SugarKitchen$Piece" "there" "I") : Cond) ∈ gT := gI 564 (by decide +kernel) rfl
theorem mw_565 : ((Jvm.Cond.fieldLink "SugarKitchen" (250 : Nat) "SugarKitchen$Piece" "there" "I") : Cond) ∈ gT := gI 565 (by decide +kernel) rfl
theorem mw_566 : ((Jvm.Cond.laysFinal "SugarKitchen$Piece" "SugarKitchen$Piece" "batch" "I") : Cond) ∈ gT := gI 566 (by decide +kernel) rfl
theorem mw_567 : ((Jvm.Cond.soleField "SugarKitchen$Piece" "batch") : Cond) ∈ gT := gI 567 (by decide +kernel) rfl
theorem mw_568 : ((Jvm.Cond.laysFinal "SugarKitchen$Piece" "SugarKitchen$Piece" "nut" "Z") : Cond) ∈ gT := gI 568 (by decide +kernel) rfl
theorem mw_569 : ((Jvm.Cond.soleField "SugarKitchen$Piece" "nut") : Cond) ∈ gT := gI 569 (by decide +kernel) rfl
theorem mw_570 : ((Jvm.Cond.lays "SugarKitchen$Piece" "SugarKitchen$Piece" "weight" "I") : Cond) ∈ gT := gI 570 (by decide +kernel) rfl
theorem mw_571 : ((Jvm.Cond.soleField "SugarKitchen$Piece" "weight") : Cond) ∈ gT := gI 571 (by decide +kernel) rfl
theorem mw_572 : ((Jvm.Cond.lays "SugarKitchen$Piece" "SugarKitchen$Piece" "lots" "J") : Cond) ∈ gT := gI 572 (by decide +kernel) rfl
theorem mw_573 : ((Jvm.Cond.soleField "SugarKitchen$Piece" "lots") : Cond) ∈ gT := gI 573 (by decide +kernel) rfl
theorem mw_574 : ((Jvm.Cond.lays "SugarKitchen$Piece" "SugarKitchen$Piece" "coat" "I") : Cond) ∈ gT := gI 574 (by decide +kernel) rfl
theorem mw_575 : ((Jvm.Cond.soleField "SugarKitchen$Piece" "coat") : Cond) ∈ gT := gI 575 (by decide +kernel) rfl
theorem mw_576 : ((Jvm.Cond.lays "SugarKitchen$Piece" "SugarKitchen$Piece" "tempered" "Z") : Cond) ∈ gT := gI 576 (by decide +kernel) rfl
theorem mw_577 : ((Jvm.Cond.soleField "SugarKitchen$Piece" "tempered") : Cond) ∈ gT := gI 577 (by decide +kernel) rfl
theorem mw_578 : ((Jvm.Cond.lays "SugarKitchen$Piece" "SugarKitchen$Piece" "allowed" "Z") : Cond) ∈ gT := gI 578 (by decide +kernel) rfl
theorem mw_579 : ((Jvm.Cond.soleField "SugarKitchen$Piece" "allowed") : Cond) ∈ gT := gI 579 (by decide +kernel) rfl
theorem mw_580 : ((Jvm.Cond.lays "SugarKitchen$Piece" "SugarKitchen$Piece" "where" "I") : Cond) ∈ gT := gI 580 (by decide +kernel) rfl
theorem mw_581 : ((Jvm.Cond.soleField "SugarKitchen$Piece" "where") : Cond) ∈ gT := gI 581 (by decide +kernel) rfl
theorem mw_582 : ((Jvm.Cond.lays "SugarKitchen$Piece" "SugarKitchen$Piece" "there" "I") : Cond) ∈ gT := gI 582 (by decide +kernel) rfl
theorem mw_583 : ((Jvm.Cond.soleField "SugarKitchen$Piece" "there") : Cond) ∈ gT := gI 583 (by decide +kernel) rfl
theorem mw_584 : ((Jvm.Cond.superclass "SugarKitchen$Piece" "java/lang/Object") : Cond) ∈ gT := gI 584 (by decide +kernel) rfl
theorem mw_585 : ((Jvm.Cond.methodLink "SugarKitchenLaw" (85 : Nat) ({ cls := "SugarKitchen", name := "dip", desc := "(III)I" } : Jvm.MethodName)) : Cond) ∈ gT := gI 585 (by decide +kernel) rfl
theorem mw_586 : ((Jvm.Cond.instanceMethod ({ cls := "SugarKitchen", name := "dip", desc := "(III)I" } : Jvm.MethodName)) : Cond) ∈ gT := gI 586 (by decide +kernel) rfl
theorem mw_587 : ((Jvm.Cond.selects "SugarKitchen" ({ cls := "SugarKitchen", name := "dip", desc := "(III)I" } : Jvm.MethodName) ({ cls := "SugarKitchen", name := "dip", desc := "(III)I" } : Jvm.MethodName)) : Cond) ∈ gT := gI 587 (by decide +kernel) rfl
set_option maxRecDepth 100000 in
theorem mw_588 : ((Jvm.Cond.code ({ cls := "SugarKitchen", name := "dip", desc := "(III)I" } : Jvm.MethodName) prog_1_method_18_code (6 : Nat) (Option.some Jvm.ClassFile.FieldType.int)) : Cond) ∈ gT := gI 588 rfl rfl
theorem mw_589 : ((Jvm.Cond.methodLink "SugarKitchen" (223 : Nat) ({ cls := "SugarKitchen", name := "findUnboxed", desc := "(I)LSugarKitchen$Piece;" } : Jvm.MethodName)) : Cond) ∈ gT := gI 589 (by decide +kernel) rfl
theorem mw_591 : ((Jvm.Cond.instanceMethod ({ cls := "SugarKitchen", name := "findUnboxed", desc := "(I)LSugarKitchen$Piece;" } : Jvm.MethodName)) : Cond) ∈ gT := gI 591 (by decide +kernel) rfl
set_option maxRecDepth 100000 in
theorem mw_592 : ((Jvm.Cond.code ({ cls := "SugarKitchen", name := "findUnboxed", desc := "(I)LSugarKitchen$Piece;" } : Jvm.MethodName) prog_1_method_43_code (3 : Nat) (Option.some (Jvm.ClassFile.FieldType.object "SugarKitchen$Piece"))) : Cond) ∈ gT := gI 592 rfl rfl
theorem mw_593 : ((Jvm.Cond.methodLink "SugarKitchen" (253 : Nat) ({ cls := "SugarKitchen", name := "findPiece", desc := "(I)LSugarKitchen$Piece;" } : Jvm.MethodName)) : Cond) ∈ gT := gI 593 (by decide +kernel) rfl
theorem mw_595 : ((Jvm.Cond.instanceMethod ({ cls := "SugarKitchen", name := "findPiece", desc := "(I)LSugarKitchen$Piece;" } : Jvm.MethodName)) : Cond) ∈ gT := gI 595 (by decide +kernel) rfl
set_option maxRecDepth 100000 in
theorem mw_596 : ((Jvm.Cond.code ({ cls := "SugarKitchen", name := "findPiece", desc := "(I)LSugarKitchen$Piece;" } : Jvm.MethodName) prog_1_method_42_code (2 : Nat) (Option.some (Jvm.ClassFile.FieldType.object "SugarKitchen$Piece"))) : Cond) ∈ gT := gI 596 rfl rfl
theorem mw_597 : ((Jvm.Cond.methodLink "SugarKitchenLaw" (89 : Nat) ({ cls := "SugarKitchen", name := "place", desc := "(III)Z" } : Jvm.MethodName)) : Cond) ∈ gT := gI 597 (by decide +kernel) rfl
theorem mw_598 : ((Jvm.Cond.instanceMethod ({ cls := "SugarKitchen", name := "place", desc := "(III)Z" } : Jvm.MethodName)) : Cond) ∈ gT := gI 598 (by decide +kernel) rfl
theorem mw_599 : ((Jvm.Cond.selects "SugarKitchen" ({ cls := "SugarKitchen", name := "place", desc := "(III)Z" } : Jvm.MethodName) ({ cls := "SugarKitchen", name := "place", desc := "(III)Z" } : Jvm.MethodName)) : Cond) ∈ gT := gI 599 (by decide +kernel) rfl
set_option maxRecDepth 100000 in
theorem mw_600 : ((Jvm.Cond.code ({ cls := "SugarKitchen", name := "place", desc := "(III)Z" } : Jvm.MethodName) prog_1_method_19_code (6 : Nat) (Option.some Jvm.ClassFile.FieldType.boolean)) : Cond) ∈ gT := gI 600 rfl rfl
theorem mw_601 : ((Jvm.Cond.methodLink "SugarKitchen" (240 : Nat) ({ cls := "SugarKitchen", name := "spotOf", desc := "(II)I" } : Jvm.MethodName)) : Cond) ∈ gT := gI 601 (by decide +kernel) rfl
theorem mw_602 : ((Jvm.Cond.static ({ cls := "SugarKitchen", name := "spotOf", desc := "(II)I" } : Jvm.MethodName)) : Cond) ∈ gT := gI 602 (by decide +kernel) rfl
set_option maxRecDepth 100000 in
theorem mw_603 : ((Jvm.Cond.code ({ cls := "SugarKitchen", name := "spotOf", desc := "(II)I" } : Jvm.MethodName) prog_1_method_37_code (3 : Nat) (Option.some Jvm.ClassFile.FieldType.int)) : Cond) ∈ gT := gI 603 rfl rfl
theorem mw_604 : ((Jvm.Cond.methodLink "SugarKitchen" (243 : Nat) ({ cls := "SugarKitchen", name := "liftFromTray", desc := "(LSugarKitchen$Piece;)V" } : Jvm.MethodName)) : Cond) ∈ gT := gI 604 (by decide +kernel) rfl
theorem mw_606 : ((Jvm.Cond.instanceMethod ({ cls := "SugarKitchen", name := "liftFromTray", desc := "(LSugarKitchen$Piece;)V" } : Jvm.MethodName)) : Cond) ∈ gT := gI 606 (by decide +kernel) rfl
set_option maxRecDepth 100000 in
theorem mw_607 : ((Jvm.Cond.code ({ cls := "SugarKitchen", name := "liftFromTray", desc := "(LSugarKitchen$Piece;)V" } : Jvm.MethodName) prog_1_method_46_code (2 : Nat) (Option.none : Option Jvm.ClassFile.FieldType)) : Cond) ∈ gT := gI 607 rfl rfl
theorem mw_608 : ((Jvm.Cond.methodLink "SugarKitchenLaw" (93 : Nat) ({ cls := "SugarKitchen", name := "take", desc := "(I)Z" } : Jvm.MethodName)) : Cond) ∈ gT := gI 608 (by decide +kernel) rfl
theorem mw_609 : ((Jvm.Cond.instanceMethod ({ cls := "SugarKitchen", name := "take", desc := "(I)Z" } : Jvm.MethodName)) : Cond) ∈ gT := gI 609 (by decide +kernel) rfl
theorem mw_610 : ((Jvm.Cond.selects "SugarKitchen" ({ cls := "SugarKitchen", name := "take", desc := "(I)Z" } : Jvm.MethodName) ({ cls := "SugarKitchen", name := "take", desc := "(I)Z" } : Jvm.MethodName)) : Cond) ∈ gT := gI 610 (by decide +kernel) rfl
set_option maxRecDepth 100000 in
theorem mw_611 : ((Jvm.Cond.code ({ cls := "SugarKitchen", name := "take", desc := "(I)Z" } : Jvm.MethodName) prog_1_method_20_code (3 : Nat) (Option.some Jvm.ClassFile.FieldType.boolean)) : Cond) ∈ gT := gI 611 rfl rfl
theorem mw_612 : ((Jvm.Cond.methodLink "SugarKitchenLaw" (97 : Nat) ({ cls := "SugarKitchen", name := "allow", desc := "(I)Z" } : Jvm.MethodName)) : Cond) ∈ gT := gI 612 (by decide +kernel) rfl
theorem mw_613 : ((Jvm.Cond.instanceMethod ({ cls := "SugarKitchen", name := "allow", desc := "(I)Z" } : Jvm.MethodName)) : Cond) ∈ gT := gI 613 (by decide +kernel) rfl
theorem mw_614 : ((Jvm.Cond.selects "SugarKitchen" ({ cls := "SugarKitchen", name := "allow", desc := "(I)Z" } : Jvm.MethodName) ({ cls := "SugarKitchen", name := "allow", desc := "(I)Z" } : Jvm.MethodName)) : Cond) ∈ gT := gI 614 (by decide +kernel) rfl
set_option maxRecDepth 100000 in
theorem mw_615 : ((Jvm.Cond.code ({ cls := "SugarKitchen", name := "allow", desc := "(I)Z" } : Jvm.MethodName) prog_1_method_21_code (3 : Nat) (Option.some Jvm.ClassFile.FieldType.boolean)) : Cond) ∈ gT := gI 615 rfl rfl
theorem mw_616 : ((Jvm.Cond.methodLink "SugarKitchenLaw" (101 : Nat) ({ cls := "SugarKitchen", name := "pieceOf", desc := "(II)I" } : Jvm.MethodName)) : Cond) ∈ gT := gI 616 (by decide +kernel) rfl
theorem mw_617 : ((Jvm.Cond.instanceMethod ({ cls := "SugarKitchen", name := "pieceOf", desc := "(II)I" } : Jvm.MethodName)) : Cond) ∈ gT := gI 617 (by decide +kernel) rfl
theorem mw_618 : ((Jvm.Cond.selects "SugarKitchen" ({ cls := "SugarKitchen", name := "pieceOf", desc := "(II)I" } : Jvm.MethodName) ({ cls := "SugarKitchen", name := "pieceOf", desc := "(II)I" } : Jvm.MethodName)) : Cond) ∈ gT := gI 618 (by decide +kernel) rfl
set_option maxRecDepth 100000 in
theorem mw_619 : ((Jvm.Cond.code ({ cls := "SugarKitchen", name := "pieceOf", desc := "(II)I" } : Jvm.MethodName) prog_1_method_22_code (4 : Nat) (Option.some Jvm.ClassFile.FieldType.int)) : Cond) ∈ gT := gI 619 rfl rfl
theorem mw_620 : ((Jvm.Cond.methodLink "SugarKitchen" (259 : Nat) ({ cls := "SugarKitchen$Piece", name := "tell", desc := "(I)I" } : Jvm.MethodName)) : Cond) ∈ gT := gI 620 (by decide +kernel) rfl
theorem mw_621 : ((Jvm.Cond.instanceMethod ({ cls := "SugarKitchen$Piece", name := "tell", desc := "(I)I" } : Jvm.MethodName)) : Cond) ∈ gT := gI 621 (by decide +kernel) rfl
theorem mw_622 : ((Jvm.Cond.selects "SugarKitchen$Piece" ({ cls := "SugarKitchen$Piece", name := "tell", desc := "(I)I" } : Jvm.MethodName) ({ cls := "SugarKitchen$Piece", name := "tell", desc := "(I)I" } : Jvm.MethodName)) : Cond) ∈ gT := gI 622 (by decide +kernel) rfl
set_option maxRecDepth 100000 in
theorem mw_623 : ((Jvm.Cond.code ({ cls := "SugarKitchen$Piece", name := "tell", desc := "(I)I" } : Jvm.MethodName) prog_8_method_4_code (2 : Nat) (Option.some Jvm.ClassFile.FieldType.int)) : Cond) ∈ gT := gI 623 rfl rfl
theorem mw_624 : ((Jvm.Cond.methodLink "SugarKitchen$Piece" (47 : Nat) ({ cls := "SugarKitchen$Piece", name := "sort", desc := "()I" } : Jvm.MethodName)) : Cond) ∈ gT := gI 624 (by decide +kernel) rfl
theorem mw_625 : ((Jvm.Cond.instanceMethod ({ cls := "SugarKitchen$Piece", name := "sort", desc := "()I" } : Jvm.MethodName)) : Cond) ∈ gT := gI 625 (by decide +kernel) rfl
theorem mw_626 : ((Jvm.Cond.selects "SugarKitchen$Piece" ({ cls := "SugarKitchen$Piece", name := "sort", desc := "()I" } : Jvm.MethodName) ({ cls := "SugarKitchen$Piece", name := "sort", desc := "()I" } : Jvm.MethodName)) : Cond) ∈ gT := gI 626 (by decide +kernel) rfl
set_option maxRecDepth 100000 in
theorem mw_627 : ((Jvm.Cond.code ({ cls := "SugarKitchen$Piece", name := "sort", desc := "()I" } : Jvm.MethodName) prog_8_method_2_code (1 : Nat) (Option.some Jvm.ClassFile.FieldType.int)) : Cond) ∈ gT := gI 627 rfl rfl
theorem mw_628 : ((Jvm.Cond.methodLink "SugarKitchen$Piece" (51 : Nat) ({ cls := "SugarKitchen$Piece", name := "isFit", desc := "()Z" } : Jvm.MethodName)) : Cond) ∈ gT := gI 628 (by decide +kernel) rfl
theorem mw_629 : ((Jvm.Cond.instanceMethod ({ cls := "SugarKitchen$Piece", name := "isFit", desc := "()Z" } : Jvm.MethodName)) : Cond) ∈ gT := gI 629 (by decide +kernel) rfl
theorem mw_630 : ((Jvm.Cond.selects "SugarKitchen$Piece" ({ cls := "SugarKitchen$Piece", name := "isFit", desc := "()Z" } : Jvm.MethodName) ({ cls := "SugarKitchen$Piece", name := "isFit", desc := "()Z" } : Jvm.MethodName)) : Cond) ∈ gT := gI 630 (by decide +kernel) rfl
set_option maxRecDepth 100000 in
theorem mw_631 : ((Jvm.Cond.code ({ cls := "SugarKitchen$Piece", name := "isFit", desc := "()Z" } : Jvm.MethodName) prog_8_method_3_code (1 : Nat) (Option.some Jvm.ClassFile.FieldType.boolean)) : Cond) ∈ gT := gI 631 rfl rfl
theorem mw_632 : ((Jvm.Cond.methodLink "SugarKitchenLaw" (105 : Nat) ({ cls := "SugarKitchen", name := "at", desc := "(II)I" } : Jvm.MethodName)) : Cond) ∈ gT := gI 632 (by decide +kernel) rfl
theorem mw_633 : ((Jvm.Cond.instanceMethod ({ cls := "SugarKitchen", name := "at", desc := "(II)I" } : Jvm.MethodName)) : Cond) ∈ gT := gI 633 (by decide +kernel) rfl
theorem mw_634 : ((Jvm.Cond.selects "SugarKitchen" ({ cls := "SugarKitchen", name := "at", desc := "(II)I" } : Jvm.MethodName) ({ cls := "SugarKitchen", name := "at", desc := "(II)I" } : Jvm.MethodName)) : Cond) ∈ gT := gI 634 (by decide +kernel) rfl
set_option maxRecDepth 100000 in
theorem mw_635 : ((Jvm.Cond.code ({ cls := "SugarKitchen", name := "at", desc := "(II)I" } : Jvm.MethodName) prog_1_method_23_code (4 : Nat) (Option.some Jvm.ClassFile.FieldType.int)) : Cond) ∈ gT := gI 635 rfl rfl
theorem mw_636 : ((Jvm.Cond.methodLink "SugarKitchenLaw" (109 : Nat) ({ cls := "SugarKitchen", name := "pack", desc := "(III)I" } : Jvm.MethodName)) : Cond) ∈ gT := gI 636 (by decide +kernel) rfl
theorem mw_637 : ((Jvm.Cond.instanceMethod ({ cls := "SugarKitchen", name := "pack", desc := "(III)I" } : Jvm.MethodName)) : Cond) ∈ gT := gI 637 (by decide +kernel) rfl
theorem mw_638 : ((Jvm.Cond.selects "SugarKitchen" ({ cls := "SugarKitchen", name := "pack", desc := "(III)I" } : Jvm.MethodName) ({ cls := "SugarKitchen", name := "pack", desc := "(III)I" } : Jvm.MethodName)) : Cond) ∈ gT := gI 638 (by decide +kernel) rfl
set_option maxRecDepth 100000 in
theorem mw_639 : ((Jvm.Cond.code ({ cls := "SugarKitchen", name := "pack", desc := "(III)I" } : Jvm.MethodName) prog_1_method_24_code (7 : Nat) (Option.some Jvm.ClassFile.FieldType.int)) : Cond) ∈ gT := gI 639 rfl rfl
theorem mw_640 : ((Jvm.Cond.methodLink "SugarKitchen" (260 : Nat) ({ cls := "SugarKitchen", name := "canBeAsked", desc := "(III)Z" } : Jvm.MethodName)) : Cond) ∈ gT := gI 640 (by decide +kernel) rfl
theorem mw_641 : ((Jvm.Cond.static ({ cls := "SugarKitchen", name := "canBeAsked", desc := "(III)Z" } : Jvm.MethodName)) : Cond) ∈ gT := gI 641 (by decide +kernel) rfl
set_option maxRecDepth 100000 in
theorem mw_642 : ((Jvm.Cond.code ({ cls := "SugarKitchen", name := "canBeAsked", desc := "(III)Z" } : Jvm.MethodName) prog_1_method_36_code (3 : Nat) (Option.some Jvm.ClassFile.FieldType.boolean)) : Cond) ∈ gT := gI 642 rfl rfl
theorem mw_643 : ((Jvm.Cond.methodLink "SugarKitchen" (266 : Nat) ({ cls := "SugarKitchen", name := "gather", desc := "([II)V" } : Jvm.MethodName)) : Cond) ∈ gT := gI 643 (by decide +kernel) rfl
theorem mw_645 : ((Jvm.Cond.instanceMethod ({ cls := "SugarKitchen", name := "gather", desc := "([II)V" } : Jvm.MethodName)) : Cond) ∈ gT := gI 645 (by decide +kernel) rfl
set_option maxRecDepth 100000 in
theorem mw_646 : ((Jvm.Cond.code ({ cls := "SugarKitchen", name := "gather", desc := "([II)V" } : Jvm.MethodName) prog_1_method_48_code (5 : Nat) (Option.none : Option Jvm.ClassFile.FieldType)) : Cond) ∈ gT := gI 646 rfl rfl
theorem mw_647 : ((Jvm.Cond.methodLink "SugarKitchen" (349 : Nat) ({ cls := "SugarKitchen$Piece", name := "isFit", desc := "()Z" } : Jvm.MethodName)) : Cond) ∈ gT := gI 647 (by decide +kernel) rfl
theorem mw_648 : ((Jvm.Cond.methodLink "SugarKitchen" (353 : Nat) ({ cls := "SugarKitchen$Piece", name := "sort", desc := "()I" } : Jvm.MethodName)) : Cond) ∈ gT := gI 648 (by decide +kernel) rfl
theorem mw_649 : ((Jvm.Cond.methodLink "SugarKitchen" (356 : Nat) ({ cls := "SugarKitchen$Choice", name := "add", desc := "(II)V" } : Jvm.MethodName)) : Cond) ∈ gT := gI 649 (by decide +kernel) rfl
theorem mw_650 : ((Jvm.Cond.instanceMethod ({ cls := "SugarKitchen$Choice", name := "add", desc := "(II)V" } : Jvm.MethodName)) : Cond) ∈ gT := gI 650 (by decide +kernel) rfl
theorem mw_651 : ((Jvm.Cond.selects "SugarKitchen$Choice" ({ cls := "SugarKitchen$Choice", name := "add", desc := "(II)V" } : Jvm.MethodName) ({ cls := "SugarKitchen$Choice", name := "add", desc := "(II)V" } : Jvm.MethodName)) : Cond) ∈ gT := gI 651 (by decide +kernel) rfl
set_option maxRecDepth 100000 in
theorem mw_652 : ((Jvm.Cond.code ({ cls := "SugarKitchen$Choice", name := "add", desc := "(II)V" } : Jvm.MethodName) prog_4_method_2_code (3 : Nat) (Option.none : Option Jvm.ClassFile.FieldType)) : Cond) ∈ gT := gI 652 rfl rfl
theorem mw_653 : ((Jvm.Cond.methodLink "SugarKitchen" (269 : Nat) ({ cls := "SugarKitchen$Choice", name := "choose", desc := "(II)I" } : Jvm.MethodName)) : Cond) ∈ gT := gI 653 (by decide +kernel) rfl
theorem mw_654 : ((Jvm.Cond.instanceMethod ({ cls := "SugarKitchen$Choice", name := "choose", desc := "(II)I" } : Jvm.MethodName)) : Cond) ∈ gT := gI 654 (by decide +kernel) rfl
theorem mw_655 : ((Jvm.Cond.selects "SugarKitchen$Choice" ({ cls := "SugarKitchen$Choice", name := "choose", desc := "(II)I" } : Jvm.MethodName) ({ cls := "SugarKitchen$Choice", name := "choose", desc := "(II)I" } : Jvm.MethodName)) : Cond) ∈ gT := gI 655 (by decide +kernel) rfl
set_option maxRecDepth 100000 in
theorem mw_656 : ((Jvm.Cond.code ({ cls := "SugarKitchen$Choice", name := "choose", desc := "(II)I" } : Jvm.MethodName) prog_4_method_3_code (5 : Nat) (Option.some Jvm.ClassFile.FieldType.int)) : Cond) ∈ gT := gI 656 rfl rfl
theorem mw_657 : ((Jvm.Cond.methodLink "SugarKitchen$Choice" (26 : Nat) ({ cls := "SugarKitchen$Choice", name := "total", desc := "()I" } : Jvm.MethodName)) : Cond) ∈ gT := gI 657 (by decide +kernel) rfl
theorem mw_659 : ((Jvm.Cond.instanceMethod ({ cls := "SugarKitchen$Choice", name := "total", desc := "()I" } : Jvm.MethodName)) : Cond) ∈ gT := gI 659 (by decide +kernel) rfl
set_option maxRecDepth 100000 in
theorem mw_660 : ((Jvm.Cond.code ({ cls := "SugarKitchen$Choice", name := "total", desc := "()I" } : Jvm.MethodName) prog_4_method_5_code (3 : Nat) (Option.some Jvm.ClassFile.FieldType.int)) : Cond) ∈ gT := gI 660 rfl rfl
theorem mw_661 : ((Jvm.Cond.methodLink "SugarKitchen$Choice" (30 : Nat) ({ cls := "java/lang/Math", name := "min", desc := "(II)I" } : Jvm.MethodName)) : Cond) ∈ gT := gI 661 (by decide +kernel) rfl
end
section
theorem mw_662 : ((Jvm.Cond.methodLink "SugarKitchen$Choice" (36 : Nat) ({ cls := "SugarKitchen$Choice", name := "sumUp", desc := "(I)V" } : Jvm.MethodName)) : Cond) ∈ gT := gI 662 (by decide +kernel) rfl
theorem mw_664 : ((Jvm.Cond.instanceMethod ({ cls := "SugarKitchen$Choice", name := "sumUp", desc := "(I)V" } : Jvm.MethodName)) : Cond) ∈ gT := gI 664 (by decide +kernel) rfl
set_option maxRecDepth 100000 in
theorem mw_665 : ((Jvm.Cond.code ({ cls := "SugarKitchen$Choice", name := "sumUp", desc := "(I)V" } : Jvm.MethodName) prog_4_method_6_code (4 : Nat) (Option.none : Option Jvm.ClassFile.FieldType)) : Cond) ∈ gT := gI 665 rfl rfl
theorem mw_666 : ((Jvm.Cond.methodLink "SugarKitchen$Choice" (57 : Nat) ({ cls := "SugarKitchen$Choice", name := "addPiece", desc := "(II)V" } : Jvm.MethodName)) : Cond) ∈ gT := gI 666 (by decide +kernel) rfl
theorem mw_668 : ((Jvm.Cond.instanceMethod ({ cls := "SugarKitchen$Choice", name := "addPiece", desc := "(II)V" } : Jvm.MethodName)) : Cond) ∈ gT := gI 668 (by decide +kernel) rfl
set_option maxRecDepth 100000 in
theorem mw_669 : ((Jvm.Cond.code ({ cls := "SugarKitchen$Choice", name := "addPiece", desc := "(II)V" } : Jvm.MethodName) prog_4_method_7_code (11 : Nat) (Option.none : Option Jvm.ClassFile.FieldType)) : Cond) ∈ gT := gI 669 rfl rfl
theorem mw_670 : ((Jvm.Cond.methodLink "SugarKitchen$Choice" (61 : Nat) ({ cls := "java/lang/System", name := "arraycopy", desc := "(Ljava/lang/Object;ILjava/lang/Object;II)V" } : Jvm.MethodName)) : Cond) ∈ gT := gI 670 (by decide +kernel) rfl
theorem mw_671 : ((Jvm.Cond.static ({ cls := "java/lang/System", name := "arraycopy", desc := "(Ljava/lang/Object;ILjava/lang/Object;II)V" } : Jvm.MethodName)) : Cond) ∈ gT := gI 671 (by decide +kernel) rfl
theorem mw_672 : ((Jvm.Cond.native ({ cls := "java/lang/System", name := "arraycopy", desc := "(Ljava/lang/Object;ILjava/lang/Object;II)V" } : Jvm.MethodName)) : Cond) ∈ gT := gI 672 (by decide +kernel) rfl
theorem mw_673 : ((Jvm.Cond.methodLink "SugarKitchen$Choice" (40 : Nat) ({ cls := "java/lang/Math", name := "max", desc := "(II)I" } : Jvm.MethodName)) : Cond) ∈ gT := gI 673 (by decide +kernel) rfl
theorem mw_674 : ((Jvm.Cond.methodLink "SugarKitchen$Choice" (43 : Nat) ({ cls := "SugarKitchen$Choice", name := "canWeigh", desc := "(II)Z" } : Jvm.MethodName)) : Cond) ∈ gT := gI 674 (by decide +kernel) rfl
theorem mw_676 : ((Jvm.Cond.instanceMethod ({ cls := "SugarKitchen$Choice", name := "canWeigh", desc := "(II)Z" } : Jvm.MethodName)) : Cond) ∈ gT := gI 676 (by decide +kernel) rfl
set_option maxRecDepth 100000 in
theorem mw_677 : ((Jvm.Cond.code ({ cls := "SugarKitchen$Choice", name := "canWeigh", desc := "(II)Z" } : Jvm.MethodName) prog_4_method_8_code (3 : Nat) (Option.some Jvm.ClassFile.FieldType.boolean)) : Cond) ∈ gT := gI 677 rfl rfl
theorem mw_678 : ((Jvm.Cond.methodLink "SugarKitchen$Choice" (47 : Nat) ({ cls := "SugarKitchen$Choice", name := "markFirst", desc := "(I)V" } : Jvm.MethodName)) : Cond) ∈ gT := gI 678 (by decide +kernel) rfl
theorem mw_680 : ((Jvm.Cond.instanceMethod ({ cls := "SugarKitchen$Choice", name := "markFirst", desc := "(I)V" } : Jvm.MethodName)) : Cond) ∈ gT := gI 680 (by decide +kernel) rfl
set_option maxRecDepth 100000 in
theorem mw_681 : ((Jvm.Cond.code ({ cls := "SugarKitchen$Choice", name := "markFirst", desc := "(I)V" } : Jvm.MethodName) prog_4_method_9_code (4 : Nat) (Option.none : Option Jvm.ClassFile.FieldType)) : Cond) ∈ gT := gI 681 rfl rfl
theorem mw_682 : ((Jvm.Cond.instantiable "SugarKitchen$Box" (6 : Nat)) : Cond) ∈ gT := gI 682 (by decide +kernel) rfl
theorem mw_683 : ((Jvm.Cond.methodLink "SugarKitchen" (272 : Nat) ({ cls := "SugarKitchen$Choice", name := "countChosen", desc := "()I" } : Jvm.MethodName)) : Cond) ∈ gT := gI 683 (by decide +kernel) rfl
theorem mw_684 : ((Jvm.Cond.instanceMethod ({ cls := "SugarKitchen$Choice", name := "countChosen", desc := "()I" } : Jvm.MethodName)) : Cond) ∈ gT := gI 684 (by decide +kernel) rfl
theorem mw_685 : ((Jvm.Cond.selects "SugarKitchen$Choice" ({ cls := "SugarKitchen$Choice", name := "countChosen", desc := "()I" } : Jvm.MethodName) ({ cls := "SugarKitchen$Choice", name := "countChosen", desc := "()I" } : Jvm.MethodName)) : Cond) ∈ gT := gI 685 (by decide +kernel) rfl
set_option maxRecDepth 100000 in
theorem mw_686 : ((Jvm.Cond.code ({ cls := "SugarKitchen$Choice", name := "countChosen", desc := "()I" } : Jvm.MethodName) prog_4_method_4_code (3 : Nat) (Option.some Jvm.ClassFile.FieldType.int)) : Cond) ∈ gT := gI 686 rfl rfl
theorem mw_687 : ((Jvm.Cond.methodLink "SugarKitchen" (276 : Nat) ({ cls := "SugarKitchen$Box", name := "<init>", desc := "(III)V" } : Jvm.MethodName)) : Cond) ∈ gT := gI 687 (by decide +kernel) rfl
theorem mw_688 : ((Jvm.Cond.instanceMethod ({ cls := "SugarKitchen$Box", name := "<init>", desc := "(III)V" } : Jvm.MethodName)) : Cond) ∈ gT := gI 688 (by decide +kernel) rfl
set_option maxRecDepth 100000 in
theorem mw_689 : ((Jvm.Cond.code ({ cls := "SugarKitchen$Box", name := "<init>", desc := "(III)V" } : Jvm.MethodName) prog_3_method_1_code (4 : Nat) (Option.none : Option Jvm.ClassFile.FieldType)) : Cond) ∈ gT := gI 689 rfl rfl
theorem mw_690 : ((Jvm.Cond.methodLink "SugarKitchen$Box" (3 : Nat) ({ cls := "java/lang/Object", name := "<init>", desc := "()V" } : Jvm.MethodName)) : Cond) ∈ gT := gI 690 (by decide +kernel) rfl
theorem mw_691 : ((Jvm.Cond.methodLink "SugarKitchen$Box" (18 : Nat) ({ cls := "java/lang/Math", name := "max", desc := "(II)I" } : Jvm.MethodName)) : Cond) ∈ gT := gI 691 (by decide +kernel) rfl
theorem mw_692 : ((Jvm.Cond.fieldLink "SugarKitchen$Box" (9 : Nat) "SugarKitchen$Box" "told" "I") : Cond) ∈ gT := gI 692 (by decide +kernel) rfl
theorem mw_693 : ((Jvm.Cond.fieldLink "SugarKitchen$Box" (15 : Nat) "SugarKitchen$Box" "weight" "I") : Cond) ∈ gT := gI 693 (by decide +kernel) rfl
theorem mw_694 : ((Jvm.Cond.fieldLink "SugarKitchen$Box" (24 : Nat) "SugarKitchen$Box" "numbers" "[I") : Cond) ∈ gT := gI 694 (by decide +kernel) rfl
theorem mw_695 : ((Jvm.Cond.fieldLink "SugarKitchen$Box" (28 : Nat) "SugarKitchen$Box" "many" "I") : Cond) ∈ gT := gI 695 (by decide +kernel) rfl
theorem mw_696 : ((Jvm.Cond.fieldLink "SugarKitchen$Box" (31 : Nat) "SugarKitchen$Box" "lots" "J") : Cond) ∈ gT := gI 696 (by decide +kernel) rfl
theorem mw_697 : ((Jvm.Cond.fieldLink "SugarKitchen" (292 : Nat) "SugarKitchen$Box" "lots" "J") : Cond) ∈ gT := gI 697 (by decide +kernel) rfl
theorem mw_698 : ((Jvm.Cond.fieldLink "SugarKitchen$Box" (43 : Nat) "SugarKitchen$Box" "warnings" "I") : Cond) ∈ gT := gI 698 (by decide +kernel) rfl
theorem mw_699 : ((Jvm.Cond.fieldLink "SugarKitchen" (297 : Nat) "SugarKitchen$Box" "warnings" "I") : Cond) ∈ gT := gI 699 (by decide +kernel) rfl
theorem mw_700 : ((Jvm.Cond.laysFinal "SugarKitchen$Box" "SugarKitchen$Box" "told" "I") : Cond) ∈ gT := gI 700 (by decide +kernel) rfl
theorem mw_701 : ((Jvm.Cond.soleField "SugarKitchen$Box" "told") : Cond) ∈ gT := gI 701 (by decide +kernel) rfl
theorem mw_702 : ((Jvm.Cond.laysFinal "SugarKitchen$Box" "SugarKitchen$Box" "weight" "I") : Cond) ∈ gT := gI 702 (by decide +kernel) rfl
theorem mw_703 : ((Jvm.Cond.soleField "SugarKitchen$Box" "weight") : Cond) ∈ gT := gI 703 (by decide +kernel) rfl
theorem mw_704 : ((Jvm.Cond.laysFinal "SugarKitchen$Box" "SugarKitchen$Box" "numbers" "[I") : Cond) ∈ gT := gI 704 (by decide +kernel) rfl
theorem mw_705 : ((Jvm.Cond.soleField "SugarKitchen$Box" "numbers") : Cond) ∈ gT := gI 705 (by decide +kernel) rfl
theorem mw_706 : ((Jvm.Cond.lays "SugarKitchen$Box" "SugarKitchen$Box" "many" "I") : Cond) ∈ gT := gI 706 (by decide +kernel) rfl
theorem mw_707 : ((Jvm.Cond.soleField "SugarKitchen$Box" "many") : Cond) ∈ gT := gI 707 (by decide +kernel) rfl
theorem mw_708 : ((Jvm.Cond.lays "SugarKitchen$Box" "SugarKitchen$Box" "lots" "J") : Cond) ∈ gT := gI 708 (by decide +kernel) rfl
theorem mw_709 : ((Jvm.Cond.soleField "SugarKitchen$Box" "lots") : Cond) ∈ gT := gI 709 (by decide +kernel) rfl
theorem mw_710 : ((Jvm.Cond.lays "SugarKitchen$Box" "SugarKitchen$Box" "warnings" "I") : Cond) ∈ gT := gI 710 (by decide +kernel) rfl
theorem mw_711 : ((Jvm.Cond.soleField "SugarKitchen$Box" "warnings") : Cond) ∈ gT := gI 711 (by decide +kernel) rfl
theorem mw_712 : ((Jvm.Cond.superclass "SugarKitchen$Box" "java/lang/Object") : Cond) ∈ gT := gI 712 (by decide +kernel) rfl
theorem mw_713 : ((Jvm.Cond.arrayClass Jvm.ClassFile.FieldType.long) : Cond) ∈ gT := gI 713 (by decide +kernel) rfl
theorem mw_714 : ((Jvm.Cond.methodLink "SugarKitchen" (288 : Nat) ({ cls := "SugarKitchen", name := "moveToBox", desc := "(ILSugarKitchen$Box;)V" } : Jvm.MethodName)) : Cond) ∈ gT := gI 714 (by decide +kernel) rfl
theorem mw_716 : ((Jvm.Cond.instanceMethod ({ cls := "SugarKitchen", name := "moveToBox", desc := "(ILSugarKitchen$Box;)V" } : Jvm.MethodName)) : Cond) ∈ gT := gI 716 (by decide +kernel) rfl
set_option maxRecDepth 100000 in
theorem mw_717 : ((Jvm.Cond.code ({ cls := "SugarKitchen", name := "moveToBox", desc := "(ILSugarKitchen$Box;)V" } : Jvm.MethodName) prog_1_method_47_code (5 : Nat) (Option.none : Option Jvm.ClassFile.FieldType)) : Cond) ∈ gT := gI 717 rfl rfl
theorem mw_718 : ((Jvm.Cond.methodLink "SugarKitchen" (346 : Nat) ({ cls := "SugarKitchen$Box", name := "add", desc := "(IJ)V" } : Jvm.MethodName)) : Cond) ∈ gT := gI 718 (by decide +kernel) rfl
theorem mw_719 : ((Jvm.Cond.instanceMethod ({ cls := "SugarKitchen$Box", name := "add", desc := "(IJ)V" } : Jvm.MethodName)) : Cond) ∈ gT := gI 719 (by decide +kernel) rfl
theorem mw_720 : ((Jvm.Cond.selects "SugarKitchen$Box" ({ cls := "SugarKitchen$Box", name := "add", desc := "(IJ)V" } : Jvm.MethodName) ({ cls := "SugarKitchen$Box", name := "add", desc := "(IJ)V" } : Jvm.MethodName)) : Cond) ∈ gT := gI 720 (by decide +kernel) rfl
set_option maxRecDepth 100000 in
theorem mw_721 : ((Jvm.Cond.code ({ cls := "SugarKitchen$Box", name := "add", desc := "(IJ)V" } : Jvm.MethodName) prog_3_method_2_code (5 : Nat) (Option.none : Option Jvm.ClassFile.FieldType)) : Cond) ∈ gT := gI 721 rfl rfl
theorem mw_722 : ((Jvm.Cond.methodLink "SugarKitchen" (293 : Nat) ({ cls := "SugarKitchen", name := "warningsOf", desc := "(J)I" } : Jvm.MethodName)) : Cond) ∈ gT := gI 722 (by decide +kernel) rfl
theorem mw_724 : ((Jvm.Cond.instanceMethod ({ cls := "SugarKitchen", name := "warningsOf", desc := "(J)I" } : Jvm.MethodName)) : Cond) ∈ gT := gI 724 (by decide +kernel) rfl
set_option maxRecDepth 100000 in
theorem mw_725 : ((Jvm.Cond.code ({ cls := "SugarKitchen", name := "warningsOf", desc := "(J)I" } : Jvm.MethodName) prog_1_method_50_code (6 : Nat) (Option.some Jvm.ClassFile.FieldType.int)) : Cond) ∈ gT := gI 725 rfl rfl
theorem mw_726 : ((Jvm.Cond.methodLink "SugarKitchenLaw" (113 : Nat) ({ cls := "SugarKitchen", name := "would", desc := "(IIII)I" } : Jvm.MethodName)) : Cond) ∈ gT := gI 726 (by decide +kernel) rfl
theorem mw_727 : ((Jvm.Cond.instanceMethod ({ cls := "SugarKitchen", name := "would", desc := "(IIII)I" } : Jvm.MethodName)) : Cond) ∈ gT := gI 727 (by decide +kernel) rfl
theorem mw_728 : ((Jvm.Cond.selects "SugarKitchen" ({ cls := "SugarKitchen", name := "would", desc := "(IIII)I" } : Jvm.MethodName) ({ cls := "SugarKitchen", name := "would", desc := "(IIII)I" } : Jvm.MethodName)) : Cond) ∈ gT := gI 728 (by decide +kernel) rfl
set_option maxRecDepth 100000 in
theorem mw_729 : ((Jvm.Cond.code ({ cls := "SugarKitchen", name := "would", desc := "(IIII)I" } : Jvm.MethodName) prog_1_method_25_code (6 : Nat) (Option.some Jvm.ClassFile.FieldType.int)) : Cond) ∈ gT := gI 729 rfl rfl
theorem mw_730 : ((Jvm.Cond.methodLink "SugarKitchen" (300 : Nat) ({ cls := "SugarKitchen", name := "countFull", desc := "(III)I" } : Jvm.MethodName)) : Cond) ∈ gT := gI 730 (by decide +kernel) rfl
theorem mw_732 : ((Jvm.Cond.instanceMethod ({ cls := "SugarKitchen", name := "countFull", desc := "(III)I" } : Jvm.MethodName)) : Cond) ∈ gT := gI 732 (by decide +kernel) rfl
set_option maxRecDepth 100000 in
theorem mw_733 : ((Jvm.Cond.code ({ cls := "SugarKitchen", name := "countFull", desc := "(III)I" } : Jvm.MethodName) prog_1_method_49_code (6 : Nat) (Option.some Jvm.ClassFile.FieldType.int)) : Cond) ∈ gT := gI 733 rfl rfl
theorem mw_734 : ((Jvm.Cond.methodLink "SugarKitchen" (358 : Nat) ({ cls := "java/lang/System", name := "arraycopy", desc := "(Ljava/lang/Object;ILjava/lang/Object;II)V" } : Jvm.MethodName)) : Cond) ∈ gT := gI 734 (by decide +kernel) rfl
theorem mw_735 : ((Jvm.Cond.methodLink "SugarKitchen" (304 : Nat) ({ cls := "SugarKitchen$Parting", name := "mostBoxes", desc := "(LSugarKitchen$Choice;II)I" } : Jvm.MethodName)) : Cond) ∈ gT := gI 735 (by decide +kernel) rfl
theorem mw_736 : ((Jvm.Cond.instanceMethod ({ cls := "SugarKitchen$Parting", name := "mostBoxes", desc := "(LSugarKitchen$Choice;II)I" } : Jvm.MethodName)) : Cond) ∈ gT := gI 736 (by decide +kernel) rfl
theorem mw_737 : ((Jvm.Cond.selects "SugarKitchen$Parting" ({ cls := "SugarKitchen$Parting", name := "mostBoxes", desc := "(LSugarKitchen$Choice;II)I" } : Jvm.MethodName) ({ cls := "SugarKitchen$Parting", name := "mostBoxes", desc := "(LSugarKitchen$Choice;II)I" } : Jvm.MethodName)) : Cond) ∈ gT := gI 737 (by decide +kernel) rfl
set_option maxRecDepth 100000 in
theorem mw_738 : ((Jvm.Cond.code ({ cls := "SugarKitchen$Parting", name := "mostBoxes", desc := "(LSugarKitchen$Choice;II)I" } : Jvm.MethodName) prog_7_method_2_code (7 : Nat) (Option.some Jvm.ClassFile.FieldType.int)) : Cond) ∈ gT := gI 738 rfl rfl
theorem mw_739 : ((Jvm.Cond.methodLink "SugarKitchen$Parting" (28 : Nat) ({ cls := "java/lang/Math", name := "min", desc := "(II)I" } : Jvm.MethodName)) : Cond) ∈ gT := gI 739 (by decide +kernel) rfl
theorem mw_740 : ((Jvm.Cond.methodLink "SugarKitchen$Parting" (35 : Nat) ({ cls := "SugarKitchen$Parting", name := "insert", desc := "(I)V" } : Jvm.MethodName)) : Cond) ∈ gT := gI 740 (by decide +kernel) rfl
theorem mw_742 : ((Jvm.Cond.instanceMethod ({ cls := "SugarKitchen$Parting", name := "insert", desc := "(I)V" } : Jvm.MethodName)) : Cond) ∈ gT := gI 742 (by decide +kernel) rfl
set_option maxRecDepth 100000 in
theorem mw_743 : ((Jvm.Cond.code ({ cls := "SugarKitchen$Parting", name := "insert", desc := "(I)V" } : Jvm.MethodName) prog_7_method_3_code (3 : Nat) (Option.none : Option Jvm.ClassFile.FieldType)) : Cond) ∈ gT := gI 743 rfl rfl
theorem mw_744 : ((Jvm.Cond.methodLink "SugarKitchen$Parting" (39 : Nat) ({ cls := "SugarKitchen$Parting", name := "forget", desc := "()V" } : Jvm.MethodName)) : Cond) ∈ gT := gI 744 (by decide +kernel) rfl
theorem mw_746 : ((Jvm.Cond.instanceMethod ({ cls := "SugarKitchen$Parting", name := "forget", desc := "()V" } : Jvm.MethodName)) : Cond) ∈ gT := gI 746 (by decide +kernel) rfl
set_option maxRecDepth 100000 in
theorem mw_747 : ((Jvm.Cond.code ({ cls := "SugarKitchen$Parting", name := "forget", desc := "()V" } : Jvm.MethodName) prog_7_method_4_code (3 : Nat) (Option.none : Option Jvm.ClassFile.FieldType)) : Cond) ∈ gT := gI 747 rfl rfl
theorem mw_748 : ((Jvm.Cond.methodLink "SugarKitchen$Parting" (42 : Nat) ({ cls := "SugarKitchen$Parting", name := "mostOf", desc := "(II)I" } : Jvm.MethodName)) : Cond) ∈ gT := gI 748 (by decide +kernel) rfl
theorem mw_750 : ((Jvm.Cond.instanceMethod ({ cls := "SugarKitchen$Parting", name := "mostOf", desc := "(II)I" } : Jvm.MethodName)) : Cond) ∈ gT := gI 750 (by decide +kernel) rfl
set_option maxRecDepth 100000 in
theorem mw_751 : ((Jvm.Cond.code ({ cls := "SugarKitchen$Parting", name := "mostOf", desc := "(II)I" } : Jvm.MethodName) prog_7_method_6_code (10 : Nat) (Option.some Jvm.ClassFile.FieldType.int)) : Cond) ∈ gT := gI 751 rfl rfl
theorem mw_752 : ((Jvm.Cond.methodLink "SugarKitchen$Parting" (49 : Nat) ({ cls := "SugarKitchen$Parting", name := "isFree", desc := "(II)Z" } : Jvm.MethodName)) : Cond) ∈ gT := gI 752 (by decide +kernel) rfl
theorem mw_754 : ((Jvm.Cond.instanceMethod ({ cls := "SugarKitchen$Parting", name := "isFree", desc := "(II)Z" } : Jvm.MethodName)) : Cond) ∈ gT := gI 754 (by decide +kernel) rfl
set_option maxRecDepth 100000 in
theorem mw_755 : ((Jvm.Cond.code ({ cls := "SugarKitchen$Parting", name := "isFree", desc := "(II)Z" } : Jvm.MethodName) prog_7_method_5_code (3 : Nat) (Option.some Jvm.ClassFile.FieldType.boolean)) : Cond) ∈ gT := gI 755 rfl rfl
theorem mw_756 : ((Jvm.Cond.methodLink "SugarKitchen$Parting" (53 : Nat) ({ cls := "SugarKitchen$Parting", name := "fillBox", desc := "(IIIII)I" } : Jvm.MethodName)) : Cond) ∈ gT := gI 756 (by decide +kernel) rfl
theorem mw_758 : ((Jvm.Cond.instanceMethod ({ cls := "SugarKitchen$Parting", name := "fillBox", desc := "(IIIII)I" } : Jvm.MethodName)) : Cond) ∈ gT := gI 758 (by decide +kernel) rfl
set_option maxRecDepth 100000 in
theorem mw_759 : ((Jvm.Cond.code ({ cls := "SugarKitchen$Parting", name := "fillBox", desc := "(IIIII)I" } : Jvm.MethodName) prog_7_method_7_code (11 : Nat) (Option.some Jvm.ClassFile.FieldType.int)) : Cond) ∈ gT := gI 759 rfl rfl
theorem mw_760 : ((Jvm.Cond.methodLink "SugarKitchen$Parting" (57 : Nat) ({ cls := "java/lang/Math", name := "max", desc := "(II)I" } : Jvm.MethodName)) : Cond) ∈ gT := gI 760 (by decide +kernel) rfl
theorem mw_761 : ((Jvm.Cond.arrayClass Jvm.ClassFile.FieldType.byte) : Cond) ∈ gT := gI 761 (by decide +kernel) rfl
theorem mw_762 : ((Jvm.Cond.methodLink "SugarKitchenLaw" (118 : Nat) ({ cls := "SugarKitchen", name := "boxOf", desc := "(II)I" } : Jvm.MethodName)) : Cond) ∈ gT := gI 762 (by decide +kernel) rfl
theorem mw_763 : ((Jvm.Cond.instanceMethod ({ cls := "SugarKitchen", name := "boxOf", desc := "(II)I" } : Jvm.MethodName)) : Cond) ∈ gT := gI 763 (by decide +kernel) rfl
theorem mw_764 : ((Jvm.Cond.selects "SugarKitchen" ({ cls := "SugarKitchen", name := "boxOf", desc := "(II)I" } : Jvm.MethodName) ({ cls := "SugarKitchen", name := "boxOf", desc := "(II)I" } : Jvm.MethodName)) : Cond) ∈ gT := gI 764 (by decide +kernel) rfl
set_option maxRecDepth 100000 in
theorem mw_765 : ((Jvm.Cond.code ({ cls := "SugarKitchen", name := "boxOf", desc := "(II)I" } : Jvm.MethodName) prog_1_method_26_code (4 : Nat) (Option.some Jvm.ClassFile.FieldType.int)) : Cond) ∈ gT := gI 765 rfl rfl
theorem mw_766 : ((Jvm.Cond.methodLink "SugarKitchen" (308 : Nat) ({ cls := "SugarKitchen", name := "findBox", desc := "(I)LSugarKitchen$Box;" } : Jvm.MethodName)) : Cond) ∈ gT := gI 766 (by decide +kernel) rfl
theorem mw_768 : ((Jvm.Cond.instanceMethod ({ cls := "SugarKitchen", name := "findBox", desc := "(I)LSugarKitchen$Box;" } : Jvm.MethodName)) : Cond) ∈ gT := gI 768 (by decide +kernel) rfl
set_option maxRecDepth 100000 in
theorem mw_769 : ((Jvm.Cond.code ({ cls := "SugarKitchen", name := "findBox", desc := "(I)LSugarKitchen$Box;" } : Jvm.MethodName) prog_1_method_44_code (2 : Nat) (Option.some (Jvm.ClassFile.FieldType.object "SugarKitchen$Box"))) : Cond) ∈ gT := gI 769 rfl rfl
theorem mw_770 : ((Jvm.Cond.methodLink "SugarKitchen" (312 : Nat) ({ cls := "SugarKitchen$Box", name := "tell", desc := "(I)I" } : Jvm.MethodName)) : Cond) ∈ gT := gI 770 (by decide +kernel) rfl
theorem mw_771 : ((Jvm.Cond.instanceMethod ({ cls := "SugarKitchen$Box", name := "tell", desc := "(I)I" } : Jvm.MethodName)) : Cond) ∈ gT := gI 771 (by decide +kernel) rfl
theorem mw_772 : ((Jvm.Cond.selects "SugarKitchen$Box" ({ cls := "SugarKitchen$Box", name := "tell", desc := "(I)I" } : Jvm.MethodName) ({ cls := "SugarKitchen$Box", name := "tell", desc := "(I)I" } : Jvm.MethodName)) : Cond) ∈ gT := gI 772 (by decide +kernel) rfl
set_option maxRecDepth 100000 in
theorem mw_773 : ((Jvm.Cond.code ({ cls := "SugarKitchen$Box", name := "tell", desc := "(I)I" } : Jvm.MethodName) prog_3_method_3_code (2 : Nat) (Option.some Jvm.ClassFile.FieldType.int)) : Cond) ∈ gT := gI 773 rfl rfl
theorem mt_774 : ((Jvm.Cond.methodLinkNest "SugarKitchen$Box" (35 : Nat) ({ cls := "SugarKitchen", name := "within", desc := "(III)Z" } : Jvm.MethodName) "SugarKitchen") : Cond) ∈ lw_tbl := List.mem_append_right _ (List.mem_of_getElem? (i := 774) (by decide +kernel))
theorem mw_775 : ((Jvm.Cond.methodLink "SugarKitchen$Box" (39 : Nat) ({ cls := "SugarKitchen$Box", name := "lotAt", desc := "(I)I" } : Jvm.MethodName)) : Cond) ∈ gT := gI 775 (by decide +kernel) rfl
theorem mw_777 : ((Jvm.Cond.instanceMethod ({ cls := "SugarKitchen$Box", name := "lotAt", desc := "(I)I" } : Jvm.MethodName)) : Cond) ∈ gT := gI 777 (by decide +kernel) rfl
set_option maxRecDepth 100000 in
theorem mw_778 : ((Jvm.Cond.code ({ cls := "SugarKitchen$Box", name := "lotAt", desc := "(I)I" } : Jvm.MethodName) prog_3_method_4_code (4 : Nat) (Option.some Jvm.ClassFile.FieldType.int)) : Cond) ∈ gT := gI 778 rfl rfl
theorem mw_779 : ((Jvm.Cond.methodLink "SugarKitchen$Box" (46 : Nat) ({ cls := "java/lang/Long", name := "bitCount", desc := "(J)I" } : Jvm.MethodName)) : Cond) ∈ gT := gI 779 (by decide +kernel) rfl
theorem mw_780 : ((Jvm.Cond.static ({ cls := "java/lang/Long", name := "bitCount", desc := "(J)I" } : Jvm.MethodName)) : Cond) ∈ gT := gI 780 (by decide +kernel) rfl
set_option maxRecDepth 100000 in
theorem mw_781 : ((Jvm.Cond.code ({ cls := "java/lang/Long", name := "bitCount", desc := "(J)I" } : Jvm.MethodName) prog_15_method_50_code (2 : Nat) (Option.some Jvm.ClassFile.FieldType.int)) : Cond) ∈ gT := gI 781 rfl rfl
theorem mw_782 : ((Jvm.Cond.constantLong "java/lang/Long" (314 : Nat) (6148914691236517205 : Int64)) : Cond) ∈ gT := gI 782 (by decide +kernel) rfl
theorem mw_783 : ((Jvm.Cond.constantLong "java/lang/Long" (316 : Nat) (3689348814741910323 : Int64)) : Cond) ∈ gT := gI 783 (by decide +kernel) rfl
theorem mw_784 : ((Jvm.Cond.constantLong "java/lang/Long" (318 : Nat) (1085102592571150095 : Int64)) : Cond) ∈ gT := gI 784 (by decide +kernel) rfl
theorem mw_785 : ((Jvm.Cond.methodLink "SugarKitchenLaw" (122 : Nat) ({ cls := "SugarKitchen", name := "wash", desc := "(III)Z" } : Jvm.MethodName)) : Cond) ∈ gT := gI 785 (by decide +kernel) rfl
theorem mw_786 : ((Jvm.Cond.instanceMethod ({ cls := "SugarKitchen", name := "wash", desc := "(III)Z" } : Jvm.MethodName)) : Cond) ∈ gT := gI 786 (by decide +kernel) rfl
theorem mw_787 : ((Jvm.Cond.selects "SugarKitchen" ({ cls := "SugarKitchen", name := "wash", desc := "(III)Z" } : Jvm.MethodName) ({ cls := "SugarKitchen", name := "wash", desc := "(III)Z" } : Jvm.MethodName)) : Cond) ∈ gT := gI 787 (by decide +kernel) rfl
set_option maxRecDepth 100000 in
theorem mw_788 : ((Jvm.Cond.code ({ cls := "SugarKitchen", name := "wash", desc := "(III)Z" } : Jvm.MethodName) prog_1_method_27_code (4 : Nat) (Option.some Jvm.ClassFile.FieldType.boolean)) : Cond) ∈ gT := gI 788 rfl rfl
theorem mw_789 : ((Jvm.Cond.methodLink "SugarKitchen" (313 : Nat) ({ cls := "SugarKitchen$Kettle", name := "setWashing", desc := "(III)V" } : Jvm.MethodName)) : Cond) ∈ gT := gI 789 (by decide +kernel) rfl
theorem mw_790 : ((Jvm.Cond.instanceMethod ({ cls := "SugarKitchen$Kettle", name := "setWashing", desc := "(III)V" } : Jvm.MethodName)) : Cond) ∈ gT := gI 790 (by decide +kernel) rfl
theorem mw_791 : ((Jvm.Cond.selects "SugarKitchen$Kettle" ({ cls := "SugarKitchen$Kettle", name := "setWashing", desc := "(III)V" } : Jvm.MethodName) ({ cls := "SugarKitchen$Kettle", name := "setWashing", desc := "(III)V" } : Jvm.MethodName)) : Cond) ∈ gT := gI 791 (by decide +kernel) rfl
set_option maxRecDepth 100000 in
theorem mw_792 : ((Jvm.Cond.code ({ cls := "SugarKitchen$Kettle", name := "setWashing", desc := "(III)V" } : Jvm.MethodName) prog_5_method_2_code (4 : Nat) (Option.none : Option Jvm.ClassFile.FieldType)) : Cond) ∈ gT := gI 792 rfl rfl
theorem mw_793 : ((Jvm.Cond.methodLink "SugarKitchenLaw" (126 : Nat) ({ cls := "SugarKitchen", name := "queue", desc := "(I)I" } : Jvm.MethodName)) : Cond) ∈ gT := gI 793 (by decide +kernel) rfl
theorem mw_794 : ((Jvm.Cond.instanceMethod ({ cls := "SugarKitchen", name := "queue", desc := "(I)I" } : Jvm.MethodName)) : Cond) ∈ gT := gI 794 (by decide +kernel) rfl
theorem mw_795 : ((Jvm.Cond.selects "SugarKitchen" ({ cls := "SugarKitchen", name := "queue", desc := "(I)I" } : Jvm.MethodName) ({ cls := "SugarKitchen", name := "queue", desc := "(I)I" } : Jvm.MethodName)) : Cond) ∈ gT := gI 795 (by decide +kernel) rfl
set_option maxRecDepth 100000 in
theorem mw_796 : ((Jvm.Cond.code ({ cls := "SugarKitchen", name := "queue", desc := "(I)I" } : Jvm.MethodName) prog_1_method_28_code (3 : Nat) (Option.some Jvm.ClassFile.FieldType.int)) : Cond) ∈ gT := gI 796 rfl rfl
theorem mw_797 : ((Jvm.Cond.methodLink "SugarKitchen" (316 : Nat) ({ cls := "SugarKitchen$Kettle", name := "empty", desc := "()V" } : Jvm.MethodName)) : Cond) ∈ gT := gI 797 (by decide +kernel) rfl
theorem mw_798 : ((Jvm.Cond.instanceMethod ({ cls := "SugarKitchen$Kettle", name := "empty", desc := "()V" } : Jvm.MethodName)) : Cond) ∈ gT := gI 798 (by decide +kernel) rfl
theorem mw_799 : ((Jvm.Cond.selects "SugarKitchen$Kettle" ({ cls := "SugarKitchen$Kettle", name := "empty", desc := "()V" } : Jvm.MethodName) ({ cls := "SugarKitchen$Kettle", name := "empty", desc := "()V" } : Jvm.MethodName)) : Cond) ∈ gT := gI 799 (by decide +kernel) rfl
set_option maxRecDepth 100000 in
theorem mw_800 : ((Jvm.Cond.code ({ cls := "SugarKitchen$Kettle", name := "empty", desc := "()V" } : Jvm.MethodName) prog_5_method_3_code (1 : Nat) (Option.none : Option Jvm.ClassFile.FieldType)) : Cond) ∈ gT := gI 800 rfl rfl
theorem mw_801 : ((Jvm.Cond.methodLink "SugarKitchen" (319 : Nat) ({ cls := "SugarKitchen$Kettle", name := "add", desc := "(II)I" } : Jvm.MethodName)) : Cond) ∈ gT := gI 801 (by decide +kernel) rfl
theorem mw_802 : ((Jvm.Cond.instanceMethod ({ cls := "SugarKitchen$Kettle", name := "add", desc := "(II)I" } : Jvm.MethodName)) : Cond) ∈ gT := gI 802 (by decide +kernel) rfl
theorem mw_803 : ((Jvm.Cond.selects "SugarKitchen$Kettle" ({ cls := "SugarKitchen$Kettle", name := "add", desc := "(II)I" } : Jvm.MethodName) ({ cls := "SugarKitchen$Kettle", name := "add", desc := "(II)I" } : Jvm.MethodName)) : Cond) ∈ gT := gI 803 (by decide +kernel) rfl
set_option maxRecDepth 100000 in
theorem mw_804 : ((Jvm.Cond.code ({ cls := "SugarKitchen$Kettle", name := "add", desc := "(II)I" } : Jvm.MethodName) prog_5_method_4_code (4 : Nat) (Option.some Jvm.ClassFile.FieldType.int)) : Cond) ∈ gT := gI 804 rfl rfl
theorem mw_805 : ((Jvm.Cond.methodLink "SugarKitchenLaw" (130 : Nat) ({ cls := "SugarKitchen", name := "order", desc := "(ZI)I" } : Jvm.MethodName)) : Cond) ∈ gT := gI 805 (by decide +kernel) rfl
theorem mw_806 : ((Jvm.Cond.instanceMethod ({ cls := "SugarKitchen", name := "order", desc := "(ZI)I" } : Jvm.MethodName)) : Cond) ∈ gT := gI 806 (by decide +kernel) rfl
theorem mw_807 : ((Jvm.Cond.selects "SugarKitchen" ({ cls := "SugarKitchen", name := "order", desc := "(ZI)I" } : Jvm.MethodName) ({ cls := "SugarKitchen", name := "order", desc := "(ZI)I" } : Jvm.MethodName)) : Cond) ∈ gT := gI 807 (by decide +kernel) rfl
set_option maxRecDepth 100000 in
theorem mw_808 : ((Jvm.Cond.code ({ cls := "SugarKitchen", name := "order", desc := "(ZI)I" } : Jvm.MethodName) prog_1_method_29_code (3 : Nat) (Option.some Jvm.ClassFile.FieldType.int)) : Cond) ∈ gT := gI 808 rfl rfl
theorem mw_809 : ((Jvm.Cond.methodLink "SugarKitchen" (322 : Nat) ({ cls := "SugarKitchen$Kettle", name := "findOrder", desc := "(Z)V" } : Jvm.MethodName)) : Cond) ∈ gT := gI 809 (by decide +kernel) rfl
theorem mw_810 : ((Jvm.Cond.instanceMethod ({ cls := "SugarKitchen$Kettle", name := "findOrder", desc := "(Z)V" } : Jvm.MethodName)) : Cond) ∈ gT := gI 810 (by decide +kernel) rfl
theorem mw_811 : ((Jvm.Cond.selects "SugarKitchen$Kettle" ({ cls := "SugarKitchen$Kettle", name := "findOrder", desc := "(Z)V" } : Jvm.MethodName) ({ cls := "SugarKitchen$Kettle", name := "findOrder", desc := "(Z)V" } : Jvm.MethodName)) : Cond) ∈ gT := gI 811 (by decide +kernel) rfl
set_option maxRecDepth 100000 in
theorem mw_812 : ((Jvm.Cond.code ({ cls := "SugarKitchen$Kettle", name := "findOrder", desc := "(Z)V" } : Jvm.MethodName) prog_5_method_5_code (3 : Nat) (Option.none : Option Jvm.ClassFile.FieldType)) : Cond) ∈ gT := gI 812 rfl rfl
theorem mw_813 : ((Jvm.Cond.methodLink "SugarKitchen$Kettle" (51 : Nat) ({ cls := "SugarKitchen$Kettle", name := "countKinds", desc := "()I" } : Jvm.MethodName)) : Cond) ∈ gT := gI 813 (by decide +kernel) rfl
theorem mw_815 : ((Jvm.Cond.instanceMethod ({ cls := "SugarKitchen$Kettle", name := "countKinds", desc := "()I" } : Jvm.MethodName)) : Cond) ∈ gT := gI 815 (by decide +kernel) rfl
set_option maxRecDepth 100000 in
theorem mw_816 : ((Jvm.Cond.code ({ cls := "SugarKitchen$Kettle", name := "countKinds", desc := "()I" } : Jvm.MethodName) prog_5_method_6_code (3 : Nat) (Option.some Jvm.ClassFile.FieldType.int)) : Cond) ∈ gT := gI 816 rfl rfl
theorem mw_817 : ((Jvm.Cond.methodLink "SugarKitchen$Kettle" (62 : Nat) ({ cls := "java/util/Arrays", name := "fill", desc := "([II)V" } : Jvm.MethodName)) : Cond) ∈ gT := gI 817 (by decide +kernel) rfl
theorem mw_818 : ((Jvm.Cond.methodLink "SugarKitchen$Kettle" (68 : Nat) ({ cls := "java/lang/Math", name := "min", desc := "(II)I" } : Jvm.MethodName)) : Cond) ∈ gT := gI 818 (by decide +kernel) rfl
theorem mw_819 : ((Jvm.Cond.methodLink "SugarKitchen$Kettle" (55 : Nat) ({ cls := "SugarKitchen$Kettle", name := "findLeast", desc := "(IZ)V" } : Jvm.MethodName)) : Cond) ∈ gT := gI 819 (by decide +kernel) rfl
theorem mw_821 : ((Jvm.Cond.instanceMethod ({ cls := "SugarKitchen$Kettle", name := "findLeast", desc := "(IZ)V" } : Jvm.MethodName)) : Cond) ∈ gT := gI 821 (by decide +kernel) rfl
set_option maxRecDepth 100000 in
theorem mw_822 : ((Jvm.Cond.code ({ cls := "SugarKitchen$Kettle", name := "findLeast", desc := "(IZ)V" } : Jvm.MethodName) prog_5_method_7_code (4 : Nat) (Option.none : Option Jvm.ClassFile.FieldType)) : Cond) ∈ gT := gI 822 rfl rfl
theorem mw_823 : ((Jvm.Cond.methodLink "SugarKitchen$Kettle" (77 : Nat) ({ cls := "SugarKitchen$Kettle", name := "countOn", desc := "()V" } : Jvm.MethodName)) : Cond) ∈ gT := gI 823 (by decide +kernel) rfl
theorem mw_825 : ((Jvm.Cond.instanceMethod ({ cls := "SugarKitchen$Kettle", name := "countOn", desc := "()V" } : Jvm.MethodName)) : Cond) ∈ gT := gI 825 (by decide +kernel) rfl
set_option maxRecDepth 100000 in
theorem mw_826 : ((Jvm.Cond.code ({ cls := "SugarKitchen$Kettle", name := "countOn", desc := "()V" } : Jvm.MethodName) prog_5_method_8_code (2 : Nat) (Option.none : Option Jvm.ClassFile.FieldType)) : Cond) ∈ gT := gI 826 rfl rfl
theorem mw_827 : ((Jvm.Cond.methodLink "SugarKitchen$Kettle" (80 : Nat) ({ cls := "SugarKitchen$Kettle", name := "findLeastOf", desc := "(IZ)V" } : Jvm.MethodName)) : Cond) ∈ gT := gI 827 (by decide +kernel) rfl
theorem mw_829 : ((Jvm.Cond.instanceMethod ({ cls := "SugarKitchen$Kettle", name := "findLeastOf", desc := "(IZ)V" } : Jvm.MethodName)) : Cond) ∈ gT := gI 829 (by decide +kernel) rfl
set_option maxRecDepth 100000 in
theorem mw_830 : ((Jvm.Cond.code ({ cls := "SugarKitchen$Kettle", name := "findLeastOf", desc := "(IZ)V" } : Jvm.MethodName) prog_5_method_9_code (8 : Nat) (Option.none : Option Jvm.ClassFile.FieldType)) : Cond) ∈ gT := gI 830 rfl rfl
theorem mw_831 : ((Jvm.Cond.constant "SugarKitchen$Kettle" (83 : Nat) (2147483647 : Int32)) : Cond) ∈ gT := gI 831 (by decide +kernel) rfl
theorem mw_832 : ((Jvm.Cond.methodLink "SugarKitchen$Kettle" (84 : Nat) ({ cls := "SugarKitchen$Kettle", name := "mayCome", desc := "(IZ)Z" } : Jvm.MethodName)) : Cond) ∈ gT := gI 832 (by decide +kernel) rfl
theorem mw_834 : ((Jvm.Cond.instanceMethod ({ cls := "SugarKitchen$Kettle", name := "mayCome", desc := "(IZ)Z" } : Jvm.MethodName)) : Cond) ∈ gT := gI 834 (by decide +kernel) rfl
set_option maxRecDepth 100000 in
theorem mw_835 : ((Jvm.Cond.code ({ cls := "SugarKitchen$Kettle", name := "mayCome", desc := "(IZ)Z" } : Jvm.MethodName) prog_5_method_11_code (3 : Nat) (Option.some Jvm.ClassFile.FieldType.boolean)) : Cond) ∈ gT := gI 835 rfl rfl
theorem mw_836 : ((Jvm.Cond.methodLink "SugarKitchen$Kettle" (91 : Nat) ({ cls := "SugarKitchen$Kettle", name := "onlyNutsWait", desc := "()Z" } : Jvm.MethodName)) : Cond) ∈ gT := gI 836 (by decide +kernel) rfl
theorem mw_838 : ((Jvm.Cond.instanceMethod ({ cls := "SugarKitchen$Kettle", name := "onlyNutsWait", desc := "()Z" } : Jvm.MethodName)) : Cond) ∈ gT := gI 838 (by decide +kernel) rfl
set_option maxRecDepth 100000 in
theorem mw_839 : ((Jvm.Cond.code ({ cls := "SugarKitchen$Kettle", name := "onlyNutsWait", desc := "()Z" } : Jvm.MethodName) prog_5_method_12_code (2 : Nat) (Option.some Jvm.ClassFile.FieldType.boolean)) : Cond) ∈ gT := gI 839 rfl rfl
theorem mw_840 : ((Jvm.Cond.methodLink "SugarKitchen$Kettle" (88 : Nat) ({ cls := "SugarKitchen$Kettle", name := "leastOnce", desc := "(II)I" } : Jvm.MethodName)) : Cond) ∈ gT := gI 840 (by decide +kernel) rfl
theorem mw_842 : ((Jvm.Cond.instanceMethod ({ cls := "SugarKitchen$Kettle", name := "leastOnce", desc := "(II)I" } : Jvm.MethodName)) : Cond) ∈ gT := gI 842 (by decide +kernel) rfl
set_option maxRecDepth 100000 in
theorem mw_843 : ((Jvm.Cond.code ({ cls := "SugarKitchen$Kettle", name := "leastOnce", desc := "(II)I" } : Jvm.MethodName) prog_5_method_10_code (4 : Nat) (Option.some Jvm.ClassFile.FieldType.int)) : Cond) ∈ gT := gI 843 rfl rfl
theorem mw_844 : ((Jvm.Cond.methodLink "SugarKitchen$Kettle" (59 : Nat) ({ cls := "SugarKitchen$Kettle", name := "followLeast", desc := "(IZ)V" } : Jvm.MethodName)) : Cond) ∈ gT := gI 844 (by decide +kernel) rfl
theorem mw_846 : ((Jvm.Cond.instanceMethod ({ cls := "SugarKitchen$Kettle", name := "followLeast", desc := "(IZ)V" } : Jvm.MethodName)) : Cond) ∈ gT := gI 846 (by decide +kernel) rfl
set_option maxRecDepth 100000 in
theorem mw_847 : ((Jvm.Cond.code ({ cls := "SugarKitchen$Kettle", name := "followLeast", desc := "(IZ)V" } : Jvm.MethodName) prog_5_method_13_code (8 : Nat) (Option.none : Option Jvm.ClassFile.FieldType)) : Cond) ∈ gT := gI 847 rfl rfl
theorem mw_848 : ((Jvm.Cond.methodLink "SugarKitchen$Kettle" (95 : Nat) ({ cls := "java/lang/System", name := "arraycopy", desc := "(Ljava/lang/Object;ILjava/lang/Object;II)V" } : Jvm.MethodName)) : Cond) ∈ gT := gI 848 (by decide +kernel) rfl
theorem mw_849 : ((Jvm.Cond.methodLink "SugarKitchen$Kettle" (101 : Nat) ({ cls := "SugarKitchen$Kettle", name := "findNext", desc := "(IIZ)I" } : Jvm.MethodName)) : Cond) ∈ gT := gI 849 (by decide +kernel) rfl
theorem mw_851 : ((Jvm.Cond.instanceMethod ({ cls := "SugarKitchen$Kettle", name := "findNext", desc := "(IIZ)I" } : Jvm.MethodName)) : Cond) ∈ gT := gI 851 (by decide +kernel) rfl
set_option maxRecDepth 100000 in
theorem mw_852 : ((Jvm.Cond.code ({ cls := "SugarKitchen$Kettle", name := "findNext", desc := "(IIZ)I" } : Jvm.MethodName) prog_5_method_14_code (8 : Nat) (Option.some Jvm.ClassFile.FieldType.int)) : Cond) ∈ gT := gI 852 rfl rfl
theorem mw_853 : ((Jvm.Cond.methodLink "SugarKitchenLaw" (135 : Nat) ({ cls := "SugarKitchen", name := "recall", desc := "(III)I" } : Jvm.MethodName)) : Cond) ∈ gT := gI 853 (by decide +kernel) rfl
theorem mw_854 : ((Jvm.Cond.instanceMethod ({ cls := "SugarKitchen", name := "recall", desc := "(III)I" } : Jvm.MethodName)) : Cond) ∈ gT := gI 854 (by decide +kernel) rfl
theorem mw_855 : ((Jvm.Cond.selects "SugarKitchen" ({ cls := "SugarKitchen", name := "recall", desc := "(III)I" } : Jvm.MethodName) ({ cls := "SugarKitchen", name := "recall", desc := "(III)I" } : Jvm.MethodName)) : Cond) ∈ gT := gI 855 (by decide +kernel) rfl
set_option maxRecDepth 100000 in
theorem mw_856 : ((Jvm.Cond.code ({ cls := "SugarKitchen", name := "recall", desc := "(III)I" } : Jvm.MethodName) prog_1_method_30_code (7 : Nat) (Option.some Jvm.ClassFile.FieldType.int)) : Cond) ∈ gT := gI 856 rfl rfl
theorem mw_857 : ((Jvm.Cond.methodLink "SugarKitchen" (333 : Nat) ({ cls := "SugarKitchen", name := "lotsIn", desc := "(II)J" } : Jvm.MethodName)) : Cond) ∈ gT := gI 857 (by decide +kernel) rfl
theorem mw_859 : ((Jvm.Cond.instanceMethod ({ cls := "SugarKitchen", name := "lotsIn", desc := "(II)J" } : Jvm.MethodName)) : Cond) ∈ gT := gI 859 (by decide +kernel) rfl
set_option maxRecDepth 100000 in
theorem mw_860 : ((Jvm.Cond.code ({ cls := "SugarKitchen", name := "lotsIn", desc := "(II)J" } : Jvm.MethodName) prog_1_method_51_code (4 : Nat) (Option.some Jvm.ClassFile.FieldType.long)) : Cond) ∈ gT := gI 860 rfl rfl
theorem mw_861 : ((Jvm.Cond.methodLink "SugarKitchenLaw" (139 : Nat) ({ cls := "SugarKitchen", name := "about", desc := "(I)I" } : Jvm.MethodName)) : Cond) ∈ gT := gI 861 (by decide +kernel) rfl
theorem mw_862 : ((Jvm.Cond.instanceMethod ({ cls := "SugarKitchen", name := "about", desc := "(I)I" } : Jvm.MethodName)) : Cond) ∈ gT := gI 862 (by decide +kernel) rfl
theorem mw_863 : ((Jvm.Cond.selects "SugarKitchen" ({ cls := "SugarKitchen", name := "about", desc := "(I)I" } : Jvm.MethodName) ({ cls := "SugarKitchen", name := "about", desc := "(I)I" } : Jvm.MethodName)) : Cond) ∈ gT := gI 863 (by decide +kernel) rfl
set_option maxRecDepth 100000 in
theorem mw_864 : ((Jvm.Cond.code ({ cls := "SugarKitchen", name := "about", desc := "(I)I" } : Jvm.MethodName) prog_1_method_31_code (2 : Nat) (Option.some Jvm.ClassFile.FieldType.int)) : Cond) ∈ gT := gI 864 rfl rfl
theorem mw_865 : ((Jvm.Cond.methodLink "SugarKitchen" (340 : Nat) ({ cls := "SugarKitchen", name := "countFit", desc := "()I" } : Jvm.MethodName)) : Cond) ∈ gT := gI 865 (by decide +kernel) rfl
theorem mw_867 : ((Jvm.Cond.instanceMethod ({ cls := "SugarKitchen", name := "countFit", desc := "()I" } : Jvm.MethodName)) : Cond) ∈ gT := gI 867 (by decide +kernel) rfl
set_option maxRecDepth 100000 in
theorem mw_868 : ((Jvm.Cond.code ({ cls := "SugarKitchen", name := "countFit", desc := "()I" } : Jvm.MethodName) prog_1_method_52_code (4 : Nat) (Option.some Jvm.ClassFile.FieldType.int)) : Cond) ∈ gT := gI 868 rfl rfl
theorem mw_869 : ((Jvm.Cond.methodLink "SugarKitchenLaw" (143 : Nat) ({ cls := "SugarKitchen", name := "left", desc := "(I)I" } : Jvm.MethodName)) : Cond) ∈ gT := gI 869 (by decide +kernel) rfl
theorem mw_870 : ((Jvm.Cond.instanceMethod ({ cls := "SugarKitchen", name := "left", desc := "(I)I" } : Jvm.MethodName)) : Cond) ∈ gT := gI 870 (by decide +kernel) rfl
theorem mw_871 : ((Jvm.Cond.selects "SugarKitchen" ({ cls := "SugarKitchen", name := "left", desc := "(I)I" } : Jvm.MethodName) ({ cls := "SugarKitchen", name := "left", desc := "(I)I" } : Jvm.MethodName)) : Cond) ∈ gT := gI 871 (by decide +kernel) rfl
set_option maxRecDepth 100000 in
theorem mw_872 : ((Jvm.Cond.code ({ cls := "SugarKitchen", name := "left", desc := "(I)I" } : Jvm.MethodName) prog_1_method_32_code (3 : Nat) (Option.some Jvm.ClassFile.FieldType.int)) : Cond) ∈ gT := gI 872 rfl rfl
theorem mw_873 : ((Jvm.Cond.classLink "SugarKitchenLaw" (10 : Nat) "SugarKitchenModel") : Cond) ∈ gT := gI 873 (by decide +kernel) rfl
theorem mw_874 : ((Jvm.Cond.instantiable "SugarKitchenModel" (56 : Nat)) : Cond) ∈ gT := gI 874 (by decide +kernel) rfl
theorem mw_875 : ((Jvm.Cond.methodLink "SugarKitchenLaw" (12 : Nat) ({ cls := "SugarKitchenModel", name := "<init>", desc := "()V" } : Jvm.MethodName)) : Cond) ∈ gT := gI 875 (by decide +kernel) rfl
theorem mw_876 : ((Jvm.Cond.instanceMethod ({ cls := "SugarKitchenModel", name := "<init>", desc := "()V" } : Jvm.MethodName)) : Cond) ∈ gT := gI 876 (by decide +kernel) rfl
set_option maxRecDepth 100000 in
theorem mw_877 : ((Jvm.Cond.code ({ cls := "SugarKitchenModel", name := "<init>", desc := "()V" } : Jvm.MethodName) prog_13_method_1_code (2 : Nat) (Option.none : Option Jvm.ClassFile.FieldType)) : Cond) ∈ gT := gI 877 rfl rfl
theorem mw_878 : ((Jvm.Cond.methodLink "SugarKitchenModel" (1 : Nat) ({ cls := "java/lang/Object", name := "<init>", desc := "()V" } : Jvm.MethodName)) : Cond) ∈ gT := gI 878 (by decide +kernel) rfl
theorem mw_879 : ((Jvm.Cond.constant "SugarKitchenModel" (136 : Nat) (348500 : Int32)) : Cond) ∈ gT := gI 879 (by decide +kernel) rfl
theorem mw_880 : ((Jvm.Cond.fieldLink "SugarKitchenModel" (161 : Nat) "SugarKitchenModel" "lots" "I") : Cond) ∈ gT := gI 880 (by decide +kernel) rfl
theorem mw_881 : ((Jvm.Cond.fieldLink "SugarKitchenModel" (153 : Nat) "SugarKitchenModel" "batches" "I") : Cond) ∈ gT := gI 881 (by decide +kernel) rfl
theorem mw_882 : ((Jvm.Cond.fieldLink "SugarKitchenModel" (203 : Nat) "SugarKitchenModel" "pieces" "I") : Cond) ∈ gT := gI 882 (by decide +kernel) rfl
theorem mw_883 : ((Jvm.Cond.fieldLink "SugarKitchenModel" (235 : Nat) "SugarKitchenModel" "boxes" "I") : Cond) ∈ gT := gI 883 (by decide +kernel) rfl
theorem mw_884 : ((Jvm.Cond.fieldLink "SugarKitchenModel" (175 : Nat) "SugarKitchenModel" "rows" "I") : Cond) ∈ gT := gI 884 (by decide +kernel) rfl
theorem mw_885 : ((Jvm.Cond.fieldLink "SugarKitchenModel" (274 : Nat) "SugarKitchenModel" "queued" "I") : Cond) ∈ gT := gI 885 (by decide +kernel) rfl
theorem mw_886 : ((Jvm.Cond.fieldLink "SugarKitchenModel" (7 : Nat) "SugarKitchenModel" "left" "[I") : Cond) ∈ gT := gI 886 (by decide +kernel) rfl
theorem mw_887 : ((Jvm.Cond.fieldLink "SugarKitchenModel" (13 : Nat) "SugarKitchenModel" "warnings" "[I") : Cond) ∈ gT := gI 887 (by decide +kernel) rfl
theorem mw_888 : ((Jvm.Cond.fieldLink "SugarKitchenModel" (16 : Nat) "SugarKitchenModel" "kind" "[I") : Cond) ∈ gT := gI 888 (by decide +kernel) rfl
theorem mw_889 : ((Jvm.Cond.fieldLink "SugarKitchenModel" (19 : Nat) "SugarKitchenModel" "mass" "[I") : Cond) ∈ gT := gI 889 (by decide +kernel) rfl
theorem mw_890 : ((Jvm.Cond.fieldLink "SugarKitchenModel" (22 : Nat) "SugarKitchenModel" "given" "[I") : Cond) ∈ gT := gI 890 (by decide +kernel) rfl
theorem mw_891 : ((Jvm.Cond.fieldLink "SugarKitchenModel" (25 : Nat) "SugarKitchenModel" "lost" "[I") : Cond) ∈ gT := gI 891 (by decide +kernel) rfl
theorem mw_892 : ((Jvm.Cond.fieldLink "SugarKitchenModel" (28 : Nat) "SugarKitchenModel" "loss" "[I") : Cond) ∈ gT := gI 892 (by decide +kernel) rfl
theorem mw_893 : ((Jvm.Cond.fieldLink "SugarKitchenModel" (31 : Nat) "SugarKitchenModel" "top" "[I") : Cond) ∈ gT := gI 893 (by decide +kernel) rfl
theorem mw_894 : ((Jvm.Cond.fieldLink "SugarKitchenModel" (34 : Nat) "SugarKitchenModel" "grained" "[I") : Cond) ∈ gT := gI 894 (by decide +kernel) rfl
theorem mw_895 : ((Jvm.Cond.fieldLink "SugarKitchenModel" (37 : Nat) "SugarKitchenModel" "missing" "[I") : Cond) ∈ gT := gI 895 (by decide +kernel) rfl
theorem mw_896 : ((Jvm.Cond.fieldLink "SugarKitchenModel" (40 : Nat) "SugarKitchenModel" "cooked" "[Z") : Cond) ∈ gT := gI 896 (by decide +kernel) rfl
theorem mw_897 : ((Jvm.Cond.fieldLink "SugarKitchenModel" (44 : Nat) "SugarKitchenModel" "vouched" "[Z") : Cond) ∈ gT := gI 897 (by decide +kernel) rfl
theorem mw_898 : ((Jvm.Cond.fieldLink "SugarKitchenModel" (47 : Nat) "SugarKitchenModel" "phase" "[I") : Cond) ∈ gT := gI 898 (by decide +kernel) rfl
theorem mw_899 : ((Jvm.Cond.fieldLink "SugarKitchenModel" (50 : Nat) "SugarKitchenModel" "count" "[I") : Cond) ∈ gT := gI 899 (by decide +kernel) rfl
theorem mw_900 : ((Jvm.Cond.fieldLink "SugarKitchenModel" (53 : Nat) "SugarKitchenModel" "cutOf" "[I") : Cond) ∈ gT := gI 900 (by decide +kernel) rfl
theorem mw_901 : ((Jvm.Cond.fieldLink "SugarKitchenModel" (56 : Nat) "SugarKitchenModel" "dippedOf" "[I") : Cond) ∈ gT := gI 901 (by decide +kernel) rfl
theorem mw_902 : ((Jvm.Cond.fieldLink "SugarKitchenModel" (59 : Nat) "SugarKitchenModel" "has" "[I") : Cond) ∈ gT := gI 902 (by decide +kernel) rfl
theorem mw_903 : ((Jvm.Cond.fieldLink "SugarKitchenModel" (62 : Nat) "SugarKitchenModel" "heatLength" "[I") : Cond) ∈ gT := gI 903 (by decide +kernel) rfl
theorem mw_904 : ((Jvm.Cond.fieldLink "SugarKitchenModel" (65 : Nat) "SugarKitchenModel" "stirLength" "[I") : Cond) ∈ gT := gI 904 (by decide +kernel) rfl
theorem mw_905 : ((Jvm.Cond.fieldLink "SugarKitchenModel" (68 : Nat) "SugarKitchenModel" "heat" "[F") : Cond) ∈ gT := gI 905 (by decide +kernel) rfl
theorem mw_906 : ((Jvm.Cond.fieldLink "SugarKitchenModel" (72 : Nat) "SugarKitchenModel" "stirred" "[Z") : Cond) ∈ gT := gI 906 (by decide +kernel) rfl
theorem mw_907 : ((Jvm.Cond.fieldLink "SugarKitchenModel" (75 : Nat) "SugarKitchenModel" "tableFrom" "[I") : Cond) ∈ gT := gI 907 (by decide +kernel) rfl
theorem mw_908 : ((Jvm.Cond.fieldLink "SugarKitchenModel" (78 : Nat) "SugarKitchenModel" "tableLoss" "[I") : Cond) ∈ gT := gI 908 (by decide +kernel) rfl
theorem mw_909 : ((Jvm.Cond.fieldLink "SugarKitchenModel" (178 : Nat) "SugarKitchenModel" "grainLow" "I") : Cond) ∈ gT := gI 909 (by decide +kernel) rfl
theorem mw_910 : ((Jvm.Cond.fieldLink "SugarKitchenModel" (81 : Nat) "SugarKitchenModel" "grainHigh" "I") : Cond) ∈ gT := gI 910 (by decide +kernel) rfl
theorem mw_911 : ((Jvm.Cond.fieldLink "SugarKitchenModel" (85 : Nat) "SugarKitchenModel" "low" "[I") : Cond) ∈ gT := gI 911 (by decide +kernel) rfl
theorem mw_912 : ((Jvm.Cond.fieldLink "SugarKitchenModel" (88 : Nat) "SugarKitchenModel" "high" "[I") : Cond) ∈ gT := gI 912 (by decide +kernel) rfl
theorem mw_913 : ((Jvm.Cond.fieldLink "SugarKitchenModel" (91 : Nat) "SugarKitchenModel" "degrees" "[I") : Cond) ∈ gT := gI 913 (by decide +kernel) rfl
theorem mw_914 : ((Jvm.Cond.fieldLink "SugarKitchenModel" (94 : Nat) "SugarKitchenModel" "washing" "[I") : Cond) ∈ gT := gI 914 (by decide +kernel) rfl
theorem mw_915 : ((Jvm.Cond.fieldLink "SugarKitchenModel" (97 : Nat) "SugarKitchenModel" "queue" "[I") : Cond) ∈ gT := gI 915 (by decide +kernel) rfl
theorem mw_916 : ((Jvm.Cond.fieldLink "SugarKitchenModel" (100 : Nat) "SugarKitchenModel" "batchOfPiece" "[I") : Cond) ∈ gT := gI 916 (by decide +kernel) rfl
theorem mw_917 : ((Jvm.Cond.fieldLink "SugarKitchenModel" (103 : Nat) "SugarKitchenModel" "weight" "[I") : Cond) ∈ gT := gI 917 (by decide +kernel) rfl
theorem mw_918 : ((Jvm.Cond.fieldLink "SugarKitchenModel" (106 : Nat) "SugarKitchenModel" "coat" "[I") : Cond) ∈ gT := gI 918 (by decide +kernel) rfl
theorem mw_919 : ((Jvm.Cond.fieldLink "SugarKitchenModel" (109 : Nat) "SugarKitchenModel" "temper" "[I") : Cond) ∈ gT := gI 919 (by decide +kernel) rfl
theorem mw_920 : ((Jvm.Cond.fieldLink "SugarKitchenModel" (112 : Nat) "SugarKitchenModel" "allowed" "[Z") : Cond) ∈ gT := gI 920 (by decide +kernel) rfl
theorem mw_921 : ((Jvm.Cond.fieldLink "SugarKitchenModel" (115 : Nat) "SugarKitchenModel" "whereIs" "[I") : Cond) ∈ gT := gI 921 (by decide +kernel) rfl
theorem mw_922 : ((Jvm.Cond.fieldLink "SugarKitchenModel" (118 : Nat) "SugarKitchenModel" "place" "[I") : Cond) ∈ gT := gI 922 (by decide +kernel) rfl
theorem mw_923 : ((Jvm.Cond.fieldLink "SugarKitchenModel" (121 : Nat) "SugarKitchenModel" "tray" "[I") : Cond) ∈ gT := gI 923 (by decide +kernel) rfl
theorem mw_924 : ((Jvm.Cond.fieldLink "SugarKitchenModel" (124 : Nat) "SugarKitchenModel" "boxWeight" "[I") : Cond) ∈ gT := gI 924 (by decide +kernel) rfl
theorem mw_925 : ((Jvm.Cond.fieldLink "SugarKitchenModel" (127 : Nat) "SugarKitchenModel" "choice" "[I") : Cond) ∈ gT := gI 925 (by decide +kernel) rfl
theorem mw_926 : ((Jvm.Cond.fieldLink "SugarKitchenModel" (130 : Nat) "SugarKitchenModel" "gone" "[Z") : Cond) ∈ gT := gI 926 (by decide +kernel) rfl
theorem mw_927 : ((Jvm.Cond.fieldLink "SugarKitchenModel" (133 : Nat) "SugarKitchenModel" "chosen" "[Z") : Cond) ∈ gT := gI 927 (by decide +kernel) rfl
theorem mw_928 : ((Jvm.Cond.fieldLink "SugarKitchenModel" (222 : Nat) "SugarKitchenModel" "choices" "I") : Cond) ∈ gT := gI 928 (by decide +kernel) rfl
theorem mw_929 : ((Jvm.Cond.fieldLink "SugarKitchenModel" (219 : Nat) "SugarKitchenModel" "listed" "I") : Cond) ∈ gT := gI 929 (by decide +kernel) rfl
theorem mw_930 : ((Jvm.Cond.fieldLink "SugarKitchenModel" (137 : Nat) "SugarKitchenModel" "reach" "[Z") : Cond) ∈ gT := gI 930 (by decide +kernel) rfl
theorem mw_931 : ((Jvm.Cond.fieldLink "SugarKitchenModel" (140 : Nat) "SugarKitchenModel" "now" "[I") : Cond) ∈ gT := gI 931 (by decide +kernel) rfl
theorem mw_932 : ((Jvm.Cond.fieldLink "SugarKitchenModel" (225 : Nat) "SugarKitchenModel" "nows" "I") : Cond) ∈ gT := gI 932 (by decide +kernel) rfl
theorem mw_933 : ((Jvm.Cond.fieldLink "SugarKitchenModel" (143 : Nat) "SugarKitchenModel" "sums" "[I") : Cond) ∈ gT := gI 933 (by decide +kernel) rfl
theorem mw_934 : ((Jvm.Cond.fieldLink "SugarKitchenModel" (146 : Nat) "SugarKitchenModel" "parts" "[B") : Cond) ∈ gT := gI 934 (by decide +kernel) rfl
theorem mw_935 : ((Jvm.Cond.fieldLink "SugarKitchenModel" (150 : Nat) "SugarKitchenModel" "rest" "[I") : Cond) ∈ gT := gI 935 (by decide +kernel) rfl
theorem mw_936 : ((Jvm.Cond.lays "SugarKitchenModel" "SugarKitchenModel" "lots" "I") : Cond) ∈ gT := gI 936 (by decide +kernel) rfl
theorem mw_937 : ((Jvm.Cond.soleField "SugarKitchenModel" "lots") : Cond) ∈ gT := gI 937 (by decide +kernel) rfl
theorem mw_938 : ((Jvm.Cond.lays "SugarKitchenModel" "SugarKitchenModel" "batches" "I") : Cond) ∈ gT := gI 938 (by decide +kernel) rfl
theorem mw_939 : ((Jvm.Cond.soleField "SugarKitchenModel" "batches") : Cond) ∈ gT := gI 939 (by decide +kernel) rfl
theorem mw_940 : ((Jvm.Cond.lays "SugarKitchenModel" "SugarKitchenModel" "pieces" "I") : Cond) ∈ gT := gI 940 (by decide +kernel) rfl
theorem mw_941 : ((Jvm.Cond.soleField "SugarKitchenModel" "pieces") : Cond) ∈ gT := gI 941 (by decide +kernel) rfl
theorem mw_942 : ((Jvm.Cond.lays "SugarKitchenModel" "SugarKitchenModel" "boxes" "I") : Cond) ∈ gT := gI 942 (by decide +kernel) rfl
theorem mw_943 : ((Jvm.Cond.soleField "SugarKitchenModel" "boxes") : Cond) ∈ gT := gI 943 (by decide +kernel) rfl
theorem mw_944 : ((Jvm.Cond.lays "SugarKitchenModel" "SugarKitchenModel" "rows" "I") : Cond) ∈ gT := gI 944 (by decide +kernel) rfl
theorem mw_945 : ((Jvm.Cond.soleField "SugarKitchenModel" "rows") : Cond) ∈ gT := gI 945 (by decide +kernel) rfl
theorem mw_946 : ((Jvm.Cond.lays "SugarKitchenModel" "SugarKitchenModel" "queued" "I") : Cond) ∈ gT := gI 946 (by decide +kernel) rfl
theorem mw_947 : ((Jvm.Cond.soleField "SugarKitchenModel" "queued") : Cond) ∈ gT := gI 947 (by decide +kernel) rfl
theorem mw_948 : ((Jvm.Cond.laysFinal "SugarKitchenModel" "SugarKitchenModel" "left" "[I") : Cond) ∈ gT := gI 948 (by decide +kernel) rfl
theorem mw_949 : ((Jvm.Cond.soleField "SugarKitchenModel" "left") : Cond) ∈ gT := gI 949 (by decide +kernel) rfl
theorem mw_950 : ((Jvm.Cond.laysFinal "SugarKitchenModel" "SugarKitchenModel" "warnings" "[I") : Cond) ∈ gT := gI 950 (by decide +kernel) rfl
theorem mw_951 : ((Jvm.Cond.soleField "SugarKitchenModel" "warnings") : Cond) ∈ gT := gI 951 (by decide +kernel) rfl
theorem mw_952 : ((Jvm.Cond.laysFinal "SugarKitchenModel" "SugarKitchenModel" "kind" "[I") : Cond) ∈ gT := gI 952 (by decide +kernel) rfl
theorem mw_953 : ((Jvm.Cond.soleField "SugarKitchenModel" "kind") : Cond) ∈ gT := gI 953 (by decide +kernel) rfl
theorem mw_954 : ((Jvm.Cond.laysFinal "SugarKitchenModel" "SugarKitchenModel" "mass" "[I") : Cond) ∈ gT := gI 954 (by decide +kernel) rfl
theorem mw_955 : ((Jvm.Cond.soleField "SugarKitchenModel" "mass") : Cond) ∈ gT := gI 955 (by decide +kernel) rfl
theorem mw_956 : ((Jvm.Cond.laysFinal "SugarKitchenModel" "SugarKitchenModel" "given" "[I") : Cond) ∈ gT := gI 956 (by decide +kernel) rfl
theorem mw_957 : ((Jvm.Cond.soleField "SugarKitchenModel" "given") : Cond) ∈ gT := gI 957 (by decide +kernel) rfl
theorem mw_958 : ((Jvm.Cond.laysFinal "SugarKitchenModel" "SugarKitchenModel" "lost" "[I") : Cond) ∈ gT := gI 958 (by decide +kernel) rfl
theorem mw_959 : ((Jvm.Cond.soleField "SugarKitchenModel" "lost") : Cond) ∈ gT := gI 959 (by decide +kernel) rfl
theorem mw_960 : ((Jvm.Cond.laysFinal "SugarKitchenModel" "SugarKitchenModel" "loss" "[I") : Cond) ∈ gT := gI 960 (by decide +kernel) rfl
theorem mw_961 : ((Jvm.Cond.soleField "SugarKitchenModel" "loss") : Cond) ∈ gT := gI 961 (by decide +kernel) rfl
theorem mw_962 : ((Jvm.Cond.laysFinal "SugarKitchenModel" "SugarKitchenModel" "top" "[I") : Cond) ∈ gT := gI 962 (by decide +kernel) rfl
theorem mw_963 : ((Jvm.Cond.soleField "SugarKitchenModel" "top") : Cond) ∈ gT := gI 963 (by decide +kernel) rfl
theorem mw_964 : ((Jvm.Cond.laysFinal "SugarKitchenModel" "SugarKitchenModel" "grained" "[I") : Cond) ∈ gT := gI 964 (by decide +kernel) rfl
theorem mw_965 : ((Jvm.Cond.soleField "SugarKitchenModel" "grained") : Cond) ∈ gT := gI 965 (by decide +kernel) rfl
theorem mw_966 : ((Jvm.Cond.laysFinal "SugarKitchenModel" "SugarKitchenModel" "missing" "[I") : Cond) ∈ gT := gI 966 (by decide +kernel) rfl
theorem mw_967 : ((Jvm.Cond.soleField "SugarKitchenModel" "missing") : Cond) ∈ gT := gI 967 (by decide +kernel) rfl
theorem mw_968 : ((Jvm.Cond.laysFinal "SugarKitchenModel" "SugarKitchenModel" "cooked" "[Z") : Cond) ∈ gT := gI 968 (by decide +kernel) rfl
theorem mw_969 : ((Jvm.Cond.soleField "SugarKitchenModel" "cooked") : Cond) ∈ gT := gI 969 (by decide +kernel) rfl
theorem mw_970 : ((Jvm.Cond.laysFinal "SugarKitchenModel" "SugarKitchenModel" "vouched" "[Z") : Cond) ∈ gT := gI 970 (by decide +kernel) rfl
theorem mw_971 : ((Jvm.Cond.soleField "SugarKitchenModel" "vouched") : Cond) ∈ gT := gI 971 (by decide +kernel) rfl
theorem mw_972 : ((Jvm.Cond.laysFinal "SugarKitchenModel" "SugarKitchenModel" "phase" "[I") : Cond) ∈ gT := gI 972 (by decide +kernel) rfl
theorem mw_973 : ((Jvm.Cond.soleField "SugarKitchenModel" "phase") : Cond) ∈ gT := gI 973 (by decide +kernel) rfl
theorem mw_974 : ((Jvm.Cond.laysFinal "SugarKitchenModel" "SugarKitchenModel" "count" "[I") : Cond) ∈ gT := gI 974 (by decide +kernel) rfl
theorem mw_975 : ((Jvm.Cond.soleField "SugarKitchenModel" "count") : Cond) ∈ gT := gI 975 (by decide +kernel) rfl
theorem mw_976 : ((Jvm.Cond.laysFinal "SugarKitchenModel" "SugarKitchenModel" "cutOf" "[I") : Cond) ∈ gT := gI 976 (by decide +kernel) rfl
theorem mw_977 : ((Jvm.Cond.soleField "SugarKitchenModel" "cutOf") : Cond) ∈ gT := gI 977 (by decide +kernel) rfl
theorem mw_978 : ((Jvm.Cond.laysFinal "SugarKitchenModel" "SugarKitchenModel" "dippedOf" "[I") : Cond) ∈ gT := gI 978 (by decide +kernel) rfl
theorem mw_979 : ((Jvm.Cond.soleField "SugarKitchenModel" "dippedOf") : Cond) ∈ gT := gI 979 (by decide +kernel) rfl
theorem mw_980 : ((Jvm.Cond.laysFinal "SugarKitchenModel" "SugarKitchenModel" "has" "[I") : Cond) ∈ gT := gI 980 (by decide +kernel) rfl
theorem mw_981 : ((Jvm.Cond.soleField "SugarKitchenModel" "has") : Cond) ∈ gT := gI 981 (by decide +kernel) rfl
theorem mw_982 : ((Jvm.Cond.laysFinal "SugarKitchenModel" "SugarKitchenModel" "heatLength" "[I") : Cond) ∈ gT := gI 982 (by decide +kernel) rfl
theorem mw_983 : ((Jvm.Cond.soleField "SugarKitchenModel" "heatLength") : Cond) ∈ gT := gI 983 (by decide +kernel) rfl
theorem mw_984 : ((Jvm.Cond.laysFinal "SugarKitchenModel" "SugarKitchenModel" "stirLength" "[I") : Cond) ∈ gT := gI 984 (by decide +kernel) rfl
theorem mw_985 : ((Jvm.Cond.soleField "SugarKitchenModel" "stirLength") : Cond) ∈ gT := gI 985 (by decide +kernel) rfl
theorem mw_986 : ((Jvm.Cond.laysFinal "SugarKitchenModel" "SugarKitchenModel" "heat" "[F") : Cond) ∈ gT := gI 986 (by decide +kernel) rfl
theorem mw_987 : ((Jvm.Cond.soleField "SugarKitchenModel" "heat") : Cond) ∈ gT := gI 987 (by decide +kernel) rfl
theorem mw_988 : ((Jvm.Cond.laysFinal "SugarKitchenModel" "SugarKitchenModel" "stirred" "[Z") : Cond) ∈ gT := gI 988 (by decide +kernel) rfl
theorem mw_989 : ((Jvm.Cond.soleField "SugarKitchenModel" "stirred") : Cond) ∈ gT := gI 989 (by decide +kernel) rfl
theorem mw_990 : ((Jvm.Cond.laysFinal "SugarKitchenModel" "SugarKitchenModel" "tableFrom" "[I") : Cond) ∈ gT := gI 990 (by decide +kernel) rfl
theorem mw_991 : ((Jvm.Cond.soleField "SugarKitchenModel" "tableFrom") : Cond) ∈ gT := gI 991 (by decide +kernel) rfl
theorem mw_992 : ((Jvm.Cond.laysFinal "SugarKitchenModel" "SugarKitchenModel" "tableLoss" "[I") : Cond) ∈ gT := gI 992 (by decide +kernel) rfl
theorem mw_993 : ((Jvm.Cond.soleField "SugarKitchenModel" "tableLoss") : Cond) ∈ gT := gI 993 (by decide +kernel) rfl
theorem mw_994 : ((Jvm.Cond.lays "SugarKitchenModel" "SugarKitchenModel" "grainLow" "I") : Cond) ∈ gT := gI 994 (by decide +kernel) rfl
theorem mw_995 : ((Jvm.Cond.soleField "SugarKitchenModel" "grainLow") : Cond) ∈ gT := gI 995 (by decide +kernel) rfl
theorem mw_996 : ((Jvm.Cond.lays "SugarKitchenModel" "SugarKitchenModel" "grainHigh" "I") : Cond) ∈ gT := gI 996 (by decide +kernel) rfl
theorem mw_997 : ((Jvm.Cond.soleField "SugarKitchenModel" "grainHigh") : Cond) ∈ gT := gI 997 (by decide +kernel) rfl
theorem mw_998 : ((Jvm.Cond.laysFinal "SugarKitchenModel" "SugarKitchenModel" "low" "[I") : Cond) ∈ gT := gI 998 (by decide +kernel) rfl
theorem mw_999 : ((Jvm.Cond.soleField "SugarKitchenModel" "low") : Cond) ∈ gT := gI 999 (by decide +kernel) rfl
theorem mw_1000 : ((Jvm.Cond.laysFinal "SugarKitchenModel" "SugarKitchenModel" "high" "[I") : Cond) ∈ gT := gI 1000 (by decide +kernel) rfl
theorem mw_1001 : ((Jvm.Cond.soleField "SugarKitchenModel" "high") : Cond) ∈ gT := gI 1001 (by decide +kernel) rfl
theorem mw_1002 : ((Jvm.Cond.laysFinal "SugarKitchenModel" "SugarKitchenModel" "degrees" "[I") : Cond) ∈ gT := gI 1002 (by decide +kernel) rfl
theorem mw_1003 : ((Jvm.Cond.soleField "SugarKitchenModel" "degrees") : Cond) ∈ gT := gI 1003 (by decide +kernel) rfl
theorem mw_1004 : ((Jvm.Cond.laysFinal "SugarKitchenModel" "SugarKitchenModel" "washing" "[I") : Cond) ∈ gT := gI 1004 (by decide +kernel) rfl
theorem mw_1005 : ((Jvm.Cond.soleField "SugarKitchenModel" "washing") : Cond) ∈ gT := gI 1005 (by decide +kernel) rfl
theorem mw_1006 : ((Jvm.Cond.laysFinal "SugarKitchenModel" "SugarKitchenModel" "queue" "[I") : Cond) ∈ gT := gI 1006 (by decide +kernel) rfl
theorem mw_1007 : ((Jvm.Cond.soleField "SugarKitchenModel" "queue") : Cond) ∈ gT := gI 1007 (by decide +kernel) rfl
theorem mw_1008 : ((Jvm.Cond.laysFinal "SugarKitchenModel" "SugarKitchenModel" "batchOfPiece" "[I") : Cond) ∈ gT := gI 1008 (by decide +kernel) rfl
theorem mw_1009 : ((Jvm.Cond.soleField "SugarKitchenModel" "batchOfPiece") : Cond) ∈ gT := gI 1009 (by decide +kernel) rfl
theorem mw_1010 : ((Jvm.Cond.laysFinal "SugarKitchenModel" "SugarKitchenModel" "weight" "[I") : Cond) ∈ gT := gI 1010 (by decide +kernel) rfl
theorem mw_1011 : ((Jvm.Cond.soleField "SugarKitchenModel" "weight") : Cond) ∈ gT := gI 1011 (by decide +kernel) rfl
theorem mw_1012 : ((Jvm.Cond.laysFinal "SugarKitchenModel" "SugarKitchenModel" "coat" "[I") : Cond) ∈ gT := gI 1012 (by decide +kernel) rfl
theorem mw_1013 : ((Jvm.Cond.soleField "SugarKitchenModel" "coat") : Cond) ∈ gT := gI 1013 (by decide +kernel) rfl
theorem mw_1014 : ((Jvm.Cond.laysFinal "SugarKitchenModel" "SugarKitchenModel" "temper" "[I") : Cond) ∈ gT := gI 1014 (by decide +kernel) rfl
theorem mw_1015 : ((Jvm.Cond.soleField "SugarKitchenModel" "temper") : Cond) ∈ gT := gI 1015 (by decide +kernel) rfl
theorem mw_1016 : ((Jvm.Cond.laysFinal "SugarKitchenModel" "SugarKitchenModel" "allowed" "[Z") : Cond) ∈ gT := gI 1016 (by decide +kernel) rfl
theorem mw_1017 : ((Jvm.Cond.soleField "SugarKitchenModel" "allowed") : Cond) ∈ gT := gI 1017 (by decide +kernel) rfl
theorem mw_1018 : ((Jvm.Cond.laysFinal "SugarKitchenModel" "SugarKitchenModel" "whereIs" "[I") : Cond) ∈ gT := gI 1018 (by decide +kernel) rfl
theorem mw_1019 : ((Jvm.Cond.soleField "SugarKitchenModel" "whereIs") : Cond) ∈ gT := gI 1019 (by decide +kernel) rfl
theorem mw_1020 : ((Jvm.Cond.laysFinal "SugarKitchenModel" "SugarKitchenModel" "place" "[I") : Cond) ∈ gT := gI 1020 (by decide +kernel) rfl
theorem mw_1021 : ((Jvm.Cond.soleField "SugarKitchenModel" "place") : Cond) ∈ gT := gI 1021 (by decide +kernel) rfl
theorem mw_1022 : ((Jvm.Cond.laysFinal "SugarKitchenModel" "SugarKitchenModel" "tray" "[I") : Cond) ∈ gT := gI 1022 (by decide +kernel) rfl
theorem mw_1023 : ((Jvm.Cond.soleField "SugarKitchenModel" "tray") : Cond) ∈ gT := gI 1023 (by decide +kernel) rfl
theorem mw_1024 : ((Jvm.Cond.laysFinal "SugarKitchenModel" "SugarKitchenModel" "boxWeight" "[I") : Cond) ∈ gT := gI 1024 (by decide +kernel) rfl
theorem mw_1025 : ((Jvm.Cond.soleField "SugarKitchenModel" "boxWeight") : Cond) ∈ gT := gI 1025 (by decide +kernel) rfl
theorem mw_1026 : ((Jvm.Cond.laysFinal "SugarKitchenModel" "SugarKitchenModel" "choice" "[I") : Cond) ∈ gT := gI 1026 (by decide +kernel) rfl
theorem mw_1027 : ((Jvm.Cond.soleField "SugarKitchenModel" "choice") : Cond) ∈ gT := gI 1027 (by decide +kernel) rfl
theorem mw_1028 : ((Jvm.Cond.laysFinal "SugarKitchenModel" "SugarKitchenModel" "gone" "[Z") : Cond) ∈ gT := gI 1028 (by decide +kernel) rfl
theorem mw_1029 : ((Jvm.Cond.soleField "SugarKitchenModel" "gone") : Cond) ∈ gT := gI 1029 (by decide +kernel) rfl
theorem mw_1030 : ((Jvm.Cond.laysFinal "SugarKitchenModel" "SugarKitchenModel" "chosen" "[Z") : Cond) ∈ gT := gI 1030 (by decide +kernel) rfl
theorem mw_1031 : ((Jvm.Cond.soleField "SugarKitchenModel" "chosen") : Cond) ∈ gT := gI 1031 (by decide +kernel) rfl
theorem mw_1032 : ((Jvm.Cond.lays "SugarKitchenModel" "SugarKitchenModel" "choices" "I") : Cond) ∈ gT := gI 1032 (by decide +kernel) rfl
theorem mw_1033 : ((Jvm.Cond.soleField "SugarKitchenModel" "choices") : Cond) ∈ gT := gI 1033 (by decide +kernel) rfl
theorem mw_1034 : ((Jvm.Cond.lays "SugarKitchenModel" "SugarKitchenModel" "listed" "I") : Cond) ∈ gT := gI 1034 (by decide +kernel) rfl
theorem mw_1035 : ((Jvm.Cond.soleField "SugarKitchenModel" "listed") : Cond) ∈ gT := gI 1035 (by decide +kernel) rfl
theorem mw_1036 : ((Jvm.Cond.laysFinal "SugarKitchenModel" "SugarKitchenModel" "reach" "[Z") : Cond) ∈ gT := gI 1036 (by decide +kernel) rfl
theorem mw_1037 : ((Jvm.Cond.soleField "SugarKitchenModel" "reach") : Cond) ∈ gT := gI 1037 (by decide +kernel) rfl
theorem mw_1038 : ((Jvm.Cond.laysFinal "SugarKitchenModel" "SugarKitchenModel" "now" "[I") : Cond) ∈ gT := gI 1038 (by decide +kernel) rfl
theorem mw_1039 : ((Jvm.Cond.soleField "SugarKitchenModel" "now") : Cond) ∈ gT := gI 1039 (by decide +kernel) rfl
theorem mw_1040 : ((Jvm.Cond.lays "SugarKitchenModel" "SugarKitchenModel" "nows" "I") : Cond) ∈ gT := gI 1040 (by decide +kernel) rfl
theorem mw_1041 : ((Jvm.Cond.soleField "SugarKitchenModel" "nows") : Cond) ∈ gT := gI 1041 (by decide +kernel) rfl
theorem mw_1042 : ((Jvm.Cond.laysFinal "SugarKitchenModel" "SugarKitchenModel" "sums" "[I") : Cond) ∈ gT := gI 1042 (by decide +kernel) rfl
theorem mw_1043 : ((Jvm.Cond.soleField "SugarKitchenModel" "sums") : Cond) ∈ gT := gI 1043 (by decide +kernel) rfl
theorem mw_1044 : ((Jvm.Cond.laysFinal "SugarKitchenModel" "SugarKitchenModel" "parts" "[B") : Cond) ∈ gT := gI 1044 (by decide +kernel) rfl
theorem mw_1045 : ((Jvm.Cond.soleField "SugarKitchenModel" "parts") : Cond) ∈ gT := gI 1045 (by decide +kernel) rfl
theorem mw_1046 : ((Jvm.Cond.laysFinal "SugarKitchenModel" "SugarKitchenModel" "rest" "[I") : Cond) ∈ gT := gI 1046 (by decide +kernel) rfl
theorem mw_1047 : ((Jvm.Cond.soleField "SugarKitchenModel" "rest") : Cond) ∈ gT := gI 1047 (by decide +kernel) rfl
theorem mw_1048 : ((Jvm.Cond.superclass "SugarKitchenModel" "java/lang/Object") : Cond) ∈ gT := gI 1048 (by decide +kernel) rfl
theorem mw_1049 : ((Jvm.Cond.arrayClass Jvm.ClassFile.FieldType.float) : Cond) ∈ gT := gI 1049 (by decide +kernel) rfl
theorem mw_1050 : ((Jvm.Cond.methodLink "SugarKitchenLaw" (17 : Nat) ({ cls := "SugarKitchenModel", name := "lot", desc := "(II)I" } : Jvm.MethodName)) : Cond) ∈ gT := gI 1050 (by decide +kernel) rfl
theorem mw_1051 : ((Jvm.Cond.instanceMethod ({ cls := "SugarKitchenModel", name := "lot", desc := "(II)I" } : Jvm.MethodName)) : Cond) ∈ gT := gI 1051 (by decide +kernel) rfl
theorem mw_1052 : ((Jvm.Cond.selects "SugarKitchenModel" ({ cls := "SugarKitchenModel", name := "lot", desc := "(II)I" } : Jvm.MethodName) ({ cls := "SugarKitchenModel", name := "lot", desc := "(II)I" } : Jvm.MethodName)) : Cond) ∈ gT := gI 1052 (by decide +kernel) rfl
set_option maxRecDepth 100000 in
theorem mw_1053 : ((Jvm.Cond.code ({ cls := "SugarKitchenModel", name := "lot", desc := "(II)I" } : Jvm.MethodName) prog_13_method_4_code (3 : Nat) (Option.some Jvm.ClassFile.FieldType.int)) : Cond) ∈ gT := gI 1053 rfl rfl
theorem mw_1054 : ((Jvm.Cond.constant "SugarKitchenModel" (160 : Nat) (1000000 : Int32)) : Cond) ∈ gT := gI 1054 (by decide +kernel) rfl
theorem mw_1055 : ((Jvm.Cond.methodLink "SugarKitchenModel" (156 : Nat) ({ cls := "SugarKitchenModel", name := "isIn", desc := "(III)Z" } : Jvm.MethodName)) : Cond) ∈ gT := gI 1055 (by decide +kernel) rfl
theorem mw_1056 : ((Jvm.Cond.static ({ cls := "SugarKitchenModel", name := "isIn", desc := "(III)Z" } : Jvm.MethodName)) : Cond) ∈ gT := gI 1056 (by decide +kernel) rfl
set_option maxRecDepth 100000 in
theorem mw_1057 : ((Jvm.Cond.code ({ cls := "SugarKitchenModel", name := "isIn", desc := "(III)Z" } : Jvm.MethodName) prog_13_method_2_code (3 : Nat) (Option.some Jvm.ClassFile.FieldType.boolean)) : Cond) ∈ gT := gI 1057 rfl rfl
theorem mw_1058 : ((Jvm.Cond.methodLink "SugarKitchenLaw" (22 : Nat) ({ cls := "SugarKitchenModel", name := "batch", desc := "(I)I" } : Jvm.MethodName)) : Cond) ∈ gT := gI 1058 (by decide +kernel) rfl
theorem mw_1059 : ((Jvm.Cond.instanceMethod ({ cls := "SugarKitchenModel", name := "batch", desc := "(I)I" } : Jvm.MethodName)) : Cond) ∈ gT := gI 1059 (by decide +kernel) rfl
theorem mw_1060 : ((Jvm.Cond.selects "SugarKitchenModel" ({ cls := "SugarKitchenModel", name := "batch", desc := "(I)I" } : Jvm.MethodName) ({ cls := "SugarKitchenModel", name := "batch", desc := "(I)I" } : Jvm.MethodName)) : Cond) ∈ gT := gI 1060 (by decide +kernel) rfl
set_option maxRecDepth 100000 in
theorem mw_1061 : ((Jvm.Cond.code ({ cls := "SugarKitchenModel", name := "batch", desc := "(I)I" } : Jvm.MethodName) prog_13_method_5_code (2 : Nat) (Option.some Jvm.ClassFile.FieldType.int)) : Cond) ∈ gT := gI 1061 rfl rfl
theorem mw_1062 : ((Jvm.Cond.constant "SugarKitchenModel" (164 : Nat) (-1000001 : Int32)) : Cond) ∈ gT := gI 1062 (by decide +kernel) rfl
theorem mw_1063 : ((Jvm.Cond.methodLink "SugarKitchenLaw" (27 : Nat) ({ cls := "SugarKitchenModel", name := "put", desc := "(III)I" } : Jvm.MethodName)) : Cond) ∈ gT := gI 1063 (by decide +kernel) rfl
theorem mw_1064 : ((Jvm.Cond.instanceMethod ({ cls := "SugarKitchenModel", name := "put", desc := "(III)I" } : Jvm.MethodName)) : Cond) ∈ gT := gI 1064 (by decide +kernel) rfl
theorem mw_1065 : ((Jvm.Cond.selects "SugarKitchenModel" ({ cls := "SugarKitchenModel", name := "put", desc := "(III)I" } : Jvm.MethodName) ({ cls := "SugarKitchenModel", name := "put", desc := "(III)I" } : Jvm.MethodName)) : Cond) ∈ gT := gI 1065 (by decide +kernel) rfl
set_option maxRecDepth 100000 in
theorem mw_1066 : ((Jvm.Cond.code ({ cls := "SugarKitchenModel", name := "put", desc := "(III)I" } : Jvm.MethodName) prog_13_method_6_code (4 : Nat) (Option.some Jvm.ClassFile.FieldType.int)) : Cond) ∈ gT := gI 1066 rfl rfl
theorem mw_1067 : ((Jvm.Cond.methodLink "SugarKitchenModel" (165 : Nat) ({ cls := "SugarKitchenModel", name := "isBatch", desc := "(I)Z" } : Jvm.MethodName)) : Cond) ∈ gT := gI 1067 (by decide +kernel) rfl
theorem mw_1069 : ((Jvm.Cond.instanceMethod ({ cls := "SugarKitchenModel", name := "isBatch", desc := "(I)Z" } : Jvm.MethodName)) : Cond) ∈ gT := gI 1069 (by decide +kernel) rfl
set_option maxRecDepth 100000 in
theorem mw_1070 : ((Jvm.Cond.code ({ cls := "SugarKitchenModel", name := "isBatch", desc := "(I)Z" } : Jvm.MethodName) prog_13_method_3_code (2 : Nat) (Option.some Jvm.ClassFile.FieldType.boolean)) : Cond) ∈ gT := gI 1070 rfl rfl
theorem mw_1071 : ((Jvm.Cond.methodLink "SugarKitchenLaw" (32 : Nat) ({ cls := "SugarKitchenModel", name := "row", desc := "(III)Z" } : Jvm.MethodName)) : Cond) ∈ gT := gI 1071 (by decide +kernel) rfl
theorem mw_1072 : ((Jvm.Cond.instanceMethod ({ cls := "SugarKitchenModel", name := "row", desc := "(III)Z" } : Jvm.MethodName)) : Cond) ∈ gT := gI 1072 (by decide +kernel) rfl
theorem mw_1073 : ((Jvm.Cond.selects "SugarKitchenModel" ({ cls := "SugarKitchenModel", name := "row", desc := "(III)Z" } : Jvm.MethodName) ({ cls := "SugarKitchenModel", name := "row", desc := "(III)Z" } : Jvm.MethodName)) : Cond) ∈ gT := gI 1073 (by decide +kernel) rfl
set_option maxRecDepth 100000 in
theorem mw_1074 : ((Jvm.Cond.code ({ cls := "SugarKitchenModel", name := "row", desc := "(III)Z" } : Jvm.MethodName) prog_13_method_7_code (5 : Nat) (Option.some Jvm.ClassFile.FieldType.boolean)) : Cond) ∈ gT := gI 1074 rfl rfl
theorem mw_1075 : ((Jvm.Cond.methodLink "SugarKitchenLaw" (36 : Nat) ({ cls := "SugarKitchenModel", name := "tick", desc := "(III)Z" } : Jvm.MethodName)) : Cond) ∈ gT := gI 1075 (by decide +kernel) rfl
theorem mw_1076 : ((Jvm.Cond.instanceMethod ({ cls := "SugarKitchenModel", name := "tick", desc := "(III)Z" } : Jvm.MethodName)) : Cond) ∈ gT := gI 1076 (by decide +kernel) rfl
theorem mw_1077 : ((Jvm.Cond.selects "SugarKitchenModel" ({ cls := "SugarKitchenModel", name := "tick", desc := "(III)Z" } : Jvm.MethodName) ({ cls := "SugarKitchenModel", name := "tick", desc := "(III)Z" } : Jvm.MethodName)) : Cond) ∈ gT := gI 1077 (by decide +kernel) rfl
set_option maxRecDepth 100000 in
theorem mw_1078 : ((Jvm.Cond.code ({ cls := "SugarKitchenModel", name := "tick", desc := "(III)Z" } : Jvm.MethodName) prog_13_method_8_code (4 : Nat) (Option.some Jvm.ClassFile.FieldType.boolean)) : Cond) ∈ gT := gI 1078 rfl rfl
theorem mw_1079 : ((Jvm.Cond.methodLink "SugarKitchenModel" (169 : Nat) ({ cls := "java/lang/Float", name := "intBitsToFloat", desc := "(I)F" } : Jvm.MethodName)) : Cond) ∈ gT := gI 1079 (by decide +kernel) rfl
theorem mw_1080 : ((Jvm.Cond.static ({ cls := "java/lang/Float", name := "intBitsToFloat", desc := "(I)F" } : Jvm.MethodName)) : Cond) ∈ gT := gI 1080 (by decide +kernel) rfl
theorem mw_1081 : ((Jvm.Cond.native ({ cls := "java/lang/Float", name := "intBitsToFloat", desc := "(I)F" } : Jvm.MethodName)) : Cond) ∈ gT := gI 1081 (by decide +kernel) rfl
theorem mw_1082 : ((Jvm.Cond.methodLink "SugarKitchenLaw" (41 : Nat) ({ cls := "SugarKitchenModel", name := "stir", desc := "(IIZ)Z" } : Jvm.MethodName)) : Cond) ∈ gT := gI 1082 (by decide +kernel) rfl
theorem mw_1083 : ((Jvm.Cond.instanceMethod ({ cls := "SugarKitchenModel", name := "stir", desc := "(IIZ)Z" } : Jvm.MethodName)) : Cond) ∈ gT := gI 1083 (by decide +kernel) rfl
theorem mw_1084 : ((Jvm.Cond.selects "SugarKitchenModel" ({ cls := "SugarKitchenModel", name := "stir", desc := "(IIZ)Z" } : Jvm.MethodName) ({ cls := "SugarKitchenModel", name := "stir", desc := "(IIZ)Z" } : Jvm.MethodName)) : Cond) ∈ gT := gI 1084 (by decide +kernel) rfl
set_option maxRecDepth 100000 in
theorem mw_1085 : ((Jvm.Cond.code ({ cls := "SugarKitchenModel", name := "stir", desc := "(IIZ)Z" } : Jvm.MethodName) prog_13_method_9_code (4 : Nat) (Option.some Jvm.ClassFile.FieldType.boolean)) : Cond) ∈ gT := gI 1085 rfl rfl
theorem mw_1086 : ((Jvm.Cond.methodLink "SugarKitchenLaw" (45 : Nat) ({ cls := "SugarKitchenModel", name := "table", desc := "(II)I" } : Jvm.MethodName)) : Cond) ∈ gT := gI 1086 (by decide +kernel) rfl
theorem mw_1087 : ((Jvm.Cond.instanceMethod ({ cls := "SugarKitchenModel", name := "table", desc := "(II)I" } : Jvm.MethodName)) : Cond) ∈ gT := gI 1087 (by decide +kernel) rfl
theorem mw_1088 : ((Jvm.Cond.selects "SugarKitchenModel" ({ cls := "SugarKitchenModel", name := "table", desc := "(II)I" } : Jvm.MethodName) ({ cls := "SugarKitchenModel", name := "table", desc := "(II)I" } : Jvm.MethodName)) : Cond) ∈ gT := gI 1088 (by decide +kernel) rfl
set_option maxRecDepth 100000 in
theorem mw_1089 : ((Jvm.Cond.code ({ cls := "SugarKitchenModel", name := "table", desc := "(II)I" } : Jvm.MethodName) prog_13_method_10_code (3 : Nat) (Option.some Jvm.ClassFile.FieldType.int)) : Cond) ∈ gT := gI 1089 rfl rfl
theorem mw_1090 : ((Jvm.Cond.methodLink "SugarKitchenLaw" (50 : Nat) ({ cls := "SugarKitchenModel", name := "grain", desc := "(II)Z" } : Jvm.MethodName)) : Cond) ∈ gT := gI 1090 (by decide +kernel) rfl
theorem mw_1091 : ((Jvm.Cond.instanceMethod ({ cls := "SugarKitchenModel", name := "grain", desc := "(II)Z" } : Jvm.MethodName)) : Cond) ∈ gT := gI 1091 (by decide +kernel) rfl
theorem mw_1092 : ((Jvm.Cond.selects "SugarKitchenModel" ({ cls := "SugarKitchenModel", name := "grain", desc := "(II)Z" } : Jvm.MethodName) ({ cls := "SugarKitchenModel", name := "grain", desc := "(II)Z" } : Jvm.MethodName)) : Cond) ∈ gT := gI 1092 (by decide +kernel) rfl
set_option maxRecDepth 100000 in
theorem mw_1093 : ((Jvm.Cond.code ({ cls := "SugarKitchenModel", name := "grain", desc := "(II)Z" } : Jvm.MethodName) prog_13_method_11_code (3 : Nat) (Option.some Jvm.ClassFile.FieldType.boolean)) : Cond) ∈ gT := gI 1093 rfl rfl
theorem mw_1094 : ((Jvm.Cond.methodLink "SugarKitchenLaw" (54 : Nat) ({ cls := "SugarKitchenModel", name := "bounds", desc := "(III)Z" } : Jvm.MethodName)) : Cond) ∈ gT := gI 1094 (by decide +kernel) rfl
theorem mw_1095 : ((Jvm.Cond.instanceMethod ({ cls := "SugarKitchenModel", name := "bounds", desc := "(III)Z" } : Jvm.MethodName)) : Cond) ∈ gT := gI 1095 (by decide +kernel) rfl
theorem mw_1096 : ((Jvm.Cond.selects "SugarKitchenModel" ({ cls := "SugarKitchenModel", name := "bounds", desc := "(III)Z" } : Jvm.MethodName) ({ cls := "SugarKitchenModel", name := "bounds", desc := "(III)Z" } : Jvm.MethodName)) : Cond) ∈ gT := gI 1096 (by decide +kernel) rfl
set_option maxRecDepth 100000 in
theorem mw_1097 : ((Jvm.Cond.code ({ cls := "SugarKitchenModel", name := "bounds", desc := "(III)Z" } : Jvm.MethodName) prog_13_method_12_code (4 : Nat) (Option.some Jvm.ClassFile.FieldType.boolean)) : Cond) ∈ gT := gI 1097 rfl rfl
theorem mw_1098 : ((Jvm.Cond.methodLink "SugarKitchenLaw" (58 : Nat) ({ cls := "SugarKitchenModel", name := "cook", desc := "(II)I" } : Jvm.MethodName)) : Cond) ∈ gT := gI 1098 (by decide +kernel) rfl
theorem mw_1099 : ((Jvm.Cond.instanceMethod ({ cls := "SugarKitchenModel", name := "cook", desc := "(II)I" } : Jvm.MethodName)) : Cond) ∈ gT := gI 1099 (by decide +kernel) rfl
theorem mw_1100 : ((Jvm.Cond.selects "SugarKitchenModel" ({ cls := "SugarKitchenModel", name := "cook", desc := "(II)I" } : Jvm.MethodName) ({ cls := "SugarKitchenModel", name := "cook", desc := "(II)I" } : Jvm.MethodName)) : Cond) ∈ gT := gI 1100 (by decide +kernel) rfl
set_option maxRecDepth 100000 in
theorem mw_1101 : ((Jvm.Cond.code ({ cls := "SugarKitchenModel", name := "cook", desc := "(II)I" } : Jvm.MethodName) prog_13_method_16_code (7 : Nat) (Option.some Jvm.ClassFile.FieldType.int)) : Cond) ∈ gT := gI 1101 rfl rfl
theorem mw_1102 : ((Jvm.Cond.methodLink "SugarKitchenModel" (182 : Nat) ({ cls := "SugarKitchenModel", name := "isRead", desc := "(II)Z" } : Jvm.MethodName)) : Cond) ∈ gT := gI 1102 (by decide +kernel) rfl
theorem mw_1104 : ((Jvm.Cond.instanceMethod ({ cls := "SugarKitchenModel", name := "isRead", desc := "(II)Z" } : Jvm.MethodName)) : Cond) ∈ gT := gI 1104 (by decide +kernel) rfl
set_option maxRecDepth 100000 in
theorem mw_1105 : ((Jvm.Cond.code ({ cls := "SugarKitchenModel", name := "isRead", desc := "(II)Z" } : Jvm.MethodName) prog_13_method_13_code (4 : Nat) (Option.some Jvm.ClassFile.FieldType.boolean)) : Cond) ∈ gT := gI 1105 rfl rfl
theorem mw_1106 : ((Jvm.Cond.methodLink "SugarKitchenModel" (186 : Nat) ({ cls := "SugarKitchenModel", name := "degree", desc := "(II)I" } : Jvm.MethodName)) : Cond) ∈ gT := gI 1106 (by decide +kernel) rfl
theorem mw_1108 : ((Jvm.Cond.instanceMethod ({ cls := "SugarKitchenModel", name := "degree", desc := "(II)I" } : Jvm.MethodName)) : Cond) ∈ gT := gI 1108 (by decide +kernel) rfl
set_option maxRecDepth 100000 in
theorem mw_1109 : ((Jvm.Cond.code ({ cls := "SugarKitchenModel", name := "degree", desc := "(II)I" } : Jvm.MethodName) prog_13_method_14_code (3 : Nat) (Option.some Jvm.ClassFile.FieldType.int)) : Cond) ∈ gT := gI 1109 rfl rfl
theorem mw_1110 : ((Jvm.Cond.constantFloat "SugarKitchenModel" (181 : Nat) (1092616192 : UInt32)) : Cond) ∈ gT := gI 1110 (by decide +kernel) rfl
theorem mw_1111 : ((Jvm.Cond.methodLink "SugarKitchenModel" (190 : Nat) ({ cls := "SugarKitchenModel", name := "lossOf", desc := "(IZ)I" } : Jvm.MethodName)) : Cond) ∈ gT := gI 1111 (by decide +kernel) rfl
theorem mw_1113 : ((Jvm.Cond.instanceMethod ({ cls := "SugarKitchenModel", name := "lossOf", desc := "(IZ)I" } : Jvm.MethodName)) : Cond) ∈ gT := gI 1113 (by decide +kernel) rfl
set_option maxRecDepth 100000 in
theorem mw_1114 : ((Jvm.Cond.code ({ cls := "SugarKitchenModel", name := "lossOf", desc := "(IZ)I" } : Jvm.MethodName) prog_13_method_15_code (5 : Nat) (Option.some Jvm.ClassFile.FieldType.int)) : Cond) ∈ gT := gI 1114 rfl rfl
theorem mw_1115 : ((Jvm.Cond.constantLong "SugarKitchenModel" (194 : Nat) (1000 : Int64)) : Cond) ∈ gT := gI 1115 (by decide +kernel) rfl
theorem mw_1116 : ((Jvm.Cond.methodLink "SugarKitchenLaw" (63 : Nat) ({ cls := "SugarKitchenModel", name := "vouch", desc := "(I)Z" } : Jvm.MethodName)) : Cond) ∈ gT := gI 1116 (by decide +kernel) rfl
theorem mw_1117 : ((Jvm.Cond.instanceMethod ({ cls := "SugarKitchenModel", name := "vouch", desc := "(I)Z" } : Jvm.MethodName)) : Cond) ∈ gT := gI 1117 (by decide +kernel) rfl
theorem mw_1118 : ((Jvm.Cond.selects "SugarKitchenModel" ({ cls := "SugarKitchenModel", name := "vouch", desc := "(I)Z" } : Jvm.MethodName) ({ cls := "SugarKitchenModel", name := "vouch", desc := "(I)Z" } : Jvm.MethodName)) : Cond) ∈ gT := gI 1118 (by decide +kernel) rfl
set_option maxRecDepth 100000 in
theorem mw_1119 : ((Jvm.Cond.code ({ cls := "SugarKitchenModel", name := "vouch", desc := "(I)Z" } : Jvm.MethodName) prog_13_method_17_code (2 : Nat) (Option.some Jvm.ClassFile.FieldType.boolean)) : Cond) ∈ gT := gI 1119 rfl rfl
theorem mw_1120 : ((Jvm.Cond.methodLink "SugarKitchenLaw" (67 : Nat) ({ cls := "SugarKitchenModel", name := "why", desc := "(I)I" } : Jvm.MethodName)) : Cond) ∈ gT := gI 1120 (by decide +kernel) rfl
theorem mw_1121 : ((Jvm.Cond.instanceMethod ({ cls := "SugarKitchenModel", name := "why", desc := "(I)I" } : Jvm.MethodName)) : Cond) ∈ gT := gI 1121 (by decide +kernel) rfl
theorem mw_1122 : ((Jvm.Cond.selects "SugarKitchenModel" ({ cls := "SugarKitchenModel", name := "why", desc := "(I)I" } : Jvm.MethodName) ({ cls := "SugarKitchenModel", name := "why", desc := "(I)I" } : Jvm.MethodName)) : Cond) ∈ gT := gI 1122 (by decide +kernel) rfl
set_option maxRecDepth 100000 in
theorem mw_1123 : ((Jvm.Cond.code ({ cls := "SugarKitchenModel", name := "why", desc := "(I)I" } : Jvm.MethodName) prog_13_method_18_code (4 : Nat) (Option.some Jvm.ClassFile.FieldType.int)) : Cond) ∈ gT := gI 1123 rfl rfl
theorem mw_1124 : ((Jvm.Cond.methodLink "SugarKitchenLaw" (71 : Nat) ({ cls := "SugarKitchenModel", name := "batchOf", desc := "(II)I" } : Jvm.MethodName)) : Cond) ∈ gT := gI 1124 (by decide +kernel) rfl
theorem mw_1125 : ((Jvm.Cond.instanceMethod ({ cls := "SugarKitchenModel", name := "batchOf", desc := "(II)I" } : Jvm.MethodName)) : Cond) ∈ gT := gI 1125 (by decide +kernel) rfl
theorem mw_1126 : ((Jvm.Cond.selects "SugarKitchenModel" ({ cls := "SugarKitchenModel", name := "batchOf", desc := "(II)I" } : Jvm.MethodName) ({ cls := "SugarKitchenModel", name := "batchOf", desc := "(II)I" } : Jvm.MethodName)) : Cond) ∈ gT := gI 1126 (by decide +kernel) rfl
set_option maxRecDepth 100000 in
theorem mw_1127 : ((Jvm.Cond.code ({ cls := "SugarKitchenModel", name := "batchOf", desc := "(II)I" } : Jvm.MethodName) prog_13_method_20_code (3 : Nat) (Option.some Jvm.ClassFile.FieldType.int)) : Cond) ∈ gT := gI 1127 rfl rfl
theorem mw_1128 : ((Jvm.Cond.methodLink "SugarKitchenLaw" (76 : Nat) ({ cls := "SugarKitchenModel", name := "temper", desc := "(IIIIII)Z" } : Jvm.MethodName)) : Cond) ∈ gT := gI 1128 (by decide +kernel) rfl
theorem mw_1129 : ((Jvm.Cond.instanceMethod ({ cls := "SugarKitchenModel", name := "temper", desc := "(IIIIII)Z" } : Jvm.MethodName)) : Cond) ∈ gT := gI 1129 (by decide +kernel) rfl
theorem mw_1130 : ((Jvm.Cond.selects "SugarKitchenModel" ({ cls := "SugarKitchenModel", name := "temper", desc := "(IIIIII)Z" } : Jvm.MethodName) ({ cls := "SugarKitchenModel", name := "temper", desc := "(IIIIII)Z" } : Jvm.MethodName)) : Cond) ∈ gT := gI 1130 (by decide +kernel) rfl
set_option maxRecDepth 100000 in
theorem mw_1131 : ((Jvm.Cond.code ({ cls := "SugarKitchenModel", name := "temper", desc := "(IIIIII)Z" } : Jvm.MethodName) prog_13_method_21_code (8 : Nat) (Option.some Jvm.ClassFile.FieldType.boolean)) : Cond) ∈ gT := gI 1131 rfl rfl
theorem mw_1132 : ((Jvm.Cond.methodLink "SugarKitchenLaw" (80 : Nat) ({ cls := "SugarKitchenModel", name := "heat", desc := "(II)I" } : Jvm.MethodName)) : Cond) ∈ gT := gI 1132 (by decide +kernel) rfl
theorem mw_1133 : ((Jvm.Cond.instanceMethod ({ cls := "SugarKitchenModel", name := "heat", desc := "(II)I" } : Jvm.MethodName)) : Cond) ∈ gT := gI 1133 (by decide +kernel) rfl
theorem mw_1134 : ((Jvm.Cond.selects "SugarKitchenModel" ({ cls := "SugarKitchenModel", name := "heat", desc := "(II)I" } : Jvm.MethodName) ({ cls := "SugarKitchenModel", name := "heat", desc := "(II)I" } : Jvm.MethodName)) : Cond) ∈ gT := gI 1134 (by decide +kernel) rfl
set_option maxRecDepth 100000 in
theorem mw_1135 : ((Jvm.Cond.code ({ cls := "SugarKitchenModel", name := "heat", desc := "(II)I" } : Jvm.MethodName) prog_13_method_22_code (5 : Nat) (Option.some Jvm.ClassFile.FieldType.int)) : Cond) ∈ gT := gI 1135 rfl rfl
theorem mw_1136 : ((Jvm.Cond.methodLink "SugarKitchenLaw" (84 : Nat) ({ cls := "SugarKitchenModel", name := "cut", desc := "(III)I" } : Jvm.MethodName)) : Cond) ∈ gT := gI 1136 (by decide +kernel) rfl
theorem mw_1137 : ((Jvm.Cond.instanceMethod ({ cls := "SugarKitchenModel", name := "cut", desc := "(III)I" } : Jvm.MethodName)) : Cond) ∈ gT := gI 1137 (by decide +kernel) rfl
theorem mw_1138 : ((Jvm.Cond.selects "SugarKitchenModel" ({ cls := "SugarKitchenModel", name := "cut", desc := "(III)I" } : Jvm.MethodName) ({ cls := "SugarKitchenModel", name := "cut", desc := "(III)I" } : Jvm.MethodName)) : Cond) ∈ gT := gI 1138 (by decide +kernel) rfl
set_option maxRecDepth 100000 in
theorem mw_1139 : ((Jvm.Cond.code ({ cls := "SugarKitchenModel", name := "cut", desc := "(III)I" } : Jvm.MethodName) prog_13_method_23_code (5 : Nat) (Option.some Jvm.ClassFile.FieldType.int)) : Cond) ∈ gT := gI 1139 rfl rfl
theorem mw_1140 : ((Jvm.Cond.methodLink "SugarKitchenModel" (200 : Nat) ({ cls := "SugarKitchenModel", name := "isGood", desc := "(I)Z" } : Jvm.MethodName)) : Cond) ∈ gT := gI 1140 (by decide +kernel) rfl
theorem mw_1142 : ((Jvm.Cond.instanceMethod ({ cls := "SugarKitchenModel", name := "isGood", desc := "(I)Z" } : Jvm.MethodName)) : Cond) ∈ gT := gI 1142 (by decide +kernel) rfl
set_option maxRecDepth 100000 in
theorem mw_1143 : ((Jvm.Cond.code ({ cls := "SugarKitchenModel", name := "isGood", desc := "(I)Z" } : Jvm.MethodName) prog_13_method_19_code (2 : Nat) (Option.some Jvm.ClassFile.FieldType.boolean)) : Cond) ∈ gT := gI 1143 rfl rfl
theorem mw_1144 : ((Jvm.Cond.methodLink "SugarKitchenModel" (196 : Nat) ({ cls := "SugarKitchenModel", name := "why", desc := "(I)I" } : Jvm.MethodName)) : Cond) ∈ gT := gI 1144 (by decide +kernel) rfl
theorem mw_1145 : ((Jvm.Cond.methodLink "SugarKitchenLaw" (88 : Nat) ({ cls := "SugarKitchenModel", name := "dip", desc := "(III)I" } : Jvm.MethodName)) : Cond) ∈ gT := gI 1145 (by decide +kernel) rfl
theorem mw_1146 : ((Jvm.Cond.instanceMethod ({ cls := "SugarKitchenModel", name := "dip", desc := "(III)I" } : Jvm.MethodName)) : Cond) ∈ gT := gI 1146 (by decide +kernel) rfl
theorem mw_1147 : ((Jvm.Cond.selects "SugarKitchenModel" ({ cls := "SugarKitchenModel", name := "dip", desc := "(III)I" } : Jvm.MethodName) ({ cls := "SugarKitchenModel", name := "dip", desc := "(III)I" } : Jvm.MethodName)) : Cond) ∈ gT := gI 1147 (by decide +kernel) rfl
set_option maxRecDepth 100000 in
theorem mw_1148 : ((Jvm.Cond.code ({ cls := "SugarKitchenModel", name := "dip", desc := "(III)I" } : Jvm.MethodName) prog_13_method_25_code (4 : Nat) (Option.some Jvm.ClassFile.FieldType.int)) : Cond) ∈ gT := gI 1148 rfl rfl
theorem mw_1149 : ((Jvm.Cond.methodLink "SugarKitchenModel" (206 : Nat) ({ cls := "SugarKitchenModel", name := "isOut", desc := "(I)Z" } : Jvm.MethodName)) : Cond) ∈ gT := gI 1149 (by decide +kernel) rfl
theorem mw_1151 : ((Jvm.Cond.instanceMethod ({ cls := "SugarKitchenModel", name := "isOut", desc := "(I)Z" } : Jvm.MethodName)) : Cond) ∈ gT := gI 1151 (by decide +kernel) rfl
set_option maxRecDepth 100000 in
theorem mw_1152 : ((Jvm.Cond.code ({ cls := "SugarKitchenModel", name := "isOut", desc := "(I)Z" } : Jvm.MethodName) prog_13_method_24_code (2 : Nat) (Option.some Jvm.ClassFile.FieldType.boolean)) : Cond) ∈ gT := gI 1152 rfl rfl
theorem mw_1153 : ((Jvm.Cond.methodLink "SugarKitchenLaw" (92 : Nat) ({ cls := "SugarKitchenModel", name := "place", desc := "(III)Z" } : Jvm.MethodName)) : Cond) ∈ gT := gI 1153 (by decide +kernel) rfl
theorem mw_1154 : ((Jvm.Cond.instanceMethod ({ cls := "SugarKitchenModel", name := "place", desc := "(III)Z" } : Jvm.MethodName)) : Cond) ∈ gT := gI 1154 (by decide +kernel) rfl
theorem mw_1155 : ((Jvm.Cond.selects "SugarKitchenModel" ({ cls := "SugarKitchenModel", name := "place", desc := "(III)Z" } : Jvm.MethodName) ({ cls := "SugarKitchenModel", name := "place", desc := "(III)Z" } : Jvm.MethodName)) : Cond) ∈ gT := gI 1155 (by decide +kernel) rfl
set_option maxRecDepth 100000 in
theorem mw_1156 : ((Jvm.Cond.code ({ cls := "SugarKitchenModel", name := "place", desc := "(III)Z" } : Jvm.MethodName) prog_13_method_27_code (4 : Nat) (Option.some Jvm.ClassFile.FieldType.boolean)) : Cond) ∈ gT := gI 1156 rfl rfl
theorem mw_1157 : ((Jvm.Cond.methodLink "SugarKitchenModel" (209 : Nat) ({ cls := "SugarKitchenModel", name := "leave", desc := "(I)V" } : Jvm.MethodName)) : Cond) ∈ gT := gI 1157 (by decide +kernel) rfl
theorem mw_1159 : ((Jvm.Cond.instanceMethod ({ cls := "SugarKitchenModel", name := "leave", desc := "(I)V" } : Jvm.MethodName)) : Cond) ∈ gT := gI 1159 (by decide +kernel) rfl
set_option maxRecDepth 100000 in
theorem mw_1160 : ((Jvm.Cond.code ({ cls := "SugarKitchenModel", name := "leave", desc := "(I)V" } : Jvm.MethodName) prog_13_method_26_code (2 : Nat) (Option.none : Option Jvm.ClassFile.FieldType)) : Cond) ∈ gT := gI 1160 rfl rfl
theorem mw_1161 : ((Jvm.Cond.methodLink "SugarKitchenLaw" (96 : Nat) ({ cls := "SugarKitchenModel", name := "take", desc := "(I)Z" } : Jvm.MethodName)) : Cond) ∈ gT := gI 1161 (by decide +kernel) rfl
theorem mw_1162 : ((Jvm.Cond.instanceMethod ({ cls := "SugarKitchenModel", name := "take", desc := "(I)Z" } : Jvm.MethodName)) : Cond) ∈ gT := gI 1162 (by decide +kernel) rfl
theorem mw_1163 : ((Jvm.Cond.selects "SugarKitchenModel" ({ cls := "SugarKitchenModel", name := "take", desc := "(I)Z" } : Jvm.MethodName) ({ cls := "SugarKitchenModel", name := "take", desc := "(I)Z" } : Jvm.MethodName)) : Cond) ∈ gT := gI 1163 (by decide +kernel) rfl
set_option maxRecDepth 100000 in
theorem mw_1164 : ((Jvm.Cond.code ({ cls := "SugarKitchenModel", name := "take", desc := "(I)Z" } : Jvm.MethodName) prog_13_method_28_code (2 : Nat) (Option.some Jvm.ClassFile.FieldType.boolean)) : Cond) ∈ gT := gI 1164 rfl rfl
theorem mw_1165 : ((Jvm.Cond.methodLink "SugarKitchenLaw" (100 : Nat) ({ cls := "SugarKitchenModel", name := "allow", desc := "(I)Z" } : Jvm.MethodName)) : Cond) ∈ gT := gI 1165 (by decide +kernel) rfl
theorem mw_1166 : ((Jvm.Cond.instanceMethod ({ cls := "SugarKitchenModel", name := "allow", desc := "(I)Z" } : Jvm.MethodName)) : Cond) ∈ gT := gI 1166 (by decide +kernel) rfl
theorem mw_1167 : ((Jvm.Cond.selects "SugarKitchenModel" ({ cls := "SugarKitchenModel", name := "allow", desc := "(I)Z" } : Jvm.MethodName) ({ cls := "SugarKitchenModel", name := "allow", desc := "(I)Z" } : Jvm.MethodName)) : Cond) ∈ gT := gI 1167 (by decide +kernel) rfl
set_option maxRecDepth 100000 in
theorem mw_1168 : ((Jvm.Cond.code ({ cls := "SugarKitchenModel", name := "allow", desc := "(I)Z" } : Jvm.MethodName) prog_13_method_29_code (2 : Nat) (Option.some Jvm.ClassFile.FieldType.boolean)) : Cond) ∈ gT := gI 1168 rfl rfl
theorem mw_1169 : ((Jvm.Cond.methodLink "SugarKitchenLaw" (104 : Nat) ({ cls := "SugarKitchenModel", name := "pieceOf", desc := "(II)I" } : Jvm.MethodName)) : Cond) ∈ gT := gI 1169 (by decide +kernel) rfl
theorem mw_1170 : ((Jvm.Cond.instanceMethod ({ cls := "SugarKitchenModel", name := "pieceOf", desc := "(II)I" } : Jvm.MethodName)) : Cond) ∈ gT := gI 1170 (by decide +kernel) rfl
theorem mw_1171 : ((Jvm.Cond.selects "SugarKitchenModel" ({ cls := "SugarKitchenModel", name := "pieceOf", desc := "(II)I" } : Jvm.MethodName) ({ cls := "SugarKitchenModel", name := "pieceOf", desc := "(II)I" } : Jvm.MethodName)) : Cond) ∈ gT := gI 1171 (by decide +kernel) rfl
set_option maxRecDepth 100000 in
theorem mw_1172 : ((Jvm.Cond.code ({ cls := "SugarKitchenModel", name := "pieceOf", desc := "(II)I" } : Jvm.MethodName) prog_13_method_32_code (3 : Nat) (Option.some Jvm.ClassFile.FieldType.int)) : Cond) ∈ gT := gI 1172 rfl rfl
theorem mw_1173 : ((Jvm.Cond.methodLink "SugarKitchenModel" (213 : Nat) ({ cls := "SugarKitchenModel", name := "sort", desc := "(I)I" } : Jvm.MethodName)) : Cond) ∈ gT := gI 1173 (by decide +kernel) rfl
theorem mw_1175 : ((Jvm.Cond.instanceMethod ({ cls := "SugarKitchenModel", name := "sort", desc := "(I)I" } : Jvm.MethodName)) : Cond) ∈ gT := gI 1175 (by decide +kernel) rfl
set_option maxRecDepth 100000 in
theorem mw_1176 : ((Jvm.Cond.code ({ cls := "SugarKitchenModel", name := "sort", desc := "(I)I" } : Jvm.MethodName) prog_13_method_30_code (2 : Nat) (Option.some Jvm.ClassFile.FieldType.int)) : Cond) ∈ gT := gI 1176 rfl rfl
theorem mw_1177 : ((Jvm.Cond.methodLink "SugarKitchenModel" (216 : Nat) ({ cls := "SugarKitchenModel", name := "isFit", desc := "(I)Z" } : Jvm.MethodName)) : Cond) ∈ gT := gI 1177 (by decide +kernel) rfl
theorem mw_1179 : ((Jvm.Cond.instanceMethod ({ cls := "SugarKitchenModel", name := "isFit", desc := "(I)Z" } : Jvm.MethodName)) : Cond) ∈ gT := gI 1179 (by decide +kernel) rfl
set_option maxRecDepth 100000 in
theorem mw_1180 : ((Jvm.Cond.code ({ cls := "SugarKitchenModel", name := "isFit", desc := "(I)Z" } : Jvm.MethodName) prog_13_method_31_code (2 : Nat) (Option.some Jvm.ClassFile.FieldType.boolean)) : Cond) ∈ gT := gI 1180 rfl rfl
theorem mw_1181 : ((Jvm.Cond.methodLink "SugarKitchenLaw" (108 : Nat) ({ cls := "SugarKitchenModel", name := "at", desc := "(II)I" } : Jvm.MethodName)) : Cond) ∈ gT := gI 1181 (by decide +kernel) rfl
theorem mw_1182 : ((Jvm.Cond.instanceMethod ({ cls := "SugarKitchenModel", name := "at", desc := "(II)I" } : Jvm.MethodName)) : Cond) ∈ gT := gI 1182 (by decide +kernel) rfl
theorem mw_1183 : ((Jvm.Cond.selects "SugarKitchenModel" ({ cls := "SugarKitchenModel", name := "at", desc := "(II)I" } : Jvm.MethodName) ({ cls := "SugarKitchenModel", name := "at", desc := "(II)I" } : Jvm.MethodName)) : Cond) ∈ gT := gI 1183 (by decide +kernel) rfl
set_option maxRecDepth 100000 in
theorem mw_1184 : ((Jvm.Cond.code ({ cls := "SugarKitchenModel", name := "at", desc := "(II)I" } : Jvm.MethodName) prog_13_method_33_code (3 : Nat) (Option.some Jvm.ClassFile.FieldType.int)) : Cond) ∈ gT := gI 1184 rfl rfl
theorem mw_1185 : ((Jvm.Cond.methodLink "SugarKitchenLaw" (112 : Nat) ({ cls := "SugarKitchenModel", name := "pack", desc := "(III)I" } : Jvm.MethodName)) : Cond) ∈ gT := gI 1185 (by decide +kernel) rfl
theorem mw_1186 : ((Jvm.Cond.instanceMethod ({ cls := "SugarKitchenModel", name := "pack", desc := "(III)I" } : Jvm.MethodName)) : Cond) ∈ gT := gI 1186 (by decide +kernel) rfl
theorem mw_1187 : ((Jvm.Cond.selects "SugarKitchenModel" ({ cls := "SugarKitchenModel", name := "pack", desc := "(III)I" } : Jvm.MethodName) ({ cls := "SugarKitchenModel", name := "pack", desc := "(III)I" } : Jvm.MethodName)) : Cond) ∈ gT := gI 1187 (by decide +kernel) rfl
set_option maxRecDepth 100000 in
theorem mw_1188 : ((Jvm.Cond.code ({ cls := "SugarKitchenModel", name := "pack", desc := "(III)I" } : Jvm.MethodName) prog_13_method_40_code (7 : Nat) (Option.some Jvm.ClassFile.FieldType.int)) : Cond) ∈ gT := gI 1188 rfl rfl
theorem mw_1189 : ((Jvm.Cond.methodLink "SugarKitchenModel" (232 : Nat) ({ cls := "SugarKitchenModel", name := "areNumbers", desc := "(III)Z" } : Jvm.MethodName)) : Cond) ∈ gT := gI 1189 (by decide +kernel) rfl
theorem mw_1190 : ((Jvm.Cond.static ({ cls := "SugarKitchenModel", name := "areNumbers", desc := "(III)Z" } : Jvm.MethodName)) : Cond) ∈ gT := gI 1190 (by decide +kernel) rfl
set_option maxRecDepth 100000 in
theorem mw_1191 : ((Jvm.Cond.code ({ cls := "SugarKitchenModel", name := "areNumbers", desc := "(III)Z" } : Jvm.MethodName) prog_13_method_39_code (3 : Nat) (Option.some Jvm.ClassFile.FieldType.boolean)) : Cond) ∈ gT := gI 1191 rfl rfl
theorem mw_1192 : ((Jvm.Cond.methodLink "SugarKitchenModel" (238 : Nat) ({ cls := "SugarKitchenModel", name := "list", desc := "(I)V" } : Jvm.MethodName)) : Cond) ∈ gT := gI 1192 (by decide +kernel) rfl
theorem mw_1194 : ((Jvm.Cond.instanceMethod ({ cls := "SugarKitchenModel", name := "list", desc := "(I)V" } : Jvm.MethodName)) : Cond) ∈ gT := gI 1194 (by decide +kernel) rfl
set_option maxRecDepth 100000 in
theorem mw_1195 : ((Jvm.Cond.code ({ cls := "SugarKitchenModel", name := "list", desc := "(I)V" } : Jvm.MethodName) prog_13_method_34_code (4 : Nat) (Option.none : Option Jvm.ClassFile.FieldType)) : Cond) ∈ gT := gI 1195 rfl rfl
theorem mw_1196 : ((Jvm.Cond.methodLink "SugarKitchenModel" (241 : Nat) ({ cls := "SugarKitchenModel", name := "gather", desc := "()V" } : Jvm.MethodName)) : Cond) ∈ gT := gI 1196 (by decide +kernel) rfl
theorem mw_1198 : ((Jvm.Cond.instanceMethod ({ cls := "SugarKitchenModel", name := "gather", desc := "()V" } : Jvm.MethodName)) : Cond) ∈ gT := gI 1198 (by decide +kernel) rfl
set_option maxRecDepth 100000 in
theorem mw_1199 : ((Jvm.Cond.code ({ cls := "SugarKitchenModel", name := "gather", desc := "()V" } : Jvm.MethodName) prog_13_method_35_code (2 : Nat) (Option.none : Option Jvm.ClassFile.FieldType)) : Cond) ∈ gT := gI 1199 rfl rfl
theorem mw_1200 : ((Jvm.Cond.methodLink "SugarKitchenModel" (244 : Nat) ({ cls := "SugarKitchenModel", name := "leastSum", desc := "(II)I" } : Jvm.MethodName)) : Cond) ∈ gT := gI 1200 (by decide +kernel) rfl
theorem mw_1202 : ((Jvm.Cond.instanceMethod ({ cls := "SugarKitchenModel", name := "leastSum", desc := "(II)I" } : Jvm.MethodName)) : Cond) ∈ gT := gI 1202 (by decide +kernel) rfl
set_option maxRecDepth 100000 in
theorem mw_1203 : ((Jvm.Cond.code ({ cls := "SugarKitchenModel", name := "leastSum", desc := "(II)I" } : Jvm.MethodName) prog_13_method_36_code (8 : Nat) (Option.some Jvm.ClassFile.FieldType.int)) : Cond) ∈ gT := gI 1203 rfl rfl
theorem mw_1204 : ((Jvm.Cond.methodLink "SugarKitchenModel" (228 : Nat) ({ cls := "SugarKitchenModel", name := "reaches8500", desc := "()Z" } : Jvm.MethodName)) : Cond) ∈ gT := gI 1204 (by decide +kernel) rfl
theorem mw_1206 : ((Jvm.Cond.instanceMethod ({ cls := "SugarKitchenModel", name := "reaches8500", desc := "()Z" } : Jvm.MethodName)) : Cond) ∈ gT := gI 1206 (by decide +kernel) rfl
set_option maxRecDepth 100000 in
theorem mw_1207 : ((Jvm.Cond.code ({ cls := "SugarKitchenModel", name := "reaches8500", desc := "()Z" } : Jvm.MethodName) prog_13_method_37_code (3 : Nat) (Option.some Jvm.ClassFile.FieldType.boolean)) : Cond) ∈ gT := gI 1207 rfl rfl
theorem mw_1208 : ((Jvm.Cond.methodLink "SugarKitchenModel" (247 : Nat) ({ cls := "SugarKitchenModel", name := "choose", desc := "(I)I" } : Jvm.MethodName)) : Cond) ∈ gT := gI 1208 (by decide +kernel) rfl
theorem mw_1210 : ((Jvm.Cond.instanceMethod ({ cls := "SugarKitchenModel", name := "choose", desc := "(I)I" } : Jvm.MethodName)) : Cond) ∈ gT := gI 1210 (by decide +kernel) rfl
set_option maxRecDepth 100000 in
theorem mw_1211 : ((Jvm.Cond.code ({ cls := "SugarKitchenModel", name := "choose", desc := "(I)I" } : Jvm.MethodName) prog_13_method_38_code (6 : Nat) (Option.some Jvm.ClassFile.FieldType.int)) : Cond) ∈ gT := gI 1211 rfl rfl
theorem mw_1212 : ((Jvm.Cond.methodLink "SugarKitchenLaw" (117 : Nat) ({ cls := "SugarKitchenModel", name := "would", desc := "(IIII)I" } : Jvm.MethodName)) : Cond) ∈ gT := gI 1212 (by decide +kernel) rfl
theorem mw_1213 : ((Jvm.Cond.instanceMethod ({ cls := "SugarKitchenModel", name := "would", desc := "(IIII)I" } : Jvm.MethodName)) : Cond) ∈ gT := gI 1213 (by decide +kernel) rfl
theorem mw_1214 : ((Jvm.Cond.selects "SugarKitchenModel" ({ cls := "SugarKitchenModel", name := "would", desc := "(IIII)I" } : Jvm.MethodName) ({ cls := "SugarKitchenModel", name := "would", desc := "(IIII)I" } : Jvm.MethodName)) : Cond) ∈ gT := gI 1214 (by decide +kernel) rfl
set_option maxRecDepth 100000 in
theorem mw_1215 : ((Jvm.Cond.code ({ cls := "SugarKitchenModel", name := "would", desc := "(IIII)I" } : Jvm.MethodName) prog_13_method_43_code (6 : Nat) (Option.some Jvm.ClassFile.FieldType.int)) : Cond) ∈ gT := gI 1215 rfl rfl
theorem mw_1216 : ((Jvm.Cond.methodLink "SugarKitchenModel" (250 : Nat) ({ cls := "SugarKitchenModel", name := "most", desc := "(II)I" } : Jvm.MethodName)) : Cond) ∈ gT := gI 1216 (by decide +kernel) rfl
theorem mw_1218 : ((Jvm.Cond.instanceMethod ({ cls := "SugarKitchenModel", name := "most", desc := "(II)I" } : Jvm.MethodName)) : Cond) ∈ gT := gI 1218 (by decide +kernel) rfl
set_option maxRecDepth 100000 in
theorem mw_1219 : ((Jvm.Cond.code ({ cls := "SugarKitchenModel", name := "most", desc := "(II)I" } : Jvm.MethodName) prog_13_method_42_code (9 : Nat) (Option.some Jvm.ClassFile.FieldType.int)) : Cond) ∈ gT := gI 1219 rfl rfl
theorem mw_1220 : ((Jvm.Cond.methodLink "SugarKitchenModel" (253 : Nat) ({ cls := "SugarKitchenModel", name := "full", desc := "(II)I" } : Jvm.MethodName)) : Cond) ∈ gT := gI 1220 (by decide +kernel) rfl
theorem mw_1222 : ((Jvm.Cond.instanceMethod ({ cls := "SugarKitchenModel", name := "full", desc := "(II)I" } : Jvm.MethodName)) : Cond) ∈ gT := gI 1222 (by decide +kernel) rfl
set_option maxRecDepth 100000 in
theorem mw_1223 : ((Jvm.Cond.code ({ cls := "SugarKitchenModel", name := "full", desc := "(II)I" } : Jvm.MethodName) prog_13_method_41_code (7 : Nat) (Option.some Jvm.ClassFile.FieldType.int)) : Cond) ∈ gT := gI 1223 rfl rfl
theorem mw_1224 : ((Jvm.Cond.methodLink "SugarKitchenLaw" (121 : Nat) ({ cls := "SugarKitchenModel", name := "boxOf", desc := "(II)I" } : Jvm.MethodName)) : Cond) ∈ gT := gI 1224 (by decide +kernel) rfl
theorem mw_1225 : ((Jvm.Cond.instanceMethod ({ cls := "SugarKitchenModel", name := "boxOf", desc := "(II)I" } : Jvm.MethodName)) : Cond) ∈ gT := gI 1225 (by decide +kernel) rfl
theorem mw_1226 : ((Jvm.Cond.selects "SugarKitchenModel" ({ cls := "SugarKitchenModel", name := "boxOf", desc := "(II)I" } : Jvm.MethodName) ({ cls := "SugarKitchenModel", name := "boxOf", desc := "(II)I" } : Jvm.MethodName)) : Cond) ∈ gT := gI 1226 (by decide +kernel) rfl
set_option maxRecDepth 100000 in
theorem mw_1227 : ((Jvm.Cond.code ({ cls := "SugarKitchenModel", name := "boxOf", desc := "(II)I" } : Jvm.MethodName) prog_13_method_50_code (8 : Nat) (Option.some Jvm.ClassFile.FieldType.int)) : Cond) ∈ gT := gI 1227 rfl rfl
theorem mw_1228 : ((Jvm.Cond.methodLink "SugarKitchenModel" (259 : Nat) ({ cls := "SugarKitchenModel", name := "isInBox", desc := "(II)Z" } : Jvm.MethodName)) : Cond) ∈ gT := gI 1228 (by decide +kernel) rfl
theorem mw_1230 : ((Jvm.Cond.instanceMethod ({ cls := "SugarKitchenModel", name := "isInBox", desc := "(II)Z" } : Jvm.MethodName)) : Cond) ∈ gT := gI 1230 (by decide +kernel) rfl
set_option maxRecDepth 100000 in
theorem mw_1231 : ((Jvm.Cond.code ({ cls := "SugarKitchenModel", name := "isInBox", desc := "(II)Z" } : Jvm.MethodName) prog_13_method_44_code (3 : Nat) (Option.some Jvm.ClassFile.FieldType.boolean)) : Cond) ∈ gT := gI 1231 rfl rfl
theorem mw_1232 : ((Jvm.Cond.methodLink "SugarKitchenModel" (265 : Nat) ({ cls := "SugarKitchenModel", name := "boxHas", desc := "(II)Z" } : Jvm.MethodName)) : Cond) ∈ gT := gI 1232 (by decide +kernel) rfl
theorem mw_1234 : ((Jvm.Cond.instanceMethod ({ cls := "SugarKitchenModel", name := "boxHas", desc := "(II)Z" } : Jvm.MethodName)) : Cond) ∈ gT := gI 1234 (by decide +kernel) rfl
set_option maxRecDepth 100000 in
theorem mw_1235 : ((Jvm.Cond.code ({ cls := "SugarKitchenModel", name := "boxHas", desc := "(II)Z" } : Jvm.MethodName) prog_13_method_47_code (4 : Nat) (Option.some Jvm.ClassFile.FieldType.boolean)) : Cond) ∈ gT := gI 1235 rfl rfl
theorem mw_1236 : ((Jvm.Cond.methodLink "SugarKitchenModel" (262 : Nat) ({ cls := "SugarKitchenModel", name := "pieceHas", desc := "(II)Z" } : Jvm.MethodName)) : Cond) ∈ gT := gI 1236 (by decide +kernel) rfl
theorem mw_1238 : ((Jvm.Cond.instanceMethod ({ cls := "SugarKitchenModel", name := "pieceHas", desc := "(II)Z" } : Jvm.MethodName)) : Cond) ∈ gT := gI 1238 (by decide +kernel) rfl
set_option maxRecDepth 100000 in
theorem mw_1239 : ((Jvm.Cond.code ({ cls := "SugarKitchenModel", name := "pieceHas", desc := "(II)Z" } : Jvm.MethodName) prog_13_method_46_code (3 : Nat) (Option.some Jvm.ClassFile.FieldType.boolean)) : Cond) ∈ gT := gI 1239 rfl rfl
theorem mw_1240 : ((Jvm.Cond.methodLink "SugarKitchenModel" (256 : Nat) ({ cls := "SugarKitchenModel", name := "hasLot", desc := "(II)Z" } : Jvm.MethodName)) : Cond) ∈ gT := gI 1240 (by decide +kernel) rfl
theorem mw_1242 : ((Jvm.Cond.instanceMethod ({ cls := "SugarKitchenModel", name := "hasLot", desc := "(II)Z" } : Jvm.MethodName)) : Cond) ∈ gT := gI 1242 (by decide +kernel) rfl
set_option maxRecDepth 100000 in
theorem mw_1243 : ((Jvm.Cond.code ({ cls := "SugarKitchenModel", name := "hasLot", desc := "(II)Z" } : Jvm.MethodName) prog_13_method_45_code (3 : Nat) (Option.some Jvm.ClassFile.FieldType.boolean)) : Cond) ∈ gT := gI 1243 rfl rfl
theorem mw_1244 : ((Jvm.Cond.methodLink "SugarKitchenModel" (268 : Nat) ({ cls := "SugarKitchenModel", name := "lotInBox", desc := "(II)I" } : Jvm.MethodName)) : Cond) ∈ gT := gI 1244 (by decide +kernel) rfl
theorem mw_1246 : ((Jvm.Cond.instanceMethod ({ cls := "SugarKitchenModel", name := "lotInBox", desc := "(II)I" } : Jvm.MethodName)) : Cond) ∈ gT := gI 1246 (by decide +kernel) rfl
set_option maxRecDepth 100000 in
theorem mw_1247 : ((Jvm.Cond.code ({ cls := "SugarKitchenModel", name := "lotInBox", desc := "(II)I" } : Jvm.MethodName) prog_13_method_49_code (5 : Nat) (Option.some Jvm.ClassFile.FieldType.int)) : Cond) ∈ gT := gI 1247 rfl rfl
theorem mw_1248 : ((Jvm.Cond.methodLink "SugarKitchenModel" (271 : Nat) ({ cls := "SugarKitchenModel", name := "pieceInBox", desc := "(II)I" } : Jvm.MethodName)) : Cond) ∈ gT := gI 1248 (by decide +kernel) rfl
theorem mw_1250 : ((Jvm.Cond.instanceMethod ({ cls := "SugarKitchenModel", name := "pieceInBox", desc := "(II)I" } : Jvm.MethodName)) : Cond) ∈ gT := gI 1250 (by decide +kernel) rfl
set_option maxRecDepth 100000 in
theorem mw_1251 : ((Jvm.Cond.code ({ cls := "SugarKitchenModel", name := "pieceInBox", desc := "(II)I" } : Jvm.MethodName) prog_13_method_48_code (5 : Nat) (Option.some Jvm.ClassFile.FieldType.int)) : Cond) ∈ gT := gI 1251 rfl rfl
theorem mw_1252 : ((Jvm.Cond.methodLink "SugarKitchenLaw" (125 : Nat) ({ cls := "SugarKitchenModel", name := "wash", desc := "(III)Z" } : Jvm.MethodName)) : Cond) ∈ gT := gI 1252 (by decide +kernel) rfl
theorem mw_1253 : ((Jvm.Cond.instanceMethod ({ cls := "SugarKitchenModel", name := "wash", desc := "(III)Z" } : Jvm.MethodName)) : Cond) ∈ gT := gI 1253 (by decide +kernel) rfl
theorem mw_1254 : ((Jvm.Cond.selects "SugarKitchenModel" ({ cls := "SugarKitchenModel", name := "wash", desc := "(III)Z" } : Jvm.MethodName) ({ cls := "SugarKitchenModel", name := "wash", desc := "(III)Z" } : Jvm.MethodName)) : Cond) ∈ gT := gI 1254 (by decide +kernel) rfl
set_option maxRecDepth 100000 in
theorem mw_1255 : ((Jvm.Cond.code ({ cls := "SugarKitchenModel", name := "wash", desc := "(III)Z" } : Jvm.MethodName) prog_13_method_51_code (4 : Nat) (Option.some Jvm.ClassFile.FieldType.boolean)) : Cond) ∈ gT := gI 1255 rfl rfl
theorem mw_1256 : ((Jvm.Cond.methodLink "SugarKitchenLaw" (129 : Nat) ({ cls := "SugarKitchenModel", name := "queue", desc := "(I)I" } : Jvm.MethodName)) : Cond) ∈ gT := gI 1256 (by decide +kernel) rfl
theorem mw_1257 : ((Jvm.Cond.instanceMethod ({ cls := "SugarKitchenModel", name := "queue", desc := "(I)I" } : Jvm.MethodName)) : Cond) ∈ gT := gI 1257 (by decide +kernel) rfl
theorem mw_1258 : ((Jvm.Cond.selects "SugarKitchenModel" ({ cls := "SugarKitchenModel", name := "queue", desc := "(I)I" } : Jvm.MethodName) ({ cls := "SugarKitchenModel", name := "queue", desc := "(I)I" } : Jvm.MethodName)) : Cond) ∈ gT := gI 1258 (by decide +kernel) rfl
set_option maxRecDepth 100000 in
theorem mw_1259 : ((Jvm.Cond.code ({ cls := "SugarKitchenModel", name := "queue", desc := "(I)I" } : Jvm.MethodName) prog_13_method_52_code (3 : Nat) (Option.some Jvm.ClassFile.FieldType.int)) : Cond) ∈ gT := gI 1259 rfl rfl
theorem mw_1260 : ((Jvm.Cond.methodLink "SugarKitchenLaw" (134 : Nat) ({ cls := "SugarKitchenModel", name := "order", desc := "(ZI)I" } : Jvm.MethodName)) : Cond) ∈ gT := gI 1260 (by decide +kernel) rfl
theorem mw_1261 : ((Jvm.Cond.instanceMethod ({ cls := "SugarKitchenModel", name := "order", desc := "(ZI)I" } : Jvm.MethodName)) : Cond) ∈ gT := gI 1261 (by decide +kernel) rfl
theorem mw_1262 : ((Jvm.Cond.selects "SugarKitchenModel" ({ cls := "SugarKitchenModel", name := "order", desc := "(ZI)I" } : Jvm.MethodName) ({ cls := "SugarKitchenModel", name := "order", desc := "(ZI)I" } : Jvm.MethodName)) : Cond) ∈ gT := gI 1262 (by decide +kernel) rfl
set_option maxRecDepth 100000 in
theorem mw_1263 : ((Jvm.Cond.code ({ cls := "SugarKitchenModel", name := "order", desc := "(ZI)I" } : Jvm.MethodName) prog_13_method_58_code (11 : Nat) (Option.some Jvm.ClassFile.FieldType.int)) : Cond) ∈ gT := gI 1263 rfl rfl
theorem mw_1264 : ((Jvm.Cond.methodLink "SugarKitchenModel" (291 : Nat) ({ cls := "SugarKitchenModel", name := "reckon", desc := "(Z)V" } : Jvm.MethodName)) : Cond) ∈ gT := gI 1264 (by decide +kernel) rfl
theorem mw_1266 : ((Jvm.Cond.instanceMethod ({ cls := "SugarKitchenModel", name := "reckon", desc := "(Z)V" } : Jvm.MethodName)) : Cond) ∈ gT := gI 1266 (by decide +kernel) rfl
set_option maxRecDepth 100000 in
theorem mw_1267 : ((Jvm.Cond.code ({ cls := "SugarKitchenModel", name := "reckon", desc := "(Z)V" } : Jvm.MethodName) prog_13_method_57_code (8 : Nat) (Option.none : Option Jvm.ClassFile.FieldType)) : Cond) ∈ gT := gI 1267 rfl rfl
theorem mw_1268 : ((Jvm.Cond.constant "SugarKitchenModel" (280 : Nat) (100000000 : Int32)) : Cond) ∈ gT := gI 1268 (by decide +kernel) rfl
theorem mw_1269 : ((Jvm.Cond.methodLink "SugarKitchenModel" (281 : Nat) ({ cls := "SugarKitchenModel", name := "mayCome", desc := "(IIZ)Z" } : Jvm.MethodName)) : Cond) ∈ gT := gI 1269 (by decide +kernel) rfl
theorem mw_1271 : ((Jvm.Cond.instanceMethod ({ cls := "SugarKitchenModel", name := "mayCome", desc := "(IIZ)Z" } : Jvm.MethodName)) : Cond) ∈ gT := gI 1271 (by decide +kernel) rfl
set_option maxRecDepth 100000 in
theorem mw_1272 : ((Jvm.Cond.code ({ cls := "SugarKitchenModel", name := "mayCome", desc := "(IIZ)Z" } : Jvm.MethodName) prog_13_method_54_code (5 : Nat) (Option.some Jvm.ClassFile.FieldType.boolean)) : Cond) ∈ gT := gI 1272 rfl rfl
theorem mw_1273 : ((Jvm.Cond.methodLink "SugarKitchenModel" (277 : Nat) ({ cls := "SugarKitchenModel", name := "isNut", desc := "(I)Z" } : Jvm.MethodName)) : Cond) ∈ gT := gI 1273 (by decide +kernel) rfl
theorem mw_1275 : ((Jvm.Cond.instanceMethod ({ cls := "SugarKitchenModel", name := "isNut", desc := "(I)Z" } : Jvm.MethodName)) : Cond) ∈ gT := gI 1275 (by decide +kernel) rfl
set_option maxRecDepth 100000 in
theorem mw_1276 : ((Jvm.Cond.code ({ cls := "SugarKitchenModel", name := "isNut", desc := "(I)Z" } : Jvm.MethodName) prog_13_method_53_code (2 : Nat) (Option.some Jvm.ClassFile.FieldType.boolean)) : Cond) ∈ gT := gI 1276 rfl rfl
theorem mw_1277 : ((Jvm.Cond.methodLink "SugarKitchenModel" (285 : Nat) ({ cls := "SugarKitchenModel", name := "minutes", desc := "(II)I" } : Jvm.MethodName)) : Cond) ∈ gT := gI 1277 (by decide +kernel) rfl
theorem mw_1279 : ((Jvm.Cond.instanceMethod ({ cls := "SugarKitchenModel", name := "minutes", desc := "(II)I" } : Jvm.MethodName)) : Cond) ∈ gT := gI 1279 (by decide +kernel) rfl
set_option maxRecDepth 100000 in
theorem mw_1280 : ((Jvm.Cond.code ({ cls := "SugarKitchenModel", name := "minutes", desc := "(II)I" } : Jvm.MethodName) prog_13_method_55_code (3 : Nat) (Option.some Jvm.ClassFile.FieldType.int)) : Cond) ∈ gT := gI 1280 rfl rfl
theorem mw_1281 : ((Jvm.Cond.methodLink "SugarKitchenModel" (288 : Nat) ({ cls := "SugarKitchenModel", name := "restOf", desc := "(II)I" } : Jvm.MethodName)) : Cond) ∈ gT := gI 1281 (by decide +kernel) rfl
theorem mw_1283 : ((Jvm.Cond.instanceMethod ({ cls := "SugarKitchenModel", name := "restOf", desc := "(II)I" } : Jvm.MethodName)) : Cond) ∈ gT := gI 1283 (by decide +kernel) rfl
set_option maxRecDepth 100000 in
theorem mw_1284 : ((Jvm.Cond.code ({ cls := "SugarKitchenModel", name := "restOf", desc := "(II)I" } : Jvm.MethodName) prog_13_method_56_code (3 : Nat) (Option.some Jvm.ClassFile.FieldType.int)) : Cond) ∈ gT := gI 1284 rfl rfl
theorem mw_1285 : ((Jvm.Cond.methodLink "SugarKitchenLaw" (138 : Nat) ({ cls := "SugarKitchenModel", name := "recall", desc := "(III)I" } : Jvm.MethodName)) : Cond) ∈ gT := gI 1285 (by decide +kernel) rfl
theorem mw_1286 : ((Jvm.Cond.instanceMethod ({ cls := "SugarKitchenModel", name := "recall", desc := "(III)I" } : Jvm.MethodName)) : Cond) ∈ gT := gI 1286 (by decide +kernel) rfl
theorem mw_1287 : ((Jvm.Cond.selects "SugarKitchenModel" ({ cls := "SugarKitchenModel", name := "recall", desc := "(III)I" } : Jvm.MethodName) ({ cls := "SugarKitchenModel", name := "recall", desc := "(III)I" } : Jvm.MethodName)) : Cond) ∈ gT := gI 1287 (by decide +kernel) rfl
set_option maxRecDepth 100000 in
theorem mw_1288 : ((Jvm.Cond.code ({ cls := "SugarKitchenModel", name := "recall", desc := "(III)I" } : Jvm.MethodName) prog_13_method_60_code (7 : Nat) (Option.some Jvm.ClassFile.FieldType.int)) : Cond) ∈ gT := gI 1288 rfl rfl
theorem mw_1289 : ((Jvm.Cond.methodLink "SugarKitchenModel" (295 : Nat) ({ cls := "SugarKitchenModel", name := "hasSome", desc := "(III)Z" } : Jvm.MethodName)) : Cond) ∈ gT := gI 1289 (by decide +kernel) rfl
theorem mw_1291 : ((Jvm.Cond.instanceMethod ({ cls := "SugarKitchenModel", name := "hasSome", desc := "(III)Z" } : Jvm.MethodName)) : Cond) ∈ gT := gI 1291 (by decide +kernel) rfl
set_option maxRecDepth 100000 in
theorem mw_1292 : ((Jvm.Cond.code ({ cls := "SugarKitchenModel", name := "hasSome", desc := "(III)Z" } : Jvm.MethodName) prog_13_method_59_code (4 : Nat) (Option.some Jvm.ClassFile.FieldType.boolean)) : Cond) ∈ gT := gI 1292 rfl rfl
theorem mw_1293 : ((Jvm.Cond.methodLink "SugarKitchenLaw" (142 : Nat) ({ cls := "SugarKitchenModel", name := "about", desc := "(I)I" } : Jvm.MethodName)) : Cond) ∈ gT := gI 1293 (by decide +kernel) rfl
theorem mw_1294 : ((Jvm.Cond.instanceMethod ({ cls := "SugarKitchenModel", name := "about", desc := "(I)I" } : Jvm.MethodName)) : Cond) ∈ gT := gI 1294 (by decide +kernel) rfl
theorem mw_1295 : ((Jvm.Cond.selects "SugarKitchenModel" ({ cls := "SugarKitchenModel", name := "about", desc := "(I)I" } : Jvm.MethodName) ({ cls := "SugarKitchenModel", name := "about", desc := "(I)I" } : Jvm.MethodName)) : Cond) ∈ gT := gI 1295 (by decide +kernel) rfl
set_option maxRecDepth 100000 in
theorem mw_1296 : ((Jvm.Cond.code ({ cls := "SugarKitchenModel", name := "about", desc := "(I)I" } : Jvm.MethodName) prog_13_method_61_code (4 : Nat) (Option.some Jvm.ClassFile.FieldType.int)) : Cond) ∈ gT := gI 1296 rfl rfl
theorem mw_1297 : ((Jvm.Cond.methodLink "SugarKitchenLaw" (146 : Nat) ({ cls := "SugarKitchenModel", name := "left", desc := "(I)I" } : Jvm.MethodName)) : Cond) ∈ gT := gI 1297 (by decide +kernel) rfl
theorem mw_1298 : ((Jvm.Cond.instanceMethod ({ cls := "SugarKitchenModel", name := "left", desc := "(I)I" } : Jvm.MethodName)) : Cond) ∈ gT := gI 1298 (by decide +kernel) rfl
theorem mw_1299 : ((Jvm.Cond.selects "SugarKitchenModel" ({ cls := "SugarKitchenModel", name := "left", desc := "(I)I" } : Jvm.MethodName) ({ cls := "SugarKitchenModel", name := "left", desc := "(I)I" } : Jvm.MethodName)) : Cond) ∈ gT := gI 1299 (by decide +kernel) rfl
set_option maxRecDepth 100000 in
theorem mw_1300 : ((Jvm.Cond.code ({ cls := "SugarKitchenModel", name := "left", desc := "(I)I" } : Jvm.MethodName) prog_13_method_62_code (2 : Nat) (Option.some Jvm.ClassFile.FieldType.int)) : Cond) ∈ gT := gI 1300 rfl rfl
theorem mp_0 : (Jvm.Cond.selects "SugarKitchen" ({ cls := "SugarKitchen", name := "findRaw", desc := "(I)LSugarKitchen$Batch;" } : Jvm.MethodName) ({ cls := "SugarKitchen", name := "findRaw", desc := "(I)LSugarKitchen$Batch;" } : Jvm.MethodName) : Cond) ∈ gT := gP 0 (by decide +kernel) rfl
theorem mp_1 : (Jvm.Cond.selects "SugarKitchen" ({ cls := "SugarKitchen", name := "findBatch", desc := "(I)LSugarKitchen$Batch;" } : Jvm.MethodName) ({ cls := "SugarKitchen", name := "findBatch", desc := "(I)LSugarKitchen$Batch;" } : Jvm.MethodName) : Cond) ∈ gT := gP 1 (by decide +kernel) rfl
theorem mp_2 : (Jvm.Cond.selects "SugarKitchen" ({ cls := "SugarKitchen", name := "findLot", desc := "(I)LSugarKitchen$Lot;" } : Jvm.MethodName) ({ cls := "SugarKitchen", name := "findLot", desc := "(I)LSugarKitchen$Lot;" } : Jvm.MethodName) : Cond) ∈ gT := gP 2 (by decide +kernel) rfl
theorem mp_3 : (Jvm.Cond.selects "SugarKitchen$Batch" ({ cls := "SugarKitchen$Batch", name := "findTop", desc := "(I)I" } : Jvm.MethodName) ({ cls := "SugarKitchen$Batch", name := "findTop", desc := "(I)I" } : Jvm.MethodName) : Cond) ∈ gT := gP 3 (by decide +kernel) rfl
theorem mp_4 : (Jvm.Cond.selects "SugarKitchen$Batch" ({ cls := "SugarKitchen$Batch", name := "findGrained", desc := "(IILSugarKitchen$Rules;)I" } : Jvm.MethodName) ({ cls := "SugarKitchen$Batch", name := "findGrained", desc := "(IILSugarKitchen$Rules;)I" } : Jvm.MethodName) : Cond) ∈ gT := gP 4 (by decide +kernel) rfl
theorem mp_5 : (Jvm.Cond.selects "SugarKitchen" ({ cls := "SugarKitchen", name := "restartCoats", desc := "()V" } : Jvm.MethodName) ({ cls := "SugarKitchen", name := "restartCoats", desc := "()V" } : Jvm.MethodName) : Cond) ∈ gT := gP 5 (by decide +kernel) rfl
theorem mp_6 : (Jvm.Cond.selects "SugarKitchen$Tempering" ({ cls := "SugarKitchen$Tempering", name := "isSpoilt", desc := "(II)Z" } : Jvm.MethodName) ({ cls := "SugarKitchen$Tempering", name := "isSpoilt", desc := "(II)Z" } : Jvm.MethodName) : Cond) ∈ gT := gP 6 (by decide +kernel) rfl
theorem mp_7 : (Jvm.Cond.selects "SugarKitchen$Tempering" ({ cls := "SugarKitchen$Tempering", name := "counts", desc := "(II)Z" } : Jvm.MethodName) ({ cls := "SugarKitchen$Tempering", name := "counts", desc := "(II)Z" } : Jvm.MethodName) : Cond) ∈ gT := gP 7 (by decide +kernel) rfl
theorem mp_8 : (Jvm.Cond.selects "SugarKitchen" ({ cls := "SugarKitchen", name := "findGood", desc := "(I)LSugarKitchen$Batch;" } : Jvm.MethodName) ({ cls := "SugarKitchen", name := "findGood", desc := "(I)LSugarKitchen$Batch;" } : Jvm.MethodName) : Cond) ∈ gT := gP 8 (by decide +kernel) rfl
theorem mp_9 : (Jvm.Cond.selects "SugarKitchen" ({ cls := "SugarKitchen", name := "findUnboxed", desc := "(I)LSugarKitchen$Piece;" } : Jvm.MethodName) ({ cls := "SugarKitchen", name := "findUnboxed", desc := "(I)LSugarKitchen$Piece;" } : Jvm.MethodName) : Cond) ∈ gT := gP 9 (by decide +kernel) rfl
theorem mp_10 : (Jvm.Cond.selects "SugarKitchen" ({ cls := "SugarKitchen", name := "findPiece", desc := "(I)LSugarKitchen$Piece;" } : Jvm.MethodName) ({ cls := "SugarKitchen", name := "findPiece", desc := "(I)LSugarKitchen$Piece;" } : Jvm.MethodName) : Cond) ∈ gT := gP 10 (by decide +kernel) rfl
theorem mp_11 : (Jvm.Cond.selects "SugarKitchen" ({ cls := "SugarKitchen", name := "liftFromTray", desc := "(LSugarKitchen$Piece;)V" } : Jvm.MethodName) ({ cls := "SugarKitchen", name := "liftFromTray", desc := "(LSugarKitchen$Piece;)V" } : Jvm.MethodName) : Cond) ∈ gT := gP 11 (by decide +kernel) rfl
theorem mp_12 : (Jvm.Cond.selects "SugarKitchen" ({ cls := "SugarKitchen", name := "gather", desc := "([II)V" } : Jvm.MethodName) ({ cls := "SugarKitchen", name := "gather", desc := "([II)V" } : Jvm.MethodName) : Cond) ∈ gT := gP 12 (by decide +kernel) rfl
theorem mp_13 : (Jvm.Cond.selects "SugarKitchen$Choice" ({ cls := "SugarKitchen$Choice", name := "total", desc := "()I" } : Jvm.MethodName) ({ cls := "SugarKitchen$Choice", name := "total", desc := "()I" } : Jvm.MethodName) : Cond) ∈ gT := gP 13 (by decide +kernel) rfl
theorem mp_14 : (Jvm.Cond.selects "SugarKitchen$Choice" ({ cls := "SugarKitchen$Choice", name := "sumUp", desc := "(I)V" } : Jvm.MethodName) ({ cls := "SugarKitchen$Choice", name := "sumUp", desc := "(I)V" } : Jvm.MethodName) : Cond) ∈ gT := gP 14 (by decide +kernel) rfl
theorem mp_15 : (Jvm.Cond.selects "SugarKitchen$Choice" ({ cls := "SugarKitchen$Choice", name := "addPiece", desc := "(II)V" } : Jvm.MethodName) ({ cls := "SugarKitchen$Choice", name := "addPiece", desc := "(II)V" } : Jvm.MethodName) : Cond) ∈ gT := gP 15 (by decide +kernel) rfl
theorem mp_16 : (Jvm.Cond.selects "SugarKitchen$Choice" ({ cls := "SugarKitchen$Choice", name := "canWeigh", desc := "(II)Z" } : Jvm.MethodName) ({ cls := "SugarKitchen$Choice", name := "canWeigh", desc := "(II)Z" } : Jvm.MethodName) : Cond) ∈ gT := gP 16 (by decide +kernel) rfl
theorem mp_17 : (Jvm.Cond.selects "SugarKitchen$Choice" ({ cls := "SugarKitchen$Choice", name := "markFirst", desc := "(I)V" } : Jvm.MethodName) ({ cls := "SugarKitchen$Choice", name := "markFirst", desc := "(I)V" } : Jvm.MethodName) : Cond) ∈ gT := gP 17 (by decide +kernel) rfl
theorem mp_18 : (Jvm.Cond.selects "SugarKitchen" ({ cls := "SugarKitchen", name := "moveToBox", desc := "(ILSugarKitchen$Box;)V" } : Jvm.MethodName) ({ cls := "SugarKitchen", name := "moveToBox", desc := "(ILSugarKitchen$Box;)V" } : Jvm.MethodName) : Cond) ∈ gT := gP 18 (by decide +kernel) rfl
theorem mp_19 : (Jvm.Cond.selects "SugarKitchen" ({ cls := "SugarKitchen", name := "warningsOf", desc := "(J)I" } : Jvm.MethodName) ({ cls := "SugarKitchen", name := "warningsOf", desc := "(J)I" } : Jvm.MethodName) : Cond) ∈ gT := gP 19 (by decide +kernel) rfl
theorem mp_20 : (Jvm.Cond.selects "SugarKitchen" ({ cls := "SugarKitchen", name := "countFull", desc := "(III)I" } : Jvm.MethodName) ({ cls := "SugarKitchen", name := "countFull", desc := "(III)I" } : Jvm.MethodName) : Cond) ∈ gT := gP 20 (by decide +kernel) rfl
theorem mp_21 : (Jvm.Cond.selects "SugarKitchen$Parting" ({ cls := "SugarKitchen$Parting", name := "insert", desc := "(I)V" } : Jvm.MethodName) ({ cls := "SugarKitchen$Parting", name := "insert", desc := "(I)V" } : Jvm.MethodName) : Cond) ∈ gT := gP 21 (by decide +kernel) rfl
theorem mp_22 : (Jvm.Cond.selects "SugarKitchen$Parting" ({ cls := "SugarKitchen$Parting", name := "forget", desc := "()V" } : Jvm.MethodName) ({ cls := "SugarKitchen$Parting", name := "forget", desc := "()V" } : Jvm.MethodName) : Cond) ∈ gT := gP 22 (by decide +kernel) rfl
theorem mp_23 : (Jvm.Cond.selects "SugarKitchen$Parting" ({ cls := "SugarKitchen$Parting", name := "mostOf", desc := "(II)I" } : Jvm.MethodName) ({ cls := "SugarKitchen$Parting", name := "mostOf", desc := "(II)I" } : Jvm.MethodName) : Cond) ∈ gT := gP 23 (by decide +kernel) rfl
theorem mp_24 : (Jvm.Cond.selects "SugarKitchen$Parting" ({ cls := "SugarKitchen$Parting", name := "isFree", desc := "(II)Z" } : Jvm.MethodName) ({ cls := "SugarKitchen$Parting", name := "isFree", desc := "(II)Z" } : Jvm.MethodName) : Cond) ∈ gT := gP 24 (by decide +kernel) rfl
theorem mp_25 : (Jvm.Cond.selects "SugarKitchen$Parting" ({ cls := "SugarKitchen$Parting", name := "fillBox", desc := "(IIIII)I" } : Jvm.MethodName) ({ cls := "SugarKitchen$Parting", name := "fillBox", desc := "(IIIII)I" } : Jvm.MethodName) : Cond) ∈ gT := gP 25 (by decide +kernel) rfl
theorem mp_26 : (Jvm.Cond.selects "SugarKitchen" ({ cls := "SugarKitchen", name := "findBox", desc := "(I)LSugarKitchen$Box;" } : Jvm.MethodName) ({ cls := "SugarKitchen", name := "findBox", desc := "(I)LSugarKitchen$Box;" } : Jvm.MethodName) : Cond) ∈ gT := gP 26 (by decide +kernel) rfl
theorem mp_27 : (Jvm.Cond.selects "SugarKitchen$Box" ({ cls := "SugarKitchen$Box", name := "lotAt", desc := "(I)I" } : Jvm.MethodName) ({ cls := "SugarKitchen$Box", name := "lotAt", desc := "(I)I" } : Jvm.MethodName) : Cond) ∈ gT := gP 27 (by decide +kernel) rfl
theorem mp_28 : (Jvm.Cond.selects "SugarKitchen$Kettle" ({ cls := "SugarKitchen$Kettle", name := "countKinds", desc := "()I" } : Jvm.MethodName) ({ cls := "SugarKitchen$Kettle", name := "countKinds", desc := "()I" } : Jvm.MethodName) : Cond) ∈ gT := gP 28 (by decide +kernel) rfl
theorem mp_29 : (Jvm.Cond.selects "SugarKitchen$Kettle" ({ cls := "SugarKitchen$Kettle", name := "findLeast", desc := "(IZ)V" } : Jvm.MethodName) ({ cls := "SugarKitchen$Kettle", name := "findLeast", desc := "(IZ)V" } : Jvm.MethodName) : Cond) ∈ gT := gP 29 (by decide +kernel) rfl
theorem mp_30 : (Jvm.Cond.selects "SugarKitchen$Kettle" ({ cls := "SugarKitchen$Kettle", name := "countOn", desc := "()V" } : Jvm.MethodName) ({ cls := "SugarKitchen$Kettle", name := "countOn", desc := "()V" } : Jvm.MethodName) : Cond) ∈ gT := gP 30 (by decide +kernel) rfl
theorem mp_31 : (Jvm.Cond.selects "SugarKitchen$Kettle" ({ cls := "SugarKitchen$Kettle", name := "findLeastOf", desc := "(IZ)V" } : Jvm.MethodName) ({ cls := "SugarKitchen$Kettle", name := "findLeastOf", desc := "(IZ)V" } : Jvm.MethodName) : Cond) ∈ gT := gP 31 (by decide +kernel) rfl
theorem mp_32 : (Jvm.Cond.selects "SugarKitchen$Kettle" ({ cls := "SugarKitchen$Kettle", name := "mayCome", desc := "(IZ)Z" } : Jvm.MethodName) ({ cls := "SugarKitchen$Kettle", name := "mayCome", desc := "(IZ)Z" } : Jvm.MethodName) : Cond) ∈ gT := gP 32 (by decide +kernel) rfl
theorem mp_33 : (Jvm.Cond.selects "SugarKitchen$Kettle" ({ cls := "SugarKitchen$Kettle", name := "onlyNutsWait", desc := "()Z" } : Jvm.MethodName) ({ cls := "SugarKitchen$Kettle", name := "onlyNutsWait", desc := "()Z" } : Jvm.MethodName) : Cond) ∈ gT := gP 33 (by decide +kernel) rfl
theorem mp_34 : (Jvm.Cond.selects "SugarKitchen$Kettle" ({ cls := "SugarKitchen$Kettle", name := "leastOnce", desc := "(II)I" } : Jvm.MethodName) ({ cls := "SugarKitchen$Kettle", name := "leastOnce", desc := "(II)I" } : Jvm.MethodName) : Cond) ∈ gT := gP 34 (by decide +kernel) rfl
theorem mp_35 : (Jvm.Cond.selects "SugarKitchen$Kettle" ({ cls := "SugarKitchen$Kettle", name := "followLeast", desc := "(IZ)V" } : Jvm.MethodName) ({ cls := "SugarKitchen$Kettle", name := "followLeast", desc := "(IZ)V" } : Jvm.MethodName) : Cond) ∈ gT := gP 35 (by decide +kernel) rfl
theorem mp_36 : (Jvm.Cond.selects "SugarKitchen$Kettle" ({ cls := "SugarKitchen$Kettle", name := "findNext", desc := "(IIZ)I" } : Jvm.MethodName) ({ cls := "SugarKitchen$Kettle", name := "findNext", desc := "(IIZ)I" } : Jvm.MethodName) : Cond) ∈ gT := gP 36 (by decide +kernel) rfl
theorem mp_37 : (Jvm.Cond.selects "SugarKitchen" ({ cls := "SugarKitchen", name := "lotsIn", desc := "(II)J" } : Jvm.MethodName) ({ cls := "SugarKitchen", name := "lotsIn", desc := "(II)J" } : Jvm.MethodName) : Cond) ∈ gT := gP 37 (by decide +kernel) rfl
theorem mp_38 : (Jvm.Cond.selects "SugarKitchen" ({ cls := "SugarKitchen", name := "countFit", desc := "()I" } : Jvm.MethodName) ({ cls := "SugarKitchen", name := "countFit", desc := "()I" } : Jvm.MethodName) : Cond) ∈ gT := gP 38 (by decide +kernel) rfl
theorem mp_39 : (Jvm.Cond.selects "SugarKitchenModel" ({ cls := "SugarKitchenModel", name := "isBatch", desc := "(I)Z" } : Jvm.MethodName) ({ cls := "SugarKitchenModel", name := "isBatch", desc := "(I)Z" } : Jvm.MethodName) : Cond) ∈ gT := gP 39 (by decide +kernel) rfl
theorem mp_40 : (Jvm.Cond.selects "SugarKitchenModel" ({ cls := "SugarKitchenModel", name := "isRead", desc := "(II)Z" } : Jvm.MethodName) ({ cls := "SugarKitchenModel", name := "isRead", desc := "(II)Z" } : Jvm.MethodName) : Cond) ∈ gT := gP 40 (by decide +kernel) rfl
theorem mp_41 : (Jvm.Cond.selects "SugarKitchenModel" ({ cls := "SugarKitchenModel", name := "degree", desc := "(II)I" } : Jvm.MethodName) ({ cls := "SugarKitchenModel", name := "degree", desc := "(II)I" } : Jvm.MethodName) : Cond) ∈ gT := gP 41 (by decide +kernel) rfl
theorem mp_42 : (Jvm.Cond.selects "SugarKitchenModel" ({ cls := "SugarKitchenModel", name := "lossOf", desc := "(IZ)I" } : Jvm.MethodName) ({ cls := "SugarKitchenModel", name := "lossOf", desc := "(IZ)I" } : Jvm.MethodName) : Cond) ∈ gT := gP 42 (by decide +kernel) rfl
theorem mp_43 : (Jvm.Cond.selects "SugarKitchenModel" ({ cls := "SugarKitchenModel", name := "isGood", desc := "(I)Z" } : Jvm.MethodName) ({ cls := "SugarKitchenModel", name := "isGood", desc := "(I)Z" } : Jvm.MethodName) : Cond) ∈ gT := gP 43 (by decide +kernel) rfl
theorem mp_44 : (Jvm.Cond.selects "SugarKitchenModel" ({ cls := "SugarKitchenModel", name := "isOut", desc := "(I)Z" } : Jvm.MethodName) ({ cls := "SugarKitchenModel", name := "isOut", desc := "(I)Z" } : Jvm.MethodName) : Cond) ∈ gT := gP 44 (by decide +kernel) rfl
theorem mp_45 : (Jvm.Cond.selects "SugarKitchenModel" ({ cls := "SugarKitchenModel", name := "leave", desc := "(I)V" } : Jvm.MethodName) ({ cls := "SugarKitchenModel", name := "leave", desc := "(I)V" } : Jvm.MethodName) : Cond) ∈ gT := gP 45 (by decide +kernel) rfl
theorem mp_46 : (Jvm.Cond.selects "SugarKitchenModel" ({ cls := "SugarKitchenModel", name := "sort", desc := "(I)I" } : Jvm.MethodName) ({ cls := "SugarKitchenModel", name := "sort", desc := "(I)I" } : Jvm.MethodName) : Cond) ∈ gT := gP 46 (by decide +kernel) rfl
theorem mp_47 : (Jvm.Cond.selects "SugarKitchenModel" ({ cls := "SugarKitchenModel", name := "isFit", desc := "(I)Z" } : Jvm.MethodName) ({ cls := "SugarKitchenModel", name := "isFit", desc := "(I)Z" } : Jvm.MethodName) : Cond) ∈ gT := gP 47 (by decide +kernel) rfl
theorem mp_48 : (Jvm.Cond.selects "SugarKitchenModel" ({ cls := "SugarKitchenModel", name := "list", desc := "(I)V" } : Jvm.MethodName) ({ cls := "SugarKitchenModel", name := "list", desc := "(I)V" } : Jvm.MethodName) : Cond) ∈ gT := gP 48 (by decide +kernel) rfl
theorem mp_49 : (Jvm.Cond.selects "SugarKitchenModel" ({ cls := "SugarKitchenModel", name := "gather", desc := "()V" } : Jvm.MethodName) ({ cls := "SugarKitchenModel", name := "gather", desc := "()V" } : Jvm.MethodName) : Cond) ∈ gT := gP 49 (by decide +kernel) rfl
theorem mp_50 : (Jvm.Cond.selects "SugarKitchenModel" ({ cls := "SugarKitchenModel", name := "leastSum", desc := "(II)I" } : Jvm.MethodName) ({ cls := "SugarKitchenModel", name := "leastSum", desc := "(II)I" } : Jvm.MethodName) : Cond) ∈ gT := gP 50 (by decide +kernel) rfl
theorem mp_51 : (Jvm.Cond.selects "SugarKitchenModel" ({ cls := "SugarKitchenModel", name := "reaches8500", desc := "()Z" } : Jvm.MethodName) ({ cls := "SugarKitchenModel", name := "reaches8500", desc := "()Z" } : Jvm.MethodName) : Cond) ∈ gT := gP 51 (by decide +kernel) rfl
theorem mp_52 : (Jvm.Cond.selects "SugarKitchenModel" ({ cls := "SugarKitchenModel", name := "choose", desc := "(I)I" } : Jvm.MethodName) ({ cls := "SugarKitchenModel", name := "choose", desc := "(I)I" } : Jvm.MethodName) : Cond) ∈ gT := gP 52 (by decide +kernel) rfl
theorem mp_53 : (Jvm.Cond.selects "SugarKitchenModel" ({ cls := "SugarKitchenModel", name := "most", desc := "(II)I" } : Jvm.MethodName) ({ cls := "SugarKitchenModel", name := "most", desc := "(II)I" } : Jvm.MethodName) : Cond) ∈ gT := gP 53 (by decide +kernel) rfl
theorem mp_54 : (Jvm.Cond.selects "SugarKitchenModel" ({ cls := "SugarKitchenModel", name := "full", desc := "(II)I" } : Jvm.MethodName) ({ cls := "SugarKitchenModel", name := "full", desc := "(II)I" } : Jvm.MethodName) : Cond) ∈ gT := gP 54 (by decide +kernel) rfl
theorem mp_55 : (Jvm.Cond.selects "SugarKitchenModel" ({ cls := "SugarKitchenModel", name := "isInBox", desc := "(II)Z" } : Jvm.MethodName) ({ cls := "SugarKitchenModel", name := "isInBox", desc := "(II)Z" } : Jvm.MethodName) : Cond) ∈ gT := gP 55 (by decide +kernel) rfl
theorem mp_56 : (Jvm.Cond.selects "SugarKitchenModel" ({ cls := "SugarKitchenModel", name := "boxHas", desc := "(II)Z" } : Jvm.MethodName) ({ cls := "SugarKitchenModel", name := "boxHas", desc := "(II)Z" } : Jvm.MethodName) : Cond) ∈ gT := gP 56 (by decide +kernel) rfl
theorem mp_57 : (Jvm.Cond.selects "SugarKitchenModel" ({ cls := "SugarKitchenModel", name := "pieceHas", desc := "(II)Z" } : Jvm.MethodName) ({ cls := "SugarKitchenModel", name := "pieceHas", desc := "(II)Z" } : Jvm.MethodName) : Cond) ∈ gT := gP 57 (by decide +kernel) rfl
theorem mp_58 : (Jvm.Cond.selects "SugarKitchenModel" ({ cls := "SugarKitchenModel", name := "hasLot", desc := "(II)Z" } : Jvm.MethodName) ({ cls := "SugarKitchenModel", name := "hasLot", desc := "(II)Z" } : Jvm.MethodName) : Cond) ∈ gT := gP 58 (by decide +kernel) rfl
theorem mp_59 : (Jvm.Cond.selects "SugarKitchenModel" ({ cls := "SugarKitchenModel", name := "lotInBox", desc := "(II)I" } : Jvm.MethodName) ({ cls := "SugarKitchenModel", name := "lotInBox", desc := "(II)I" } : Jvm.MethodName) : Cond) ∈ gT := gP 59 (by decide +kernel) rfl
theorem mp_60 : (Jvm.Cond.selects "SugarKitchenModel" ({ cls := "SugarKitchenModel", name := "pieceInBox", desc := "(II)I" } : Jvm.MethodName) ({ cls := "SugarKitchenModel", name := "pieceInBox", desc := "(II)I" } : Jvm.MethodName) : Cond) ∈ gT := gP 60 (by decide +kernel) rfl
theorem mp_61 : (Jvm.Cond.selects "SugarKitchenModel" ({ cls := "SugarKitchenModel", name := "reckon", desc := "(Z)V" } : Jvm.MethodName) ({ cls := "SugarKitchenModel", name := "reckon", desc := "(Z)V" } : Jvm.MethodName) : Cond) ∈ gT := gP 61 (by decide +kernel) rfl
theorem mp_62 : (Jvm.Cond.selects "SugarKitchenModel" ({ cls := "SugarKitchenModel", name := "mayCome", desc := "(IIZ)Z" } : Jvm.MethodName) ({ cls := "SugarKitchenModel", name := "mayCome", desc := "(IIZ)Z" } : Jvm.MethodName) : Cond) ∈ gT := gP 62 (by decide +kernel) rfl
theorem mp_63 : (Jvm.Cond.selects "SugarKitchenModel" ({ cls := "SugarKitchenModel", name := "isNut", desc := "(I)Z" } : Jvm.MethodName) ({ cls := "SugarKitchenModel", name := "isNut", desc := "(I)Z" } : Jvm.MethodName) : Cond) ∈ gT := gP 63 (by decide +kernel) rfl
theorem mp_64 : (Jvm.Cond.selects "SugarKitchenModel" ({ cls := "SugarKitchenModel", name := "minutes", desc := "(II)I" } : Jvm.MethodName) ({ cls := "SugarKitchenModel", name := "minutes", desc := "(II)I" } : Jvm.MethodName) : Cond) ∈ gT := gP 64 (by decide +kernel) rfl
theorem mp_65 : (Jvm.Cond.selects "SugarKitchenModel" ({ cls := "SugarKitchenModel", name := "restOf", desc := "(II)I" } : Jvm.MethodName) ({ cls := "SugarKitchenModel", name := "restOf", desc := "(II)I" } : Jvm.MethodName) : Cond) ∈ gT := gP 65 (by decide +kernel) rfl
theorem mp_66 : (Jvm.Cond.selects "SugarKitchenModel" ({ cls := "SugarKitchenModel", name := "hasSome", desc := "(III)Z" } : Jvm.MethodName) ({ cls := "SugarKitchenModel", name := "hasSome", desc := "(III)Z" } : Jvm.MethodName) : Cond) ∈ gT := gP 66 (by decide +kernel) rfl
end
section
theorem dX10_init_0 : decode cX10_init 0 = .ok (.aload_n 0, 1) := by decide +kernel
theorem dX10_init_1 : decode cX10_init 1 = .ok (.invokespecial 3, 3) := by decide +kernel
theorem dX10_init_4 : decode cX10_init 4 = .ok (.aload_n 0, 1) := by decide +kernel
theorem dX10_init_5 : decode cX10_init 5 = .ok (.bipush 40, 2) := by decide +kernel
theorem dX10_init_7 : decode cX10_init 7 = .ok (.anewarray 9, 3) := by decide +kernel
theorem dX10_init_10 : decode cX10_init 10 = .ok (.putfield 11, 3) := by decide +kernel
theorem dX10_init_13 : decode cX10_init 13 = .ok (.aload_n 0, 1) := by decide +kernel
theorem dX10_init_14 : decode cX10_init 14 = .ok (.bipush 40, 2) := by decide +kernel
theorem dX10_init_16 : decode cX10_init 16 = .ok (.anewarray 15, 3) := by decide +kernel
theorem dX10_init_19 : decode cX10_init 19 = .ok (.putfield 17, 3) := by decide +kernel
theorem dX10_init_22 : decode cX10_init 22 = .ok (.aload_n 0, 1) := by decide +kernel
theorem dX10_init_23 : decode cX10_init 23 = .ok (.sipush 600, 3) := by decide +kernel
theorem dX10_init_26 : decode cX10_init 26 = .ok (.anewarray 21, 3) := by decide +kernel
theorem dX10_init_29 : decode cX10_init 29 = .ok (.putfield 23, 3) := by decide +kernel
theorem dX10_init_32 : decode cX10_init 32 = .ok (.aload_n 0, 1) := by decide +kernel
theorem dX10_init_33 : decode cX10_init 33 = .ok (.sipush 200, 3) := by decide +kernel
theorem dX10_init_36 : decode cX10_init 36 = .ok (.anewarray 27, 3) := by decide +kernel
theorem dX10_init_39 : decode cX10_init 39 = .ok (.putfield 29, 3) := by decide +kernel
theorem dX10_init_42 : decode cX10_init 42 = .ok (.aload_n 0, 1) := by decide +kernel
theorem dX10_init_43 : decode cX10_init 43 = .ok (.sipush 144, 3) := by decide +kernel
theorem dX10_init_46 : decode cX10_init 46 = .ok (.newarray .int, 2) := by decide +kernel
theorem dX10_init_48 : decode cX10_init 48 = .ok (.putfield 33, 3) := by decide +kernel
theorem dX10_init_51 : decode cX10_init 51 = .ok (.aload_n 0, 1) := by decide +kernel
theorem dX10_init_52 : decode cX10_init 52 = .ok (.sipush 144, 3) := by decide +kernel
theorem dX10_init_55 : decode cX10_init 55 = .ok (.newarray .int, 2) := by decide +kernel
theorem dX10_init_57 : decode cX10_init 57 = .ok (.putfield 37, 3) := by decide +kernel
theorem dX10_init_60 : decode cX10_init 60 = .ok (.aload_n 0, 1) := by decide +kernel
theorem dX10_init_61 : decode cX10_init 61 = .ok (.new 40, 3) := by decide +kernel
theorem dX10_init_64 : decode cX10_init 64 = .ok (.dup, 1) := by decide +kernel
theorem dX10_init_65 : decode cX10_init 65 = .ok (.invokespecial 42, 3) := by decide +kernel
theorem dX10_init_68 : decode cX10_init 68 = .ok (.putfield 43, 3) := by decide +kernel
theorem dX10_init_71 : decode cX10_init 71 = .ok (.aload_n 0, 1) := by decide +kernel
theorem dX10_init_72 : decode cX10_init 72 = .ok (.new 47, 3) := by decide +kernel
theorem dX10_init_75 : decode cX10_init 75 = .ok (.dup, 1) := by decide +kernel
theorem dX10_init_76 : decode cX10_init 76 = .ok (.invokespecial 49, 3) := by decide +kernel
theorem dX10_init_79 : decode cX10_init 79 = .ok (.putfield 50, 3) := by decide +kernel
theorem dX10_init_82 : decode cX10_init 82 = .ok (.aload_n 0, 1) := by decide +kernel
theorem dX10_init_83 : decode cX10_init 83 = .ok (.new 54, 3) := by decide +kernel
theorem dX10_init_86 : decode cX10_init 86 = .ok (.dup, 1) := by decide +kernel
theorem dX10_init_87 : decode cX10_init 87 = .ok (.invokespecial 56, 3) := by decide +kernel
theorem dX10_init_90 : decode cX10_init 90 = .ok (.putfield 57, 3) := by decide +kernel
theorem dX10_init_93 : decode cX10_init 93 = .ok (.aload_n 0, 1) := by decide +kernel
theorem dX10_init_94 : decode cX10_init 94 = .ok (.new 61, 3) := by decide +kernel
theorem dX10_init_97 : decode cX10_init 97 = .ok (.dup, 1) := by decide +kernel
theorem dX10_init_98 : decode cX10_init 98 = .ok (.invokespecial 63, 3) := by decide +kernel
theorem dX10_init_101 : decode cX10_init 101 = .ok (.putfield 64, 3) := by decide +kernel
theorem dX10_init_104 : decode cX10_init 104 = .ok (.aload_n 0, 1) := by decide +kernel
theorem dX10_init_105 : decode cX10_init 105 = .ok (.new 68, 3) := by decide +kernel
theorem dX10_init_108 : decode cX10_init 108 = .ok (.dup, 1) := by decide +kernel
theorem dX10_init_109 : decode cX10_init 109 = .ok (.invokespecial 70, 3) := by decide +kernel
theorem dX10_init_112 : decode cX10_init 112 = .ok (.putfield 71, 3) := by decide +kernel
theorem dX10_init_115 : decode cX10_init 115 = .ok (.aload_n 0, 1) := by decide +kernel
theorem dX10_init_116 : decode cX10_init 116 = .ok (.getfield 33, 3) := by decide +kernel
theorem dX10_init_119 : decode cX10_init 119 = .ok (.iconst (-1), 1) := by decide +kernel
theorem dX10_init_120 : decode cX10_init 120 = .ok (.invokestatic 75, 3) := by decide +kernel
theorem dX10_init_123 : decode cX10_init 123 = .ok (.return_, 1) := by decide +kernel
theorem dX10_lot_0 : decode cX10_lot 0 = .ok (.iload_n 1, 1) := by decide +kernel
theorem dX10_lot_1 : decode cX10_lot 1 = .ok (.iconst 0, 1) := by decide +kernel
theorem dX10_lot_2 : decode cX10_lot 2 = .ok (.ldc 81, 2) := by decide +kernel
theorem dX10_lot_4 : decode cX10_lot 4 = .ok (.invokestatic 82, 3) := by decide +kernel
theorem dX10_lot_7 : decode cX10_lot 7 = .ok (.ifCond .eq 23, 3) := by decide +kernel
theorem dX10_lot_10 : decode cX10_lot 10 = .ok (.iload_n 2, 1) := by decide +kernel
theorem dX10_lot_11 : decode cX10_lot 11 = .ok (.iconst 0, 1) := by decide +kernel
theorem dX10_lot_12 : decode cX10_lot 12 = .ok (.sipush 255, 3) := by decide +kernel
theorem dX10_lot_15 : decode cX10_lot 15 = .ok (.invokestatic 82, 3) := by decide +kernel
theorem dX10_lot_18 : decode cX10_lot 18 = .ok (.ifCond .eq 12, 3) := by decide +kernel
theorem dX10_lot_21 : decode cX10_lot 21 = .ok (.aload_n 0, 1) := by decide +kernel
theorem dX10_lot_22 : decode cX10_lot 22 = .ok (.getfield 86, 3) := by decide +kernel
theorem dX10_lot_25 : decode cX10_lot 25 = .ok (.bipush 40, 2) := by decide +kernel
theorem dX10_lot_27 : decode cX10_lot 27 = .ok (.if_icmp .lt 5, 3) := by decide +kernel
theorem dX10_lot_30 : decode cX10_lot 30 = .ok (.iconst (-1), 1) := by decide +kernel
theorem dX10_lot_31 : decode cX10_lot 31 = .ok (.ireturn, 1) := by decide +kernel
theorem dX10_lot_32 : decode cX10_lot 32 = .ok (.aload_n 0, 1) := by decide +kernel
theorem dX10_lot_33 : decode cX10_lot 33 = .ok (.getfield 11, 3) := by decide +kernel
theorem dX10_lot_36 : decode cX10_lot 36 = .ok (.aload_n 0, 1) := by decide +kernel
theorem dX10_lot_37 : decode cX10_lot 37 = .ok (.getfield 86, 3) := by decide +kernel
theorem dX10_lot_40 : decode cX10_lot 40 = .ok (.new 9, 3) := by decide +kernel
theorem dX10_lot_43 : decode cX10_lot 43 = .ok (.dup, 1) := by decide +kernel
theorem dX10_lot_44 : decode cX10_lot 44 = .ok (.iload_n 1, 1) := by decide +kernel
theorem dX10_lot_45 : decode cX10_lot 45 = .ok (.iload_n 2, 1) := by decide +kernel
theorem dX10_lot_46 : decode cX10_lot 46 = .ok (.invokespecial 90, 3) := by decide +kernel
theorem dX10_lot_49 : decode cX10_lot 49 = .ok (.aastore, 1) := by decide +kernel
theorem dX10_lot_50 : decode cX10_lot 50 = .ok (.aload_n 0, 1) := by decide +kernel
theorem dX10_lot_51 : decode cX10_lot 51 = .ok (.dup, 1) := by decide +kernel
theorem dX10_lot_52 : decode cX10_lot 52 = .ok (.getfield 86, 3) := by decide +kernel
theorem dX10_lot_55 : decode cX10_lot 55 = .ok (.iconst 1, 1) := by decide +kernel
theorem dX10_lot_56 : decode cX10_lot 56 = .ok (.iadd, 1) := by decide +kernel
theorem dX10_lot_57 : decode cX10_lot 57 = .ok (.putfield 86, 3) := by decide +kernel
theorem dX10_lot_60 : decode cX10_lot 60 = .ok (.aload_n 0, 1) := by decide +kernel
theorem dX10_lot_61 : decode cX10_lot 61 = .ok (.getfield 86, 3) := by decide +kernel
theorem dX10_lot_64 : decode cX10_lot 64 = .ok (.iconst 1, 1) := by decide +kernel
theorem dX10_lot_65 : decode cX10_lot 65 = .ok (.isub, 1) := by decide +kernel
theorem dX10_lot_66 : decode cX10_lot 66 = .ok (.ireturn, 1) := by decide +kernel
theorem dX10_batch_0 : decode cX10_batch 0 = .ok (.iload_n 1, 1) := by decide +kernel
theorem dX10_batch_1 : decode cX10_batch 1 = .ok (.invokestatic 93, 3) := by decide +kernel
theorem dX10_batch_4 : decode cX10_batch 4 = .ok (.ifCond .eq 12, 3) := by decide +kernel
theorem dX10_batch_7 : decode cX10_batch 7 = .ok (.aload_n 0, 1) := by decide +kernel
theorem dX10_batch_8 : decode cX10_batch 8 = .ok (.getfield 97, 3) := by decide +kernel
theorem dX10_batch_11 : decode cX10_batch 11 = .ok (.bipush 40, 2) := by decide +kernel
theorem dX10_batch_13 : decode cX10_batch 13 = .ok (.if_icmp .lt 5, 3) := by decide +kernel
theorem dX10_batch_16 : decode cX10_batch 16 = .ok (.iconst (-1), 1) := by decide +kernel
theorem dX10_batch_17 : decode cX10_batch 17 = .ok (.ireturn, 1) := by decide +kernel
theorem dX10_batch_18 : decode cX10_batch 18 = .ok (.aload_n 0, 1) := by decide +kernel
theorem dX10_batch_19 : decode cX10_batch 19 = .ok (.getfield 17, 3) := by decide +kernel
theorem dX10_batch_22 : decode cX10_batch 22 = .ok (.aload_n 0, 1) := by decide +kernel
theorem dX10_batch_23 : decode cX10_batch 23 = .ok (.getfield 97, 3) := by decide +kernel
theorem dX10_batch_26 : decode cX10_batch 26 = .ok (.new 15, 3) := by decide +kernel
theorem dX10_batch_29 : decode cX10_batch 29 = .ok (.dup, 1) := by decide +kernel
theorem dX10_batch_30 : decode cX10_batch 30 = .ok (.iload_n 1, 1) := by decide +kernel
theorem dX10_batch_31 : decode cX10_batch 31 = .ok (.invokespecial 100, 3) := by decide +kernel
theorem dX10_batch_34 : decode cX10_batch 34 = .ok (.aastore, 1) := by decide +kernel
theorem dX10_batch_35 : decode cX10_batch 35 = .ok (.aload_n 0, 1) := by decide +kernel
theorem dX10_batch_36 : decode cX10_batch 36 = .ok (.dup, 1) := by decide +kernel
theorem dX10_batch_37 : decode cX10_batch 37 = .ok (.getfield 97, 3) := by decide +kernel
theorem dX10_batch_40 : decode cX10_batch 40 = .ok (.iconst 1, 1) := by decide +kernel
theorem dX10_batch_41 : decode cX10_batch 41 = .ok (.iadd, 1) := by decide +kernel
theorem dX10_batch_42 : decode cX10_batch 42 = .ok (.putfield 97, 3) := by decide +kernel
theorem dX10_batch_45 : decode cX10_batch 45 = .ok (.aload_n 0, 1) := by decide +kernel
theorem dX10_batch_46 : decode cX10_batch 46 = .ok (.getfield 97, 3) := by decide +kernel
theorem dX10_batch_49 : decode cX10_batch 49 = .ok (.iconst 1, 1) := by decide +kernel
theorem dX10_batch_50 : decode cX10_batch 50 = .ok (.isub, 1) := by decide +kernel
theorem dX10_batch_51 : decode cX10_batch 51 = .ok (.ireturn, 1) := by decide +kernel
theorem dX10_put_0 : decode cX10_put 0 = .ok (.aload_n 0, 1) := by decide +kernel
theorem dX10_put_1 : decode cX10_put 1 = .ok (.iload_n 1, 1) := by decide +kernel
theorem dX10_put_2 : decode cX10_put 2 = .ok (.invokevirtual 103, 3) := by decide +kernel
theorem dX10_put_5 : decode cX10_put 5 = .ok (.astore 4, 2) := by decide +kernel
theorem dX10_put_7 : decode cX10_put 7 = .ok (.aload_n 0, 1) := by decide +kernel
theorem dX10_put_8 : decode cX10_put 8 = .ok (.iload_n 2, 1) := by decide +kernel
theorem dX10_put_9 : decode cX10_put 9 = .ok (.invokevirtual 107, 3) := by decide +kernel
theorem dX10_put_12 : decode cX10_put 12 = .ok (.astore 5, 2) := by decide +kernel
theorem dX10_put_14 : decode cX10_put 14 = .ok (.aload 4, 2) := by decide +kernel
theorem dX10_put_16 : decode cX10_put 16 = .ok (.ifnull 21, 3) := by decide +kernel
theorem dX10_put_19 : decode cX10_put 19 = .ok (.aload 5, 2) := by decide +kernel
theorem dX10_put_21 : decode cX10_put 21 = .ok (.ifnull 16, 3) := by decide +kernel
theorem dX10_put_24 : decode cX10_put 24 = .ok (.iload_n 3, 1) := by decide +kernel
theorem dX10_put_25 : decode cX10_put 25 = .ok (.iconst 1, 1) := by decide +kernel
theorem dX10_put_26 : decode cX10_put 26 = .ok (.aload 5, 2) := by decide +kernel
theorem dX10_put_28 : decode cX10_put 28 = .ok (.getfield 111, 3) := by decide +kernel
theorem dX10_put_31 : decode cX10_put 31 = .ok (.invokestatic 82, 3) := by decide +kernel
theorem dX10_put_34 : decode cX10_put 34 = .ok (.ifCond .ne 5, 3) := by decide +kernel
theorem dX10_put_37 : decode cX10_put 37 = .ok (.iconst (-1), 1) := by decide +kernel
theorem dX10_put_38 : decode cX10_put 38 = .ok (.ireturn, 1) := by decide +kernel
theorem dX10_put_39 : decode cX10_put 39 = .ok (.aload 5, 2) := by decide +kernel
theorem dX10_put_41 : decode cX10_put 41 = .ok (.dup, 1) := by decide +kernel
theorem dX10_put_42 : decode cX10_put 42 = .ok (.getfield 111, 3) := by decide +kernel
theorem dX10_put_45 : decode cX10_put 45 = .ok (.iload_n 3, 1) := by decide +kernel
theorem dX10_put_46 : decode cX10_put 46 = .ok (.isub, 1) := by decide +kernel
theorem dX10_put_47 : decode cX10_put 47 = .ok (.putfield 111, 3) := by decide +kernel
theorem dX10_put_50 : decode cX10_put 50 = .ok (.aload 4, 2) := by decide +kernel
theorem dX10_put_52 : decode cX10_put 52 = .ok (.dup, 1) := by decide +kernel
theorem dX10_put_53 : decode cX10_put 53 = .ok (.getfield 114, 3) := by decide +kernel
theorem dX10_put_56 : decode cX10_put 56 = .ok (.iload_n 3, 1) := by decide +kernel
theorem dX10_put_57 : decode cX10_put 57 = .ok (.iadd, 1) := by decide +kernel
theorem dX10_put_58 : decode cX10_put 58 = .ok (.putfield 114, 3) := by decide +kernel
theorem dX10_put_61 : decode cX10_put 61 = .ok (.aload 4, 2) := by decide +kernel
theorem dX10_put_63 : decode cX10_put 63 = .ok (.dup, 1) := by decide +kernel
theorem dX10_put_64 : decode cX10_put 64 = .ok (.getfield 117, 3) := by decide +kernel
theorem dX10_put_67 : decode cX10_put 67 = .ok (.iload_n 3, 1) := by decide +kernel
theorem dX10_put_68 : decode cX10_put 68 = .ok (.iadd, 1) := by decide +kernel
theorem dX10_put_69 : decode cX10_put 69 = .ok (.putfield 117, 3) := by decide +kernel
theorem dX10_put_72 : decode cX10_put 72 = .ok (.aload 4, 2) := by decide +kernel
theorem dX10_put_74 : decode cX10_put 74 = .ok (.dup, 1) := by decide +kernel
theorem dX10_put_75 : decode cX10_put 75 = .ok (.getfield 120, 3) := by decide +kernel
theorem dX10_put_78 : decode cX10_put 78 = .ok (.lconst 1, 1) := by decide +kernel
theorem dX10_put_79 : decode cX10_put 79 = .ok (.iload_n 2, 1) := by decide +kernel
theorem dX10_put_80 : decode cX10_put 80 = .ok (.lshl, 1) := by decide +kernel
theorem dX10_put_81 : decode cX10_put 81 = .ok (.lor, 1) := by decide +kernel
theorem dX10_put_82 : decode cX10_put 82 = .ok (.putfield 120, 3) := by decide +kernel
theorem dX10_put_85 : decode cX10_put 85 = .ok (.aload 4, 2) := by decide +kernel
theorem dX10_put_87 : decode cX10_put 87 = .ok (.getfield 114, 3) := by decide +kernel
theorem dX10_put_90 : decode cX10_put 90 = .ok (.ireturn, 1) := by decide +kernel
theorem dX10_row_0 : decode cX10_row 0 = .ok (.aload_n 0, 1) := by decide +kernel
theorem dX10_row_1 : decode cX10_row 1 = .ok (.iload_n 1, 1) := by decide +kernel
theorem dX10_row_2 : decode cX10_row 2 = .ok (.invokevirtual 103, 3) := by decide +kernel
theorem dX10_row_5 : decode cX10_row 5 = .ok (.astore 4, 2) := by decide +kernel
theorem dX10_row_7 : decode cX10_row 7 = .ok (.aload 4, 2) := by decide +kernel
theorem dX10_row_9 : decode cX10_row 9 = .ok (.ifnull 13, 3) := by decide +kernel
theorem dX10_row_12 : decode cX10_row 12 = .ok (.iload_n 3, 1) := by decide +kernel
theorem dX10_row_13 : decode cX10_row 13 = .ok (.iconst (-1), 1) := by decide +kernel
theorem dX10_row_14 : decode cX10_row 14 = .ok (.bipush 60, 2) := by decide +kernel
theorem dX10_row_16 : decode cX10_row 16 = .ok (.invokestatic 82, 3) := by decide +kernel
theorem dX10_row_19 : decode cX10_row 19 = .ok (.ifCond .ne 5, 3) := by decide +kernel
theorem dX10_row_22 : decode cX10_row 22 = .ok (.iconst 0, 1) := by decide +kernel
theorem dX10_row_23 : decode cX10_row 23 = .ok (.ireturn, 1) := by decide +kernel
theorem dX10_row_24 : decode cX10_row 24 = .ok (.iload_n 3, 1) := by decide +kernel
theorem dX10_row_25 : decode cX10_row 25 = .ok (.iconst 0, 1) := by decide +kernel
theorem dX10_row_26 : decode cX10_row 26 = .ok (.invokestatic 123, 3) := by decide +kernel
theorem dX10_row_29 : decode cX10_row 29 = .ok (.istore 5, 2) := by decide +kernel
theorem dX10_row_31 : decode cX10_row 31 = .ok (.iload_n 2, 1) := by decide +kernel
theorem dX10_row_32 : decode cX10_row 32 = .ok (.ifCond .ne 15, 3) := by decide +kernel
theorem dX10_row_35 : decode cX10_row 35 = .ok (.aload 4, 2) := by decide +kernel
theorem dX10_row_37 : decode cX10_row 37 = .ok (.getfield 129, 3) := by decide +kernel
theorem dX10_row_40 : decode cX10_row 40 = .ok (.iload 5, 2) := by decide +kernel
theorem dX10_row_42 : decode cX10_row 42 = .ok (.invokevirtual 133, 3) := by decide +kernel
theorem dX10_row_45 : decode cX10_row 45 = .ok (.iconst 1, 1) := by decide +kernel
theorem dX10_row_46 : decode cX10_row 46 = .ok (.ireturn, 1) := by decide +kernel
theorem dX10_row_47 : decode cX10_row 47 = .ok (.iload_n 2, 1) := by decide +kernel
theorem dX10_row_48 : decode cX10_row 48 = .ok (.iconst 1, 1) := by decide +kernel
theorem dX10_row_49 : decode cX10_row 49 = .ok (.if_icmp .ne 15, 3) := by decide +kernel
theorem dX10_row_52 : decode cX10_row 52 = .ok (.aload 4, 2) := by decide +kernel
theorem dX10_row_54 : decode cX10_row 54 = .ok (.getfield 129, 3) := by decide +kernel
theorem dX10_row_57 : decode cX10_row 57 = .ok (.iload 5, 2) := by decide +kernel
theorem dX10_row_59 : decode cX10_row 59 = .ok (.invokevirtual 138, 3) := by decide +kernel
theorem dX10_row_62 : decode cX10_row 62 = .ok (.iconst 1, 1) := by decide +kernel
theorem dX10_row_63 : decode cX10_row 63 = .ok (.ireturn, 1) := by decide +kernel
theorem dX10_row_64 : decode cX10_row 64 = .ok (.iconst 0, 1) := by decide +kernel
theorem dX10_row_65 : decode cX10_row 65 = .ok (.ireturn, 1) := by decide +kernel
theorem dX10_tick_0 : decode cX10_tick 0 = .ok (.aload_n 0, 1) := by decide +kernel
theorem dX10_tick_1 : decode cX10_tick 1 = .ok (.iload_n 1, 1) := by decide +kernel
theorem dX10_tick_2 : decode cX10_tick 2 = .ok (.invokevirtual 103, 3) := by decide +kernel
theorem dX10_tick_5 : decode cX10_tick 5 = .ok (.astore 4, 2) := by decide +kernel
theorem dX10_tick_7 : decode cX10_tick 7 = .ok (.aload 4, 2) := by decide +kernel
theorem dX10_tick_9 : decode cX10_tick 9 = .ok (.ifnull 15, 3) := by decide +kernel
theorem dX10_tick_12 : decode cX10_tick 12 = .ok (.aload 4, 2) := by decide +kernel
theorem dX10_tick_14 : decode cX10_tick 14 = .ok (.getfield 129, 3) := by decide +kernel
theorem dX10_tick_17 : decode cX10_tick 17 = .ok (.iload_n 2, 1) := by decide +kernel
theorem dX10_tick_18 : decode cX10_tick 18 = .ok (.invokevirtual 141, 3) := by decide +kernel
theorem dX10_tick_21 : decode cX10_tick 21 = .ok (.ifCond .ne 5, 3) := by decide +kernel
theorem dX10_tick_24 : decode cX10_tick 24 = .ok (.iconst 0, 1) := by decide +kernel
theorem dX10_tick_25 : decode cX10_tick 25 = .ok (.ireturn, 1) := by decide +kernel
theorem dX10_tick_26 : decode cX10_tick 26 = .ok (.aload 4, 2) := by decide +kernel
theorem dX10_tick_28 : decode cX10_tick 28 = .ok (.getfield 129, 3) := by decide +kernel
theorem dX10_tick_31 : decode cX10_tick 31 = .ok (.getfield 144, 3) := by decide +kernel
theorem dX10_tick_34 : decode cX10_tick 34 = .ok (.iload_n 2, 1) := by decide +kernel
theorem dX10_tick_35 : decode cX10_tick 35 = .ok (.iload_n 3, 1) := by decide +kernel
theorem dX10_tick_36 : decode cX10_tick 36 = .ok (.iastore, 1) := by decide +kernel
theorem dX10_tick_37 : decode cX10_tick 37 = .ok (.iconst 1, 1) := by decide +kernel
theorem dX10_tick_38 : decode cX10_tick 38 = .ok (.ireturn, 1) := by decide +kernel
theorem dX10_stir_0 : decode cX10_stir 0 = .ok (.aload_n 0, 1) := by decide +kernel
theorem dX10_stir_1 : decode cX10_stir 1 = .ok (.iload_n 1, 1) := by decide +kernel
theorem dX10_stir_2 : decode cX10_stir 2 = .ok (.invokevirtual 103, 3) := by decide +kernel
theorem dX10_stir_5 : decode cX10_stir 5 = .ok (.astore 4, 2) := by decide +kernel
theorem dX10_stir_7 : decode cX10_stir 7 = .ok (.aload 4, 2) := by decide +kernel
theorem dX10_stir_9 : decode cX10_stir 9 = .ok (.ifnull 15, 3) := by decide +kernel
theorem dX10_stir_12 : decode cX10_stir 12 = .ok (.aload 4, 2) := by decide +kernel
theorem dX10_stir_14 : decode cX10_stir 14 = .ok (.getfield 129, 3) := by decide +kernel
theorem dX10_stir_17 : decode cX10_stir 17 = .ok (.iload_n 2, 1) := by decide +kernel
theorem dX10_stir_18 : decode cX10_stir 18 = .ok (.invokevirtual 147, 3) := by decide +kernel
theorem dX10_stir_21 : decode cX10_stir 21 = .ok (.ifCond .ne 5, 3) := by decide +kernel
theorem dX10_stir_24 : decode cX10_stir 24 = .ok (.iconst 0, 1) := by decide +kernel
theorem dX10_stir_25 : decode cX10_stir 25 = .ok (.ireturn, 1) := by decide +kernel
theorem dX10_stir_26 : decode cX10_stir 26 = .ok (.aload 4, 2) := by decide +kernel
theorem dX10_stir_28 : decode cX10_stir 28 = .ok (.getfield 129, 3) := by decide +kernel
theorem dX10_stir_31 : decode cX10_stir 31 = .ok (.getfield 150, 3) := by decide +kernel
theorem dX10_stir_34 : decode cX10_stir 34 = .ok (.iload_n 2, 1) := by decide +kernel
theorem dX10_stir_35 : decode cX10_stir 35 = .ok (.iload_n 3, 1) := by decide +kernel
theorem dX10_stir_36 : decode cX10_stir 36 = .ok (.bastore, 1) := by decide +kernel
theorem dX10_stir_37 : decode cX10_stir 37 = .ok (.iconst 1, 1) := by decide +kernel
theorem dX10_stir_38 : decode cX10_stir 38 = .ok (.ireturn, 1) := by decide +kernel
theorem dX10_table_0 : decode cX10_table 0 = .ok (.aload_n 0, 1) := by decide +kernel
theorem dX10_table_1 : decode cX10_table 1 = .ok (.getfield 43, 3) := by decide +kernel
theorem dX10_table_4 : decode cX10_table 4 = .ok (.iload_n 1, 1) := by decide +kernel
theorem dX10_table_5 : decode cX10_table 5 = .ok (.iload_n 2, 1) := by decide +kernel
theorem dX10_table_6 : decode cX10_table 6 = .ok (.invokevirtual 154, 3) := by decide +kernel
theorem dX10_table_9 : decode cX10_table 9 = .ok (.ireturn, 1) := by decide +kernel
theorem dX10_grain_0 : decode cX10_grain 0 = .ok (.aload_n 0, 1) := by decide +kernel
theorem dX10_grain_1 : decode cX10_grain 1 = .ok (.getfield 43, 3) := by decide +kernel
theorem dX10_grain_4 : decode cX10_grain 4 = .ok (.iload_n 1, 1) := by decide +kernel
theorem dX10_grain_5 : decode cX10_grain 5 = .ok (.putfield 157, 3) := by decide +kernel
theorem dX10_grain_8 : decode cX10_grain 8 = .ok (.aload_n 0, 1) := by decide +kernel
theorem dX10_grain_9 : decode cX10_grain 9 = .ok (.getfield 43, 3) := by decide +kernel
theorem dX10_grain_12 : decode cX10_grain 12 = .ok (.iload_n 2, 1) := by decide +kernel
theorem dX10_grain_13 : decode cX10_grain 13 = .ok (.putfield 160, 3) := by decide +kernel
theorem dX10_grain_16 : decode cX10_grain 16 = .ok (.iconst 1, 1) := by decide +kernel
theorem dX10_grain_17 : decode cX10_grain 17 = .ok (.ireturn, 1) := by decide +kernel
theorem dX10_bounds_0 : decode cX10_bounds 0 = .ok (.iload_n 1, 1) := by decide +kernel
theorem dX10_bounds_1 : decode cX10_bounds 1 = .ok (.invokestatic 93, 3) := by decide +kernel
theorem dX10_bounds_4 : decode cX10_bounds 4 = .ok (.ifCond .ne 5, 3) := by decide +kernel
theorem dX10_bounds_7 : decode cX10_bounds 7 = .ok (.iconst 0, 1) := by decide +kernel
theorem dX10_bounds_8 : decode cX10_bounds 8 = .ok (.ireturn, 1) := by decide +kernel
theorem dX10_bounds_9 : decode cX10_bounds 9 = .ok (.aload_n 0, 1) := by decide +kernel
theorem dX10_bounds_10 : decode cX10_bounds 10 = .ok (.getfield 43, 3) := by decide +kernel
theorem dX10_bounds_13 : decode cX10_bounds 13 = .ok (.getfield 163, 3) := by decide +kernel
theorem dX10_bounds_16 : decode cX10_bounds 16 = .ok (.iload_n 1, 1) := by decide +kernel
theorem dX10_bounds_17 : decode cX10_bounds 17 = .ok (.iload_n 2, 1) := by decide +kernel
theorem dX10_bounds_18 : decode cX10_bounds 18 = .ok (.iastore, 1) := by decide +kernel
theorem dX10_bounds_19 : decode cX10_bounds 19 = .ok (.aload_n 0, 1) := by decide +kernel
theorem dX10_bounds_20 : decode cX10_bounds 20 = .ok (.getfield 43, 3) := by decide +kernel
theorem dX10_bounds_23 : decode cX10_bounds 23 = .ok (.getfield 166, 3) := by decide +kernel
theorem dX10_bounds_26 : decode cX10_bounds 26 = .ok (.iload_n 1, 1) := by decide +kernel
theorem dX10_bounds_27 : decode cX10_bounds 27 = .ok (.iload_n 3, 1) := by decide +kernel
theorem dX10_bounds_28 : decode cX10_bounds 28 = .ok (.iastore, 1) := by decide +kernel
theorem dX10_bounds_29 : decode cX10_bounds 29 = .ok (.iconst 1, 1) := by decide +kernel
theorem dX10_bounds_30 : decode cX10_bounds 30 = .ok (.ireturn, 1) := by decide +kernel
theorem dX10_cook_0 : decode cX10_cook 0 = .ok (.aload_n 0, 1) := by decide +kernel
theorem dX10_cook_1 : decode cX10_cook 1 = .ok (.iload_n 1, 1) := by decide +kernel
theorem dX10_cook_2 : decode cX10_cook 2 = .ok (.invokevirtual 103, 3) := by decide +kernel
theorem dX10_cook_5 : decode cX10_cook 5 = .ok (.astore_n 3, 1) := by decide +kernel
theorem dX10_cook_6 : decode cX10_cook 6 = .ok (.aload_n 3, 1) := by decide +kernel
theorem dX10_cook_7 : decode cX10_cook 7 = .ok (.ifnull 20, 3) := by decide +kernel
theorem dX10_cook_10 : decode cX10_cook 10 = .ok (.iload_n 2, 1) := by decide +kernel
theorem dX10_cook_11 : decode cX10_cook 11 = .ok (.iconst 1, 1) := by decide +kernel
theorem dX10_cook_12 : decode cX10_cook 12 = .ok (.bipush 60, 2) := by decide +kernel
theorem dX10_cook_14 : decode cX10_cook 14 = .ok (.invokestatic 82, 3) := by decide +kernel
theorem dX10_cook_17 : decode cX10_cook 17 = .ok (.ifCond .eq 10, 3) := by decide +kernel
theorem dX10_cook_20 : decode cX10_cook 20 = .ok (.aload_n 3, 1) := by decide +kernel
theorem dX10_cook_21 : decode cX10_cook 21 = .ok (.getfield 114, 3) := by decide +kernel
theorem dX10_cook_24 : decode cX10_cook 24 = .ok (.ifCond .ne 5, 3) := by decide +kernel
theorem dX10_cook_27 : decode cX10_cook 27 = .ok (.iconst (-1), 1) := by decide +kernel
theorem dX10_cook_28 : decode cX10_cook 28 = .ok (.ireturn, 1) := by decide +kernel
theorem dX10_cook_29 : decode cX10_cook 29 = .ok (.aload_n 3, 1) := by decide +kernel
theorem dX10_cook_30 : decode cX10_cook 30 = .ok (.iload_n 2, 1) := by decide +kernel
theorem dX10_cook_31 : decode cX10_cook 31 = .ok (.aload_n 0, 1) := by decide +kernel
theorem dX10_cook_32 : decode cX10_cook 32 = .ok (.getfield 43, 3) := by decide +kernel
theorem dX10_cook_35 : decode cX10_cook 35 = .ok (.invokevirtual 169, 3) := by decide +kernel
theorem dX10_cook_38 : decode cX10_cook 38 = .ok (.aload_n 3, 1) := by decide +kernel
theorem dX10_cook_39 : decode cX10_cook 39 = .ok (.getfield 114, 3) := by decide +kernel
theorem dX10_cook_42 : decode cX10_cook 42 = .ok (.ireturn, 1) := by decide +kernel
theorem dX10_vouch_0 : decode cX10_vouch 0 = .ok (.aload_n 0, 1) := by decide +kernel
theorem dX10_vouch_1 : decode cX10_vouch 1 = .ok (.iload_n 1, 1) := by decide +kernel
theorem dX10_vouch_2 : decode cX10_vouch 2 = .ok (.invokevirtual 173, 3) := by decide +kernel
theorem dX10_vouch_5 : decode cX10_vouch 5 = .ok (.astore_n 2, 1) := by decide +kernel
theorem dX10_vouch_6 : decode cX10_vouch 6 = .ok (.aload_n 2, 1) := by decide +kernel
theorem dX10_vouch_7 : decode cX10_vouch 7 = .ok (.ifnull 10, 3) := by decide +kernel
theorem dX10_vouch_10 : decode cX10_vouch 10 = .ok (.aload_n 2, 1) := by decide +kernel
theorem dX10_vouch_11 : decode cX10_vouch 11 = .ok (.getfield 176, 3) := by decide +kernel
theorem dX10_vouch_14 : decode cX10_vouch 14 = .ok (.ifCond .ne 5, 3) := by decide +kernel
theorem dX10_vouch_17 : decode cX10_vouch 17 = .ok (.iconst 0, 1) := by decide +kernel
theorem dX10_vouch_18 : decode cX10_vouch 18 = .ok (.ireturn, 1) := by decide +kernel
theorem dX10_vouch_19 : decode cX10_vouch 19 = .ok (.aload_n 2, 1) := by decide +kernel
theorem dX10_vouch_20 : decode cX10_vouch 20 = .ok (.iconst 1, 1) := by decide +kernel
theorem dX10_vouch_21 : decode cX10_vouch 21 = .ok (.putfield 180, 3) := by decide +kernel
theorem dX10_vouch_24 : decode cX10_vouch 24 = .ok (.iconst 1, 1) := by decide +kernel
theorem dX10_vouch_25 : decode cX10_vouch 25 = .ok (.ireturn, 1) := by decide +kernel
theorem dX10_why_0 : decode cX10_why 0 = .ok (.aload_n 0, 1) := by decide +kernel
theorem dX10_why_1 : decode cX10_why 1 = .ok (.iload_n 1, 1) := by decide +kernel
theorem dX10_why_2 : decode cX10_why 2 = .ok (.invokevirtual 173, 3) := by decide +kernel
theorem dX10_why_5 : decode cX10_why 5 = .ok (.astore_n 2, 1) := by decide +kernel
theorem dX10_why_6 : decode cX10_why 6 = .ok (.aload_n 2, 1) := by decide +kernel
theorem dX10_why_7 : decode cX10_why 7 = .ok (.ifnonnull 7, 3) := by decide +kernel
theorem dX10_why_10 : decode cX10_why 10 = .ok (.iconst (-1), 1) := by decide +kernel
theorem dX10_why_11 : decode cX10_why 11 = .ok (.goto 11, 3) := by decide +kernel
theorem dX10_why_14 : decode cX10_why 14 = .ok (.aload_n 2, 1) := by decide +kernel
theorem dX10_why_15 : decode cX10_why 15 = .ok (.aload_n 0, 1) := by decide +kernel
theorem dX10_why_16 : decode cX10_why 16 = .ok (.getfield 43, 3) := by decide +kernel
theorem dX10_why_19 : decode cX10_why 19 = .ok (.invokevirtual 183, 3) := by decide +kernel
theorem dX10_why_22 : decode cX10_why 22 = .ok (.ireturn, 1) := by decide +kernel
theorem dX10_batchOf_0 : decode cX10_batchOf 0 = .ok (.aload_n 0, 1) := by decide +kernel
theorem dX10_batchOf_1 : decode cX10_batchOf 1 = .ok (.iload_n 1, 1) := by decide +kernel
theorem dX10_batchOf_2 : decode cX10_batchOf 2 = .ok (.invokevirtual 173, 3) := by decide +kernel
theorem dX10_batchOf_5 : decode cX10_batchOf 5 = .ok (.astore_n 3, 1) := by decide +kernel
theorem dX10_batchOf_6 : decode cX10_batchOf 6 = .ok (.aload_n 3, 1) := by decide +kernel
theorem dX10_batchOf_7 : decode cX10_batchOf 7 = .ok (.ifnonnull 7, 3) := by decide +kernel
theorem dX10_batchOf_10 : decode cX10_batchOf 10 = .ok (.iconst (-1), 1) := by decide +kernel
theorem dX10_batchOf_11 : decode cX10_batchOf 11 = .ok (.goto 8, 3) := by decide +kernel
theorem dX10_batchOf_14 : decode cX10_batchOf 14 = .ok (.aload_n 3, 1) := by decide +kernel
theorem dX10_batchOf_15 : decode cX10_batchOf 15 = .ok (.iload_n 2, 1) := by decide +kernel
theorem dX10_batchOf_16 : decode cX10_batchOf 16 = .ok (.invokevirtual 187, 3) := by decide +kernel
theorem dX10_batchOf_19 : decode cX10_batchOf 19 = .ok (.ireturn, 1) := by decide +kernel
theorem dX10_temper_0 : decode cX10_temper 0 = .ok (.iload_n 2, 1) := by decide +kernel
theorem dX10_temper_1 : decode cX10_temper 1 = .ok (.iload_n 3, 1) := by decide +kernel
theorem dX10_temper_2 : decode cX10_temper 2 = .ok (.if_icmp .ge 25, 3) := by decide +kernel
theorem dX10_temper_5 : decode cX10_temper 5 = .ok (.iload_n 3, 1) := by decide +kernel
theorem dX10_temper_6 : decode cX10_temper 6 = .ok (.iload 4, 2) := by decide +kernel
theorem dX10_temper_8 : decode cX10_temper 8 = .ok (.if_icmp .gt 19, 3) := by decide +kernel
theorem dX10_temper_11 : decode cX10_temper 11 = .ok (.iload 4, 2) := by decide +kernel
theorem dX10_temper_13 : decode cX10_temper 13 = .ok (.iload_n 1, 1) := by decide +kernel
theorem dX10_temper_14 : decode cX10_temper 14 = .ok (.if_icmp .ge 13, 3) := by decide +kernel
theorem dX10_temper_17 : decode cX10_temper 17 = .ok (.iload 5, 2) := by decide +kernel
theorem dX10_temper_19 : decode cX10_temper 19 = .ok (.iload_n 3, 1) := by decide +kernel
theorem dX10_temper_20 : decode cX10_temper 20 = .ok (.if_icmp .gt 7, 3) := by decide +kernel
theorem dX10_temper_23 : decode cX10_temper 23 = .ok (.iconst 1, 1) := by decide +kernel
theorem dX10_temper_24 : decode cX10_temper 24 = .ok (.goto 4, 3) := by decide +kernel
theorem dX10_temper_27 : decode cX10_temper 27 = .ok (.iconst 0, 1) := by decide +kernel
theorem dX10_temper_28 : decode cX10_temper 28 = .ok (.istore 7, 2) := by decide +kernel
theorem dX10_temper_30 : decode cX10_temper 30 = .ok (.iload 7, 2) := by decide +kernel
theorem dX10_temper_32 : decode cX10_temper 32 = .ok (.ifCond .eq 14, 3) := by decide +kernel
theorem dX10_temper_35 : decode cX10_temper 35 = .ok (.iload 6, 2) := by decide +kernel
theorem dX10_temper_37 : decode cX10_temper 37 = .ok (.iconst 1, 1) := by decide +kernel
theorem dX10_temper_38 : decode cX10_temper 38 = .ok (.bipush 20, 2) := by decide +kernel
theorem dX10_temper_40 : decode cX10_temper 40 = .ok (.invokestatic 82, 3) := by decide +kernel
theorem dX10_temper_43 : decode cX10_temper 43 = .ok (.ifCond .ne 5, 3) := by decide +kernel
theorem dX10_temper_46 : decode cX10_temper 46 = .ok (.iconst 0, 1) := by decide +kernel
theorem dX10_temper_47 : decode cX10_temper 47 = .ok (.ireturn, 1) := by decide +kernel
theorem dX10_temper_48 : decode cX10_temper 48 = .ok (.aload_n 0, 1) := by decide +kernel
theorem dX10_temper_49 : decode cX10_temper 49 = .ok (.getfield 50, 3) := by decide +kernel
theorem dX10_temper_52 : decode cX10_temper 52 = .ok (.iload_n 1, 1) := by decide +kernel
theorem dX10_temper_53 : decode cX10_temper 53 = .ok (.iload_n 2, 1) := by decide +kernel
theorem dX10_temper_54 : decode cX10_temper 54 = .ok (.iload_n 3, 1) := by decide +kernel
theorem dX10_temper_55 : decode cX10_temper 55 = .ok (.iload 4, 2) := by decide +kernel
theorem dX10_temper_57 : decode cX10_temper 57 = .ok (.iload 5, 2) := by decide +kernel
theorem dX10_temper_59 : decode cX10_temper 59 = .ok (.iload 6, 2) := by decide +kernel
theorem dX10_temper_61 : decode cX10_temper 61 = .ok (.invokevirtual 191, 3) := by decide +kernel
theorem dX10_temper_64 : decode cX10_temper 64 = .ok (.ifCond .eq 7, 3) := by decide +kernel
theorem dX10_temper_67 : decode cX10_temper 67 = .ok (.aload_n 0, 1) := by decide +kernel
theorem dX10_temper_68 : decode cX10_temper 68 = .ok (.invokevirtual 195, 3) := by decide +kernel
theorem dX10_temper_71 : decode cX10_temper 71 = .ok (.iconst 1, 1) := by decide +kernel
theorem dX10_temper_72 : decode cX10_temper 72 = .ok (.ireturn, 1) := by decide +kernel
theorem dX10_heat_0 : decode cX10_heat 0 = .ok (.aload_n 0, 1) := by decide +kernel
theorem dX10_heat_1 : decode cX10_heat 1 = .ok (.iload_n 1, 1) := by decide +kernel
theorem dX10_heat_2 : decode cX10_heat 2 = .ok (.invokevirtual 173, 3) := by decide +kernel
theorem dX10_heat_5 : decode cX10_heat 5 = .ok (.astore_n 3, 1) := by decide +kernel
theorem dX10_heat_6 : decode cX10_heat 6 = .ok (.aload_n 3, 1) := by decide +kernel
theorem dX10_heat_7 : decode cX10_heat 7 = .ok (.ifnull 18, 3) := by decide +kernel
theorem dX10_heat_10 : decode cX10_heat 10 = .ok (.aload_n 3, 1) := by decide +kernel
theorem dX10_heat_11 : decode cX10_heat 11 = .ok (.getfield 198, 3) := by decide +kernel
theorem dX10_heat_14 : decode cX10_heat 14 = .ok (.iconst 5, 1) := by decide +kernel
theorem dX10_heat_15 : decode cX10_heat 15 = .ok (.if_icmp .ne 10, 3) := by decide +kernel
theorem dX10_heat_18 : decode cX10_heat 18 = .ok (.aload_n 3, 1) := by decide +kernel
theorem dX10_heat_19 : decode cX10_heat 19 = .ok (.getfield 176, 3) := by decide +kernel
theorem dX10_heat_22 : decode cX10_heat 22 = .ok (.ifCond .ne 5, 3) := by decide +kernel
theorem dX10_heat_25 : decode cX10_heat 25 = .ok (.iconst (-1), 1) := by decide +kernel
theorem dX10_heat_26 : decode cX10_heat 26 = .ok (.ireturn, 1) := by decide +kernel
theorem dX10_heat_27 : decode cX10_heat 27 = .ok (.aload_n 0, 1) := by decide +kernel
theorem dX10_heat_28 : decode cX10_heat 28 = .ok (.getfield 50, 3) := by decide +kernel
theorem dX10_heat_31 : decode cX10_heat 31 = .ok (.aload_n 3, 1) := by decide +kernel
theorem dX10_heat_32 : decode cX10_heat 32 = .ok (.iload_n 2, 1) := by decide +kernel
theorem dX10_heat_33 : decode cX10_heat 33 = .ok (.invokevirtual 201, 3) := by decide +kernel
theorem dX10_heat_36 : decode cX10_heat 36 = .ok (.aload_n 3, 1) := by decide +kernel
theorem dX10_heat_37 : decode cX10_heat 37 = .ok (.getfield 205, 3) := by decide +kernel
theorem dX10_heat_40 : decode cX10_heat 40 = .ok (.ireturn, 1) := by decide +kernel
theorem dX10_cut_0 : decode cX10_cut 0 = .ok (.aload_n 0, 1) := by decide +kernel
theorem dX10_cut_1 : decode cX10_cut 1 = .ok (.iload_n 1, 1) := by decide +kernel
theorem dX10_cut_2 : decode cX10_cut 2 = .ok (.invokevirtual 208, 3) := by decide +kernel
theorem dX10_cut_5 : decode cX10_cut 5 = .ok (.astore 4, 2) := by decide +kernel
theorem dX10_cut_7 : decode cX10_cut 7 = .ok (.aload 4, 2) := by decide +kernel
theorem dX10_cut_9 : decode cX10_cut 9 = .ok (.ifnull 36, 3) := by decide +kernel
theorem dX10_cut_12 : decode cX10_cut 12 = .ok (.aload 4, 2) := by decide +kernel
theorem dX10_cut_14 : decode cX10_cut 14 = .ok (.getfield 198, 3) := by decide +kernel
theorem dX10_cut_17 : decode cX10_cut 17 = .ok (.invokestatic 211, 3) := by decide +kernel
theorem dX10_cut_20 : decode cX10_cut 20 = .ok (.ifCond .eq 25, 3) := by decide +kernel
theorem dX10_cut_23 : decode cX10_cut 23 = .ok (.iload_n 2, 1) := by decide +kernel
theorem dX10_cut_24 : decode cX10_cut 24 = .ok (.bipush 10, 2) := by decide +kernel
theorem dX10_cut_26 : decode cX10_cut 26 = .ok (.sipush 2000, 3) := by decide +kernel
theorem dX10_cut_29 : decode cX10_cut 29 = .ok (.invokestatic 82, 3) := by decide +kernel
theorem dX10_cut_32 : decode cX10_cut 32 = .ok (.ifCond .eq 13, 3) := by decide +kernel
theorem dX10_cut_35 : decode cX10_cut 35 = .ok (.iload_n 3, 1) := by decide +kernel
theorem dX10_cut_36 : decode cX10_cut 36 = .ok (.iconst 1, 1) := by decide +kernel
theorem dX10_cut_37 : decode cX10_cut 37 = .ok (.bipush 99, 2) := by decide +kernel
theorem dX10_cut_39 : decode cX10_cut 39 = .ok (.invokestatic 82, 3) := by decide +kernel
theorem dX10_cut_42 : decode cX10_cut 42 = .ok (.ifCond .ne 5, 3) := by decide +kernel
theorem dX10_cut_45 : decode cX10_cut 45 = .ok (.iconst (-1), 1) := by decide +kernel
theorem dX10_cut_46 : decode cX10_cut 46 = .ok (.ireturn, 1) := by decide +kernel
theorem dX10_cut_47 : decode cX10_cut 47 = .ok (.iconst 0, 1) := by decide +kernel
theorem dX10_cut_48 : decode cX10_cut 48 = .ok (.istore 5, 2) := by decide +kernel
theorem dX10_cut_50 : decode cX10_cut 50 = .ok (.iload 5, 2) := by decide +kernel
theorem dX10_cut_52 : decode cX10_cut 52 = .ok (.iload_n 3, 1) := by decide +kernel
theorem dX10_cut_53 : decode cX10_cut 53 = .ok (.if_icmp .ge 80, 3) := by decide +kernel
theorem dX10_cut_56 : decode cX10_cut 56 = .ok (.aload 4, 2) := by decide +kernel
theorem dX10_cut_58 : decode cX10_cut 58 = .ok (.getfield 114, 3) := by decide +kernel
theorem dX10_cut_61 : decode cX10_cut 61 = .ok (.iload_n 2, 1) := by decide +kernel
theorem dX10_cut_62 : decode cX10_cut 62 = .ok (.if_icmp .lt 71, 3) := by decide +kernel
theorem dX10_cut_65 : decode cX10_cut 65 = .ok (.aload_n 0, 1) := by decide +kernel
theorem dX10_cut_66 : decode cX10_cut 66 = .ok (.getfield 214, 3) := by decide +kernel
theorem dX10_cut_69 : decode cX10_cut 69 = .ok (.sipush 600, 3) := by decide +kernel
theorem dX10_cut_72 : decode cX10_cut 72 = .ok (.if_icmp .ge 61, 3) := by decide +kernel
theorem dX10_cut_75 : decode cX10_cut 75 = .ok (.aload_n 0, 1) := by decide +kernel
theorem dX10_cut_76 : decode cX10_cut 76 = .ok (.getfield 23, 3) := by decide +kernel
theorem dX10_cut_79 : decode cX10_cut 79 = .ok (.aload_n 0, 1) := by decide +kernel
theorem dX10_cut_80 : decode cX10_cut 80 = .ok (.getfield 214, 3) := by decide +kernel
theorem dX10_cut_83 : decode cX10_cut 83 = .ok (.new 21, 3) := by decide +kernel
theorem dX10_cut_86 : decode cX10_cut 86 = .ok (.dup, 1) := by decide +kernel
theorem dX10_cut_87 : decode cX10_cut 87 = .ok (.iload_n 1, 1) := by decide +kernel
theorem dX10_cut_88 : decode cX10_cut 88 = .ok (.aload 4, 2) := by decide +kernel
theorem dX10_cut_90 : decode cX10_cut 90 = .ok (.iload_n 2, 1) := by decide +kernel
theorem dX10_cut_91 : decode cX10_cut 91 = .ok (.invokespecial 217, 3) := by decide +kernel
theorem dX10_cut_94 : decode cX10_cut 94 = .ok (.aastore, 1) := by decide +kernel
theorem dX10_cut_95 : decode cX10_cut 95 = .ok (.aload_n 0, 1) := by decide +kernel
theorem dX10_cut_96 : decode cX10_cut 96 = .ok (.dup, 1) := by decide +kernel
theorem dX10_cut_97 : decode cX10_cut 97 = .ok (.getfield 214, 3) := by decide +kernel
theorem dX10_cut_100 : decode cX10_cut 100 = .ok (.iconst 1, 1) := by decide +kernel
theorem dX10_cut_101 : decode cX10_cut 101 = .ok (.iadd, 1) := by decide +kernel
theorem dX10_cut_102 : decode cX10_cut 102 = .ok (.putfield 214, 3) := by decide +kernel
theorem dX10_cut_105 : decode cX10_cut 105 = .ok (.aload 4, 2) := by decide +kernel
theorem dX10_cut_107 : decode cX10_cut 107 = .ok (.dup, 1) := by decide +kernel
theorem dX10_cut_108 : decode cX10_cut 108 = .ok (.getfield 114, 3) := by decide +kernel
theorem dX10_cut_111 : decode cX10_cut 111 = .ok (.iload_n 2, 1) := by decide +kernel
theorem dX10_cut_112 : decode cX10_cut 112 = .ok (.isub, 1) := by decide +kernel
theorem dX10_cut_113 : decode cX10_cut 113 = .ok (.putfield 114, 3) := by decide +kernel
theorem dX10_cut_116 : decode cX10_cut 116 = .ok (.aload 4, 2) := by decide +kernel
theorem dX10_cut_118 : decode cX10_cut 118 = .ok (.dup, 1) := by decide +kernel
theorem dX10_cut_119 : decode cX10_cut 119 = .ok (.getfield 220, 3) := by decide +kernel
theorem dX10_cut_122 : decode cX10_cut 122 = .ok (.iload_n 2, 1) := by decide +kernel
theorem dX10_cut_123 : decode cX10_cut 123 = .ok (.iadd, 1) := by decide +kernel
theorem dX10_cut_124 : decode cX10_cut 124 = .ok (.putfield 220, 3) := by decide +kernel
theorem dX10_cut_127 : decode cX10_cut 127 = .ok (.iinc 5 1, 3) := by decide +kernel
theorem dX10_cut_130 : decode cX10_cut 130 = .ok (.goto (-80), 3) := by decide +kernel
theorem dX10_cut_133 : decode cX10_cut 133 = .ok (.iload 5, 2) := by decide +kernel
theorem dX10_cut_135 : decode cX10_cut 135 = .ok (.ireturn, 1) := by decide +kernel
theorem dX10_dip_0 : decode cX10_dip 0 = .ok (.aload_n 0, 1) := by decide +kernel
theorem dX10_dip_1 : decode cX10_dip 1 = .ok (.iload_n 1, 1) := by decide +kernel
theorem dX10_dip_2 : decode cX10_dip 2 = .ok (.invokevirtual 223, 3) := by decide +kernel
theorem dX10_dip_5 : decode cX10_dip 5 = .ok (.astore 4, 2) := by decide +kernel
theorem dX10_dip_7 : decode cX10_dip 7 = .ok (.aload_n 0, 1) := by decide +kernel
theorem dX10_dip_8 : decode cX10_dip 8 = .ok (.iload_n 2, 1) := by decide +kernel
theorem dX10_dip_9 : decode cX10_dip 9 = .ok (.invokevirtual 208, 3) := by decide +kernel
theorem dX10_dip_12 : decode cX10_dip 12 = .ok (.astore 5, 2) := by decide +kernel
theorem dX10_dip_14 : decode cX10_dip 14 = .ok (.aload 4, 2) := by decide +kernel
theorem dX10_dip_16 : decode cX10_dip 16 = .ok (.ifnull 26, 3) := by decide +kernel
theorem dX10_dip_19 : decode cX10_dip 19 = .ok (.aload 5, 2) := by decide +kernel
theorem dX10_dip_21 : decode cX10_dip 21 = .ok (.ifnull 21, 3) := by decide +kernel
theorem dX10_dip_24 : decode cX10_dip 24 = .ok (.aload 4, 2) := by decide +kernel
theorem dX10_dip_26 : decode cX10_dip 26 = .ok (.getfield 227, 3) := by decide +kernel
theorem dX10_dip_29 : decode cX10_dip 29 = .ok (.iconst (-1), 1) := by decide +kernel
theorem dX10_dip_30 : decode cX10_dip 30 = .ok (.if_icmp .ne 12, 3) := by decide +kernel
theorem dX10_dip_33 : decode cX10_dip 33 = .ok (.aload 5, 2) := by decide +kernel
theorem dX10_dip_35 : decode cX10_dip 35 = .ok (.getfield 198, 3) := by decide +kernel
theorem dX10_dip_38 : decode cX10_dip 38 = .ok (.iconst 5, 1) := by decide +kernel
theorem dX10_dip_39 : decode cX10_dip 39 = .ok (.if_icmp .eq 5, 3) := by decide +kernel
theorem dX10_dip_42 : decode cX10_dip 42 = .ok (.iconst (-1), 1) := by decide +kernel
theorem dX10_dip_43 : decode cX10_dip 43 = .ok (.ireturn, 1) := by decide +kernel
theorem dX10_dip_44 : decode cX10_dip 44 = .ok (.iload_n 3, 1) := by decide +kernel
theorem dX10_dip_45 : decode cX10_dip 45 = .ok (.iconst 1, 1) := by decide +kernel
theorem dX10_dip_46 : decode cX10_dip 46 = .ok (.sipush 1000, 3) := by decide +kernel
theorem dX10_dip_49 : decode cX10_dip 49 = .ok (.invokestatic 82, 3) := by decide +kernel
theorem dX10_dip_52 : decode cX10_dip 52 = .ok (.ifCond .eq 12, 3) := by decide +kernel
theorem dX10_dip_55 : decode cX10_dip 55 = .ok (.aload 5, 2) := by decide +kernel
theorem dX10_dip_57 : decode cX10_dip 57 = .ok (.getfield 114, 3) := by decide +kernel
theorem dX10_dip_60 : decode cX10_dip 60 = .ok (.iload_n 3, 1) := by decide +kernel
theorem dX10_dip_61 : decode cX10_dip 61 = .ok (.if_icmp .ge 5, 3) := by decide +kernel
theorem dX10_dip_64 : decode cX10_dip 64 = .ok (.iconst (-1), 1) := by decide +kernel
theorem dX10_dip_65 : decode cX10_dip 65 = .ok (.ireturn, 1) := by decide +kernel
theorem dX10_dip_66 : decode cX10_dip 66 = .ok (.aload 5, 2) := by decide +kernel
theorem dX10_dip_68 : decode cX10_dip 68 = .ok (.dup, 1) := by decide +kernel
theorem dX10_dip_69 : decode cX10_dip 69 = .ok (.getfield 114, 3) := by decide +kernel
theorem dX10_dip_72 : decode cX10_dip 72 = .ok (.iload_n 3, 1) := by decide +kernel
theorem dX10_dip_73 : decode cX10_dip 73 = .ok (.isub, 1) := by decide +kernel
theorem dX10_dip_74 : decode cX10_dip 74 = .ok (.putfield 114, 3) := by decide +kernel
theorem dX10_dip_77 : decode cX10_dip 77 = .ok (.aload 5, 2) := by decide +kernel
theorem dX10_dip_79 : decode cX10_dip 79 = .ok (.dup, 1) := by decide +kernel
theorem dX10_dip_80 : decode cX10_dip 80 = .ok (.getfield 230, 3) := by decide +kernel
theorem dX10_dip_83 : decode cX10_dip 83 = .ok (.iload_n 3, 1) := by decide +kernel
theorem dX10_dip_84 : decode cX10_dip 84 = .ok (.iadd, 1) := by decide +kernel
theorem dX10_dip_85 : decode cX10_dip 85 = .ok (.putfield 230, 3) := by decide +kernel
theorem dX10_dip_88 : decode cX10_dip 88 = .ok (.aload 4, 2) := by decide +kernel
theorem dX10_dip_90 : decode cX10_dip 90 = .ok (.dup, 1) := by decide +kernel
theorem dX10_dip_91 : decode cX10_dip 91 = .ok (.getfield 233, 3) := by decide +kernel
theorem dX10_dip_94 : decode cX10_dip 94 = .ok (.iload_n 3, 1) := by decide +kernel
theorem dX10_dip_95 : decode cX10_dip 95 = .ok (.iadd, 1) := by decide +kernel
theorem dX10_dip_96 : decode cX10_dip 96 = .ok (.putfield 233, 3) := by decide +kernel
theorem dX10_dip_99 : decode cX10_dip 99 = .ok (.aload 4, 2) := by decide +kernel
theorem dX10_dip_101 : decode cX10_dip 101 = .ok (.iload_n 2, 1) := by decide +kernel
theorem dX10_dip_102 : decode cX10_dip 102 = .ok (.putfield 227, 3) := by decide +kernel
theorem dX10_dip_105 : decode cX10_dip 105 = .ok (.aload 4, 2) := by decide +kernel
theorem dX10_dip_107 : decode cX10_dip 107 = .ok (.dup, 1) := by decide +kernel
theorem dX10_dip_108 : decode cX10_dip 108 = .ok (.getfield 236, 3) := by decide +kernel
theorem dX10_dip_111 : decode cX10_dip 111 = .ok (.aload 5, 2) := by decide +kernel
theorem dX10_dip_113 : decode cX10_dip 113 = .ok (.getfield 120, 3) := by decide +kernel
theorem dX10_dip_116 : decode cX10_dip 116 = .ok (.lor, 1) := by decide +kernel
theorem dX10_dip_117 : decode cX10_dip 117 = .ok (.putfield 236, 3) := by decide +kernel
theorem dX10_dip_120 : decode cX10_dip 120 = .ok (.aload 4, 2) := by decide +kernel
theorem dX10_dip_122 : decode cX10_dip 122 = .ok (.aload 5, 2) := by decide +kernel
theorem dX10_dip_124 : decode cX10_dip 124 = .ok (.getfield 205, 3) := by decide +kernel
theorem dX10_dip_127 : decode cX10_dip 127 = .ok (.iconst 3, 1) := by decide +kernel
theorem dX10_dip_128 : decode cX10_dip 128 = .ok (.if_icmp .ne 7, 3) := by decide +kernel
theorem dX10_dip_131 : decode cX10_dip 131 = .ok (.iconst 1, 1) := by decide +kernel
theorem dX10_dip_132 : decode cX10_dip 132 = .ok (.goto 4, 3) := by decide +kernel
theorem dX10_dip_135 : decode cX10_dip 135 = .ok (.iconst 0, 1) := by decide +kernel
theorem dX10_dip_136 : decode cX10_dip 136 = .ok (.putfield 237, 3) := by decide +kernel
theorem dX10_dip_139 : decode cX10_dip 139 = .ok (.aload 4, 2) := by decide +kernel
theorem dX10_dip_141 : decode cX10_dip 141 = .ok (.getfield 237, 3) := by decide +kernel
theorem dX10_dip_144 : decode cX10_dip 144 = .ok (.ifCond .eq 7, 3) := by decide +kernel
theorem dX10_dip_147 : decode cX10_dip 147 = .ok (.iconst 1, 1) := by decide +kernel
theorem dX10_dip_148 : decode cX10_dip 148 = .ok (.goto 4, 3) := by decide +kernel
theorem dX10_dip_151 : decode cX10_dip 151 = .ok (.iconst 0, 1) := by decide +kernel
theorem dX10_dip_152 : decode cX10_dip 152 = .ok (.ireturn, 1) := by decide +kernel
theorem dX10_place_0 : decode cX10_place 0 = .ok (.aload_n 0, 1) := by decide +kernel
theorem dX10_place_1 : decode cX10_place 1 = .ok (.iload_n 1, 1) := by decide +kernel
theorem dX10_place_2 : decode cX10_place 2 = .ok (.invokevirtual 223, 3) := by decide +kernel
theorem dX10_place_5 : decode cX10_place 5 = .ok (.astore 4, 2) := by decide +kernel
theorem dX10_place_7 : decode cX10_place 7 = .ok (.iload_n 2, 1) := by decide +kernel
theorem dX10_place_8 : decode cX10_place 8 = .ok (.iload_n 3, 1) := by decide +kernel
theorem dX10_place_9 : decode cX10_place 9 = .ok (.invokestatic 240, 3) := by decide +kernel
theorem dX10_place_12 : decode cX10_place 12 = .ok (.istore 5, 2) := by decide +kernel
theorem dX10_place_14 : decode cX10_place 14 = .ok (.aload 4, 2) := by decide +kernel
theorem dX10_place_16 : decode cX10_place 16 = .ok (.ifnull 20, 3) := by decide +kernel
theorem dX10_place_19 : decode cX10_place 19 = .ok (.iload 5, 2) := by decide +kernel
theorem dX10_place_21 : decode cX10_place 21 = .ok (.iconst (-1), 1) := by decide +kernel
theorem dX10_place_22 : decode cX10_place 22 = .ok (.if_icmp .eq 14, 3) := by decide +kernel
theorem dX10_place_25 : decode cX10_place 25 = .ok (.aload_n 0, 1) := by decide +kernel
theorem dX10_place_26 : decode cX10_place 26 = .ok (.getfield 33, 3) := by decide +kernel
theorem dX10_place_29 : decode cX10_place 29 = .ok (.iload 5, 2) := by decide +kernel
theorem dX10_place_31 : decode cX10_place 31 = .ok (.iaload, 1) := by decide +kernel
theorem dX10_place_32 : decode cX10_place 32 = .ok (.iconst (-1), 1) := by decide +kernel
theorem dX10_place_33 : decode cX10_place 33 = .ok (.if_icmp .eq 5, 3) := by decide +kernel
theorem dX10_place_36 : decode cX10_place 36 = .ok (.iconst 0, 1) := by decide +kernel
theorem dX10_place_37 : decode cX10_place 37 = .ok (.ireturn, 1) := by decide +kernel
theorem dX10_place_38 : decode cX10_place 38 = .ok (.aload_n 0, 1) := by decide +kernel
theorem dX10_place_39 : decode cX10_place 39 = .ok (.aload 4, 2) := by decide +kernel
theorem dX10_place_41 : decode cX10_place 41 = .ok (.invokevirtual 243, 3) := by decide +kernel
theorem dX10_place_44 : decode cX10_place 44 = .ok (.aload_n 0, 1) := by decide +kernel
theorem dX10_place_45 : decode cX10_place 45 = .ok (.getfield 33, 3) := by decide +kernel
theorem dX10_place_48 : decode cX10_place 48 = .ok (.iload 5, 2) := by decide +kernel
theorem dX10_place_50 : decode cX10_place 50 = .ok (.iload_n 1, 1) := by decide +kernel
theorem dX10_place_51 : decode cX10_place 51 = .ok (.iastore, 1) := by decide +kernel
theorem dX10_place_52 : decode cX10_place 52 = .ok (.aload 4, 2) := by decide +kernel
theorem dX10_place_54 : decode cX10_place 54 = .ok (.iconst 1, 1) := by decide +kernel
theorem dX10_place_55 : decode cX10_place 55 = .ok (.putfield 247, 3) := by decide +kernel
theorem dX10_place_58 : decode cX10_place 58 = .ok (.aload 4, 2) := by decide +kernel
theorem dX10_place_60 : decode cX10_place 60 = .ok (.iload 5, 2) := by decide +kernel
theorem dX10_place_62 : decode cX10_place 62 = .ok (.putfield 250, 3) := by decide +kernel
theorem dX10_place_65 : decode cX10_place 65 = .ok (.iconst 1, 1) := by decide +kernel
theorem dX10_place_66 : decode cX10_place 66 = .ok (.ireturn, 1) := by decide +kernel
theorem dX10_take_0 : decode cX10_take 0 = .ok (.aload_n 0, 1) := by decide +kernel
theorem dX10_take_1 : decode cX10_take 1 = .ok (.iload_n 1, 1) := by decide +kernel
theorem dX10_take_2 : decode cX10_take 2 = .ok (.invokevirtual 253, 3) := by decide +kernel
theorem dX10_take_5 : decode cX10_take 5 = .ok (.astore_n 2, 1) := by decide +kernel
theorem dX10_take_6 : decode cX10_take 6 = .ok (.aload_n 2, 1) := by decide +kernel
theorem dX10_take_7 : decode cX10_take 7 = .ok (.ifnull 11, 3) := by decide +kernel
theorem dX10_take_10 : decode cX10_take 10 = .ok (.aload_n 2, 1) := by decide +kernel
theorem dX10_take_11 : decode cX10_take 11 = .ok (.getfield 247, 3) := by decide +kernel
theorem dX10_take_14 : decode cX10_take 14 = .ok (.iconst 1, 1) := by decide +kernel
theorem dX10_take_15 : decode cX10_take 15 = .ok (.if_icmp .eq 5, 3) := by decide +kernel
theorem dX10_take_18 : decode cX10_take 18 = .ok (.iconst 0, 1) := by decide +kernel
theorem dX10_take_19 : decode cX10_take 19 = .ok (.ireturn, 1) := by decide +kernel
theorem dX10_take_20 : decode cX10_take 20 = .ok (.aload_n 0, 1) := by decide +kernel
theorem dX10_take_21 : decode cX10_take 21 = .ok (.aload_n 2, 1) := by decide +kernel
theorem dX10_take_22 : decode cX10_take 22 = .ok (.invokevirtual 243, 3) := by decide +kernel
theorem dX10_take_25 : decode cX10_take 25 = .ok (.iconst 1, 1) := by decide +kernel
theorem dX10_take_26 : decode cX10_take 26 = .ok (.ireturn, 1) := by decide +kernel
theorem dX10_allow_0 : decode cX10_allow 0 = .ok (.aload_n 0, 1) := by decide +kernel
theorem dX10_allow_1 : decode cX10_allow 1 = .ok (.iload_n 1, 1) := by decide +kernel
theorem dX10_allow_2 : decode cX10_allow 2 = .ok (.invokevirtual 253, 3) := by decide +kernel
theorem dX10_allow_5 : decode cX10_allow 5 = .ok (.astore_n 2, 1) := by decide +kernel
theorem dX10_allow_6 : decode cX10_allow 6 = .ok (.aload_n 2, 1) := by decide +kernel
theorem dX10_allow_7 : decode cX10_allow 7 = .ok (.ifnull 18, 3) := by decide +kernel
theorem dX10_allow_10 : decode cX10_allow 10 = .ok (.aload_n 2, 1) := by decide +kernel
theorem dX10_allow_11 : decode cX10_allow 11 = .ok (.getfield 227, 3) := by decide +kernel
theorem dX10_allow_14 : decode cX10_allow 14 = .ok (.iconst (-1), 1) := by decide +kernel
theorem dX10_allow_15 : decode cX10_allow 15 = .ok (.if_icmp .eq 10, 3) := by decide +kernel
theorem dX10_allow_18 : decode cX10_allow 18 = .ok (.aload_n 2, 1) := by decide +kernel
theorem dX10_allow_19 : decode cX10_allow 19 = .ok (.getfield 237, 3) := by decide +kernel
theorem dX10_allow_22 : decode cX10_allow 22 = .ok (.ifCond .eq 5, 3) := by decide +kernel
theorem dX10_allow_25 : decode cX10_allow 25 = .ok (.iconst 0, 1) := by decide +kernel
theorem dX10_allow_26 : decode cX10_allow 26 = .ok (.ireturn, 1) := by decide +kernel
theorem dX10_allow_27 : decode cX10_allow 27 = .ok (.aload_n 2, 1) := by decide +kernel
theorem dX10_allow_28 : decode cX10_allow 28 = .ok (.iconst 1, 1) := by decide +kernel
theorem dX10_allow_29 : decode cX10_allow 29 = .ok (.putfield 256, 3) := by decide +kernel
theorem dX10_allow_32 : decode cX10_allow 32 = .ok (.iconst 1, 1) := by decide +kernel
theorem dX10_allow_33 : decode cX10_allow 33 = .ok (.ireturn, 1) := by decide +kernel
theorem dX10_pieceOf_0 : decode cX10_pieceOf 0 = .ok (.aload_n 0, 1) := by decide +kernel
theorem dX10_pieceOf_1 : decode cX10_pieceOf 1 = .ok (.iload_n 1, 1) := by decide +kernel
theorem dX10_pieceOf_2 : decode cX10_pieceOf 2 = .ok (.invokevirtual 253, 3) := by decide +kernel
theorem dX10_pieceOf_5 : decode cX10_pieceOf 5 = .ok (.astore_n 3, 1) := by decide +kernel
theorem dX10_pieceOf_6 : decode cX10_pieceOf 6 = .ok (.aload_n 3, 1) := by decide +kernel
theorem dX10_pieceOf_7 : decode cX10_pieceOf 7 = .ok (.ifnonnull 7, 3) := by decide +kernel
theorem dX10_pieceOf_10 : decode cX10_pieceOf 10 = .ok (.iconst (-1), 1) := by decide +kernel
theorem dX10_pieceOf_11 : decode cX10_pieceOf 11 = .ok (.goto 8, 3) := by decide +kernel
theorem dX10_pieceOf_14 : decode cX10_pieceOf 14 = .ok (.aload_n 3, 1) := by decide +kernel
theorem dX10_pieceOf_15 : decode cX10_pieceOf 15 = .ok (.iload_n 2, 1) := by decide +kernel
theorem dX10_pieceOf_16 : decode cX10_pieceOf 16 = .ok (.invokevirtual 259, 3) := by decide +kernel
theorem dX10_pieceOf_19 : decode cX10_pieceOf 19 = .ok (.ireturn, 1) := by decide +kernel
theorem dX10_at_0 : decode cX10_at 0 = .ok (.iload_n 1, 1) := by decide +kernel
theorem dX10_at_1 : decode cX10_at 1 = .ok (.iload_n 2, 1) := by decide +kernel
theorem dX10_at_2 : decode cX10_at 2 = .ok (.invokestatic 240, 3) := by decide +kernel
theorem dX10_at_5 : decode cX10_at 5 = .ok (.istore_n 3, 1) := by decide +kernel
theorem dX10_at_6 : decode cX10_at 6 = .ok (.iload_n 3, 1) := by decide +kernel
theorem dX10_at_7 : decode cX10_at 7 = .ok (.iconst (-1), 1) := by decide +kernel
theorem dX10_at_8 : decode cX10_at 8 = .ok (.if_icmp .ne 7, 3) := by decide +kernel
theorem dX10_at_11 : decode cX10_at 11 = .ok (.iconst (-1), 1) := by decide +kernel
theorem dX10_at_12 : decode cX10_at 12 = .ok (.goto 9, 3) := by decide +kernel
theorem dX10_at_15 : decode cX10_at 15 = .ok (.aload_n 0, 1) := by decide +kernel
theorem dX10_at_16 : decode cX10_at 16 = .ok (.getfield 33, 3) := by decide +kernel
theorem dX10_at_19 : decode cX10_at 19 = .ok (.iload_n 3, 1) := by decide +kernel
theorem dX10_at_20 : decode cX10_at 20 = .ok (.iaload, 1) := by decide +kernel
theorem dX10_at_21 : decode cX10_at 21 = .ok (.ireturn, 1) := by decide +kernel
theorem dX10_pack_0 : decode cX10_pack 0 = .ok (.iload_n 1, 1) := by decide +kernel
theorem dX10_pack_1 : decode cX10_pack 1 = .ok (.iload_n 2, 1) := by decide +kernel
theorem dX10_pack_2 : decode cX10_pack 2 = .ok (.iload_n 3, 1) := by decide +kernel
theorem dX10_pack_3 : decode cX10_pack 3 = .ok (.invokestatic 260, 3) := by decide +kernel
theorem dX10_pack_6 : decode cX10_pack 6 = .ok (.ifCond .eq 13, 3) := by decide +kernel
theorem dX10_pack_9 : decode cX10_pack 9 = .ok (.aload_n 0, 1) := by decide +kernel
theorem dX10_pack_10 : decode cX10_pack 10 = .ok (.getfield 263, 3) := by decide +kernel
theorem dX10_pack_13 : decode cX10_pack 13 = .ok (.sipush 200, 3) := by decide +kernel
theorem dX10_pack_16 : decode cX10_pack 16 = .ok (.if_icmp .lt 5, 3) := by decide +kernel
theorem dX10_pack_19 : decode cX10_pack 19 = .ok (.iconst (-1), 1) := by decide +kernel
theorem dX10_pack_20 : decode cX10_pack 20 = .ok (.ireturn, 1) := by decide +kernel
theorem dX10_pack_21 : decode cX10_pack 21 = .ok (.aload_n 0, 1) := by decide +kernel
theorem dX10_pack_22 : decode cX10_pack 22 = .ok (.aload_n 0, 1) := by decide +kernel
theorem dX10_pack_23 : decode cX10_pack 23 = .ok (.getfield 33, 3) := by decide +kernel
theorem dX10_pack_26 : decode cX10_pack 26 = .ok (.iload_n 1, 1) := by decide +kernel
theorem dX10_pack_27 : decode cX10_pack 27 = .ok (.invokevirtual 266, 3) := by decide +kernel
theorem dX10_pack_30 : decode cX10_pack 30 = .ok (.aload_n 0, 1) := by decide +kernel
theorem dX10_pack_31 : decode cX10_pack 31 = .ok (.getfield 64, 3) := by decide +kernel
theorem dX10_pack_34 : decode cX10_pack 34 = .ok (.iload_n 2, 1) := by decide +kernel
theorem dX10_pack_35 : decode cX10_pack 35 = .ok (.iload_n 3, 1) := by decide +kernel
theorem dX10_pack_36 : decode cX10_pack 36 = .ok (.invokevirtual 269, 3) := by decide +kernel
theorem dX10_pack_39 : decode cX10_pack 39 = .ok (.istore 4, 2) := by decide +kernel
theorem dX10_pack_41 : decode cX10_pack 41 = .ok (.iload 4, 2) := by decide +kernel
theorem dX10_pack_43 : decode cX10_pack 43 = .ok (.iconst (-1), 1) := by decide +kernel
theorem dX10_pack_44 : decode cX10_pack 44 = .ok (.if_icmp .ne 5, 3) := by decide +kernel
theorem dX10_pack_47 : decode cX10_pack 47 = .ok (.iconst (-1), 1) := by decide +kernel
theorem dX10_pack_48 : decode cX10_pack 48 = .ok (.ireturn, 1) := by decide +kernel
theorem dX10_pack_49 : decode cX10_pack 49 = .ok (.new 27, 3) := by decide +kernel
theorem dX10_pack_52 : decode cX10_pack 52 = .ok (.dup, 1) := by decide +kernel
theorem dX10_pack_53 : decode cX10_pack 53 = .ok (.iload_n 2, 1) := by decide +kernel
theorem dX10_pack_54 : decode cX10_pack 54 = .ok (.iload 4, 2) := by decide +kernel
theorem dX10_pack_56 : decode cX10_pack 56 = .ok (.aload_n 0, 1) := by decide +kernel
theorem dX10_pack_57 : decode cX10_pack 57 = .ok (.getfield 64, 3) := by decide +kernel
theorem dX10_pack_60 : decode cX10_pack 60 = .ok (.invokevirtual 272, 3) := by decide +kernel
theorem dX10_pack_63 : decode cX10_pack 63 = .ok (.invokespecial 276, 3) := by decide +kernel
theorem dX10_pack_66 : decode cX10_pack 66 = .ok (.astore 5, 2) := by decide +kernel
theorem dX10_pack_68 : decode cX10_pack 68 = .ok (.iconst 0, 1) := by decide +kernel
theorem dX10_pack_69 : decode cX10_pack 69 = .ok (.istore 6, 2) := by decide +kernel
theorem dX10_pack_71 : decode cX10_pack 71 = .ok (.iload 6, 2) := by decide +kernel
theorem dX10_pack_73 : decode cX10_pack 73 = .ok (.aload_n 0, 1) := by decide +kernel
theorem dX10_pack_74 : decode cX10_pack 74 = .ok (.getfield 64, 3) := by decide +kernel
theorem dX10_pack_77 : decode cX10_pack 77 = .ok (.getfield 279, 3) := by decide +kernel
theorem dX10_pack_80 : decode cX10_pack 80 = .ok (.if_icmp .ge 38, 3) := by decide +kernel
theorem dX10_pack_83 : decode cX10_pack 83 = .ok (.aload_n 0, 1) := by decide +kernel
theorem dX10_pack_84 : decode cX10_pack 84 = .ok (.getfield 64, 3) := by decide +kernel
theorem dX10_pack_87 : decode cX10_pack 87 = .ok (.getfield 282, 3) := by decide +kernel
theorem dX10_pack_90 : decode cX10_pack 90 = .ok (.iload 6, 2) := by decide +kernel
theorem dX10_pack_92 : decode cX10_pack 92 = .ok (.baload, 1) := by decide +kernel
theorem dX10_pack_93 : decode cX10_pack 93 = .ok (.ifCond .eq 19, 3) := by decide +kernel
theorem dX10_pack_96 : decode cX10_pack 96 = .ok (.aload_n 0, 1) := by decide +kernel
theorem dX10_pack_97 : decode cX10_pack 97 = .ok (.aload_n 0, 1) := by decide +kernel
theorem dX10_pack_98 : decode cX10_pack 98 = .ok (.getfield 64, 3) := by decide +kernel
theorem dX10_pack_101 : decode cX10_pack 101 = .ok (.getfield 285, 3) := by decide +kernel
theorem dX10_pack_104 : decode cX10_pack 104 = .ok (.iload 6, 2) := by decide +kernel
theorem dX10_pack_106 : decode cX10_pack 106 = .ok (.iaload, 1) := by decide +kernel
theorem dX10_pack_107 : decode cX10_pack 107 = .ok (.aload 5, 2) := by decide +kernel
theorem dX10_pack_109 : decode cX10_pack 109 = .ok (.invokevirtual 288, 3) := by decide +kernel
theorem dX10_pack_112 : decode cX10_pack 112 = .ok (.iinc 6 1, 3) := by decide +kernel
theorem dX10_pack_115 : decode cX10_pack 115 = .ok (.goto (-44), 3) := by decide +kernel
theorem dX10_pack_118 : decode cX10_pack 118 = .ok (.aload 5, 2) := by decide +kernel
theorem dX10_pack_120 : decode cX10_pack 120 = .ok (.aload_n 0, 1) := by decide +kernel
theorem dX10_pack_121 : decode cX10_pack 121 = .ok (.aload 5, 2) := by decide +kernel
theorem dX10_pack_123 : decode cX10_pack 123 = .ok (.getfield 292, 3) := by decide +kernel
theorem dX10_pack_126 : decode cX10_pack 126 = .ok (.invokevirtual 293, 3) := by decide +kernel
theorem dX10_pack_129 : decode cX10_pack 129 = .ok (.putfield 297, 3) := by decide +kernel
theorem dX10_pack_132 : decode cX10_pack 132 = .ok (.aload_n 0, 1) := by decide +kernel
theorem dX10_pack_133 : decode cX10_pack 133 = .ok (.getfield 29, 3) := by decide +kernel
theorem dX10_pack_136 : decode cX10_pack 136 = .ok (.aload_n 0, 1) := by decide +kernel
theorem dX10_pack_137 : decode cX10_pack 137 = .ok (.getfield 263, 3) := by decide +kernel
theorem dX10_pack_140 : decode cX10_pack 140 = .ok (.aload 5, 2) := by decide +kernel
theorem dX10_pack_142 : decode cX10_pack 142 = .ok (.aastore, 1) := by decide +kernel
theorem dX10_pack_143 : decode cX10_pack 143 = .ok (.aload_n 0, 1) := by decide +kernel
theorem dX10_pack_144 : decode cX10_pack 144 = .ok (.dup, 1) := by decide +kernel
theorem dX10_pack_145 : decode cX10_pack 145 = .ok (.getfield 263, 3) := by decide +kernel
theorem dX10_pack_148 : decode cX10_pack 148 = .ok (.iconst 1, 1) := by decide +kernel
theorem dX10_pack_149 : decode cX10_pack 149 = .ok (.iadd, 1) := by decide +kernel
theorem dX10_pack_150 : decode cX10_pack 150 = .ok (.putfield 263, 3) := by decide +kernel
theorem dX10_pack_153 : decode cX10_pack 153 = .ok (.aload_n 0, 1) := by decide +kernel
theorem dX10_pack_154 : decode cX10_pack 154 = .ok (.getfield 263, 3) := by decide +kernel
theorem dX10_pack_157 : decode cX10_pack 157 = .ok (.iconst 1, 1) := by decide +kernel
theorem dX10_pack_158 : decode cX10_pack 158 = .ok (.isub, 1) := by decide +kernel
theorem dX10_pack_159 : decode cX10_pack 159 = .ok (.ireturn, 1) := by decide +kernel
theorem dX10_would_0 : decode cX10_would 0 = .ok (.iload_n 1, 1) := by decide +kernel
theorem dX10_would_1 : decode cX10_would 1 = .ok (.iload_n 2, 1) := by decide +kernel
theorem dX10_would_2 : decode cX10_would 2 = .ok (.iload_n 3, 1) := by decide +kernel
theorem dX10_would_3 : decode cX10_would 3 = .ok (.invokestatic 260, 3) := by decide +kernel
theorem dX10_would_6 : decode cX10_would 6 = .ok (.ifCond .ne 5, 3) := by decide +kernel
theorem dX10_would_9 : decode cX10_would 9 = .ok (.iconst (-1), 1) := by decide +kernel
theorem dX10_would_10 : decode cX10_would 10 = .ok (.ireturn, 1) := by decide +kernel
theorem dX10_would_11 : decode cX10_would 11 = .ok (.aload_n 0, 1) := by decide +kernel
theorem dX10_would_12 : decode cX10_would 12 = .ok (.aload_n 0, 1) := by decide +kernel
theorem dX10_would_13 : decode cX10_would 13 = .ok (.getfield 33, 3) := by decide +kernel
theorem dX10_would_16 : decode cX10_would 16 = .ok (.iload_n 1, 1) := by decide +kernel
theorem dX10_would_17 : decode cX10_would 17 = .ok (.invokevirtual 266, 3) := by decide +kernel
theorem dX10_would_20 : decode cX10_would 20 = .ok (.iload 4, 2) := by decide +kernel
theorem dX10_would_22 : decode cX10_would 22 = .ok (.tableswitch 115 0 4 #[34, 60, 85, 93, 107], 34) := by decide +kernel
theorem dX10_would_56 : decode cX10_would 56 = .ok (.aload_n 0, 1) := by decide +kernel
theorem dX10_would_57 : decode cX10_would 57 = .ok (.getfield 64, 3) := by decide +kernel
theorem dX10_would_60 : decode cX10_would 60 = .ok (.iload_n 2, 1) := by decide +kernel
theorem dX10_would_61 : decode cX10_would 61 = .ok (.iload_n 3, 1) := by decide +kernel
theorem dX10_would_62 : decode cX10_would 62 = .ok (.invokevirtual 269, 3) := by decide +kernel
theorem dX10_would_65 : decode cX10_would 65 = .ok (.istore 5, 2) := by decide +kernel
theorem dX10_would_67 : decode cX10_would 67 = .ok (.iload 5, 2) := by decide +kernel
theorem dX10_would_69 : decode cX10_would 69 = .ok (.iconst (-1), 1) := by decide +kernel
theorem dX10_would_70 : decode cX10_would 70 = .ok (.if_icmp .ne 7, 3) := by decide +kernel
theorem dX10_would_73 : decode cX10_would 73 = .ok (.iconst (-1), 1) := by decide +kernel
theorem dX10_would_74 : decode cX10_would 74 = .ok (.goto 7, 3) := by decide +kernel
theorem dX10_would_77 : decode cX10_would 77 = .ok (.iload 5, 2) := by decide +kernel
theorem dX10_would_79 : decode cX10_would 79 = .ok (.iload_n 2, 1) := by decide +kernel
theorem dX10_would_80 : decode cX10_would 80 = .ok (.isub, 1) := by decide +kernel
theorem dX10_would_81 : decode cX10_would 81 = .ok (.ireturn, 1) := by decide +kernel
theorem dX10_would_82 : decode cX10_would 82 = .ok (.aload_n 0, 1) := by decide +kernel
theorem dX10_would_83 : decode cX10_would 83 = .ok (.getfield 64, 3) := by decide +kernel
theorem dX10_would_86 : decode cX10_would 86 = .ok (.iload_n 2, 1) := by decide +kernel
theorem dX10_would_87 : decode cX10_would 87 = .ok (.iload_n 3, 1) := by decide +kernel
theorem dX10_would_88 : decode cX10_would 88 = .ok (.invokevirtual 269, 3) := by decide +kernel
theorem dX10_would_91 : decode cX10_would 91 = .ok (.iconst (-1), 1) := by decide +kernel
theorem dX10_would_92 : decode cX10_would 92 = .ok (.if_icmp .ne 7, 3) := by decide +kernel
theorem dX10_would_95 : decode cX10_would 95 = .ok (.iconst (-1), 1) := by decide +kernel
theorem dX10_would_96 : decode cX10_would 96 = .ok (.goto 10, 3) := by decide +kernel
theorem dX10_would_99 : decode cX10_would 99 = .ok (.aload_n 0, 1) := by decide +kernel
theorem dX10_would_100 : decode cX10_would 100 = .ok (.getfield 64, 3) := by decide +kernel
theorem dX10_would_103 : decode cX10_would 103 = .ok (.invokevirtual 272, 3) := by decide +kernel
theorem dX10_would_106 : decode cX10_would 106 = .ok (.ireturn, 1) := by decide +kernel
theorem dX10_would_107 : decode cX10_would 107 = .ok (.aload_n 0, 1) := by decide +kernel
theorem dX10_would_108 : decode cX10_would 108 = .ok (.iload_n 1, 1) := by decide +kernel
theorem dX10_would_109 : decode cX10_would 109 = .ok (.iload_n 2, 1) := by decide +kernel
theorem dX10_would_110 : decode cX10_would 110 = .ok (.iload_n 3, 1) := by decide +kernel
theorem dX10_would_111 : decode cX10_would 111 = .ok (.invokevirtual 300, 3) := by decide +kernel
theorem dX10_would_114 : decode cX10_would 114 = .ok (.ireturn, 1) := by decide +kernel
theorem dX10_would_115 : decode cX10_would 115 = .ok (.aload_n 0, 1) := by decide +kernel
theorem dX10_would_116 : decode cX10_would 116 = .ok (.getfield 71, 3) := by decide +kernel
theorem dX10_would_119 : decode cX10_would 119 = .ok (.aload_n 0, 1) := by decide +kernel
theorem dX10_would_120 : decode cX10_would 120 = .ok (.getfield 64, 3) := by decide +kernel
theorem dX10_would_123 : decode cX10_would 123 = .ok (.iload_n 2, 1) := by decide +kernel
theorem dX10_would_124 : decode cX10_would 124 = .ok (.iload_n 3, 1) := by decide +kernel
theorem dX10_would_125 : decode cX10_would 125 = .ok (.invokevirtual 304, 3) := by decide +kernel
theorem dX10_would_128 : decode cX10_would 128 = .ok (.ireturn, 1) := by decide +kernel
theorem dX10_would_129 : decode cX10_would 129 = .ok (.aload_n 0, 1) := by decide +kernel
theorem dX10_would_130 : decode cX10_would 130 = .ok (.getfield 64, 3) := by decide +kernel
theorem dX10_would_133 : decode cX10_would 133 = .ok (.getfield 279, 3) := by decide +kernel
theorem dX10_would_136 : decode cX10_would 136 = .ok (.ireturn, 1) := by decide +kernel
theorem dX10_would_137 : decode cX10_would 137 = .ok (.iconst (-1), 1) := by decide +kernel
theorem dX10_would_138 : decode cX10_would 138 = .ok (.ireturn, 1) := by decide +kernel
theorem dX10_boxOf_0 : decode cX10_boxOf 0 = .ok (.aload_n 0, 1) := by decide +kernel
theorem dX10_boxOf_1 : decode cX10_boxOf 1 = .ok (.iload_n 1, 1) := by decide +kernel
theorem dX10_boxOf_2 : decode cX10_boxOf 2 = .ok (.invokevirtual 308, 3) := by decide +kernel
theorem dX10_boxOf_5 : decode cX10_boxOf 5 = .ok (.astore_n 3, 1) := by decide +kernel
theorem dX10_boxOf_6 : decode cX10_boxOf 6 = .ok (.aload_n 3, 1) := by decide +kernel
theorem dX10_boxOf_7 : decode cX10_boxOf 7 = .ok (.ifnonnull 7, 3) := by decide +kernel
theorem dX10_boxOf_10 : decode cX10_boxOf 10 = .ok (.iconst (-1), 1) := by decide +kernel
theorem dX10_boxOf_11 : decode cX10_boxOf 11 = .ok (.goto 8, 3) := by decide +kernel
theorem dX10_boxOf_14 : decode cX10_boxOf 14 = .ok (.aload_n 3, 1) := by decide +kernel
theorem dX10_boxOf_15 : decode cX10_boxOf 15 = .ok (.iload_n 2, 1) := by decide +kernel
theorem dX10_boxOf_16 : decode cX10_boxOf 16 = .ok (.invokevirtual 312, 3) := by decide +kernel
theorem dX10_boxOf_19 : decode cX10_boxOf 19 = .ok (.ireturn, 1) := by decide +kernel
theorem dX10_wash_0 : decode cX10_wash 0 = .ok (.iload_n 1, 1) := by decide +kernel
theorem dX10_wash_1 : decode cX10_wash 1 = .ok (.invokestatic 93, 3) := by decide +kernel
theorem dX10_wash_4 : decode cX10_wash 4 = .ok (.ifCond .eq 21, 3) := by decide +kernel
theorem dX10_wash_7 : decode cX10_wash 7 = .ok (.iload_n 2, 1) := by decide +kernel
theorem dX10_wash_8 : decode cX10_wash 8 = .ok (.invokestatic 93, 3) := by decide +kernel
theorem dX10_wash_11 : decode cX10_wash 11 = .ok (.ifCond .eq 14, 3) := by decide +kernel
theorem dX10_wash_14 : decode cX10_wash 14 = .ok (.iload_n 3, 1) := by decide +kernel
theorem dX10_wash_15 : decode cX10_wash 15 = .ok (.iconst 0, 1) := by decide +kernel
theorem dX10_wash_16 : decode cX10_wash 16 = .ok (.sipush 600, 3) := by decide +kernel
theorem dX10_wash_19 : decode cX10_wash 19 = .ok (.invokestatic 82, 3) := by decide +kernel
theorem dX10_wash_22 : decode cX10_wash 22 = .ok (.ifCond .ne 5, 3) := by decide +kernel
theorem dX10_wash_25 : decode cX10_wash 25 = .ok (.iconst 0, 1) := by decide +kernel
theorem dX10_wash_26 : decode cX10_wash 26 = .ok (.ireturn, 1) := by decide +kernel
theorem dX10_wash_27 : decode cX10_wash 27 = .ok (.aload_n 0, 1) := by decide +kernel
theorem dX10_wash_28 : decode cX10_wash 28 = .ok (.getfield 57, 3) := by decide +kernel
theorem dX10_wash_31 : decode cX10_wash 31 = .ok (.iload_n 1, 1) := by decide +kernel
theorem dX10_wash_32 : decode cX10_wash 32 = .ok (.iload_n 2, 1) := by decide +kernel
theorem dX10_wash_33 : decode cX10_wash 33 = .ok (.iload_n 3, 1) := by decide +kernel
theorem dX10_wash_34 : decode cX10_wash 34 = .ok (.invokevirtual 313, 3) := by decide +kernel
theorem dX10_wash_37 : decode cX10_wash 37 = .ok (.iconst 1, 1) := by decide +kernel
theorem dX10_wash_38 : decode cX10_wash 38 = .ok (.ireturn, 1) := by decide +kernel
theorem dX10_queue_0 : decode cX10_queue 0 = .ok (.iload_n 1, 1) := by decide +kernel
theorem dX10_queue_1 : decode cX10_queue 1 = .ok (.iconst (-1), 1) := by decide +kernel
theorem dX10_queue_2 : decode cX10_queue 2 = .ok (.if_icmp .ne 12, 3) := by decide +kernel
theorem dX10_queue_5 : decode cX10_queue 5 = .ok (.aload_n 0, 1) := by decide +kernel
theorem dX10_queue_6 : decode cX10_queue 6 = .ok (.getfield 57, 3) := by decide +kernel
theorem dX10_queue_9 : decode cX10_queue 9 = .ok (.invokevirtual 316, 3) := by decide +kernel
theorem dX10_queue_12 : decode cX10_queue 12 = .ok (.iconst 0, 1) := by decide +kernel
theorem dX10_queue_13 : decode cX10_queue 13 = .ok (.ireturn, 1) := by decide +kernel
theorem dX10_queue_14 : decode cX10_queue 14 = .ok (.aload_n 0, 1) := by decide +kernel
theorem dX10_queue_15 : decode cX10_queue 15 = .ok (.iload_n 1, 1) := by decide +kernel
theorem dX10_queue_16 : decode cX10_queue 16 = .ok (.invokevirtual 173, 3) := by decide +kernel
theorem dX10_queue_19 : decode cX10_queue 19 = .ok (.astore_n 2, 1) := by decide +kernel
theorem dX10_queue_20 : decode cX10_queue 20 = .ok (.aload_n 2, 1) := by decide +kernel
theorem dX10_queue_21 : decode cX10_queue 21 = .ok (.ifnonnull 7, 3) := by decide +kernel
theorem dX10_queue_24 : decode cX10_queue 24 = .ok (.iconst (-1), 1) := by decide +kernel
theorem dX10_queue_25 : decode cX10_queue 25 = .ok (.goto 15, 3) := by decide +kernel
theorem dX10_queue_28 : decode cX10_queue 28 = .ok (.aload_n 0, 1) := by decide +kernel
theorem dX10_queue_29 : decode cX10_queue 29 = .ok (.getfield 57, 3) := by decide +kernel
theorem dX10_queue_32 : decode cX10_queue 32 = .ok (.iload_n 1, 1) := by decide +kernel
theorem dX10_queue_33 : decode cX10_queue 33 = .ok (.aload_n 2, 1) := by decide +kernel
theorem dX10_queue_34 : decode cX10_queue 34 = .ok (.getfield 198, 3) := by decide +kernel
theorem dX10_queue_37 : decode cX10_queue 37 = .ok (.invokevirtual 319, 3) := by decide +kernel
theorem dX10_queue_40 : decode cX10_queue 40 = .ok (.ireturn, 1) := by decide +kernel
theorem dX10_order_0 : decode cX10_order 0 = .ok (.aload_n 0, 1) := by decide +kernel
theorem dX10_order_1 : decode cX10_order 1 = .ok (.getfield 57, 3) := by decide +kernel
theorem dX10_order_4 : decode cX10_order 4 = .ok (.iload_n 1, 1) := by decide +kernel
theorem dX10_order_5 : decode cX10_order 5 = .ok (.invokevirtual 322, 3) := by decide +kernel
theorem dX10_order_8 : decode cX10_order 8 = .ok (.iload_n 2, 1) := by decide +kernel
theorem dX10_order_9 : decode cX10_order 9 = .ok (.iconst (-1), 1) := by decide +kernel
theorem dX10_order_10 : decode cX10_order 10 = .ok (.if_icmp .ne 11, 3) := by decide +kernel
theorem dX10_order_13 : decode cX10_order 13 = .ok (.aload_n 0, 1) := by decide +kernel
theorem dX10_order_14 : decode cX10_order 14 = .ok (.getfield 57, 3) := by decide +kernel
theorem dX10_order_17 : decode cX10_order 17 = .ok (.getfield 326, 3) := by decide +kernel
theorem dX10_order_20 : decode cX10_order 20 = .ok (.ireturn, 1) := by decide +kernel
theorem dX10_order_21 : decode cX10_order 21 = .ok (.iload_n 2, 1) := by decide +kernel
theorem dX10_order_22 : decode cX10_order 22 = .ok (.iconst 0, 1) := by decide +kernel
theorem dX10_order_23 : decode cX10_order 23 = .ok (.aload_n 0, 1) := by decide +kernel
theorem dX10_order_24 : decode cX10_order 24 = .ok (.getfield 57, 3) := by decide +kernel
theorem dX10_order_27 : decode cX10_order 27 = .ok (.getfield 329, 3) := by decide +kernel
theorem dX10_order_30 : decode cX10_order 30 = .ok (.iconst 1, 1) := by decide +kernel
theorem dX10_order_31 : decode cX10_order 31 = .ok (.isub, 1) := by decide +kernel
theorem dX10_order_32 : decode cX10_order 32 = .ok (.invokestatic 82, 3) := by decide +kernel
theorem dX10_order_35 : decode cX10_order 35 = .ok (.ifCond .eq 15, 3) := by decide +kernel
theorem dX10_order_38 : decode cX10_order 38 = .ok (.aload_n 0, 1) := by decide +kernel
theorem dX10_order_39 : decode cX10_order 39 = .ok (.getfield 57, 3) := by decide +kernel
theorem dX10_order_42 : decode cX10_order 42 = .ok (.getfield 330, 3) := by decide +kernel
theorem dX10_order_45 : decode cX10_order 45 = .ok (.iload_n 2, 1) := by decide +kernel
theorem dX10_order_46 : decode cX10_order 46 = .ok (.iaload, 1) := by decide +kernel
theorem dX10_order_47 : decode cX10_order 47 = .ok (.goto 4, 3) := by decide +kernel
theorem dX10_order_50 : decode cX10_order 50 = .ok (.iconst (-1), 1) := by decide +kernel
theorem dX10_order_51 : decode cX10_order 51 = .ok (.ireturn, 1) := by decide +kernel
theorem dX10_recall_0 : decode cX10_recall 0 = .ok (.aload_n 0, 1) := by decide +kernel
theorem dX10_recall_1 : decode cX10_recall 1 = .ok (.iload_n 1, 1) := by decide +kernel
theorem dX10_recall_2 : decode cX10_recall 2 = .ok (.invokevirtual 107, 3) := by decide +kernel
theorem dX10_recall_5 : decode cX10_recall 5 = .ok (.ifnull 12, 3) := by decide +kernel
theorem dX10_recall_8 : decode cX10_recall 8 = .ok (.iload_n 2, 1) := by decide +kernel
theorem dX10_recall_9 : decode cX10_recall 9 = .ok (.iconst 0, 1) := by decide +kernel
theorem dX10_recall_10 : decode cX10_recall 10 = .ok (.iconst 2, 1) := by decide +kernel
theorem dX10_recall_11 : decode cX10_recall 11 = .ok (.invokestatic 82, 3) := by decide +kernel
theorem dX10_recall_14 : decode cX10_recall 14 = .ok (.ifCond .ne 5, 3) := by decide +kernel
theorem dX10_recall_17 : decode cX10_recall 17 = .ok (.iconst (-1), 1) := by decide +kernel
theorem dX10_recall_18 : decode cX10_recall 18 = .ok (.ireturn, 1) := by decide +kernel
theorem dX10_recall_19 : decode cX10_recall 19 = .ok (.iload_n 2, 1) := by decide +kernel
theorem dX10_recall_20 : decode cX10_recall 20 = .ok (.ifCond .ne 10, 3) := by decide +kernel
theorem dX10_recall_23 : decode cX10_recall 23 = .ok (.aload_n 0, 1) := by decide +kernel
theorem dX10_recall_24 : decode cX10_recall 24 = .ok (.getfield 97, 3) := by decide +kernel
theorem dX10_recall_27 : decode cX10_recall 27 = .ok (.goto 19, 3) := by decide +kernel
theorem dX10_recall_30 : decode cX10_recall 30 = .ok (.iload_n 2, 1) := by decide +kernel
theorem dX10_recall_31 : decode cX10_recall 31 = .ok (.iconst 1, 1) := by decide +kernel
theorem dX10_recall_32 : decode cX10_recall 32 = .ok (.if_icmp .ne 10, 3) := by decide +kernel
theorem dX10_recall_35 : decode cX10_recall 35 = .ok (.aload_n 0, 1) := by decide +kernel
theorem dX10_recall_36 : decode cX10_recall 36 = .ok (.getfield 214, 3) := by decide +kernel
theorem dX10_recall_39 : decode cX10_recall 39 = .ok (.goto 7, 3) := by decide +kernel
theorem dX10_recall_42 : decode cX10_recall 42 = .ok (.aload_n 0, 1) := by decide +kernel
theorem dX10_recall_43 : decode cX10_recall 43 = .ok (.getfield 263, 3) := by decide +kernel
theorem dX10_recall_46 : decode cX10_recall 46 = .ok (.istore 4, 2) := by decide +kernel
theorem dX10_recall_48 : decode cX10_recall 48 = .ok (.iconst 0, 1) := by decide +kernel
theorem dX10_recall_49 : decode cX10_recall 49 = .ok (.istore 5, 2) := by decide +kernel
theorem dX10_recall_51 : decode cX10_recall 51 = .ok (.iconst 0, 1) := by decide +kernel
theorem dX10_recall_52 : decode cX10_recall 52 = .ok (.istore 6, 2) := by decide +kernel
theorem dX10_recall_54 : decode cX10_recall 54 = .ok (.iload 6, 2) := by decide +kernel
theorem dX10_recall_56 : decode cX10_recall 56 = .ok (.iload 4, 2) := by decide +kernel
theorem dX10_recall_58 : decode cX10_recall 58 = .ok (.if_icmp .ge 37, 3) := by decide +kernel
theorem dX10_recall_61 : decode cX10_recall 61 = .ok (.aload_n 0, 1) := by decide +kernel
theorem dX10_recall_62 : decode cX10_recall 62 = .ok (.iload_n 2, 1) := by decide +kernel
theorem dX10_recall_63 : decode cX10_recall 63 = .ok (.iload 6, 2) := by decide +kernel
theorem dX10_recall_65 : decode cX10_recall 65 = .ok (.invokevirtual 333, 3) := by decide +kernel
theorem dX10_recall_68 : decode cX10_recall 68 = .ok (.iload_n 1, 1) := by decide +kernel
theorem dX10_recall_69 : decode cX10_recall 69 = .ok (.lshr, 1) := by decide +kernel
theorem dX10_recall_70 : decode cX10_recall 70 = .ok (.lconst 1, 1) := by decide +kernel
theorem dX10_recall_71 : decode cX10_recall 71 = .ok (.land, 1) := by decide +kernel
theorem dX10_recall_72 : decode cX10_recall 72 = .ok (.lconst 0, 1) := by decide +kernel
theorem dX10_recall_73 : decode cX10_recall 73 = .ok (.lcmp, 1) := by decide +kernel
theorem dX10_recall_74 : decode cX10_recall 74 = .ok (.ifCond .eq 15, 3) := by decide +kernel
theorem dX10_recall_77 : decode cX10_recall 77 = .ok (.iload 5, 2) := by decide +kernel
theorem dX10_recall_79 : decode cX10_recall 79 = .ok (.iload_n 3, 1) := by decide +kernel
theorem dX10_recall_80 : decode cX10_recall 80 = .ok (.if_icmp .ne 6, 3) := by decide +kernel
theorem dX10_recall_83 : decode cX10_recall 83 = .ok (.iload 6, 2) := by decide +kernel
theorem dX10_recall_85 : decode cX10_recall 85 = .ok (.ireturn, 1) := by decide +kernel
theorem dX10_recall_86 : decode cX10_recall 86 = .ok (.iinc 5 1, 3) := by decide +kernel
theorem dX10_recall_89 : decode cX10_recall 89 = .ok (.iinc 6 1, 3) := by decide +kernel
theorem dX10_recall_92 : decode cX10_recall 92 = .ok (.goto (-38), 3) := by decide +kernel
theorem dX10_recall_95 : decode cX10_recall 95 = .ok (.iconst (-1), 1) := by decide +kernel
theorem dX10_recall_96 : decode cX10_recall 96 = .ok (.ireturn, 1) := by decide +kernel
theorem dX10_about_0 : decode cX10_about 0 = .ok (.iload_n 1, 1) := by decide +kernel
theorem dX10_about_1 : decode cX10_about 1 = .ok (.tableswitch 84 0 6 #[43, 48, 53, 58, 63, 71, 79], 43) := by decide +kernel
theorem dX10_about_44 : decode cX10_about 44 = .ok (.aload_n 0, 1) := by decide +kernel
theorem dX10_about_45 : decode cX10_about 45 = .ok (.getfield 86, 3) := by decide +kernel
theorem dX10_about_48 : decode cX10_about 48 = .ok (.ireturn, 1) := by decide +kernel
theorem dX10_about_49 : decode cX10_about 49 = .ok (.aload_n 0, 1) := by decide +kernel
theorem dX10_about_50 : decode cX10_about 50 = .ok (.getfield 97, 3) := by decide +kernel
theorem dX10_about_53 : decode cX10_about 53 = .ok (.ireturn, 1) := by decide +kernel
theorem dX10_about_54 : decode cX10_about 54 = .ok (.aload_n 0, 1) := by decide +kernel
theorem dX10_about_55 : decode cX10_about 55 = .ok (.getfield 214, 3) := by decide +kernel
theorem dX10_about_58 : decode cX10_about 58 = .ok (.ireturn, 1) := by decide +kernel
theorem dX10_about_59 : decode cX10_about 59 = .ok (.aload_n 0, 1) := by decide +kernel
theorem dX10_about_60 : decode cX10_about 60 = .ok (.getfield 263, 3) := by decide +kernel
theorem dX10_about_63 : decode cX10_about 63 = .ok (.ireturn, 1) := by decide +kernel
theorem dX10_about_64 : decode cX10_about 64 = .ok (.aload_n 0, 1) := by decide +kernel
theorem dX10_about_65 : decode cX10_about 65 = .ok (.getfield 43, 3) := by decide +kernel
theorem dX10_about_68 : decode cX10_about 68 = .ok (.getfield 337, 3) := by decide +kernel
theorem dX10_about_71 : decode cX10_about 71 = .ok (.ireturn, 1) := by decide +kernel
theorem dX10_about_72 : decode cX10_about 72 = .ok (.aload_n 0, 1) := by decide +kernel
theorem dX10_about_73 : decode cX10_about 73 = .ok (.getfield 57, 3) := by decide +kernel
theorem dX10_about_76 : decode cX10_about 76 = .ok (.getfield 329, 3) := by decide +kernel
theorem dX10_about_79 : decode cX10_about 79 = .ok (.ireturn, 1) := by decide +kernel
theorem dX10_about_80 : decode cX10_about 80 = .ok (.aload_n 0, 1) := by decide +kernel
theorem dX10_about_81 : decode cX10_about 81 = .ok (.invokevirtual 340, 3) := by decide +kernel
theorem dX10_about_84 : decode cX10_about 84 = .ok (.ireturn, 1) := by decide +kernel
theorem dX10_about_85 : decode cX10_about 85 = .ok (.iconst (-1), 1) := by decide +kernel
theorem dX10_about_86 : decode cX10_about 86 = .ok (.ireturn, 1) := by decide +kernel
theorem dX10_left_0 : decode cX10_left 0 = .ok (.aload_n 0, 1) := by decide +kernel
theorem dX10_left_1 : decode cX10_left 1 = .ok (.iload_n 1, 1) := by decide +kernel
theorem dX10_left_2 : decode cX10_left 2 = .ok (.invokevirtual 107, 3) := by decide +kernel
theorem dX10_left_5 : decode cX10_left 5 = .ok (.astore_n 2, 1) := by decide +kernel
theorem dX10_left_6 : decode cX10_left 6 = .ok (.aload_n 2, 1) := by decide +kernel
theorem dX10_left_7 : decode cX10_left 7 = .ok (.ifnonnull 7, 3) := by decide +kernel
theorem dX10_left_10 : decode cX10_left 10 = .ok (.iconst (-1), 1) := by decide +kernel
theorem dX10_left_11 : decode cX10_left 11 = .ok (.goto 7, 3) := by decide +kernel
theorem dX10_left_14 : decode cX10_left 14 = .ok (.aload_n 2, 1) := by decide +kernel
theorem dX10_left_15 : decode cX10_left 15 = .ok (.getfield 111, 3) := by decide +kernel
theorem dX10_left_18 : decode cX10_left 18 = .ok (.ireturn, 1) := by decide +kernel
theorem dX10_within_0 : decode cX10_within 0 = .ok (.iload_n 0, 1) := by decide +kernel
theorem dX10_within_1 : decode cX10_within 1 = .ok (.iload_n 1, 1) := by decide +kernel
theorem dX10_within_2 : decode cX10_within 2 = .ok (.if_icmp .lt 12, 3) := by decide +kernel
theorem dX10_within_5 : decode cX10_within 5 = .ok (.iload_n 0, 1) := by decide +kernel
theorem dX10_within_6 : decode cX10_within 6 = .ok (.iload_n 2, 1) := by decide +kernel
theorem dX10_within_7 : decode cX10_within 7 = .ok (.if_icmp .gt 7, 3) := by decide +kernel
theorem dX10_within_10 : decode cX10_within 10 = .ok (.iconst 1, 1) := by decide +kernel
theorem dX10_within_11 : decode cX10_within 11 = .ok (.goto 4, 3) := by decide +kernel
theorem dX10_within_14 : decode cX10_within 14 = .ok (.iconst 0, 1) := by decide +kernel
theorem dX10_within_15 : decode cX10_within 15 = .ok (.ireturn, 1) := by decide +kernel
theorem dX10_isKind_0 : decode cX10_isKind 0 = .ok (.iload_n 0, 1) := by decide +kernel
theorem dX10_isKind_1 : decode cX10_isKind 1 = .ok (.iconst 0, 1) := by decide +kernel
theorem dX10_isKind_2 : decode cX10_isKind 2 = .ok (.iconst 5, 1) := by decide +kernel
theorem dX10_isKind_3 : decode cX10_isKind 3 = .ok (.invokestatic 82, 3) := by decide +kernel
theorem dX10_isKind_6 : decode cX10_isKind 6 = .ok (.ireturn, 1) := by decide +kernel
theorem dX10_isCut_0 : decode cX10_isCut 0 = .ok (.iload_n 0, 1) := by decide +kernel
theorem dX10_isCut_1 : decode cX10_isCut 1 = .ok (.iconst 3, 1) := by decide +kernel
theorem dX10_isCut_2 : decode cX10_isCut 2 = .ok (.if_icmp .eq 8, 3) := by decide +kernel
theorem dX10_isCut_5 : decode cX10_isCut 5 = .ok (.iload_n 0, 1) := by decide +kernel
theorem dX10_isCut_6 : decode cX10_isCut 6 = .ok (.iconst 4, 1) := by decide +kernel
theorem dX10_isCut_7 : decode cX10_isCut 7 = .ok (.if_icmp .ne 7, 3) := by decide +kernel
theorem dX10_isCut_10 : decode cX10_isCut 10 = .ok (.iconst 1, 1) := by decide +kernel
theorem dX10_isCut_11 : decode cX10_isCut 11 = .ok (.goto 4, 3) := by decide +kernel
theorem dX10_isCut_14 : decode cX10_isCut 14 = .ok (.iconst 0, 1) := by decide +kernel
theorem dX10_isCut_15 : decode cX10_isCut 15 = .ok (.ireturn, 1) := by decide +kernel
theorem dX10_canBeAsked_0 : decode cX10_canBeAsked 0 = .ok (.iload_n 0, 1) := by decide +kernel
theorem dX10_canBeAsked_1 : decode cX10_canBeAsked 1 = .ok (.iconst 1, 1) := by decide +kernel
theorem dX10_canBeAsked_2 : decode cX10_canBeAsked 2 = .ok (.bipush 15, 2) := by decide +kernel
theorem dX10_canBeAsked_4 : decode cX10_canBeAsked 4 = .ok (.invokestatic 82, 3) := by decide +kernel
theorem dX10_canBeAsked_7 : decode cX10_canBeAsked 7 = .ok (.ifCond .eq 29, 3) := by decide +kernel
theorem dX10_canBeAsked_10 : decode cX10_canBeAsked 10 = .ok (.iload_n 1, 1) := by decide +kernel
theorem dX10_canBeAsked_11 : decode cX10_canBeAsked 11 = .ok (.iconst 1, 1) := by decide +kernel
theorem dX10_canBeAsked_12 : decode cX10_canBeAsked 12 = .ok (.sipush 8000, 3) := by decide +kernel
theorem dX10_canBeAsked_15 : decode cX10_canBeAsked 15 = .ok (.invokestatic 82, 3) := by decide +kernel
theorem dX10_canBeAsked_18 : decode cX10_canBeAsked 18 = .ok (.ifCond .eq 18, 3) := by decide +kernel
theorem dX10_canBeAsked_21 : decode cX10_canBeAsked 21 = .ok (.iload_n 2, 1) := by decide +kernel
theorem dX10_canBeAsked_22 : decode cX10_canBeAsked 22 = .ok (.iconst 0, 1) := by decide +kernel
theorem dX10_canBeAsked_23 : decode cX10_canBeAsked 23 = .ok (.sipush 500, 3) := by decide +kernel
theorem dX10_canBeAsked_26 : decode cX10_canBeAsked 26 = .ok (.invokestatic 82, 3) := by decide +kernel
theorem dX10_canBeAsked_29 : decode cX10_canBeAsked 29 = .ok (.ifCond .eq 7, 3) := by decide +kernel
theorem dX10_canBeAsked_32 : decode cX10_canBeAsked 32 = .ok (.iconst 1, 1) := by decide +kernel
theorem dX10_canBeAsked_33 : decode cX10_canBeAsked 33 = .ok (.goto 4, 3) := by decide +kernel
theorem dX10_canBeAsked_36 : decode cX10_canBeAsked 36 = .ok (.iconst 0, 1) := by decide +kernel
theorem dX10_canBeAsked_37 : decode cX10_canBeAsked 37 = .ok (.ireturn, 1) := by decide +kernel
theorem dX10_spotOf_0 : decode cX10_spotOf 0 = .ok (.iload_n 0, 1) := by decide +kernel
theorem dX10_spotOf_1 : decode cX10_spotOf 1 = .ok (.iconst 0, 1) := by decide +kernel
theorem dX10_spotOf_2 : decode cX10_spotOf 2 = .ok (.iconst 5, 1) := by decide +kernel
theorem dX10_spotOf_3 : decode cX10_spotOf 3 = .ok (.invokestatic 82, 3) := by decide +kernel
theorem dX10_spotOf_6 : decode cX10_spotOf 6 = .ok (.ifCond .eq 17, 3) := by decide +kernel
theorem dX10_spotOf_9 : decode cX10_spotOf 9 = .ok (.iload_n 1, 1) := by decide +kernel
theorem dX10_spotOf_10 : decode cX10_spotOf 10 = .ok (.iconst 0, 1) := by decide +kernel
theorem dX10_spotOf_11 : decode cX10_spotOf 11 = .ok (.bipush 23, 2) := by decide +kernel
theorem dX10_spotOf_13 : decode cX10_spotOf 13 = .ok (.invokestatic 82, 3) := by decide +kernel
theorem dX10_spotOf_16 : decode cX10_spotOf 16 = .ok (.ifCond .eq 7, 3) := by decide +kernel
theorem dX10_spotOf_19 : decode cX10_spotOf 19 = .ok (.iconst 1, 1) := by decide +kernel
theorem dX10_spotOf_20 : decode cX10_spotOf 20 = .ok (.goto 4, 3) := by decide +kernel
theorem dX10_spotOf_23 : decode cX10_spotOf 23 = .ok (.iconst 0, 1) := by decide +kernel
theorem dX10_spotOf_24 : decode cX10_spotOf 24 = .ok (.istore_n 2, 1) := by decide +kernel
theorem dX10_spotOf_25 : decode cX10_spotOf 25 = .ok (.iload_n 2, 1) := by decide +kernel
theorem dX10_spotOf_26 : decode cX10_spotOf 26 = .ok (.ifCond .eq 12, 3) := by decide +kernel
theorem dX10_spotOf_29 : decode cX10_spotOf 29 = .ok (.iload_n 0, 1) := by decide +kernel
theorem dX10_spotOf_30 : decode cX10_spotOf 30 = .ok (.bipush 24, 2) := by decide +kernel
theorem dX10_spotOf_32 : decode cX10_spotOf 32 = .ok (.imul, 1) := by decide +kernel
theorem dX10_spotOf_33 : decode cX10_spotOf 33 = .ok (.iload_n 1, 1) := by decide +kernel
theorem dX10_spotOf_34 : decode cX10_spotOf 34 = .ok (.iadd, 1) := by decide +kernel
theorem dX10_spotOf_35 : decode cX10_spotOf 35 = .ok (.goto 4, 3) := by decide +kernel
theorem dX10_spotOf_38 : decode cX10_spotOf 38 = .ok (.iconst (-1), 1) := by decide +kernel
theorem dX10_spotOf_39 : decode cX10_spotOf 39 = .ok (.ireturn, 1) := by decide +kernel
theorem dX10_findLot_0 : decode cX10_findLot 0 = .ok (.iload_n 1, 1) := by decide +kernel
theorem dX10_findLot_1 : decode cX10_findLot 1 = .ok (.iconst 0, 1) := by decide +kernel
theorem dX10_findLot_2 : decode cX10_findLot 2 = .ok (.aload_n 0, 1) := by decide +kernel
theorem dX10_findLot_3 : decode cX10_findLot 3 = .ok (.getfield 86, 3) := by decide +kernel
theorem dX10_findLot_6 : decode cX10_findLot 6 = .ok (.iconst 1, 1) := by decide +kernel
theorem dX10_findLot_7 : decode cX10_findLot 7 = .ok (.isub, 1) := by decide +kernel
theorem dX10_findLot_8 : decode cX10_findLot 8 = .ok (.invokestatic 82, 3) := by decide +kernel
theorem dX10_findLot_11 : decode cX10_findLot 11 = .ok (.ifCond .eq 12, 3) := by decide +kernel
theorem dX10_findLot_14 : decode cX10_findLot 14 = .ok (.aload_n 0, 1) := by decide +kernel
theorem dX10_findLot_15 : decode cX10_findLot 15 = .ok (.getfield 11, 3) := by decide +kernel
theorem dX10_findLot_18 : decode cX10_findLot 18 = .ok (.iload_n 1, 1) := by decide +kernel
theorem dX10_findLot_19 : decode cX10_findLot 19 = .ok (.aaload, 1) := by decide +kernel
theorem dX10_findLot_20 : decode cX10_findLot 20 = .ok (.goto 4, 3) := by decide +kernel
theorem dX10_findLot_23 : decode cX10_findLot 23 = .ok (.aconst_null, 1) := by decide +kernel
theorem dX10_findLot_24 : decode cX10_findLot 24 = .ok (.areturn, 1) := by decide +kernel
theorem dX10_findBatch_0 : decode cX10_findBatch 0 = .ok (.iload_n 1, 1) := by decide +kernel
theorem dX10_findBatch_1 : decode cX10_findBatch 1 = .ok (.iconst 0, 1) := by decide +kernel
theorem dX10_findBatch_2 : decode cX10_findBatch 2 = .ok (.aload_n 0, 1) := by decide +kernel
theorem dX10_findBatch_3 : decode cX10_findBatch 3 = .ok (.getfield 97, 3) := by decide +kernel
theorem dX10_findBatch_6 : decode cX10_findBatch 6 = .ok (.iconst 1, 1) := by decide +kernel
theorem dX10_findBatch_7 : decode cX10_findBatch 7 = .ok (.isub, 1) := by decide +kernel
theorem dX10_findBatch_8 : decode cX10_findBatch 8 = .ok (.invokestatic 82, 3) := by decide +kernel
theorem dX10_findBatch_11 : decode cX10_findBatch 11 = .ok (.ifCond .eq 12, 3) := by decide +kernel
theorem dX10_findBatch_14 : decode cX10_findBatch 14 = .ok (.aload_n 0, 1) := by decide +kernel
theorem dX10_findBatch_15 : decode cX10_findBatch 15 = .ok (.getfield 17, 3) := by decide +kernel
theorem dX10_findBatch_18 : decode cX10_findBatch 18 = .ok (.iload_n 1, 1) := by decide +kernel
theorem dX10_findBatch_19 : decode cX10_findBatch 19 = .ok (.aaload, 1) := by decide +kernel
theorem dX10_findBatch_20 : decode cX10_findBatch 20 = .ok (.goto 4, 3) := by decide +kernel
theorem dX10_findBatch_23 : decode cX10_findBatch 23 = .ok (.aconst_null, 1) := by decide +kernel
theorem dX10_findBatch_24 : decode cX10_findBatch 24 = .ok (.areturn, 1) := by decide +kernel
theorem dX10_findRaw_0 : decode cX10_findRaw 0 = .ok (.aload_n 0, 1) := by decide +kernel
theorem dX10_findRaw_1 : decode cX10_findRaw 1 = .ok (.iload_n 1, 1) := by decide +kernel
theorem dX10_findRaw_2 : decode cX10_findRaw 2 = .ok (.invokevirtual 173, 3) := by decide +kernel
theorem dX10_findRaw_5 : decode cX10_findRaw 5 = .ok (.astore_n 2, 1) := by decide +kernel
theorem dX10_findRaw_6 : decode cX10_findRaw 6 = .ok (.aload_n 2, 1) := by decide +kernel
theorem dX10_findRaw_7 : decode cX10_findRaw 7 = .ok (.ifnull 10, 3) := by decide +kernel
theorem dX10_findRaw_10 : decode cX10_findRaw 10 = .ok (.aload_n 2, 1) := by decide +kernel
theorem dX10_findRaw_11 : decode cX10_findRaw 11 = .ok (.getfield 176, 3) := by decide +kernel
theorem dX10_findRaw_14 : decode cX10_findRaw 14 = .ok (.ifCond .eq 7, 3) := by decide +kernel
theorem dX10_findRaw_17 : decode cX10_findRaw 17 = .ok (.aconst_null, 1) := by decide +kernel
theorem dX10_findRaw_18 : decode cX10_findRaw 18 = .ok (.goto 4, 3) := by decide +kernel
theorem dX10_findRaw_21 : decode cX10_findRaw 21 = .ok (.aload_n 2, 1) := by decide +kernel
theorem dX10_findRaw_22 : decode cX10_findRaw 22 = .ok (.areturn, 1) := by decide +kernel
theorem dX10_findGood_0 : decode cX10_findGood 0 = .ok (.aload_n 0, 1) := by decide +kernel
theorem dX10_findGood_1 : decode cX10_findGood 1 = .ok (.iload_n 1, 1) := by decide +kernel
theorem dX10_findGood_2 : decode cX10_findGood 2 = .ok (.invokevirtual 173, 3) := by decide +kernel
theorem dX10_findGood_5 : decode cX10_findGood 5 = .ok (.astore_n 2, 1) := by decide +kernel
theorem dX10_findGood_6 : decode cX10_findGood 6 = .ok (.aload_n 2, 1) := by decide +kernel
theorem dX10_findGood_7 : decode cX10_findGood 7 = .ok (.ifnull 14, 3) := by decide +kernel
theorem dX10_findGood_10 : decode cX10_findGood 10 = .ok (.aload_n 2, 1) := by decide +kernel
theorem dX10_findGood_11 : decode cX10_findGood 11 = .ok (.aload_n 0, 1) := by decide +kernel
theorem dX10_findGood_12 : decode cX10_findGood 12 = .ok (.getfield 43, 3) := by decide +kernel
theorem dX10_findGood_15 : decode cX10_findGood 15 = .ok (.invokevirtual 183, 3) := by decide +kernel
theorem dX10_findGood_18 : decode cX10_findGood 18 = .ok (.ifCond .eq 7, 3) := by decide +kernel
theorem dX10_findGood_21 : decode cX10_findGood 21 = .ok (.aconst_null, 1) := by decide +kernel
theorem dX10_findGood_22 : decode cX10_findGood 22 = .ok (.goto 4, 3) := by decide +kernel
theorem dX10_findGood_25 : decode cX10_findGood 25 = .ok (.aload_n 2, 1) := by decide +kernel
theorem dX10_findGood_26 : decode cX10_findGood 26 = .ok (.areturn, 1) := by decide +kernel
theorem dX10_findPiece_0 : decode cX10_findPiece 0 = .ok (.iload_n 1, 1) := by decide +kernel
theorem dX10_findPiece_1 : decode cX10_findPiece 1 = .ok (.iconst 0, 1) := by decide +kernel
theorem dX10_findPiece_2 : decode cX10_findPiece 2 = .ok (.aload_n 0, 1) := by decide +kernel
theorem dX10_findPiece_3 : decode cX10_findPiece 3 = .ok (.getfield 214, 3) := by decide +kernel
theorem dX10_findPiece_6 : decode cX10_findPiece 6 = .ok (.iconst 1, 1) := by decide +kernel
theorem dX10_findPiece_7 : decode cX10_findPiece 7 = .ok (.isub, 1) := by decide +kernel
theorem dX10_findPiece_8 : decode cX10_findPiece 8 = .ok (.invokestatic 82, 3) := by decide +kernel
theorem dX10_findPiece_11 : decode cX10_findPiece 11 = .ok (.ifCond .eq 12, 3) := by decide +kernel
theorem dX10_findPiece_14 : decode cX10_findPiece 14 = .ok (.aload_n 0, 1) := by decide +kernel
theorem dX10_findPiece_15 : decode cX10_findPiece 15 = .ok (.getfield 23, 3) := by decide +kernel
theorem dX10_findPiece_18 : decode cX10_findPiece 18 = .ok (.iload_n 1, 1) := by decide +kernel
theorem dX10_findPiece_19 : decode cX10_findPiece 19 = .ok (.aaload, 1) := by decide +kernel
theorem dX10_findPiece_20 : decode cX10_findPiece 20 = .ok (.goto 4, 3) := by decide +kernel
theorem dX10_findPiece_23 : decode cX10_findPiece 23 = .ok (.aconst_null, 1) := by decide +kernel
theorem dX10_findPiece_24 : decode cX10_findPiece 24 = .ok (.areturn, 1) := by decide +kernel
theorem dX10_findUnboxed_0 : decode cX10_findUnboxed 0 = .ok (.aload_n 0, 1) := by decide +kernel
theorem dX10_findUnboxed_1 : decode cX10_findUnboxed 1 = .ok (.iload_n 1, 1) := by decide +kernel
theorem dX10_findUnboxed_2 : decode cX10_findUnboxed 2 = .ok (.invokevirtual 253, 3) := by decide +kernel
theorem dX10_findUnboxed_5 : decode cX10_findUnboxed 5 = .ok (.astore_n 2, 1) := by decide +kernel
theorem dX10_findUnboxed_6 : decode cX10_findUnboxed 6 = .ok (.aload_n 2, 1) := by decide +kernel
theorem dX10_findUnboxed_7 : decode cX10_findUnboxed 7 = .ok (.ifnull 11, 3) := by decide +kernel
theorem dX10_findUnboxed_10 : decode cX10_findUnboxed 10 = .ok (.aload_n 2, 1) := by decide +kernel
theorem dX10_findUnboxed_11 : decode cX10_findUnboxed 11 = .ok (.getfield 247, 3) := by decide +kernel
theorem dX10_findUnboxed_14 : decode cX10_findUnboxed 14 = .ok (.iconst 2, 1) := by decide +kernel
theorem dX10_findUnboxed_15 : decode cX10_findUnboxed 15 = .ok (.if_icmp .ne 7, 3) := by decide +kernel
theorem dX10_findUnboxed_18 : decode cX10_findUnboxed 18 = .ok (.aconst_null, 1) := by decide +kernel
theorem dX10_findUnboxed_19 : decode cX10_findUnboxed 19 = .ok (.goto 4, 3) := by decide +kernel
theorem dX10_findUnboxed_22 : decode cX10_findUnboxed 22 = .ok (.aload_n 2, 1) := by decide +kernel
theorem dX10_findUnboxed_23 : decode cX10_findUnboxed 23 = .ok (.areturn, 1) := by decide +kernel
theorem dX10_findBox_0 : decode cX10_findBox 0 = .ok (.iload_n 1, 1) := by decide +kernel
theorem dX10_findBox_1 : decode cX10_findBox 1 = .ok (.iconst 0, 1) := by decide +kernel
theorem dX10_findBox_2 : decode cX10_findBox 2 = .ok (.aload_n 0, 1) := by decide +kernel
theorem dX10_findBox_3 : decode cX10_findBox 3 = .ok (.getfield 263, 3) := by decide +kernel
theorem dX10_findBox_6 : decode cX10_findBox 6 = .ok (.iconst 1, 1) := by decide +kernel
theorem dX10_findBox_7 : decode cX10_findBox 7 = .ok (.isub, 1) := by decide +kernel
theorem dX10_findBox_8 : decode cX10_findBox 8 = .ok (.invokestatic 82, 3) := by decide +kernel
theorem dX10_findBox_11 : decode cX10_findBox 11 = .ok (.ifCond .eq 12, 3) := by decide +kernel
theorem dX10_findBox_14 : decode cX10_findBox 14 = .ok (.aload_n 0, 1) := by decide +kernel
theorem dX10_findBox_15 : decode cX10_findBox 15 = .ok (.getfield 29, 3) := by decide +kernel
theorem dX10_findBox_18 : decode cX10_findBox 18 = .ok (.iload_n 1, 1) := by decide +kernel
theorem dX10_findBox_19 : decode cX10_findBox 19 = .ok (.aaload, 1) := by decide +kernel
theorem dX10_findBox_20 : decode cX10_findBox 20 = .ok (.goto 4, 3) := by decide +kernel
theorem dX10_findBox_23 : decode cX10_findBox 23 = .ok (.aconst_null, 1) := by decide +kernel
theorem dX10_findBox_24 : decode cX10_findBox 24 = .ok (.areturn, 1) := by decide +kernel
theorem dX10_restartCoats_0 : decode cX10_restartCoats 0 = .ok (.iconst 0, 1) := by decide +kernel
theorem dX10_restartCoats_1 : decode cX10_restartCoats 1 = .ok (.istore_n 1, 1) := by decide +kernel
theorem dX10_restartCoats_2 : decode cX10_restartCoats 2 = .ok (.iload_n 1, 1) := by decide +kernel
theorem dX10_restartCoats_3 : decode cX10_restartCoats 3 = .ok (.aload_n 0, 1) := by decide +kernel
theorem dX10_restartCoats_4 : decode cX10_restartCoats 4 = .ok (.getfield 97, 3) := by decide +kernel
theorem dX10_restartCoats_7 : decode cX10_restartCoats 7 = .ok (.if_icmp .ge 29, 3) := by decide +kernel
theorem dX10_restartCoats_10 : decode cX10_restartCoats 10 = .ok (.aload_n 0, 1) := by decide +kernel
theorem dX10_restartCoats_11 : decode cX10_restartCoats 11 = .ok (.iload_n 1, 1) := by decide +kernel
theorem dX10_restartCoats_12 : decode cX10_restartCoats 12 = .ok (.invokevirtual 173, 3) := by decide +kernel
theorem dX10_restartCoats_15 : decode cX10_restartCoats 15 = .ok (.astore_n 2, 1) := by decide +kernel
theorem dX10_restartCoats_16 : decode cX10_restartCoats 16 = .ok (.aload_n 2, 1) := by decide +kernel
theorem dX10_restartCoats_17 : decode cX10_restartCoats 17 = .ok (.ifnull 13, 3) := by decide +kernel
theorem dX10_restartCoats_20 : decode cX10_restartCoats 20 = .ok (.aload_n 2, 1) := by decide +kernel
theorem dX10_restartCoats_21 : decode cX10_restartCoats 21 = .ok (.iconst 0, 1) := by decide +kernel
theorem dX10_restartCoats_22 : decode cX10_restartCoats 22 = .ok (.putfield 205, 3) := by decide +kernel
theorem dX10_restartCoats_25 : decode cX10_restartCoats 25 = .ok (.aload_n 2, 1) := by decide +kernel
theorem dX10_restartCoats_26 : decode cX10_restartCoats 26 = .ok (.iconst 0, 1) := by decide +kernel
theorem dX10_restartCoats_27 : decode cX10_restartCoats 27 = .ok (.putfield 343, 3) := by decide +kernel
theorem dX10_restartCoats_30 : decode cX10_restartCoats 30 = .ok (.iinc 1 1, 3) := by decide +kernel
theorem dX10_restartCoats_33 : decode cX10_restartCoats 33 = .ok (.goto (-31), 3) := by decide +kernel
theorem dX10_restartCoats_36 : decode cX10_restartCoats 36 = .ok (.return_, 1) := by decide +kernel
theorem dX10_liftFromTray_0 : decode cX10_liftFromTray 0 = .ok (.aload_n 1, 1) := by decide +kernel
theorem dX10_liftFromTray_1 : decode cX10_liftFromTray 1 = .ok (.getfield 247, 3) := by decide +kernel
theorem dX10_liftFromTray_4 : decode cX10_liftFromTray 4 = .ok (.iconst 1, 1) := by decide +kernel
theorem dX10_liftFromTray_5 : decode cX10_liftFromTray 5 = .ok (.if_icmp .ne 41, 3) := by decide +kernel
theorem dX10_liftFromTray_8 : decode cX10_liftFromTray 8 = .ok (.aload_n 1, 1) := by decide +kernel
theorem dX10_liftFromTray_9 : decode cX10_liftFromTray 9 = .ok (.getfield 250, 3) := by decide +kernel
theorem dX10_liftFromTray_12 : decode cX10_liftFromTray 12 = .ok (.iconst 0, 1) := by decide +kernel
theorem dX10_liftFromTray_13 : decode cX10_liftFromTray 13 = .ok (.aload_n 0, 1) := by decide +kernel
theorem dX10_liftFromTray_14 : decode cX10_liftFromTray 14 = .ok (.getfield 33, 3) := by decide +kernel
theorem dX10_liftFromTray_17 : decode cX10_liftFromTray 17 = .ok (.arraylength, 1) := by decide +kernel
theorem dX10_liftFromTray_18 : decode cX10_liftFromTray 18 = .ok (.iconst 1, 1) := by decide +kernel
theorem dX10_liftFromTray_19 : decode cX10_liftFromTray 19 = .ok (.isub, 1) := by decide +kernel
theorem dX10_liftFromTray_20 : decode cX10_liftFromTray 20 = .ok (.invokestatic 82, 3) := by decide +kernel
theorem dX10_liftFromTray_23 : decode cX10_liftFromTray 23 = .ok (.ifCond .eq 23, 3) := by decide +kernel
theorem dX10_liftFromTray_26 : decode cX10_liftFromTray 26 = .ok (.aload_n 0, 1) := by decide +kernel
theorem dX10_liftFromTray_27 : decode cX10_liftFromTray 27 = .ok (.getfield 33, 3) := by decide +kernel
theorem dX10_liftFromTray_30 : decode cX10_liftFromTray 30 = .ok (.aload_n 1, 1) := by decide +kernel
theorem dX10_liftFromTray_31 : decode cX10_liftFromTray 31 = .ok (.getfield 250, 3) := by decide +kernel
theorem dX10_liftFromTray_34 : decode cX10_liftFromTray 34 = .ok (.iconst (-1), 1) := by decide +kernel
theorem dX10_liftFromTray_35 : decode cX10_liftFromTray 35 = .ok (.iastore, 1) := by decide +kernel
theorem dX10_liftFromTray_36 : decode cX10_liftFromTray 36 = .ok (.aload_n 1, 1) := by decide +kernel
theorem dX10_liftFromTray_37 : decode cX10_liftFromTray 37 = .ok (.iconst 0, 1) := by decide +kernel
theorem dX10_liftFromTray_38 : decode cX10_liftFromTray 38 = .ok (.putfield 247, 3) := by decide +kernel
theorem dX10_liftFromTray_41 : decode cX10_liftFromTray 41 = .ok (.aload_n 1, 1) := by decide +kernel
theorem dX10_liftFromTray_42 : decode cX10_liftFromTray 42 = .ok (.iconst (-1), 1) := by decide +kernel
theorem dX10_liftFromTray_43 : decode cX10_liftFromTray 43 = .ok (.putfield 250, 3) := by decide +kernel
theorem dX10_liftFromTray_46 : decode cX10_liftFromTray 46 = .ok (.return_, 1) := by decide +kernel
theorem dX10_gather_0 : decode cX10_gather 0 = .ok (.aload_n 0, 1) := by decide +kernel
theorem dX10_gather_1 : decode cX10_gather 1 = .ok (.getfield 64, 3) := by decide +kernel
theorem dX10_gather_4 : decode cX10_gather 4 = .ok (.iconst 0, 1) := by decide +kernel
theorem dX10_gather_5 : decode cX10_gather 5 = .ok (.putfield 279, 3) := by decide +kernel
theorem dX10_gather_8 : decode cX10_gather 8 = .ok (.iconst 0, 1) := by decide +kernel
theorem dX10_gather_9 : decode cX10_gather 9 = .ok (.istore_n 3, 1) := by decide +kernel
theorem dX10_gather_10 : decode cX10_gather 10 = .ok (.iload_n 3, 1) := by decide +kernel
theorem dX10_gather_11 : decode cX10_gather 11 = .ok (.aload_n 1, 1) := by decide +kernel
theorem dX10_gather_12 : decode cX10_gather 12 = .ok (.arraylength, 1) := by decide +kernel
theorem dX10_gather_13 : decode cX10_gather 13 = .ok (.if_icmp .ge 68, 3) := by decide +kernel
theorem dX10_gather_16 : decode cX10_gather 16 = .ok (.aload_n 0, 1) := by decide +kernel
theorem dX10_gather_17 : decode cX10_gather 17 = .ok (.getfield 64, 3) := by decide +kernel
theorem dX10_gather_20 : decode cX10_gather 20 = .ok (.getfield 279, 3) := by decide +kernel
theorem dX10_gather_23 : decode cX10_gather 23 = .ok (.bipush 40, 2) := by decide +kernel
theorem dX10_gather_25 : decode cX10_gather 25 = .ok (.if_icmp .ge 56, 3) := by decide +kernel
theorem dX10_gather_28 : decode cX10_gather 28 = .ok (.aload_n 0, 1) := by decide +kernel
theorem dX10_gather_29 : decode cX10_gather 29 = .ok (.aload_n 1, 1) := by decide +kernel
theorem dX10_gather_30 : decode cX10_gather 30 = .ok (.iload_n 3, 1) := by decide +kernel
theorem dX10_gather_31 : decode cX10_gather 31 = .ok (.iaload, 1) := by decide +kernel
theorem dX10_gather_32 : decode cX10_gather 32 = .ok (.invokevirtual 253, 3) := by decide +kernel
theorem dX10_gather_35 : decode cX10_gather 35 = .ok (.astore 4, 2) := by decide +kernel
theorem dX10_gather_37 : decode cX10_gather 37 = .ok (.aload 4, 2) := by decide +kernel
theorem dX10_gather_39 : decode cX10_gather 39 = .ok (.ifnull 36, 3) := by decide +kernel
theorem dX10_gather_42 : decode cX10_gather 42 = .ok (.aload 4, 2) := by decide +kernel
theorem dX10_gather_44 : decode cX10_gather 44 = .ok (.invokevirtual 349, 3) := by decide +kernel
theorem dX10_gather_47 : decode cX10_gather 47 = .ok (.ifCond .eq 28, 3) := by decide +kernel
theorem dX10_gather_50 : decode cX10_gather 50 = .ok (.iload_n 2, 1) := by decide +kernel
theorem dX10_gather_51 : decode cX10_gather 51 = .ok (.aload 4, 2) := by decide +kernel
theorem dX10_gather_53 : decode cX10_gather 53 = .ok (.invokevirtual 353, 3) := by decide +kernel
theorem dX10_gather_56 : decode cX10_gather 56 = .ok (.ishr, 1) := by decide +kernel
theorem dX10_gather_57 : decode cX10_gather 57 = .ok (.iconst 1, 1) := by decide +kernel
theorem dX10_gather_58 : decode cX10_gather 58 = .ok (.iand, 1) := by decide +kernel
theorem dX10_gather_59 : decode cX10_gather 59 = .ok (.ifCond .eq 16, 3) := by decide +kernel
theorem dX10_gather_62 : decode cX10_gather 62 = .ok (.aload_n 0, 1) := by decide +kernel
theorem dX10_gather_63 : decode cX10_gather 63 = .ok (.getfield 64, 3) := by decide +kernel
theorem dX10_gather_66 : decode cX10_gather 66 = .ok (.iload_n 3, 1) := by decide +kernel
theorem dX10_gather_67 : decode cX10_gather 67 = .ok (.aload 4, 2) := by decide +kernel
theorem dX10_gather_69 : decode cX10_gather 69 = .ok (.getfield 233, 3) := by decide +kernel
theorem dX10_gather_72 : decode cX10_gather 72 = .ok (.invokevirtual 356, 3) := by decide +kernel
theorem dX10_gather_75 : decode cX10_gather 75 = .ok (.iinc 3 1, 3) := by decide +kernel
theorem dX10_gather_78 : decode cX10_gather 78 = .ok (.goto (-68), 3) := by decide +kernel
theorem dX10_gather_81 : decode cX10_gather 81 = .ok (.return_, 1) := by decide +kernel
theorem dX10_countFull_0 : decode cX10_countFull 0 = .ok (.aload_n 0, 1) := by decide +kernel
theorem dX10_countFull_1 : decode cX10_countFull 1 = .ok (.getfield 33, 3) := by decide +kernel
theorem dX10_countFull_4 : decode cX10_countFull 4 = .ok (.iconst 0, 1) := by decide +kernel
theorem dX10_countFull_5 : decode cX10_countFull 5 = .ok (.aload_n 0, 1) := by decide +kernel
theorem dX10_countFull_6 : decode cX10_countFull 6 = .ok (.getfield 37, 3) := by decide +kernel
theorem dX10_countFull_9 : decode cX10_countFull 9 = .ok (.iconst 0, 1) := by decide +kernel
theorem dX10_countFull_10 : decode cX10_countFull 10 = .ok (.aload_n 0, 1) := by decide +kernel
theorem dX10_countFull_11 : decode cX10_countFull 11 = .ok (.getfield 33, 3) := by decide +kernel
theorem dX10_countFull_14 : decode cX10_countFull 14 = .ok (.arraylength, 1) := by decide +kernel
theorem dX10_countFull_15 : decode cX10_countFull 15 = .ok (.invokestatic 358, 3) := by decide +kernel
theorem dX10_countFull_18 : decode cX10_countFull 18 = .ok (.iconst 0, 1) := by decide +kernel
theorem dX10_countFull_19 : decode cX10_countFull 19 = .ok (.istore 4, 2) := by decide +kernel
theorem dX10_countFull_21 : decode cX10_countFull 21 = .ok (.iload 4, 2) := by decide +kernel
theorem dX10_countFull_23 : decode cX10_countFull 23 = .ok (.aload_n 0, 1) := by decide +kernel
theorem dX10_countFull_24 : decode cX10_countFull 24 = .ok (.getfield 37, 3) := by decide +kernel
theorem dX10_countFull_27 : decode cX10_countFull 27 = .ok (.arraylength, 1) := by decide +kernel
theorem dX10_countFull_28 : decode cX10_countFull 28 = .ok (.if_icmp .ge 84, 3) := by decide +kernel
theorem dX10_countFull_31 : decode cX10_countFull 31 = .ok (.aload_n 0, 1) := by decide +kernel
theorem dX10_countFull_32 : decode cX10_countFull 32 = .ok (.aload_n 0, 1) := by decide +kernel
theorem dX10_countFull_33 : decode cX10_countFull 33 = .ok (.getfield 37, 3) := by decide +kernel
theorem dX10_countFull_36 : decode cX10_countFull 36 = .ok (.iload_n 1, 1) := by decide +kernel
theorem dX10_countFull_37 : decode cX10_countFull 37 = .ok (.invokevirtual 266, 3) := by decide +kernel
theorem dX10_countFull_40 : decode cX10_countFull 40 = .ok (.aload_n 0, 1) := by decide +kernel
theorem dX10_countFull_41 : decode cX10_countFull 41 = .ok (.getfield 64, 3) := by decide +kernel
theorem dX10_countFull_44 : decode cX10_countFull 44 = .ok (.iload_n 2, 1) := by decide +kernel
theorem dX10_countFull_45 : decode cX10_countFull 45 = .ok (.iload_n 3, 1) := by decide +kernel
theorem dX10_countFull_46 : decode cX10_countFull 46 = .ok (.invokevirtual 269, 3) := by decide +kernel
theorem dX10_countFull_49 : decode cX10_countFull 49 = .ok (.iconst (-1), 1) := by decide +kernel
theorem dX10_countFull_50 : decode cX10_countFull 50 = .ok (.if_icmp .ne 6, 3) := by decide +kernel
theorem dX10_countFull_53 : decode cX10_countFull 53 = .ok (.iload 4, 2) := by decide +kernel
theorem dX10_countFull_55 : decode cX10_countFull 55 = .ok (.ireturn, 1) := by decide +kernel
theorem dX10_countFull_56 : decode cX10_countFull 56 = .ok (.iconst 0, 1) := by decide +kernel
theorem dX10_countFull_57 : decode cX10_countFull 57 = .ok (.istore 5, 2) := by decide +kernel
theorem dX10_countFull_59 : decode cX10_countFull 59 = .ok (.iload 5, 2) := by decide +kernel
theorem dX10_countFull_61 : decode cX10_countFull 61 = .ok (.aload_n 0, 1) := by decide +kernel
theorem dX10_countFull_62 : decode cX10_countFull 62 = .ok (.getfield 64, 3) := by decide +kernel
theorem dX10_countFull_65 : decode cX10_countFull 65 = .ok (.getfield 279, 3) := by decide +kernel
theorem dX10_countFull_68 : decode cX10_countFull 68 = .ok (.if_icmp .ge 38, 3) := by decide +kernel
theorem dX10_countFull_71 : decode cX10_countFull 71 = .ok (.aload_n 0, 1) := by decide +kernel
theorem dX10_countFull_72 : decode cX10_countFull 72 = .ok (.getfield 64, 3) := by decide +kernel
theorem dX10_countFull_75 : decode cX10_countFull 75 = .ok (.getfield 282, 3) := by decide +kernel
theorem dX10_countFull_78 : decode cX10_countFull 78 = .ok (.iload 5, 2) := by decide +kernel
theorem dX10_countFull_80 : decode cX10_countFull 80 = .ok (.baload, 1) := by decide +kernel
theorem dX10_countFull_81 : decode cX10_countFull 81 = .ok (.ifCond .eq 19, 3) := by decide +kernel
theorem dX10_countFull_84 : decode cX10_countFull 84 = .ok (.aload_n 0, 1) := by decide +kernel
theorem dX10_countFull_85 : decode cX10_countFull 85 = .ok (.getfield 37, 3) := by decide +kernel
theorem dX10_countFull_88 : decode cX10_countFull 88 = .ok (.aload_n 0, 1) := by decide +kernel
theorem dX10_countFull_89 : decode cX10_countFull 89 = .ok (.getfield 64, 3) := by decide +kernel
theorem dX10_countFull_92 : decode cX10_countFull 92 = .ok (.getfield 285, 3) := by decide +kernel
theorem dX10_countFull_95 : decode cX10_countFull 95 = .ok (.iload 5, 2) := by decide +kernel
theorem dX10_countFull_97 : decode cX10_countFull 97 = .ok (.iaload, 1) := by decide +kernel
theorem dX10_countFull_98 : decode cX10_countFull 98 = .ok (.iconst (-1), 1) := by decide +kernel
theorem dX10_countFull_99 : decode cX10_countFull 99 = .ok (.iastore, 1) := by decide +kernel
theorem dX10_countFull_100 : decode cX10_countFull 100 = .ok (.iinc 5 1, 3) := by decide +kernel
theorem dX10_countFull_103 : decode cX10_countFull 103 = .ok (.goto (-44), 3) := by decide +kernel
theorem dX10_countFull_106 : decode cX10_countFull 106 = .ok (.iinc 4 1, 3) := by decide +kernel
theorem dX10_countFull_109 : decode cX10_countFull 109 = .ok (.goto (-88), 3) := by decide +kernel
theorem dX10_countFull_112 : decode cX10_countFull 112 = .ok (.aload_n 0, 1) := by decide +kernel
theorem dX10_countFull_113 : decode cX10_countFull 113 = .ok (.getfield 37, 3) := by decide +kernel
theorem dX10_countFull_116 : decode cX10_countFull 116 = .ok (.arraylength, 1) := by decide +kernel
theorem dX10_countFull_117 : decode cX10_countFull 117 = .ok (.ireturn, 1) := by decide +kernel
theorem dX10_countFit_0 : decode cX10_countFit 0 = .ok (.iconst 0, 1) := by decide +kernel
theorem dX10_countFit_1 : decode cX10_countFit 1 = .ok (.istore_n 1, 1) := by decide +kernel
theorem dX10_countFit_2 : decode cX10_countFit 2 = .ok (.iconst 0, 1) := by decide +kernel
theorem dX10_countFit_3 : decode cX10_countFit 3 = .ok (.istore_n 2, 1) := by decide +kernel
theorem dX10_countFit_4 : decode cX10_countFit 4 = .ok (.iload_n 2, 1) := by decide +kernel
theorem dX10_countFit_5 : decode cX10_countFit 5 = .ok (.aload_n 0, 1) := by decide +kernel
theorem dX10_countFit_6 : decode cX10_countFit 6 = .ok (.getfield 33, 3) := by decide +kernel
theorem dX10_countFit_9 : decode cX10_countFit 9 = .ok (.arraylength, 1) := by decide +kernel
theorem dX10_countFit_10 : decode cX10_countFit 10 = .ok (.if_icmp .ge 34, 3) := by decide +kernel
theorem dX10_countFit_13 : decode cX10_countFit 13 = .ok (.aload_n 0, 1) := by decide +kernel
theorem dX10_countFit_14 : decode cX10_countFit 14 = .ok (.aload_n 0, 1) := by decide +kernel
theorem dX10_countFit_15 : decode cX10_countFit 15 = .ok (.getfield 33, 3) := by decide +kernel
theorem dX10_countFit_18 : decode cX10_countFit 18 = .ok (.iload_n 2, 1) := by decide +kernel
theorem dX10_countFit_19 : decode cX10_countFit 19 = .ok (.iaload, 1) := by decide +kernel
theorem dX10_countFit_20 : decode cX10_countFit 20 = .ok (.invokevirtual 253, 3) := by decide +kernel
theorem dX10_countFit_23 : decode cX10_countFit 23 = .ok (.astore_n 3, 1) := by decide +kernel
theorem dX10_countFit_24 : decode cX10_countFit 24 = .ok (.aload_n 3, 1) := by decide +kernel
theorem dX10_countFit_25 : decode cX10_countFit 25 = .ok (.ifnull 13, 3) := by decide +kernel
theorem dX10_countFit_28 : decode cX10_countFit 28 = .ok (.aload_n 3, 1) := by decide +kernel
theorem dX10_countFit_29 : decode cX10_countFit 29 = .ok (.invokevirtual 349, 3) := by decide +kernel
theorem dX10_countFit_32 : decode cX10_countFit 32 = .ok (.ifCond .eq 6, 3) := by decide +kernel
theorem dX10_countFit_35 : decode cX10_countFit 35 = .ok (.iinc 1 1, 3) := by decide +kernel
theorem dX10_countFit_38 : decode cX10_countFit 38 = .ok (.iinc 2 1, 3) := by decide +kernel
theorem dX10_countFit_41 : decode cX10_countFit 41 = .ok (.goto (-37), 3) := by decide +kernel
theorem dX10_countFit_44 : decode cX10_countFit 44 = .ok (.iload_n 1, 1) := by decide +kernel
theorem dX10_countFit_45 : decode cX10_countFit 45 = .ok (.ireturn, 1) := by decide +kernel
end
section
theorem dX0_init_0 : decode cX0_init 0 = .ok (.aload_n 0, 1) := by decide +kernel
theorem dX0_init_1 : decode cX0_init 1 = .ok (.invokespecial 3, 3) := by decide +kernel
theorem dX0_init_4 : decode cX0_init 4 = .ok (.aload_n 0, 1) := by decide +kernel
theorem dX0_init_5 : decode cX0_init 5 = .ok (.new 9, 3) := by decide +kernel
theorem dX0_init_8 : decode cX0_init 8 = .ok (.dup, 1) := by decide +kernel
theorem dX0_init_9 : decode cX0_init 9 = .ok (.invokespecial 11, 3) := by decide +kernel
theorem dX0_init_12 : decode cX0_init 12 = .ok (.putfield 12, 3) := by decide +kernel
theorem dX0_init_15 : decode cX0_init 15 = .ok (.aload_n 0, 1) := by decide +kernel
theorem dX0_init_16 : decode cX0_init 16 = .ok (.ldc 18, 2) := by decide +kernel
theorem dX0_init_18 : decode cX0_init 18 = .ok (.putfield 19, 3) := by decide +kernel
theorem dX0_init_21 : decode cX0_init 21 = .ok (.aload_n 0, 1) := by decide +kernel
theorem dX0_init_22 : decode cX0_init 22 = .ok (.iconst (-1), 1) := by decide +kernel
theorem dX0_init_23 : decode cX0_init 23 = .ok (.putfield 23, 3) := by decide +kernel
theorem dX0_init_26 : decode cX0_init 26 = .ok (.aload_n 0, 1) := by decide +kernel
theorem dX0_init_27 : decode cX0_init 27 = .ok (.iconst (-1), 1) := by decide +kernel
theorem dX0_init_28 : decode cX0_init 28 = .ok (.putfield 26, 3) := by decide +kernel
theorem dX0_init_31 : decode cX0_init 31 = .ok (.aload_n 0, 1) := by decide +kernel
theorem dX0_init_32 : decode cX0_init 32 = .ok (.iload_n 1, 1) := by decide +kernel
theorem dX0_init_33 : decode cX0_init 33 = .ok (.putfield 29, 3) := by decide +kernel
theorem dX0_init_36 : decode cX0_init 36 = .ok (.return_, 1) := by decide +kernel
theorem dX7_init_0 : decode cX7_init 0 = .ok (.aload_n 0, 1) := by decide +kernel
theorem dX7_init_1 : decode cX7_init 1 = .ok (.invokespecial 3, 3) := by decide +kernel
theorem dX7_init_4 : decode cX7_init 4 = .ok (.aload_n 0, 1) := by decide +kernel
theorem dX7_init_5 : decode cX7_init 5 = .ok (.bipush 60, 2) := by decide +kernel
theorem dX7_init_7 : decode cX7_init 7 = .ok (.newarray .int, 2) := by decide +kernel
theorem dX7_init_9 : decode cX7_init 9 = .ok (.putfield 9, 3) := by decide +kernel
theorem dX7_init_12 : decode cX7_init 12 = .ok (.aload_n 0, 1) := by decide +kernel
theorem dX7_init_13 : decode cX7_init 13 = .ok (.bipush 60, 2) := by decide +kernel
theorem dX7_init_15 : decode cX7_init 15 = .ok (.newarray .boolean, 2) := by decide +kernel
theorem dX7_init_17 : decode cX7_init 17 = .ok (.putfield 15, 3) := by decide +kernel
theorem dX7_init_20 : decode cX7_init 20 = .ok (.return_, 1) := by decide +kernel
theorem dX4_init_0 : decode cX4_init 0 = .ok (.aload_n 0, 1) := by decide +kernel
theorem dX4_init_1 : decode cX4_init 1 = .ok (.invokespecial 1, 3) := by decide +kernel
theorem dX4_init_4 : decode cX4_init 4 = .ok (.aload_n 0, 1) := by decide +kernel
theorem dX4_init_5 : decode cX4_init 5 = .ok (.iload_n 1, 1) := by decide +kernel
theorem dX4_init_6 : decode cX4_init 6 = .ok (.putfield 7, 3) := by decide +kernel
theorem dX4_init_9 : decode cX4_init 9 = .ok (.aload_n 0, 1) := by decide +kernel
theorem dX4_init_10 : decode cX4_init 10 = .ok (.iload_n 2, 1) := by decide +kernel
theorem dX4_init_11 : decode cX4_init 11 = .ok (.putfield 13, 3) := by decide +kernel
theorem dX4_init_14 : decode cX4_init 14 = .ok (.return_, 1) := by decide +kernel
theorem dX8_init_0 : decode cX8_init 0 = .ok (.aload_n 0, 1) := by decide +kernel
theorem dX8_init_1 : decode cX8_init 1 = .ok (.invokespecial 3, 3) := by decide +kernel
theorem dX8_init_4 : decode cX8_init 4 = .ok (.aload_n 0, 1) := by decide +kernel
theorem dX8_init_5 : decode cX8_init 5 = .ok (.bipush 16, 2) := by decide +kernel
theorem dX8_init_7 : decode cX8_init 7 = .ok (.newarray .int, 2) := by decide +kernel
theorem dX8_init_9 : decode cX8_init 9 = .ok (.putfield 11, 3) := by decide +kernel
theorem dX8_init_12 : decode cX8_init 12 = .ok (.aload_n 0, 1) := by decide +kernel
theorem dX8_init_13 : decode cX8_init 13 = .ok (.bipush 16, 2) := by decide +kernel
theorem dX8_init_15 : decode cX8_init 15 = .ok (.newarray .int, 2) := by decide +kernel
theorem dX8_init_17 : decode cX8_init 17 = .ok (.putfield 15, 3) := by decide +kernel
theorem dX8_init_20 : decode cX8_init 20 = .ok (.aload_n 0, 1) := by decide +kernel
theorem dX8_init_21 : decode cX8_init 21 = .ok (.iconst 0, 1) := by decide +kernel
theorem dX8_init_22 : decode cX8_init 22 = .ok (.putfield 18, 3) := by decide +kernel
theorem dX8_init_25 : decode cX8_init 25 = .ok (.aload_n 0, 1) := by decide +kernel
theorem dX8_init_26 : decode cX8_init 26 = .ok (.iconst (-1), 1) := by decide +kernel
theorem dX8_init_27 : decode cX8_init 27 = .ok (.putfield 22, 3) := by decide +kernel
theorem dX8_init_30 : decode cX8_init 30 = .ok (.aload_n 0, 1) := by decide +kernel
theorem dX8_init_31 : decode cX8_init 31 = .ok (.bipush 6, 2) := by decide +kernel
theorem dX8_init_33 : decode cX8_init 33 = .ok (.newarray .int, 2) := by decide +kernel
theorem dX8_init_35 : decode cX8_init 35 = .ok (.putfield 25, 3) := by decide +kernel
theorem dX8_init_38 : decode cX8_init 38 = .ok (.aload_n 0, 1) := by decide +kernel
theorem dX8_init_39 : decode cX8_init 39 = .ok (.bipush 6, 2) := by decide +kernel
theorem dX8_init_41 : decode cX8_init 41 = .ok (.newarray .int, 2) := by decide +kernel
theorem dX8_init_43 : decode cX8_init 43 = .ok (.putfield 28, 3) := by decide +kernel
theorem dX8_init_46 : decode cX8_init 46 = .ok (.aload_n 0, 1) := by decide +kernel
theorem dX8_init_47 : decode cX8_init 47 = .ok (.getfield 28, 3) := by decide +kernel
theorem dX8_init_50 : decode cX8_init 50 = .ok (.sipush 900, 3) := by decide +kernel
theorem dX8_init_53 : decode cX8_init 53 = .ok (.invokestatic 31, 3) := by decide +kernel
theorem dX8_init_56 : decode cX8_init 56 = .ok (.return_, 1) := by decide +kernel
theorem dX8_addLoss_0 : decode cX8_addLoss 0 = .ok (.aload_n 0, 1) := by decide +kernel
theorem dX8_addLoss_1 : decode cX8_addLoss 1 = .ok (.getfield 37, 3) := by decide +kernel
theorem dX8_addLoss_4 : decode cX8_addLoss 4 = .ok (.ifCond .eq 18, 3) := by decide +kernel
theorem dX8_addLoss_7 : decode cX8_addLoss 7 = .ok (.aload_n 0, 1) := by decide +kernel
theorem dX8_addLoss_8 : decode cX8_addLoss 8 = .ok (.getfield 11, 3) := by decide +kernel
theorem dX8_addLoss_11 : decode cX8_addLoss 11 = .ok (.aload_n 0, 1) := by decide +kernel
theorem dX8_addLoss_12 : decode cX8_addLoss 12 = .ok (.getfield 37, 3) := by decide +kernel
theorem dX8_addLoss_15 : decode cX8_addLoss 15 = .ok (.iconst 1, 1) := by decide +kernel
theorem dX8_addLoss_16 : decode cX8_addLoss 16 = .ok (.isub, 1) := by decide +kernel
theorem dX8_addLoss_17 : decode cX8_addLoss 17 = .ok (.iaload, 1) := by decide +kernel
theorem dX8_addLoss_18 : decode cX8_addLoss 18 = .ok (.iload_n 1, 1) := by decide +kernel
theorem dX8_addLoss_19 : decode cX8_addLoss 19 = .ok (.if_icmp .ge 7, 3) := by decide +kernel
theorem dX8_addLoss_22 : decode cX8_addLoss 22 = .ok (.iconst 1, 1) := by decide +kernel
theorem dX8_addLoss_23 : decode cX8_addLoss 23 = .ok (.goto 4, 3) := by decide +kernel
theorem dX8_addLoss_26 : decode cX8_addLoss 26 = .ok (.iconst 0, 1) := by decide +kernel
theorem dX8_addLoss_27 : decode cX8_addLoss 27 = .ok (.istore_n 3, 1) := by decide +kernel
theorem dX8_addLoss_28 : decode cX8_addLoss 28 = .ok (.aload_n 0, 1) := by decide +kernel
theorem dX8_addLoss_29 : decode cX8_addLoss 29 = .ok (.getfield 37, 3) := by decide +kernel
theorem dX8_addLoss_32 : decode cX8_addLoss 32 = .ok (.bipush 16, 2) := by decide +kernel
theorem dX8_addLoss_34 : decode cX8_addLoss 34 = .ok (.if_icmp .ge 18, 3) := by decide +kernel
theorem dX8_addLoss_37 : decode cX8_addLoss 37 = .ok (.iload_n 3, 1) := by decide +kernel
theorem dX8_addLoss_38 : decode cX8_addLoss 38 = .ok (.ifCond .eq 14, 3) := by decide +kernel
theorem dX8_addLoss_41 : decode cX8_addLoss 41 = .ok (.iload_n 2, 1) := by decide +kernel
theorem dX8_addLoss_42 : decode cX8_addLoss 42 = .ok (.iconst 0, 1) := by decide +kernel
theorem dX8_addLoss_43 : decode cX8_addLoss 43 = .ok (.sipush 900, 3) := by decide +kernel
theorem dX8_addLoss_46 : decode cX8_addLoss 46 = .ok (.invokestatic 40, 3) := by decide +kernel
theorem dX8_addLoss_49 : decode cX8_addLoss 49 = .ok (.ifCond .ne 5, 3) := by decide +kernel
theorem dX8_addLoss_52 : decode cX8_addLoss 52 = .ok (.iconst (-1), 1) := by decide +kernel
theorem dX8_addLoss_53 : decode cX8_addLoss 53 = .ok (.ireturn, 1) := by decide +kernel
theorem dX8_addLoss_54 : decode cX8_addLoss 54 = .ok (.aload_n 0, 1) := by decide +kernel
theorem dX8_addLoss_55 : decode cX8_addLoss 55 = .ok (.getfield 11, 3) := by decide +kernel
theorem dX8_addLoss_58 : decode cX8_addLoss 58 = .ok (.aload_n 0, 1) := by decide +kernel
theorem dX8_addLoss_59 : decode cX8_addLoss 59 = .ok (.getfield 37, 3) := by decide +kernel
theorem dX8_addLoss_62 : decode cX8_addLoss 62 = .ok (.iload_n 1, 1) := by decide +kernel
theorem dX8_addLoss_63 : decode cX8_addLoss 63 = .ok (.iastore, 1) := by decide +kernel
theorem dX8_addLoss_64 : decode cX8_addLoss 64 = .ok (.aload_n 0, 1) := by decide +kernel
theorem dX8_addLoss_65 : decode cX8_addLoss 65 = .ok (.getfield 15, 3) := by decide +kernel
theorem dX8_addLoss_68 : decode cX8_addLoss 68 = .ok (.aload_n 0, 1) := by decide +kernel
theorem dX8_addLoss_69 : decode cX8_addLoss 69 = .ok (.getfield 37, 3) := by decide +kernel
theorem dX8_addLoss_72 : decode cX8_addLoss 72 = .ok (.iload_n 2, 1) := by decide +kernel
theorem dX8_addLoss_73 : decode cX8_addLoss 73 = .ok (.iastore, 1) := by decide +kernel
theorem dX8_addLoss_74 : decode cX8_addLoss 74 = .ok (.aload_n 0, 1) := by decide +kernel
theorem dX8_addLoss_75 : decode cX8_addLoss 75 = .ok (.dup, 1) := by decide +kernel
theorem dX8_addLoss_76 : decode cX8_addLoss 76 = .ok (.getfield 37, 3) := by decide +kernel
theorem dX8_addLoss_79 : decode cX8_addLoss 79 = .ok (.iconst 1, 1) := by decide +kernel
theorem dX8_addLoss_80 : decode cX8_addLoss 80 = .ok (.iadd, 1) := by decide +kernel
theorem dX8_addLoss_81 : decode cX8_addLoss 81 = .ok (.putfield 37, 3) := by decide +kernel
theorem dX8_addLoss_84 : decode cX8_addLoss 84 = .ok (.aload_n 0, 1) := by decide +kernel
theorem dX8_addLoss_85 : decode cX8_addLoss 85 = .ok (.getfield 37, 3) := by decide +kernel
theorem dX8_addLoss_88 : decode cX8_addLoss 88 = .ok (.ireturn, 1) := by decide +kernel
theorem dX9_init_0 : decode cX9_init 0 = .ok (.aload_n 0, 1) := by decide +kernel
theorem dX9_init_1 : decode cX9_init 1 = .ok (.invokespecial 3, 3) := by decide +kernel
theorem dX9_init_4 : decode cX9_init 4 = .ok (.aload_n 0, 1) := by decide +kernel
theorem dX9_init_5 : decode cX9_init 5 = .ok (.sipush 450, 3) := by decide +kernel
theorem dX9_init_8 : decode cX9_init 8 = .ok (.putfield 9, 3) := by decide +kernel
theorem dX9_init_11 : decode cX9_init 11 = .ok (.aload_n 0, 1) := by decide +kernel
theorem dX9_init_12 : decode cX9_init 12 = .ok (.sipush 270, 3) := by decide +kernel
theorem dX9_init_15 : decode cX9_init 15 = .ok (.putfield 15, 3) := by decide +kernel
theorem dX9_init_18 : decode cX9_init 18 = .ok (.aload_n 0, 1) := by decide +kernel
theorem dX9_init_19 : decode cX9_init 19 = .ok (.sipush 310, 3) := by decide +kernel
theorem dX9_init_22 : decode cX9_init 22 = .ok (.putfield 18, 3) := by decide +kernel
theorem dX9_init_25 : decode cX9_init 25 = .ok (.aload_n 0, 1) := by decide +kernel
theorem dX9_init_26 : decode cX9_init 26 = .ok (.sipush 320, 3) := by decide +kernel
theorem dX9_init_29 : decode cX9_init 29 = .ok (.putfield 21, 3) := by decide +kernel
theorem dX9_init_32 : decode cX9_init 32 = .ok (.aload_n 0, 1) := by decide +kernel
theorem dX9_init_33 : decode cX9_init 33 = .ok (.sipush 290, 3) := by decide +kernel
theorem dX9_init_36 : decode cX9_init 36 = .ok (.putfield 24, 3) := by decide +kernel
theorem dX9_init_39 : decode cX9_init 39 = .ok (.aload_n 0, 1) := by decide +kernel
theorem dX9_init_40 : decode cX9_init 40 = .ok (.iconst 2, 1) := by decide +kernel
theorem dX9_init_41 : decode cX9_init 41 = .ok (.putfield 27, 3) := by decide +kernel
theorem dX9_init_44 : decode cX9_init 44 = .ok (.return_, 1) := by decide +kernel
theorem dX9_change_0 : decode cX9_change 0 = .ok (.iload_n 1, 1) := by decide +kernel
theorem dX9_change_1 : decode cX9_change 1 = .ok (.aload_n 0, 1) := by decide +kernel
theorem dX9_change_2 : decode cX9_change 2 = .ok (.getfield 9, 3) := by decide +kernel
theorem dX9_change_5 : decode cX9_change 5 = .ok (.if_icmp .ne 41, 3) := by decide +kernel
theorem dX9_change_8 : decode cX9_change 8 = .ok (.iload_n 2, 1) := by decide +kernel
theorem dX9_change_9 : decode cX9_change 9 = .ok (.aload_n 0, 1) := by decide +kernel
theorem dX9_change_10 : decode cX9_change 10 = .ok (.getfield 15, 3) := by decide +kernel
theorem dX9_change_13 : decode cX9_change 13 = .ok (.if_icmp .ne 33, 3) := by decide +kernel
theorem dX9_change_16 : decode cX9_change 16 = .ok (.iload_n 3, 1) := by decide +kernel
theorem dX9_change_17 : decode cX9_change 17 = .ok (.aload_n 0, 1) := by decide +kernel
theorem dX9_change_18 : decode cX9_change 18 = .ok (.getfield 18, 3) := by decide +kernel
theorem dX9_change_21 : decode cX9_change 21 = .ok (.if_icmp .ne 25, 3) := by decide +kernel
theorem dX9_change_24 : decode cX9_change 24 = .ok (.iload 4, 2) := by decide +kernel
theorem dX9_change_26 : decode cX9_change 26 = .ok (.aload_n 0, 1) := by decide +kernel
theorem dX9_change_27 : decode cX9_change 27 = .ok (.getfield 21, 3) := by decide +kernel
theorem dX9_change_30 : decode cX9_change 30 = .ok (.if_icmp .ne 16, 3) := by decide +kernel
theorem dX9_change_33 : decode cX9_change 33 = .ok (.iload 5, 2) := by decide +kernel
theorem dX9_change_35 : decode cX9_change 35 = .ok (.aload_n 0, 1) := by decide +kernel
theorem dX9_change_36 : decode cX9_change 36 = .ok (.getfield 24, 3) := by decide +kernel
theorem dX9_change_39 : decode cX9_change 39 = .ok (.if_icmp .ne 7, 3) := by decide +kernel
theorem dX9_change_42 : decode cX9_change 42 = .ok (.iconst 1, 1) := by decide +kernel
theorem dX9_change_43 : decode cX9_change 43 = .ok (.goto 4, 3) := by decide +kernel
theorem dX9_change_46 : decode cX9_change 46 = .ok (.iconst 0, 1) := by decide +kernel
theorem dX9_change_47 : decode cX9_change 47 = .ok (.istore 7, 2) := by decide +kernel
theorem dX9_change_49 : decode cX9_change 49 = .ok (.iload 7, 2) := by decide +kernel
theorem dX9_change_51 : decode cX9_change 51 = .ok (.ifCond .eq 14, 3) := by decide +kernel
theorem dX9_change_54 : decode cX9_change 54 = .ok (.iload 6, 2) := by decide +kernel
theorem dX9_change_56 : decode cX9_change 56 = .ok (.aload_n 0, 1) := by decide +kernel
theorem dX9_change_57 : decode cX9_change 57 = .ok (.getfield 27, 3) := by decide +kernel
theorem dX9_change_60 : decode cX9_change 60 = .ok (.if_icmp .ne 5, 3) := by decide +kernel
theorem dX9_change_63 : decode cX9_change 63 = .ok (.iconst 0, 1) := by decide +kernel
theorem dX9_change_64 : decode cX9_change 64 = .ok (.ireturn, 1) := by decide +kernel
theorem dX9_change_65 : decode cX9_change 65 = .ok (.aload_n 0, 1) := by decide +kernel
theorem dX9_change_66 : decode cX9_change 66 = .ok (.iload_n 1, 1) := by decide +kernel
theorem dX9_change_67 : decode cX9_change 67 = .ok (.putfield 9, 3) := by decide +kernel
theorem dX9_change_70 : decode cX9_change 70 = .ok (.aload_n 0, 1) := by decide +kernel
theorem dX9_change_71 : decode cX9_change 71 = .ok (.iload_n 2, 1) := by decide +kernel
theorem dX9_change_72 : decode cX9_change 72 = .ok (.putfield 15, 3) := by decide +kernel
theorem dX9_change_75 : decode cX9_change 75 = .ok (.aload_n 0, 1) := by decide +kernel
theorem dX9_change_76 : decode cX9_change 76 = .ok (.iload_n 3, 1) := by decide +kernel
theorem dX9_change_77 : decode cX9_change 77 = .ok (.putfield 18, 3) := by decide +kernel
theorem dX9_change_80 : decode cX9_change 80 = .ok (.aload_n 0, 1) := by decide +kernel
theorem dX9_change_81 : decode cX9_change 81 = .ok (.iload 4, 2) := by decide +kernel
theorem dX9_change_83 : decode cX9_change 83 = .ok (.putfield 21, 3) := by decide +kernel
theorem dX9_change_86 : decode cX9_change 86 = .ok (.aload_n 0, 1) := by decide +kernel
theorem dX9_change_87 : decode cX9_change 87 = .ok (.iload 5, 2) := by decide +kernel
theorem dX9_change_89 : decode cX9_change 89 = .ok (.putfield 24, 3) := by decide +kernel
theorem dX9_change_92 : decode cX9_change 92 = .ok (.aload_n 0, 1) := by decide +kernel
theorem dX9_change_93 : decode cX9_change 93 = .ok (.iload 6, 2) := by decide +kernel
theorem dX9_change_95 : decode cX9_change 95 = .ok (.putfield 27, 3) := by decide +kernel
theorem dX9_change_98 : decode cX9_change 98 = .ok (.iconst 1, 1) := by decide +kernel
theorem dX9_change_99 : decode cX9_change 99 = .ok (.ireturn, 1) := by decide +kernel
theorem dX3_init_0 : decode cX3_init 0 = .ok (.aload_n 0, 1) := by decide +kernel
theorem dX3_init_1 : decode cX3_init 1 = .ok (.invokespecial 3, 3) := by decide +kernel
theorem dX3_init_4 : decode cX3_init 4 = .ok (.aload_n 0, 1) := by decide +kernel
theorem dX3_init_5 : decode cX3_init 5 = .ok (.bipush 36, 2) := by decide +kernel
theorem dX3_init_7 : decode cX3_init 7 = .ok (.newarray .int, 2) := by decide +kernel
theorem dX3_init_9 : decode cX3_init 9 = .ok (.putfield 9, 3) := by decide +kernel
theorem dX3_init_12 : decode cX3_init 12 = .ok (.aload_n 0, 1) := by decide +kernel
theorem dX3_init_13 : decode cX3_init 13 = .ok (.bipush 10, 2) := by decide +kernel
theorem dX3_init_15 : decode cX3_init 15 = .ok (.newarray .int, 2) := by decide +kernel
theorem dX3_init_17 : decode cX3_init 17 = .ok (.putfield 15, 3) := by decide +kernel
theorem dX3_init_20 : decode cX3_init 20 = .ok (.aload_n 0, 1) := by decide +kernel
theorem dX3_init_21 : decode cX3_init 21 = .ok (.bipush 10, 2) := by decide +kernel
theorem dX3_init_23 : decode cX3_init 23 = .ok (.newarray .int, 2) := by decide +kernel
theorem dX3_init_25 : decode cX3_init 25 = .ok (.putfield 18, 3) := by decide +kernel
theorem dX3_init_28 : decode cX3_init 28 = .ok (.aload_n 0, 1) := by decide +kernel
theorem dX3_init_29 : decode cX3_init 29 = .ok (.bipush 10, 2) := by decide +kernel
theorem dX3_init_31 : decode cX3_init 31 = .ok (.newarray .int, 2) := by decide +kernel
theorem dX3_init_33 : decode cX3_init 33 = .ok (.putfield 21, 3) := by decide +kernel
theorem dX3_init_36 : decode cX3_init 36 = .ok (.aload_n 0, 1) := by decide +kernel
theorem dX3_init_37 : decode cX3_init 37 = .ok (.bipush 10, 2) := by decide +kernel
theorem dX3_init_39 : decode cX3_init 39 = .ok (.newarray .boolean, 2) := by decide +kernel
theorem dX3_init_41 : decode cX3_init 41 = .ok (.putfield 24, 3) := by decide +kernel
theorem dX3_init_44 : decode cX3_init 44 = .ok (.aload_n 0, 1) := by decide +kernel
theorem dX3_init_45 : decode cX3_init 45 = .ok (.bipush 6, 2) := by decide +kernel
theorem dX3_init_47 : decode cX3_init 47 = .ok (.newarray .int, 2) := by decide +kernel
theorem dX3_init_49 : decode cX3_init 49 = .ok (.putfield 28, 3) := by decide +kernel
theorem dX3_init_52 : decode cX3_init 52 = .ok (.aload_n 0, 1) := by decide +kernel
theorem dX3_init_53 : decode cX3_init 53 = .ok (.bipush 6, 2) := by decide +kernel
theorem dX3_init_55 : decode cX3_init 55 = .ok (.newarray .int, 2) := by decide +kernel
theorem dX3_init_57 : decode cX3_init 57 = .ok (.putfield 31, 3) := by decide +kernel
theorem dX3_init_60 : decode cX3_init 60 = .ok (.aload_n 0, 1) := by decide +kernel
theorem dX3_init_61 : decode cX3_init 61 = .ok (.bipush 6, 2) := by decide +kernel
theorem dX3_init_63 : decode cX3_init 63 = .ok (.newarray .int, 2) := by decide +kernel
theorem dX3_init_65 : decode cX3_init 65 = .ok (.putfield 34, 3) := by decide +kernel
theorem dX3_init_68 : decode cX3_init 68 = .ok (.return_, 1) := by decide +kernel
theorem dX3_setWashing_0 : decode cX3_setWashing 0 = .ok (.aload_n 0, 1) := by decide +kernel
theorem dX3_setWashing_1 : decode cX3_setWashing 1 = .ok (.getfield 9, 3) := by decide +kernel
theorem dX3_setWashing_4 : decode cX3_setWashing 4 = .ok (.iload_n 1, 1) := by decide +kernel
theorem dX3_setWashing_5 : decode cX3_setWashing 5 = .ok (.bipush 6, 2) := by decide +kernel
theorem dX3_setWashing_7 : decode cX3_setWashing 7 = .ok (.imul, 1) := by decide +kernel
theorem dX3_setWashing_8 : decode cX3_setWashing 8 = .ok (.iload_n 2, 1) := by decide +kernel
theorem dX3_setWashing_9 : decode cX3_setWashing 9 = .ok (.iadd, 1) := by decide +kernel
theorem dX3_setWashing_10 : decode cX3_setWashing 10 = .ok (.iload_n 3, 1) := by decide +kernel
theorem dX3_setWashing_11 : decode cX3_setWashing 11 = .ok (.iastore, 1) := by decide +kernel
theorem dX3_setWashing_12 : decode cX3_setWashing 12 = .ok (.aload_n 0, 1) := by decide +kernel
theorem dX3_setWashing_13 : decode cX3_setWashing 13 = .ok (.iconst 0, 1) := by decide +kernel
theorem dX3_setWashing_14 : decode cX3_setWashing 14 = .ok (.putfield 37, 3) := by decide +kernel
theorem dX3_setWashing_17 : decode cX3_setWashing 17 = .ok (.return_, 1) := by decide +kernel
theorem dX3_empty_0 : decode cX3_empty 0 = .ok (.aload_n 0, 1) := by decide +kernel
theorem dX3_empty_1 : decode cX3_empty 1 = .ok (.iconst 0, 1) := by decide +kernel
theorem dX3_empty_2 : decode cX3_empty 2 = .ok (.putfield 41, 3) := by decide +kernel
theorem dX3_empty_5 : decode cX3_empty 5 = .ok (.aload_n 0, 1) := by decide +kernel
theorem dX3_empty_6 : decode cX3_empty 6 = .ok (.iconst 0, 1) := by decide +kernel
theorem dX3_empty_7 : decode cX3_empty 7 = .ok (.putfield 37, 3) := by decide +kernel
theorem dX3_empty_10 : decode cX3_empty 10 = .ok (.return_, 1) := by decide +kernel
theorem dX3_findOrder_0 : decode cX3_findOrder 0 = .ok (.aload_n 0, 1) := by decide +kernel
theorem dX3_findOrder_1 : decode cX3_findOrder 1 = .ok (.getfield 37, 3) := by decide +kernel
theorem dX3_findOrder_4 : decode cX3_findOrder 4 = .ok (.ifCond .eq 12, 3) := by decide +kernel
theorem dX3_findOrder_7 : decode cX3_findOrder 7 = .ok (.aload_n 0, 1) := by decide +kernel
theorem dX3_findOrder_8 : decode cX3_findOrder 8 = .ok (.getfield 45, 3) := by decide +kernel
theorem dX3_findOrder_11 : decode cX3_findOrder 11 = .ok (.iload_n 1, 1) := by decide +kernel
theorem dX3_findOrder_12 : decode cX3_findOrder 12 = .ok (.if_icmp .ne 4, 3) := by decide +kernel
theorem dX3_findOrder_15 : decode cX3_findOrder 15 = .ok (.return_, 1) := by decide +kernel
theorem dX3_findOrder_16 : decode cX3_findOrder 16 = .ok (.aload_n 0, 1) := by decide +kernel
theorem dX3_findOrder_17 : decode cX3_findOrder 17 = .ok (.iconst 0, 1) := by decide +kernel
theorem dX3_findOrder_18 : decode cX3_findOrder 18 = .ok (.putfield 48, 3) := by decide +kernel
theorem dX3_findOrder_21 : decode cX3_findOrder 21 = .ok (.aload_n 0, 1) := by decide +kernel
theorem dX3_findOrder_22 : decode cX3_findOrder 22 = .ok (.getfield 41, 3) := by decide +kernel
theorem dX3_findOrder_25 : decode cX3_findOrder 25 = .ok (.ifCond .le 22, 3) := by decide +kernel
theorem dX3_findOrder_28 : decode cX3_findOrder 28 = .ok (.aload_n 0, 1) := by decide +kernel
theorem dX3_findOrder_29 : decode cX3_findOrder 29 = .ok (.invokevirtual 51, 3) := by decide +kernel
theorem dX3_findOrder_32 : decode cX3_findOrder 32 = .ok (.istore_n 2, 1) := by decide +kernel
theorem dX3_findOrder_33 : decode cX3_findOrder 33 = .ok (.aload_n 0, 1) := by decide +kernel
theorem dX3_findOrder_34 : decode cX3_findOrder 34 = .ok (.iload_n 2, 1) := by decide +kernel
theorem dX3_findOrder_35 : decode cX3_findOrder 35 = .ok (.iload_n 1, 1) := by decide +kernel
theorem dX3_findOrder_36 : decode cX3_findOrder 36 = .ok (.invokevirtual 55, 3) := by decide +kernel
theorem dX3_findOrder_39 : decode cX3_findOrder 39 = .ok (.aload_n 0, 1) := by decide +kernel
theorem dX3_findOrder_40 : decode cX3_findOrder 40 = .ok (.iload_n 2, 1) := by decide +kernel
theorem dX3_findOrder_41 : decode cX3_findOrder 41 = .ok (.iconst 1, 1) := by decide +kernel
theorem dX3_findOrder_42 : decode cX3_findOrder 42 = .ok (.isub, 1) := by decide +kernel
theorem dX3_findOrder_43 : decode cX3_findOrder 43 = .ok (.iload_n 1, 1) := by decide +kernel
theorem dX3_findOrder_44 : decode cX3_findOrder 44 = .ok (.invokevirtual 59, 3) := by decide +kernel
theorem dX3_findOrder_47 : decode cX3_findOrder 47 = .ok (.aload_n 0, 1) := by decide +kernel
theorem dX3_findOrder_48 : decode cX3_findOrder 48 = .ok (.iconst 1, 1) := by decide +kernel
theorem dX3_findOrder_49 : decode cX3_findOrder 49 = .ok (.putfield 37, 3) := by decide +kernel
theorem dX3_findOrder_52 : decode cX3_findOrder 52 = .ok (.aload_n 0, 1) := by decide +kernel
theorem dX3_findOrder_53 : decode cX3_findOrder 53 = .ok (.iload_n 1, 1) := by decide +kernel
theorem dX3_findOrder_54 : decode cX3_findOrder 54 = .ok (.putfield 45, 3) := by decide +kernel
theorem dX3_findOrder_57 : decode cX3_findOrder 57 = .ok (.return_, 1) := by decide +kernel
theorem dX2_init_0 : decode cX2_init 0 = .ok (.aload_n 0, 1) := by decide +kernel
theorem dX2_init_1 : decode cX2_init 1 = .ok (.invokespecial 3, 3) := by decide +kernel
theorem dX2_init_4 : decode cX2_init 4 = .ok (.aload_n 0, 1) := by decide +kernel
theorem dX2_init_5 : decode cX2_init 5 = .ok (.bipush 40, 2) := by decide +kernel
theorem dX2_init_7 : decode cX2_init 7 = .ok (.newarray .int, 2) := by decide +kernel
theorem dX2_init_9 : decode cX2_init 9 = .ok (.putfield 9, 3) := by decide +kernel
theorem dX2_init_12 : decode cX2_init 12 = .ok (.aload_n 0, 1) := by decide +kernel
theorem dX2_init_13 : decode cX2_init 13 = .ok (.bipush 40, 2) := by decide +kernel
theorem dX2_init_15 : decode cX2_init 15 = .ok (.newarray .int, 2) := by decide +kernel
theorem dX2_init_17 : decode cX2_init 17 = .ok (.putfield 15, 3) := by decide +kernel
theorem dX2_init_20 : decode cX2_init 20 = .ok (.aload_n 0, 1) := by decide +kernel
theorem dX2_init_21 : decode cX2_init 21 = .ok (.bipush 40, 2) := by decide +kernel
theorem dX2_init_23 : decode cX2_init 23 = .ok (.newarray .boolean, 2) := by decide +kernel
theorem dX2_init_25 : decode cX2_init 25 = .ok (.putfield 18, 3) := by decide +kernel
theorem dX2_init_28 : decode cX2_init 28 = .ok (.return_, 1) := by decide +kernel
theorem dX2_choose_0 : decode cX2_choose 0 = .ok (.aload_n 0, 1) := by decide +kernel
theorem dX2_choose_1 : decode cX2_choose 1 = .ok (.invokevirtual 26, 3) := by decide +kernel
theorem dX2_choose_4 : decode cX2_choose 4 = .ok (.iload_n 1, 1) := by decide +kernel
theorem dX2_choose_5 : decode cX2_choose 5 = .ok (.if_icmp .ge 5, 3) := by decide +kernel
theorem dX2_choose_8 : decode cX2_choose 8 = .ok (.iconst (-1), 1) := by decide +kernel
theorem dX2_choose_9 : decode cX2_choose 9 = .ok (.ireturn, 1) := by decide +kernel
theorem dX2_choose_10 : decode cX2_choose 10 = .ok (.iload_n 1, 1) := by decide +kernel
theorem dX2_choose_11 : decode cX2_choose 11 = .ok (.iload_n 2, 1) := by decide +kernel
theorem dX2_choose_12 : decode cX2_choose 12 = .ok (.iadd, 1) := by decide +kernel
theorem dX2_choose_13 : decode cX2_choose 13 = .ok (.sipush 8511, 3) := by decide +kernel
theorem dX2_choose_16 : decode cX2_choose 16 = .ok (.invokestatic 30, 3) := by decide +kernel
theorem dX2_choose_19 : decode cX2_choose 19 = .ok (.istore_n 3, 1) := by decide +kernel
theorem dX2_choose_20 : decode cX2_choose 20 = .ok (.aload_n 0, 1) := by decide +kernel
theorem dX2_choose_21 : decode cX2_choose 21 = .ok (.iload_n 3, 1) := by decide +kernel
theorem dX2_choose_22 : decode cX2_choose 22 = .ok (.invokevirtual 36, 3) := by decide +kernel
theorem dX2_choose_25 : decode cX2_choose 25 = .ok (.iload_n 1, 1) := by decide +kernel
theorem dX2_choose_26 : decode cX2_choose 26 = .ok (.iconst 0, 1) := by decide +kernel
theorem dX2_choose_27 : decode cX2_choose 27 = .ok (.invokestatic 40, 3) := by decide +kernel
theorem dX2_choose_30 : decode cX2_choose 30 = .ok (.istore 4, 2) := by decide +kernel
theorem dX2_choose_32 : decode cX2_choose 32 = .ok (.iload 4, 2) := by decide +kernel
theorem dX2_choose_34 : decode cX2_choose 34 = .ok (.iload_n 3, 1) := by decide +kernel
theorem dX2_choose_35 : decode cX2_choose 35 = .ok (.if_icmp .gt 28, 3) := by decide +kernel
theorem dX2_choose_38 : decode cX2_choose 38 = .ok (.aload_n 0, 1) := by decide +kernel
theorem dX2_choose_39 : decode cX2_choose 39 = .ok (.iconst 0, 1) := by decide +kernel
theorem dX2_choose_40 : decode cX2_choose 40 = .ok (.iload 4, 2) := by decide +kernel
theorem dX2_choose_42 : decode cX2_choose 42 = .ok (.invokevirtual 43, 3) := by decide +kernel
theorem dX2_choose_45 : decode cX2_choose 45 = .ok (.ifCond .eq 12, 3) := by decide +kernel
theorem dX2_choose_48 : decode cX2_choose 48 = .ok (.aload_n 0, 1) := by decide +kernel
theorem dX2_choose_49 : decode cX2_choose 49 = .ok (.iload 4, 2) := by decide +kernel
theorem dX2_choose_51 : decode cX2_choose 51 = .ok (.invokevirtual 47, 3) := by decide +kernel
theorem dX2_choose_54 : decode cX2_choose 54 = .ok (.iload 4, 2) := by decide +kernel
theorem dX2_choose_56 : decode cX2_choose 56 = .ok (.ireturn, 1) := by decide +kernel
theorem dX2_choose_57 : decode cX2_choose 57 = .ok (.iinc 4 1, 3) := by decide +kernel
theorem dX2_choose_60 : decode cX2_choose 60 = .ok (.goto (-28), 3) := by decide +kernel
theorem dX2_choose_63 : decode cX2_choose 63 = .ok (.iconst (-1), 1) := by decide +kernel
theorem dX2_choose_64 : decode cX2_choose 64 = .ok (.ireturn, 1) := by decide +kernel
theorem dX2_total_0 : decode cX2_total 0 = .ok (.iconst 0, 1) := by decide +kernel
theorem dX2_total_1 : decode cX2_total 1 = .ok (.istore_n 1, 1) := by decide +kernel
theorem dX2_total_2 : decode cX2_total 2 = .ok (.iconst 0, 1) := by decide +kernel
theorem dX2_total_3 : decode cX2_total 3 = .ok (.istore_n 2, 1) := by decide +kernel
theorem dX2_total_4 : decode cX2_total 4 = .ok (.iload_n 2, 1) := by decide +kernel
theorem dX2_total_5 : decode cX2_total 5 = .ok (.aload_n 0, 1) := by decide +kernel
theorem dX2_total_6 : decode cX2_total 6 = .ok (.getfield 22, 3) := by decide +kernel
theorem dX2_total_9 : decode cX2_total 9 = .ok (.if_icmp .ge 18, 3) := by decide +kernel
theorem dX2_total_12 : decode cX2_total 12 = .ok (.iload_n 1, 1) := by decide +kernel
theorem dX2_total_13 : decode cX2_total 13 = .ok (.aload_n 0, 1) := by decide +kernel
theorem dX2_total_14 : decode cX2_total 14 = .ok (.getfield 15, 3) := by decide +kernel
theorem dX2_total_17 : decode cX2_total 17 = .ok (.iload_n 2, 1) := by decide +kernel
theorem dX2_total_18 : decode cX2_total 18 = .ok (.iaload, 1) := by decide +kernel
theorem dX2_total_19 : decode cX2_total 19 = .ok (.iadd, 1) := by decide +kernel
theorem dX2_total_20 : decode cX2_total 20 = .ok (.istore_n 1, 1) := by decide +kernel
theorem dX2_total_21 : decode cX2_total 21 = .ok (.iinc 2 1, 3) := by decide +kernel
theorem dX2_total_24 : decode cX2_total 24 = .ok (.goto (-20), 3) := by decide +kernel
theorem dX2_total_27 : decode cX2_total 27 = .ok (.iload_n 1, 1) := by decide +kernel
theorem dX2_total_28 : decode cX2_total 28 = .ok (.ireturn, 1) := by decide +kernel
theorem dX5_init_0 : decode cX5_init 0 = .ok (.aload_n 0, 1) := by decide +kernel
theorem dX5_init_1 : decode cX5_init 1 = .ok (.invokespecial 3, 3) := by decide +kernel
theorem dX5_init_4 : decode cX5_init 4 = .ok (.aload_n 0, 1) := by decide +kernel
theorem dX5_init_5 : decode cX5_init 5 = .ok (.bipush 14, 2) := by decide +kernel
theorem dX5_init_7 : decode cX5_init 7 = .ok (.newarray .int, 2) := by decide +kernel
theorem dX5_init_9 : decode cX5_init 9 = .ok (.putfield 9, 3) := by decide +kernel
theorem dX5_init_12 : decode cX5_init 12 = .ok (.return_, 1) := by decide +kernel
theorem dX5_mostBoxes_0 : decode cX5_mostBoxes 0 = .ok (.aload_n 0, 1) := by decide +kernel
theorem dX5_mostBoxes_1 : decode cX5_mostBoxes 1 = .ok (.iload_n 2, 1) := by decide +kernel
theorem dX5_mostBoxes_2 : decode cX5_mostBoxes 2 = .ok (.putfield 15, 3) := by decide +kernel
theorem dX5_mostBoxes_5 : decode cX5_mostBoxes 5 = .ok (.aload_n 0, 1) := by decide +kernel
theorem dX5_mostBoxes_6 : decode cX5_mostBoxes 6 = .ok (.iload_n 2, 1) := by decide +kernel
theorem dX5_mostBoxes_7 : decode cX5_mostBoxes 7 = .ok (.iload_n 3, 1) := by decide +kernel
theorem dX5_mostBoxes_8 : decode cX5_mostBoxes 8 = .ok (.iadd, 1) := by decide +kernel
theorem dX5_mostBoxes_9 : decode cX5_mostBoxes 9 = .ok (.putfield 19, 3) := by decide +kernel
theorem dX5_mostBoxes_12 : decode cX5_mostBoxes 12 = .ok (.aload_n 0, 1) := by decide +kernel
theorem dX5_mostBoxes_13 : decode cX5_mostBoxes 13 = .ok (.iconst 0, 1) := by decide +kernel
theorem dX5_mostBoxes_14 : decode cX5_mostBoxes 14 = .ok (.putfield 22, 3) := by decide +kernel
theorem dX5_mostBoxes_17 : decode cX5_mostBoxes 17 = .ok (.iconst 0, 1) := by decide +kernel
theorem dX5_mostBoxes_18 : decode cX5_mostBoxes 18 = .ok (.istore 4, 2) := by decide +kernel
theorem dX5_mostBoxes_20 : decode cX5_mostBoxes 20 = .ok (.aload_n 1, 1) := by decide +kernel
theorem dX5_mostBoxes_21 : decode cX5_mostBoxes 21 = .ok (.getfield 25, 3) := by decide +kernel
theorem dX5_mostBoxes_24 : decode cX5_mostBoxes 24 = .ok (.bipush 14, 2) := by decide +kernel
theorem dX5_mostBoxes_26 : decode cX5_mostBoxes 26 = .ok (.invokestatic 28, 3) := by decide +kernel
theorem dX5_mostBoxes_29 : decode cX5_mostBoxes 29 = .ok (.istore 5, 2) := by decide +kernel
theorem dX5_mostBoxes_31 : decode cX5_mostBoxes 31 = .ok (.iconst 0, 1) := by decide +kernel
theorem dX5_mostBoxes_32 : decode cX5_mostBoxes 32 = .ok (.istore 6, 2) := by decide +kernel
theorem dX5_mostBoxes_34 : decode cX5_mostBoxes 34 = .ok (.iload 6, 2) := by decide +kernel
theorem dX5_mostBoxes_36 : decode cX5_mostBoxes 36 = .ok (.iload 5, 2) := by decide +kernel
theorem dX5_mostBoxes_38 : decode cX5_mostBoxes 38 = .ok (.if_icmp .ge 32, 3) := by decide +kernel
theorem dX5_mostBoxes_41 : decode cX5_mostBoxes 41 = .ok (.aload_n 0, 1) := by decide +kernel
theorem dX5_mostBoxes_42 : decode cX5_mostBoxes 42 = .ok (.aload_n 1, 1) := by decide +kernel
theorem dX5_mostBoxes_43 : decode cX5_mostBoxes 43 = .ok (.getfield 34, 3) := by decide +kernel
theorem dX5_mostBoxes_46 : decode cX5_mostBoxes 46 = .ok (.iload 6, 2) := by decide +kernel
theorem dX5_mostBoxes_48 : decode cX5_mostBoxes 48 = .ok (.iaload, 1) := by decide +kernel
theorem dX5_mostBoxes_49 : decode cX5_mostBoxes 49 = .ok (.invokevirtual 35, 3) := by decide +kernel
theorem dX5_mostBoxes_52 : decode cX5_mostBoxes 52 = .ok (.iload 4, 2) := by decide +kernel
theorem dX5_mostBoxes_54 : decode cX5_mostBoxes 54 = .ok (.aload_n 1, 1) := by decide +kernel
theorem dX5_mostBoxes_55 : decode cX5_mostBoxes 55 = .ok (.getfield 34, 3) := by decide +kernel
theorem dX5_mostBoxes_58 : decode cX5_mostBoxes 58 = .ok (.iload 6, 2) := by decide +kernel
theorem dX5_mostBoxes_60 : decode cX5_mostBoxes 60 = .ok (.iaload, 1) := by decide +kernel
theorem dX5_mostBoxes_61 : decode cX5_mostBoxes 61 = .ok (.iadd, 1) := by decide +kernel
theorem dX5_mostBoxes_62 : decode cX5_mostBoxes 62 = .ok (.istore 4, 2) := by decide +kernel
theorem dX5_mostBoxes_64 : decode cX5_mostBoxes 64 = .ok (.iinc 6 1, 3) := by decide +kernel
theorem dX5_mostBoxes_67 : decode cX5_mostBoxes 67 = .ok (.goto (-33), 3) := by decide +kernel
theorem dX5_mostBoxes_70 : decode cX5_mostBoxes 70 = .ok (.iload 4, 2) := by decide +kernel
theorem dX5_mostBoxes_72 : decode cX5_mostBoxes 72 = .ok (.aload_n 0, 1) := by decide +kernel
theorem dX5_mostBoxes_73 : decode cX5_mostBoxes 73 = .ok (.getfield 15, 3) := by decide +kernel
theorem dX5_mostBoxes_76 : decode cX5_mostBoxes 76 = .ok (.if_icmp .ge 5, 3) := by decide +kernel
theorem dX5_mostBoxes_79 : decode cX5_mostBoxes 79 = .ok (.iconst 0, 1) := by decide +kernel
theorem dX5_mostBoxes_80 : decode cX5_mostBoxes 80 = .ok (.ireturn, 1) := by decide +kernel
theorem dX5_mostBoxes_81 : decode cX5_mostBoxes 81 = .ok (.aload_n 0, 1) := by decide +kernel
theorem dX5_mostBoxes_82 : decode cX5_mostBoxes 82 = .ok (.invokevirtual 39, 3) := by decide +kernel
theorem dX5_mostBoxes_85 : decode cX5_mostBoxes 85 = .ok (.aload_n 0, 1) := by decide +kernel
theorem dX5_mostBoxes_86 : decode cX5_mostBoxes 86 = .ok (.iconst 1, 1) := by decide +kernel
theorem dX5_mostBoxes_87 : decode cX5_mostBoxes 87 = .ok (.aload_n 0, 1) := by decide +kernel
theorem dX5_mostBoxes_88 : decode cX5_mostBoxes 88 = .ok (.getfield 22, 3) := by decide +kernel
theorem dX5_mostBoxes_91 : decode cX5_mostBoxes 91 = .ok (.ishl, 1) := by decide +kernel
theorem dX5_mostBoxes_92 : decode cX5_mostBoxes 92 = .ok (.iconst 1, 1) := by decide +kernel
theorem dX5_mostBoxes_93 : decode cX5_mostBoxes 93 = .ok (.isub, 1) := by decide +kernel
theorem dX5_mostBoxes_94 : decode cX5_mostBoxes 94 = .ok (.iload 4, 2) := by decide +kernel
theorem dX5_mostBoxes_96 : decode cX5_mostBoxes 96 = .ok (.invokevirtual 42, 3) := by decide +kernel
theorem dX5_mostBoxes_99 : decode cX5_mostBoxes 99 = .ok (.ireturn, 1) := by decide +kernel
theorem dJ7_fill_53178_0 : decode cJ7_fill_53178 0 = .ok (.iconst 0, 1) := by decide +kernel
theorem dJ7_fill_53178_1 : decode cJ7_fill_53178 1 = .ok (.istore_n 2, 1) := by decide +kernel
theorem dJ7_fill_53178_2 : decode cJ7_fill_53178 2 = .ok (.aload_n 0, 1) := by decide +kernel
theorem dJ7_fill_53178_3 : decode cJ7_fill_53178 3 = .ok (.arraylength, 1) := by decide +kernel
theorem dJ7_fill_53178_4 : decode cJ7_fill_53178 4 = .ok (.istore_n 3, 1) := by decide +kernel
theorem dJ7_fill_53178_5 : decode cJ7_fill_53178 5 = .ok (.iload_n 2, 1) := by decide +kernel
theorem dJ7_fill_53178_6 : decode cJ7_fill_53178 6 = .ok (.iload_n 3, 1) := by decide +kernel
theorem dJ7_fill_53178_7 : decode cJ7_fill_53178 7 = .ok (.if_icmp .ge 13, 3) := by decide +kernel
theorem dJ7_fill_53178_10 : decode cJ7_fill_53178 10 = .ok (.aload_n 0, 1) := by decide +kernel
theorem dJ7_fill_53178_11 : decode cJ7_fill_53178 11 = .ok (.iload_n 2, 1) := by decide +kernel
theorem dJ7_fill_53178_12 : decode cJ7_fill_53178 12 = .ok (.iload_n 1, 1) := by decide +kernel
theorem dJ7_fill_53178_13 : decode cJ7_fill_53178 13 = .ok (.iastore, 1) := by decide +kernel
theorem dJ7_fill_53178_14 : decode cJ7_fill_53178 14 = .ok (.iinc 2 1, 3) := by decide +kernel
theorem dJ7_fill_53178_17 : decode cJ7_fill_53178 17 = .ok (.goto (-12), 3) := by decide +kernel
theorem dJ7_fill_53178_20 : decode cJ7_fill_53178 20 = .ok (.return_, 1) := by decide +kernel
end
section
theorem dX11_init_0 : decode cX11_init 0 = .ok (.aload_n 0, 1) := by decide +kernel
theorem dX11_init_1 : decode cX11_init 1 = .ok (.invokespecial 1, 3) := by decide +kernel
theorem dX11_init_4 : decode cX11_init 4 = .ok (.aload_n 0, 1) := by decide +kernel
theorem dX11_init_5 : decode cX11_init 5 = .ok (.bipush 40, 2) := by decide +kernel
theorem dX11_init_7 : decode cX11_init 7 = .ok (.newarray .int, 2) := by decide +kernel
theorem dX11_init_9 : decode cX11_init 9 = .ok (.putfield 7, 3) := by decide +kernel
theorem dX11_init_12 : decode cX11_init 12 = .ok (.aload_n 0, 1) := by decide +kernel
theorem dX11_init_13 : decode cX11_init 13 = .ok (.bipush 40, 2) := by decide +kernel
theorem dX11_init_15 : decode cX11_init 15 = .ok (.newarray .int, 2) := by decide +kernel
theorem dX11_init_17 : decode cX11_init 17 = .ok (.putfield 13, 3) := by decide +kernel
theorem dX11_init_20 : decode cX11_init 20 = .ok (.aload_n 0, 1) := by decide +kernel
theorem dX11_init_21 : decode cX11_init 21 = .ok (.bipush 40, 2) := by decide +kernel
theorem dX11_init_23 : decode cX11_init 23 = .ok (.newarray .int, 2) := by decide +kernel
theorem dX11_init_25 : decode cX11_init 25 = .ok (.putfield 16, 3) := by decide +kernel
theorem dX11_init_28 : decode cX11_init 28 = .ok (.aload_n 0, 1) := by decide +kernel
theorem dX11_init_29 : decode cX11_init 29 = .ok (.bipush 40, 2) := by decide +kernel
theorem dX11_init_31 : decode cX11_init 31 = .ok (.newarray .int, 2) := by decide +kernel
theorem dX11_init_33 : decode cX11_init 33 = .ok (.putfield 19, 3) := by decide +kernel
theorem dX11_init_36 : decode cX11_init 36 = .ok (.aload_n 0, 1) := by decide +kernel
theorem dX11_init_37 : decode cX11_init 37 = .ok (.bipush 40, 2) := by decide +kernel
theorem dX11_init_39 : decode cX11_init 39 = .ok (.newarray .int, 2) := by decide +kernel
theorem dX11_init_41 : decode cX11_init 41 = .ok (.putfield 22, 3) := by decide +kernel
theorem dX11_init_44 : decode cX11_init 44 = .ok (.aload_n 0, 1) := by decide +kernel
theorem dX11_init_45 : decode cX11_init 45 = .ok (.bipush 40, 2) := by decide +kernel
theorem dX11_init_47 : decode cX11_init 47 = .ok (.newarray .int, 2) := by decide +kernel
theorem dX11_init_49 : decode cX11_init 49 = .ok (.putfield 25, 3) := by decide +kernel
theorem dX11_init_52 : decode cX11_init 52 = .ok (.aload_n 0, 1) := by decide +kernel
theorem dX11_init_53 : decode cX11_init 53 = .ok (.bipush 40, 2) := by decide +kernel
theorem dX11_init_55 : decode cX11_init 55 = .ok (.newarray .int, 2) := by decide +kernel
theorem dX11_init_57 : decode cX11_init 57 = .ok (.putfield 28, 3) := by decide +kernel
theorem dX11_init_60 : decode cX11_init 60 = .ok (.aload_n 0, 1) := by decide +kernel
theorem dX11_init_61 : decode cX11_init 61 = .ok (.bipush 40, 2) := by decide +kernel
theorem dX11_init_63 : decode cX11_init 63 = .ok (.newarray .int, 2) := by decide +kernel
theorem dX11_init_65 : decode cX11_init 65 = .ok (.putfield 31, 3) := by decide +kernel
theorem dX11_init_68 : decode cX11_init 68 = .ok (.aload_n 0, 1) := by decide +kernel
theorem dX11_init_69 : decode cX11_init 69 = .ok (.bipush 40, 2) := by decide +kernel
theorem dX11_init_71 : decode cX11_init 71 = .ok (.newarray .int, 2) := by decide +kernel
theorem dX11_init_73 : decode cX11_init 73 = .ok (.putfield 34, 3) := by decide +kernel
theorem dX11_init_76 : decode cX11_init 76 = .ok (.aload_n 0, 1) := by decide +kernel
theorem dX11_init_77 : decode cX11_init 77 = .ok (.bipush 40, 2) := by decide +kernel
theorem dX11_init_79 : decode cX11_init 79 = .ok (.newarray .int, 2) := by decide +kernel
theorem dX11_init_81 : decode cX11_init 81 = .ok (.putfield 37, 3) := by decide +kernel
theorem dX11_init_84 : decode cX11_init 84 = .ok (.aload_n 0, 1) := by decide +kernel
theorem dX11_init_85 : decode cX11_init 85 = .ok (.bipush 40, 2) := by decide +kernel
theorem dX11_init_87 : decode cX11_init 87 = .ok (.newarray .boolean, 2) := by decide +kernel
theorem dX11_init_89 : decode cX11_init 89 = .ok (.putfield 40, 3) := by decide +kernel
theorem dX11_init_92 : decode cX11_init 92 = .ok (.aload_n 0, 1) := by decide +kernel
theorem dX11_init_93 : decode cX11_init 93 = .ok (.bipush 40, 2) := by decide +kernel
theorem dX11_init_95 : decode cX11_init 95 = .ok (.newarray .boolean, 2) := by decide +kernel
theorem dX11_init_97 : decode cX11_init 97 = .ok (.putfield 44, 3) := by decide +kernel
theorem dX11_init_100 : decode cX11_init 100 = .ok (.aload_n 0, 1) := by decide +kernel
theorem dX11_init_101 : decode cX11_init 101 = .ok (.bipush 40, 2) := by decide +kernel
theorem dX11_init_103 : decode cX11_init 103 = .ok (.newarray .int, 2) := by decide +kernel
theorem dX11_init_105 : decode cX11_init 105 = .ok (.putfield 47, 3) := by decide +kernel
theorem dX11_init_108 : decode cX11_init 108 = .ok (.aload_n 0, 1) := by decide +kernel
theorem dX11_init_109 : decode cX11_init 109 = .ok (.bipush 40, 2) := by decide +kernel
theorem dX11_init_111 : decode cX11_init 111 = .ok (.newarray .int, 2) := by decide +kernel
theorem dX11_init_113 : decode cX11_init 113 = .ok (.putfield 50, 3) := by decide +kernel
theorem dX11_init_116 : decode cX11_init 116 = .ok (.aload_n 0, 1) := by decide +kernel
theorem dX11_init_117 : decode cX11_init 117 = .ok (.bipush 40, 2) := by decide +kernel
theorem dX11_init_119 : decode cX11_init 119 = .ok (.newarray .int, 2) := by decide +kernel
theorem dX11_init_121 : decode cX11_init 121 = .ok (.putfield 53, 3) := by decide +kernel
theorem dX11_init_124 : decode cX11_init 124 = .ok (.aload_n 0, 1) := by decide +kernel
theorem dX11_init_125 : decode cX11_init 125 = .ok (.bipush 40, 2) := by decide +kernel
theorem dX11_init_127 : decode cX11_init 127 = .ok (.newarray .int, 2) := by decide +kernel
theorem dX11_init_129 : decode cX11_init 129 = .ok (.putfield 56, 3) := by decide +kernel
theorem dX11_init_132 : decode cX11_init 132 = .ok (.aload_n 0, 1) := by decide +kernel
theorem dX11_init_133 : decode cX11_init 133 = .ok (.sipush 1600, 3) := by decide +kernel
theorem dX11_init_136 : decode cX11_init 136 = .ok (.newarray .int, 2) := by decide +kernel
theorem dX11_init_138 : decode cX11_init 138 = .ok (.putfield 59, 3) := by decide +kernel
theorem dX11_init_141 : decode cX11_init 141 = .ok (.aload_n 0, 1) := by decide +kernel
theorem dX11_init_142 : decode cX11_init 142 = .ok (.bipush 40, 2) := by decide +kernel
theorem dX11_init_144 : decode cX11_init 144 = .ok (.newarray .int, 2) := by decide +kernel
theorem dX11_init_146 : decode cX11_init 146 = .ok (.putfield 62, 3) := by decide +kernel
theorem dX11_init_149 : decode cX11_init 149 = .ok (.aload_n 0, 1) := by decide +kernel
theorem dX11_init_150 : decode cX11_init 150 = .ok (.bipush 40, 2) := by decide +kernel
theorem dX11_init_152 : decode cX11_init 152 = .ok (.newarray .int, 2) := by decide +kernel
theorem dX11_init_154 : decode cX11_init 154 = .ok (.putfield 65, 3) := by decide +kernel
theorem dX11_init_157 : decode cX11_init 157 = .ok (.aload_n 0, 1) := by decide +kernel
theorem dX11_init_158 : decode cX11_init 158 = .ok (.sipush 2400, 3) := by decide +kernel
theorem dX11_init_161 : decode cX11_init 161 = .ok (.newarray .float, 2) := by decide +kernel
theorem dX11_init_163 : decode cX11_init 163 = .ok (.putfield 68, 3) := by decide +kernel
theorem dX11_init_166 : decode cX11_init 166 = .ok (.aload_n 0, 1) := by decide +kernel
theorem dX11_init_167 : decode cX11_init 167 = .ok (.sipush 2400, 3) := by decide +kernel
theorem dX11_init_170 : decode cX11_init 170 = .ok (.newarray .boolean, 2) := by decide +kernel
theorem dX11_init_172 : decode cX11_init 172 = .ok (.putfield 72, 3) := by decide +kernel
theorem dX11_init_175 : decode cX11_init 175 = .ok (.aload_n 0, 1) := by decide +kernel
theorem dX11_init_176 : decode cX11_init 176 = .ok (.bipush 16, 2) := by decide +kernel
theorem dX11_init_178 : decode cX11_init 178 = .ok (.newarray .int, 2) := by decide +kernel
theorem dX11_init_180 : decode cX11_init 180 = .ok (.putfield 75, 3) := by decide +kernel
theorem dX11_init_183 : decode cX11_init 183 = .ok (.aload_n 0, 1) := by decide +kernel
theorem dX11_init_184 : decode cX11_init 184 = .ok (.bipush 16, 2) := by decide +kernel
theorem dX11_init_186 : decode cX11_init 186 = .ok (.newarray .int, 2) := by decide +kernel
theorem dX11_init_188 : decode cX11_init 188 = .ok (.putfield 78, 3) := by decide +kernel
theorem dX11_init_191 : decode cX11_init 191 = .ok (.aload_n 0, 1) := by decide +kernel
theorem dX11_init_192 : decode cX11_init 192 = .ok (.iconst (-1), 1) := by decide +kernel
theorem dX11_init_193 : decode cX11_init 193 = .ok (.putfield 81, 3) := by decide +kernel
theorem dX11_init_196 : decode cX11_init 196 = .ok (.aload_n 0, 1) := by decide +kernel
theorem dX11_init_197 : decode cX11_init 197 = .ok (.bipush 6, 2) := by decide +kernel
theorem dX11_init_199 : decode cX11_init 199 = .ok (.newarray .int, 2) := by decide +kernel
theorem dX11_init_201 : decode cX11_init 201 = .ok (.putfield 85, 3) := by decide +kernel
theorem dX11_init_204 : decode cX11_init 204 = .ok (.aload_n 0, 1) := by decide +kernel
theorem dX11_init_205 : decode cX11_init 205 = .ok (.bipush 6, 2) := by decide +kernel
theorem dX11_init_207 : decode cX11_init 207 = .ok (.newarray .int, 2) := by decide +kernel
theorem dX11_init_209 : decode cX11_init 209 = .ok (.putfield 88, 3) := by decide +kernel
theorem dX11_init_212 : decode cX11_init 212 = .ok (.aload_n 0, 1) := by decide +kernel
theorem dX11_init_213 : decode cX11_init 213 = .ok (.bipush 6, 2) := by decide +kernel
theorem dX11_init_215 : decode cX11_init 215 = .ok (.newarray .int, 2) := by decide +kernel
theorem dX11_init_217 : decode cX11_init 217 = .ok (.putfield 91, 3) := by decide +kernel
theorem dX11_init_220 : decode cX11_init 220 = .ok (.aload_n 0, 1) := by decide +kernel
theorem dX11_init_221 : decode cX11_init 221 = .ok (.bipush 36, 2) := by decide +kernel
theorem dX11_init_223 : decode cX11_init 223 = .ok (.newarray .int, 2) := by decide +kernel
theorem dX11_init_225 : decode cX11_init 225 = .ok (.putfield 94, 3) := by decide +kernel
theorem dX11_init_228 : decode cX11_init 228 = .ok (.aload_n 0, 1) := by decide +kernel
theorem dX11_init_229 : decode cX11_init 229 = .ok (.bipush 10, 2) := by decide +kernel
theorem dX11_init_231 : decode cX11_init 231 = .ok (.newarray .int, 2) := by decide +kernel
theorem dX11_init_233 : decode cX11_init 233 = .ok (.putfield 97, 3) := by decide +kernel
theorem dX11_init_236 : decode cX11_init 236 = .ok (.aload_n 0, 1) := by decide +kernel
theorem dX11_init_237 : decode cX11_init 237 = .ok (.sipush 600, 3) := by decide +kernel
theorem dX11_init_240 : decode cX11_init 240 = .ok (.newarray .int, 2) := by decide +kernel
theorem dX11_init_242 : decode cX11_init 242 = .ok (.putfield 100, 3) := by decide +kernel
theorem dX11_init_245 : decode cX11_init 245 = .ok (.aload_n 0, 1) := by decide +kernel
theorem dX11_init_246 : decode cX11_init 246 = .ok (.sipush 600, 3) := by decide +kernel
theorem dX11_init_249 : decode cX11_init 249 = .ok (.newarray .int, 2) := by decide +kernel
theorem dX11_init_251 : decode cX11_init 251 = .ok (.putfield 103, 3) := by decide +kernel
theorem dX11_init_254 : decode cX11_init 254 = .ok (.aload_n 0, 1) := by decide +kernel
theorem dX11_init_255 : decode cX11_init 255 = .ok (.sipush 600, 3) := by decide +kernel
theorem dX11_init_258 : decode cX11_init 258 = .ok (.newarray .int, 2) := by decide +kernel
theorem dX11_init_260 : decode cX11_init 260 = .ok (.putfield 106, 3) := by decide +kernel
theorem dX11_init_263 : decode cX11_init 263 = .ok (.aload_n 0, 1) := by decide +kernel
theorem dX11_init_264 : decode cX11_init 264 = .ok (.sipush 600, 3) := by decide +kernel
theorem dX11_init_267 : decode cX11_init 267 = .ok (.newarray .int, 2) := by decide +kernel
theorem dX11_init_269 : decode cX11_init 269 = .ok (.putfield 109, 3) := by decide +kernel
theorem dX11_init_272 : decode cX11_init 272 = .ok (.aload_n 0, 1) := by decide +kernel
theorem dX11_init_273 : decode cX11_init 273 = .ok (.sipush 600, 3) := by decide +kernel
theorem dX11_init_276 : decode cX11_init 276 = .ok (.newarray .boolean, 2) := by decide +kernel
theorem dX11_init_278 : decode cX11_init 278 = .ok (.putfield 112, 3) := by decide +kernel
theorem dX11_init_281 : decode cX11_init 281 = .ok (.aload_n 0, 1) := by decide +kernel
theorem dX11_init_282 : decode cX11_init 282 = .ok (.sipush 600, 3) := by decide +kernel
theorem dX11_init_285 : decode cX11_init 285 = .ok (.newarray .int, 2) := by decide +kernel
theorem dX11_init_287 : decode cX11_init 287 = .ok (.putfield 115, 3) := by decide +kernel
theorem dX11_init_290 : decode cX11_init 290 = .ok (.aload_n 0, 1) := by decide +kernel
theorem dX11_init_291 : decode cX11_init 291 = .ok (.sipush 600, 3) := by decide +kernel
theorem dX11_init_294 : decode cX11_init 294 = .ok (.newarray .int, 2) := by decide +kernel
theorem dX11_init_296 : decode cX11_init 296 = .ok (.putfield 118, 3) := by decide +kernel
theorem dX11_init_299 : decode cX11_init 299 = .ok (.aload_n 0, 1) := by decide +kernel
theorem dX11_init_300 : decode cX11_init 300 = .ok (.sipush 144, 3) := by decide +kernel
theorem dX11_init_303 : decode cX11_init 303 = .ok (.newarray .int, 2) := by decide +kernel
theorem dX11_init_305 : decode cX11_init 305 = .ok (.putfield 121, 3) := by decide +kernel
theorem dX11_init_308 : decode cX11_init 308 = .ok (.aload_n 0, 1) := by decide +kernel
theorem dX11_init_309 : decode cX11_init 309 = .ok (.sipush 200, 3) := by decide +kernel
theorem dX11_init_312 : decode cX11_init 312 = .ok (.newarray .int, 2) := by decide +kernel
theorem dX11_init_314 : decode cX11_init 314 = .ok (.putfield 124, 3) := by decide +kernel
theorem dX11_init_317 : decode cX11_init 317 = .ok (.aload_n 0, 1) := by decide +kernel
theorem dX11_init_318 : decode cX11_init 318 = .ok (.sipush 144, 3) := by decide +kernel
theorem dX11_init_321 : decode cX11_init 321 = .ok (.newarray .int, 2) := by decide +kernel
theorem dX11_init_323 : decode cX11_init 323 = .ok (.putfield 127, 3) := by decide +kernel
theorem dX11_init_326 : decode cX11_init 326 = .ok (.aload_n 0, 1) := by decide +kernel
theorem dX11_init_327 : decode cX11_init 327 = .ok (.sipush 144, 3) := by decide +kernel
theorem dX11_init_330 : decode cX11_init 330 = .ok (.newarray .boolean, 2) := by decide +kernel
theorem dX11_init_332 : decode cX11_init 332 = .ok (.putfield 130, 3) := by decide +kernel
theorem dX11_init_335 : decode cX11_init 335 = .ok (.aload_n 0, 1) := by decide +kernel
theorem dX11_init_336 : decode cX11_init 336 = .ok (.sipush 144, 3) := by decide +kernel
theorem dX11_init_339 : decode cX11_init 339 = .ok (.newarray .boolean, 2) := by decide +kernel
theorem dX11_init_341 : decode cX11_init 341 = .ok (.putfield 133, 3) := by decide +kernel
theorem dX11_init_344 : decode cX11_init 344 = .ok (.aload_n 0, 1) := by decide +kernel
theorem dX11_init_345 : decode cX11_init 345 = .ok (.ldc 136, 2) := by decide +kernel
theorem dX11_init_347 : decode cX11_init 347 = .ok (.newarray .boolean, 2) := by decide +kernel
theorem dX11_init_349 : decode cX11_init 349 = .ok (.putfield 137, 3) := by decide +kernel
theorem dX11_init_352 : decode cX11_init 352 = .ok (.aload_n 0, 1) := by decide +kernel
theorem dX11_init_353 : decode cX11_init 353 = .ok (.bipush 40, 2) := by decide +kernel
theorem dX11_init_355 : decode cX11_init 355 = .ok (.newarray .int, 2) := by decide +kernel
theorem dX11_init_357 : decode cX11_init 357 = .ok (.putfield 140, 3) := by decide +kernel
theorem dX11_init_360 : decode cX11_init 360 = .ok (.aload_n 0, 1) := by decide +kernel
theorem dX11_init_361 : decode cX11_init 361 = .ok (.sipush 16384, 3) := by decide +kernel
theorem dX11_init_364 : decode cX11_init 364 = .ok (.newarray .int, 2) := by decide +kernel
theorem dX11_init_366 : decode cX11_init 366 = .ok (.putfield 143, 3) := by decide +kernel
theorem dX11_init_369 : decode cX11_init 369 = .ok (.aload_n 0, 1) := by decide +kernel
theorem dX11_init_370 : decode cX11_init 370 = .ok (.sipush 16384, 3) := by decide +kernel
theorem dX11_init_373 : decode cX11_init 373 = .ok (.newarray .byte, 2) := by decide +kernel
theorem dX11_init_375 : decode cX11_init 375 = .ok (.putfield 146, 3) := by decide +kernel
theorem dX11_init_378 : decode cX11_init 378 = .ok (.aload_n 0, 1) := by decide +kernel
theorem dX11_init_379 : decode cX11_init 379 = .ok (.sipush 10240, 3) := by decide +kernel
theorem dX11_init_382 : decode cX11_init 382 = .ok (.newarray .int, 2) := by decide +kernel
theorem dX11_init_384 : decode cX11_init 384 = .ok (.putfield 150, 3) := by decide +kernel
theorem dX11_init_387 : decode cX11_init 387 = .ok (.iconst 0, 1) := by decide +kernel
theorem dX11_init_388 : decode cX11_init 388 = .ok (.istore_n 1, 1) := by decide +kernel
theorem dX11_init_389 : decode cX11_init 389 = .ok (.iload_n 1, 1) := by decide +kernel
theorem dX11_init_390 : decode cX11_init 390 = .ok (.bipush 6, 2) := by decide +kernel
theorem dX11_init_392 : decode cX11_init 392 = .ok (.if_icmp .ge 18, 3) := by decide +kernel
theorem dX11_init_395 : decode cX11_init 395 = .ok (.aload_n 0, 1) := by decide +kernel
theorem dX11_init_396 : decode cX11_init 396 = .ok (.getfield 88, 3) := by decide +kernel
theorem dX11_init_399 : decode cX11_init 399 = .ok (.iload_n 1, 1) := by decide +kernel
theorem dX11_init_400 : decode cX11_init 400 = .ok (.sipush 900, 3) := by decide +kernel
theorem dX11_init_403 : decode cX11_init 403 = .ok (.iastore, 1) := by decide +kernel
theorem dX11_init_404 : decode cX11_init 404 = .ok (.iinc 1 1, 3) := by decide +kernel
theorem dX11_init_407 : decode cX11_init 407 = .ok (.goto (-18), 3) := by decide +kernel
theorem dX11_init_410 : decode cX11_init 410 = .ok (.iconst 0, 1) := by decide +kernel
theorem dX11_init_411 : decode cX11_init 411 = .ok (.istore_n 1, 1) := by decide +kernel
theorem dX11_init_412 : decode cX11_init 412 = .ok (.iload_n 1, 1) := by decide +kernel
theorem dX11_init_413 : decode cX11_init 413 = .ok (.sipush 144, 3) := by decide +kernel
theorem dX11_init_416 : decode cX11_init 416 = .ok (.if_icmp .ge 16, 3) := by decide +kernel
theorem dX11_init_419 : decode cX11_init 419 = .ok (.aload_n 0, 1) := by decide +kernel
theorem dX11_init_420 : decode cX11_init 420 = .ok (.getfield 121, 3) := by decide +kernel
theorem dX11_init_423 : decode cX11_init 423 = .ok (.iload_n 1, 1) := by decide +kernel
theorem dX11_init_424 : decode cX11_init 424 = .ok (.iconst (-1), 1) := by decide +kernel
theorem dX11_init_425 : decode cX11_init 425 = .ok (.iastore, 1) := by decide +kernel
theorem dX11_init_426 : decode cX11_init 426 = .ok (.iinc 1 1, 3) := by decide +kernel
theorem dX11_init_429 : decode cX11_init 429 = .ok (.goto (-17), 3) := by decide +kernel
theorem dX11_init_432 : decode cX11_init 432 = .ok (.aload_n 0, 1) := by decide +kernel
theorem dX11_init_433 : decode cX11_init 433 = .ok (.getfield 91, 3) := by decide +kernel
theorem dX11_init_436 : decode cX11_init 436 = .ok (.iconst 0, 1) := by decide +kernel
theorem dX11_init_437 : decode cX11_init 437 = .ok (.sipush 450, 3) := by decide +kernel
theorem dX11_init_440 : decode cX11_init 440 = .ok (.iastore, 1) := by decide +kernel
theorem dX11_init_441 : decode cX11_init 441 = .ok (.aload_n 0, 1) := by decide +kernel
theorem dX11_init_442 : decode cX11_init 442 = .ok (.getfield 91, 3) := by decide +kernel
theorem dX11_init_445 : decode cX11_init 445 = .ok (.iconst 1, 1) := by decide +kernel
theorem dX11_init_446 : decode cX11_init 446 = .ok (.sipush 270, 3) := by decide +kernel
theorem dX11_init_449 : decode cX11_init 449 = .ok (.iastore, 1) := by decide +kernel
theorem dX11_init_450 : decode cX11_init 450 = .ok (.aload_n 0, 1) := by decide +kernel
theorem dX11_init_451 : decode cX11_init 451 = .ok (.getfield 91, 3) := by decide +kernel
theorem dX11_init_454 : decode cX11_init 454 = .ok (.iconst 2, 1) := by decide +kernel
theorem dX11_init_455 : decode cX11_init 455 = .ok (.sipush 310, 3) := by decide +kernel
theorem dX11_init_458 : decode cX11_init 458 = .ok (.iastore, 1) := by decide +kernel
theorem dX11_init_459 : decode cX11_init 459 = .ok (.aload_n 0, 1) := by decide +kernel
theorem dX11_init_460 : decode cX11_init 460 = .ok (.getfield 91, 3) := by decide +kernel
theorem dX11_init_463 : decode cX11_init 463 = .ok (.iconst 3, 1) := by decide +kernel
theorem dX11_init_464 : decode cX11_init 464 = .ok (.sipush 320, 3) := by decide +kernel
theorem dX11_init_467 : decode cX11_init 467 = .ok (.iastore, 1) := by decide +kernel
theorem dX11_init_468 : decode cX11_init 468 = .ok (.aload_n 0, 1) := by decide +kernel
theorem dX11_init_469 : decode cX11_init 469 = .ok (.getfield 91, 3) := by decide +kernel
theorem dX11_init_472 : decode cX11_init 472 = .ok (.iconst 4, 1) := by decide +kernel
theorem dX11_init_473 : decode cX11_init 473 = .ok (.sipush 290, 3) := by decide +kernel
theorem dX11_init_476 : decode cX11_init 476 = .ok (.iastore, 1) := by decide +kernel
theorem dX11_init_477 : decode cX11_init 477 = .ok (.aload_n 0, 1) := by decide +kernel
theorem dX11_init_478 : decode cX11_init 478 = .ok (.getfield 91, 3) := by decide +kernel
theorem dX11_init_481 : decode cX11_init 481 = .ok (.iconst 5, 1) := by decide +kernel
theorem dX11_init_482 : decode cX11_init 482 = .ok (.iconst 2, 1) := by decide +kernel
theorem dX11_init_483 : decode cX11_init 483 = .ok (.iastore, 1) := by decide +kernel
theorem dX11_init_484 : decode cX11_init 484 = .ok (.return_, 1) := by decide +kernel
theorem dX11_isIn_0 : decode cX11_isIn 0 = .ok (.iload_n 0, 1) := by decide +kernel
theorem dX11_isIn_1 : decode cX11_isIn 1 = .ok (.iload_n 1, 1) := by decide +kernel
theorem dX11_isIn_2 : decode cX11_isIn 2 = .ok (.if_icmp .lt 12, 3) := by decide +kernel
theorem dX11_isIn_5 : decode cX11_isIn 5 = .ok (.iload_n 0, 1) := by decide +kernel
theorem dX11_isIn_6 : decode cX11_isIn 6 = .ok (.iload_n 2, 1) := by decide +kernel
theorem dX11_isIn_7 : decode cX11_isIn 7 = .ok (.if_icmp .gt 7, 3) := by decide +kernel
theorem dX11_isIn_10 : decode cX11_isIn 10 = .ok (.iconst 1, 1) := by decide +kernel
theorem dX11_isIn_11 : decode cX11_isIn 11 = .ok (.goto 4, 3) := by decide +kernel
theorem dX11_isIn_14 : decode cX11_isIn 14 = .ok (.iconst 0, 1) := by decide +kernel
theorem dX11_isIn_15 : decode cX11_isIn 15 = .ok (.ireturn, 1) := by decide +kernel
theorem dX11_isBatch_0 : decode cX11_isBatch 0 = .ok (.iload_n 1, 1) := by decide +kernel
theorem dX11_isBatch_1 : decode cX11_isBatch 1 = .ok (.iconst 0, 1) := by decide +kernel
theorem dX11_isBatch_2 : decode cX11_isBatch 2 = .ok (.aload_n 0, 1) := by decide +kernel
theorem dX11_isBatch_3 : decode cX11_isBatch 3 = .ok (.getfield 153, 3) := by decide +kernel
theorem dX11_isBatch_6 : decode cX11_isBatch 6 = .ok (.iconst 1, 1) := by decide +kernel
theorem dX11_isBatch_7 : decode cX11_isBatch 7 = .ok (.isub, 1) := by decide +kernel
theorem dX11_isBatch_8 : decode cX11_isBatch 8 = .ok (.invokestatic 156, 3) := by decide +kernel
theorem dX11_isBatch_11 : decode cX11_isBatch 11 = .ok (.ireturn, 1) := by decide +kernel
theorem dX11_lot_0 : decode cX11_lot 0 = .ok (.iload_n 1, 1) := by decide +kernel
theorem dX11_lot_1 : decode cX11_lot 1 = .ok (.iconst 0, 1) := by decide +kernel
theorem dX11_lot_2 : decode cX11_lot 2 = .ok (.ldc 160, 2) := by decide +kernel
theorem dX11_lot_4 : decode cX11_lot 4 = .ok (.invokestatic 156, 3) := by decide +kernel
theorem dX11_lot_7 : decode cX11_lot 7 = .ok (.ifCond .eq 23, 3) := by decide +kernel
theorem dX11_lot_10 : decode cX11_lot 10 = .ok (.iload_n 2, 1) := by decide +kernel
theorem dX11_lot_11 : decode cX11_lot 11 = .ok (.iconst 0, 1) := by decide +kernel
theorem dX11_lot_12 : decode cX11_lot 12 = .ok (.sipush 255, 3) := by decide +kernel
theorem dX11_lot_15 : decode cX11_lot 15 = .ok (.invokestatic 156, 3) := by decide +kernel
theorem dX11_lot_18 : decode cX11_lot 18 = .ok (.ifCond .eq 12, 3) := by decide +kernel
theorem dX11_lot_21 : decode cX11_lot 21 = .ok (.aload_n 0, 1) := by decide +kernel
theorem dX11_lot_22 : decode cX11_lot 22 = .ok (.getfield 161, 3) := by decide +kernel
theorem dX11_lot_25 : decode cX11_lot 25 = .ok (.bipush 40, 2) := by decide +kernel
theorem dX11_lot_27 : decode cX11_lot 27 = .ok (.if_icmp .ne 5, 3) := by decide +kernel
theorem dX11_lot_30 : decode cX11_lot 30 = .ok (.iconst (-1), 1) := by decide +kernel
theorem dX11_lot_31 : decode cX11_lot 31 = .ok (.ireturn, 1) := by decide +kernel
theorem dX11_lot_32 : decode cX11_lot 32 = .ok (.aload_n 0, 1) := by decide +kernel
theorem dX11_lot_33 : decode cX11_lot 33 = .ok (.getfield 7, 3) := by decide +kernel
theorem dX11_lot_36 : decode cX11_lot 36 = .ok (.aload_n 0, 1) := by decide +kernel
theorem dX11_lot_37 : decode cX11_lot 37 = .ok (.getfield 161, 3) := by decide +kernel
theorem dX11_lot_40 : decode cX11_lot 40 = .ok (.iload_n 1, 1) := by decide +kernel
theorem dX11_lot_41 : decode cX11_lot 41 = .ok (.iastore, 1) := by decide +kernel
theorem dX11_lot_42 : decode cX11_lot 42 = .ok (.aload_n 0, 1) := by decide +kernel
theorem dX11_lot_43 : decode cX11_lot 43 = .ok (.getfield 13, 3) := by decide +kernel
theorem dX11_lot_46 : decode cX11_lot 46 = .ok (.aload_n 0, 1) := by decide +kernel
theorem dX11_lot_47 : decode cX11_lot 47 = .ok (.getfield 161, 3) := by decide +kernel
theorem dX11_lot_50 : decode cX11_lot 50 = .ok (.iload_n 2, 1) := by decide +kernel
theorem dX11_lot_51 : decode cX11_lot 51 = .ok (.iastore, 1) := by decide +kernel
theorem dX11_lot_52 : decode cX11_lot 52 = .ok (.aload_n 0, 1) := by decide +kernel
theorem dX11_lot_53 : decode cX11_lot 53 = .ok (.dup, 1) := by decide +kernel
theorem dX11_lot_54 : decode cX11_lot 54 = .ok (.getfield 161, 3) := by decide +kernel
theorem dX11_lot_57 : decode cX11_lot 57 = .ok (.iconst 1, 1) := by decide +kernel
theorem dX11_lot_58 : decode cX11_lot 58 = .ok (.iadd, 1) := by decide +kernel
theorem dX11_lot_59 : decode cX11_lot 59 = .ok (.putfield 161, 3) := by decide +kernel
theorem dX11_lot_62 : decode cX11_lot 62 = .ok (.aload_n 0, 1) := by decide +kernel
theorem dX11_lot_63 : decode cX11_lot 63 = .ok (.getfield 161, 3) := by decide +kernel
theorem dX11_lot_66 : decode cX11_lot 66 = .ok (.iconst 1, 1) := by decide +kernel
theorem dX11_lot_67 : decode cX11_lot 67 = .ok (.isub, 1) := by decide +kernel
theorem dX11_lot_68 : decode cX11_lot 68 = .ok (.ireturn, 1) := by decide +kernel
theorem dX11_batch_0 : decode cX11_batch 0 = .ok (.iload_n 1, 1) := by decide +kernel
theorem dX11_batch_1 : decode cX11_batch 1 = .ok (.iconst 0, 1) := by decide +kernel
theorem dX11_batch_2 : decode cX11_batch 2 = .ok (.iconst 5, 1) := by decide +kernel
theorem dX11_batch_3 : decode cX11_batch 3 = .ok (.invokestatic 156, 3) := by decide +kernel
theorem dX11_batch_6 : decode cX11_batch 6 = .ok (.ifCond .eq 12, 3) := by decide +kernel
theorem dX11_batch_9 : decode cX11_batch 9 = .ok (.aload_n 0, 1) := by decide +kernel
theorem dX11_batch_10 : decode cX11_batch 10 = .ok (.getfield 153, 3) := by decide +kernel
theorem dX11_batch_13 : decode cX11_batch 13 = .ok (.bipush 40, 2) := by decide +kernel
theorem dX11_batch_15 : decode cX11_batch 15 = .ok (.if_icmp .ne 5, 3) := by decide +kernel
theorem dX11_batch_18 : decode cX11_batch 18 = .ok (.iconst (-1), 1) := by decide +kernel
theorem dX11_batch_19 : decode cX11_batch 19 = .ok (.ireturn, 1) := by decide +kernel
theorem dX11_batch_20 : decode cX11_batch 20 = .ok (.aload_n 0, 1) := by decide +kernel
theorem dX11_batch_21 : decode cX11_batch 21 = .ok (.getfield 16, 3) := by decide +kernel
theorem dX11_batch_24 : decode cX11_batch 24 = .ok (.aload_n 0, 1) := by decide +kernel
theorem dX11_batch_25 : decode cX11_batch 25 = .ok (.getfield 153, 3) := by decide +kernel
theorem dX11_batch_28 : decode cX11_batch 28 = .ok (.iload_n 1, 1) := by decide +kernel
theorem dX11_batch_29 : decode cX11_batch 29 = .ok (.iastore, 1) := by decide +kernel
theorem dX11_batch_30 : decode cX11_batch 30 = .ok (.aload_n 0, 1) := by decide +kernel
theorem dX11_batch_31 : decode cX11_batch 31 = .ok (.getfield 62, 3) := by decide +kernel
theorem dX11_batch_34 : decode cX11_batch 34 = .ok (.aload_n 0, 1) := by decide +kernel
theorem dX11_batch_35 : decode cX11_batch 35 = .ok (.getfield 153, 3) := by decide +kernel
theorem dX11_batch_38 : decode cX11_batch 38 = .ok (.iconst (-1), 1) := by decide +kernel
theorem dX11_batch_39 : decode cX11_batch 39 = .ok (.iastore, 1) := by decide +kernel
theorem dX11_batch_40 : decode cX11_batch 40 = .ok (.aload_n 0, 1) := by decide +kernel
theorem dX11_batch_41 : decode cX11_batch 41 = .ok (.getfield 65, 3) := by decide +kernel
theorem dX11_batch_44 : decode cX11_batch 44 = .ok (.aload_n 0, 1) := by decide +kernel
theorem dX11_batch_45 : decode cX11_batch 45 = .ok (.getfield 153, 3) := by decide +kernel
theorem dX11_batch_48 : decode cX11_batch 48 = .ok (.iconst (-1), 1) := by decide +kernel
theorem dX11_batch_49 : decode cX11_batch 49 = .ok (.iastore, 1) := by decide +kernel
theorem dX11_batch_50 : decode cX11_batch 50 = .ok (.aload_n 0, 1) := by decide +kernel
theorem dX11_batch_51 : decode cX11_batch 51 = .ok (.getfield 31, 3) := by decide +kernel
theorem dX11_batch_54 : decode cX11_batch 54 = .ok (.aload_n 0, 1) := by decide +kernel
theorem dX11_batch_55 : decode cX11_batch 55 = .ok (.getfield 153, 3) := by decide +kernel
theorem dX11_batch_58 : decode cX11_batch 58 = .ok (.ldc 164, 2) := by decide +kernel
theorem dX11_batch_60 : decode cX11_batch 60 = .ok (.iastore, 1) := by decide +kernel
theorem dX11_batch_61 : decode cX11_batch 61 = .ok (.aload_n 0, 1) := by decide +kernel
theorem dX11_batch_62 : decode cX11_batch 62 = .ok (.getfield 34, 3) := by decide +kernel
theorem dX11_batch_65 : decode cX11_batch 65 = .ok (.aload_n 0, 1) := by decide +kernel
theorem dX11_batch_66 : decode cX11_batch 66 = .ok (.getfield 153, 3) := by decide +kernel
theorem dX11_batch_69 : decode cX11_batch 69 = .ok (.iconst (-1), 1) := by decide +kernel
theorem dX11_batch_70 : decode cX11_batch 70 = .ok (.iastore, 1) := by decide +kernel
theorem dX11_batch_71 : decode cX11_batch 71 = .ok (.aload_n 0, 1) := by decide +kernel
theorem dX11_batch_72 : decode cX11_batch 72 = .ok (.getfield 37, 3) := by decide +kernel
theorem dX11_batch_75 : decode cX11_batch 75 = .ok (.aload_n 0, 1) := by decide +kernel
theorem dX11_batch_76 : decode cX11_batch 76 = .ok (.getfield 153, 3) := by decide +kernel
theorem dX11_batch_79 : decode cX11_batch 79 = .ok (.iconst (-1), 1) := by decide +kernel
theorem dX11_batch_80 : decode cX11_batch 80 = .ok (.iastore, 1) := by decide +kernel
theorem dX11_batch_81 : decode cX11_batch 81 = .ok (.aload_n 0, 1) := by decide +kernel
theorem dX11_batch_82 : decode cX11_batch 82 = .ok (.dup, 1) := by decide +kernel
theorem dX11_batch_83 : decode cX11_batch 83 = .ok (.getfield 153, 3) := by decide +kernel
theorem dX11_batch_86 : decode cX11_batch 86 = .ok (.iconst 1, 1) := by decide +kernel
theorem dX11_batch_87 : decode cX11_batch 87 = .ok (.iadd, 1) := by decide +kernel
theorem dX11_batch_88 : decode cX11_batch 88 = .ok (.putfield 153, 3) := by decide +kernel
theorem dX11_batch_91 : decode cX11_batch 91 = .ok (.aload_n 0, 1) := by decide +kernel
theorem dX11_batch_92 : decode cX11_batch 92 = .ok (.getfield 153, 3) := by decide +kernel
theorem dX11_batch_95 : decode cX11_batch 95 = .ok (.iconst 1, 1) := by decide +kernel
theorem dX11_batch_96 : decode cX11_batch 96 = .ok (.isub, 1) := by decide +kernel
theorem dX11_batch_97 : decode cX11_batch 97 = .ok (.ireturn, 1) := by decide +kernel
theorem dX11_put_0 : decode cX11_put 0 = .ok (.aload_n 0, 1) := by decide +kernel
theorem dX11_put_1 : decode cX11_put 1 = .ok (.iload_n 1, 1) := by decide +kernel
theorem dX11_put_2 : decode cX11_put 2 = .ok (.invokevirtual 165, 3) := by decide +kernel
theorem dX11_put_5 : decode cX11_put 5 = .ok (.ifCond .eq 40, 3) := by decide +kernel
theorem dX11_put_8 : decode cX11_put 8 = .ok (.aload_n 0, 1) := by decide +kernel
theorem dX11_put_9 : decode cX11_put 9 = .ok (.getfield 40, 3) := by decide +kernel
theorem dX11_put_12 : decode cX11_put 12 = .ok (.iload_n 1, 1) := by decide +kernel
theorem dX11_put_13 : decode cX11_put 13 = .ok (.baload, 1) := by decide +kernel
theorem dX11_put_14 : decode cX11_put 14 = .ok (.ifCond .ne 31, 3) := by decide +kernel
theorem dX11_put_17 : decode cX11_put 17 = .ok (.iload_n 2, 1) := by decide +kernel
theorem dX11_put_18 : decode cX11_put 18 = .ok (.iconst 0, 1) := by decide +kernel
theorem dX11_put_19 : decode cX11_put 19 = .ok (.aload_n 0, 1) := by decide +kernel
theorem dX11_put_20 : decode cX11_put 20 = .ok (.getfield 161, 3) := by decide +kernel
theorem dX11_put_23 : decode cX11_put 23 = .ok (.iconst 1, 1) := by decide +kernel
theorem dX11_put_24 : decode cX11_put 24 = .ok (.isub, 1) := by decide +kernel
theorem dX11_put_25 : decode cX11_put 25 = .ok (.invokestatic 156, 3) := by decide +kernel
theorem dX11_put_28 : decode cX11_put 28 = .ok (.ifCond .eq 17, 3) := by decide +kernel
theorem dX11_put_31 : decode cX11_put 31 = .ok (.iload_n 3, 1) := by decide +kernel
theorem dX11_put_32 : decode cX11_put 32 = .ok (.iconst 1, 1) := by decide +kernel
theorem dX11_put_33 : decode cX11_put 33 = .ok (.aload_n 0, 1) := by decide +kernel
theorem dX11_put_34 : decode cX11_put 34 = .ok (.getfield 7, 3) := by decide +kernel
theorem dX11_put_37 : decode cX11_put 37 = .ok (.iload_n 2, 1) := by decide +kernel
theorem dX11_put_38 : decode cX11_put 38 = .ok (.iaload, 1) := by decide +kernel
theorem dX11_put_39 : decode cX11_put 39 = .ok (.invokestatic 156, 3) := by decide +kernel
theorem dX11_put_42 : decode cX11_put 42 = .ok (.ifCond .ne 5, 3) := by decide +kernel
theorem dX11_put_45 : decode cX11_put 45 = .ok (.iconst (-1), 1) := by decide +kernel
theorem dX11_put_46 : decode cX11_put 46 = .ok (.ireturn, 1) := by decide +kernel
theorem dX11_put_47 : decode cX11_put 47 = .ok (.aload_n 0, 1) := by decide +kernel
theorem dX11_put_48 : decode cX11_put 48 = .ok (.getfield 7, 3) := by decide +kernel
theorem dX11_put_51 : decode cX11_put 51 = .ok (.iload_n 2, 1) := by decide +kernel
theorem dX11_put_52 : decode cX11_put 52 = .ok (.dup2, 1) := by decide +kernel
theorem dX11_put_53 : decode cX11_put 53 = .ok (.iaload, 1) := by decide +kernel
theorem dX11_put_54 : decode cX11_put 54 = .ok (.iload_n 3, 1) := by decide +kernel
theorem dX11_put_55 : decode cX11_put 55 = .ok (.isub, 1) := by decide +kernel
theorem dX11_put_56 : decode cX11_put 56 = .ok (.iastore, 1) := by decide +kernel
theorem dX11_put_57 : decode cX11_put 57 = .ok (.aload_n 0, 1) := by decide +kernel
theorem dX11_put_58 : decode cX11_put 58 = .ok (.getfield 19, 3) := by decide +kernel
theorem dX11_put_61 : decode cX11_put 61 = .ok (.iload_n 1, 1) := by decide +kernel
theorem dX11_put_62 : decode cX11_put 62 = .ok (.dup2, 1) := by decide +kernel
theorem dX11_put_63 : decode cX11_put 63 = .ok (.iaload, 1) := by decide +kernel
theorem dX11_put_64 : decode cX11_put 64 = .ok (.iload_n 3, 1) := by decide +kernel
theorem dX11_put_65 : decode cX11_put 65 = .ok (.iadd, 1) := by decide +kernel
theorem dX11_put_66 : decode cX11_put 66 = .ok (.iastore, 1) := by decide +kernel
theorem dX11_put_67 : decode cX11_put 67 = .ok (.aload_n 0, 1) := by decide +kernel
theorem dX11_put_68 : decode cX11_put 68 = .ok (.getfield 22, 3) := by decide +kernel
theorem dX11_put_71 : decode cX11_put 71 = .ok (.iload_n 1, 1) := by decide +kernel
theorem dX11_put_72 : decode cX11_put 72 = .ok (.dup2, 1) := by decide +kernel
theorem dX11_put_73 : decode cX11_put 73 = .ok (.iaload, 1) := by decide +kernel
theorem dX11_put_74 : decode cX11_put 74 = .ok (.iload_n 3, 1) := by decide +kernel
theorem dX11_put_75 : decode cX11_put 75 = .ok (.iadd, 1) := by decide +kernel
theorem dX11_put_76 : decode cX11_put 76 = .ok (.iastore, 1) := by decide +kernel
theorem dX11_put_77 : decode cX11_put 77 = .ok (.aload_n 0, 1) := by decide +kernel
theorem dX11_put_78 : decode cX11_put 78 = .ok (.getfield 59, 3) := by decide +kernel
theorem dX11_put_81 : decode cX11_put 81 = .ok (.bipush 40, 2) := by decide +kernel
theorem dX11_put_83 : decode cX11_put 83 = .ok (.iload_n 1, 1) := by decide +kernel
theorem dX11_put_84 : decode cX11_put 84 = .ok (.imul, 1) := by decide +kernel
theorem dX11_put_85 : decode cX11_put 85 = .ok (.iload_n 2, 1) := by decide +kernel
theorem dX11_put_86 : decode cX11_put 86 = .ok (.iadd, 1) := by decide +kernel
theorem dX11_put_87 : decode cX11_put 87 = .ok (.dup2, 1) := by decide +kernel
theorem dX11_put_88 : decode cX11_put 88 = .ok (.iaload, 1) := by decide +kernel
theorem dX11_put_89 : decode cX11_put 89 = .ok (.iload_n 3, 1) := by decide +kernel
theorem dX11_put_90 : decode cX11_put 90 = .ok (.iadd, 1) := by decide +kernel
theorem dX11_put_91 : decode cX11_put 91 = .ok (.iastore, 1) := by decide +kernel
theorem dX11_put_92 : decode cX11_put 92 = .ok (.aload_n 0, 1) := by decide +kernel
theorem dX11_put_93 : decode cX11_put 93 = .ok (.getfield 19, 3) := by decide +kernel
theorem dX11_put_96 : decode cX11_put 96 = .ok (.iload_n 1, 1) := by decide +kernel
theorem dX11_put_97 : decode cX11_put 97 = .ok (.iaload, 1) := by decide +kernel
theorem dX11_put_98 : decode cX11_put 98 = .ok (.ireturn, 1) := by decide +kernel
theorem dX11_row_0 : decode cX11_row 0 = .ok (.aload_n 0, 1) := by decide +kernel
theorem dX11_row_1 : decode cX11_row 1 = .ok (.iload_n 1, 1) := by decide +kernel
theorem dX11_row_2 : decode cX11_row 2 = .ok (.invokevirtual 165, 3) := by decide +kernel
theorem dX11_row_5 : decode cX11_row 5 = .ok (.ifCond .eq 31, 3) := by decide +kernel
theorem dX11_row_8 : decode cX11_row 8 = .ok (.aload_n 0, 1) := by decide +kernel
theorem dX11_row_9 : decode cX11_row 9 = .ok (.getfield 40, 3) := by decide +kernel
theorem dX11_row_12 : decode cX11_row 12 = .ok (.iload_n 1, 1) := by decide +kernel
theorem dX11_row_13 : decode cX11_row 13 = .ok (.baload, 1) := by decide +kernel
theorem dX11_row_14 : decode cX11_row 14 = .ok (.ifCond .ne 22, 3) := by decide +kernel
theorem dX11_row_17 : decode cX11_row 17 = .ok (.iload_n 2, 1) := by decide +kernel
theorem dX11_row_18 : decode cX11_row 18 = .ok (.iconst 0, 1) := by decide +kernel
theorem dX11_row_19 : decode cX11_row 19 = .ok (.iconst 1, 1) := by decide +kernel
theorem dX11_row_20 : decode cX11_row 20 = .ok (.invokestatic 156, 3) := by decide +kernel
theorem dX11_row_23 : decode cX11_row 23 = .ok (.ifCond .eq 13, 3) := by decide +kernel
theorem dX11_row_26 : decode cX11_row 26 = .ok (.iload_n 3, 1) := by decide +kernel
theorem dX11_row_27 : decode cX11_row 27 = .ok (.iconst (-1), 1) := by decide +kernel
theorem dX11_row_28 : decode cX11_row 28 = .ok (.bipush 60, 2) := by decide +kernel
theorem dX11_row_30 : decode cX11_row 30 = .ok (.invokestatic 156, 3) := by decide +kernel
theorem dX11_row_33 : decode cX11_row 33 = .ok (.ifCond .ne 5, 3) := by decide +kernel
theorem dX11_row_36 : decode cX11_row 36 = .ok (.iconst 0, 1) := by decide +kernel
theorem dX11_row_37 : decode cX11_row 37 = .ok (.ireturn, 1) := by decide +kernel
theorem dX11_row_38 : decode cX11_row 38 = .ok (.iload_n 2, 1) := by decide +kernel
theorem dX11_row_39 : decode cX11_row 39 = .ok (.ifCond .ne 13, 3) := by decide +kernel
theorem dX11_row_42 : decode cX11_row 42 = .ok (.aload_n 0, 1) := by decide +kernel
theorem dX11_row_43 : decode cX11_row 43 = .ok (.getfield 62, 3) := by decide +kernel
theorem dX11_row_46 : decode cX11_row 46 = .ok (.iload_n 1, 1) := by decide +kernel
theorem dX11_row_47 : decode cX11_row 47 = .ok (.iload_n 3, 1) := by decide +kernel
theorem dX11_row_48 : decode cX11_row 48 = .ok (.iastore, 1) := by decide +kernel
theorem dX11_row_49 : decode cX11_row 49 = .ok (.goto 10, 3) := by decide +kernel
theorem dX11_row_52 : decode cX11_row 52 = .ok (.aload_n 0, 1) := by decide +kernel
theorem dX11_row_53 : decode cX11_row 53 = .ok (.getfield 65, 3) := by decide +kernel
theorem dX11_row_56 : decode cX11_row 56 = .ok (.iload_n 1, 1) := by decide +kernel
theorem dX11_row_57 : decode cX11_row 57 = .ok (.iload_n 3, 1) := by decide +kernel
theorem dX11_row_58 : decode cX11_row 58 = .ok (.iastore, 1) := by decide +kernel
theorem dX11_row_59 : decode cX11_row 59 = .ok (.iconst 0, 1) := by decide +kernel
theorem dX11_row_60 : decode cX11_row 60 = .ok (.istore 4, 2) := by decide +kernel
theorem dX11_row_62 : decode cX11_row 62 = .ok (.iload 4, 2) := by decide +kernel
theorem dX11_row_64 : decode cX11_row 64 = .ok (.bipush 60, 2) := by decide +kernel
theorem dX11_row_66 : decode cX11_row 66 = .ok (.if_icmp .ge 42, 3) := by decide +kernel
theorem dX11_row_69 : decode cX11_row 69 = .ok (.iload_n 2, 1) := by decide +kernel
theorem dX11_row_70 : decode cX11_row 70 = .ok (.ifCond .ne 19, 3) := by decide +kernel
theorem dX11_row_73 : decode cX11_row 73 = .ok (.aload_n 0, 1) := by decide +kernel
theorem dX11_row_74 : decode cX11_row 74 = .ok (.getfield 68, 3) := by decide +kernel
theorem dX11_row_77 : decode cX11_row 77 = .ok (.bipush 60, 2) := by decide +kernel
theorem dX11_row_79 : decode cX11_row 79 = .ok (.iload_n 1, 1) := by decide +kernel
theorem dX11_row_80 : decode cX11_row 80 = .ok (.imul, 1) := by decide +kernel
theorem dX11_row_81 : decode cX11_row 81 = .ok (.iload 4, 2) := by decide +kernel
theorem dX11_row_83 : decode cX11_row 83 = .ok (.iadd, 1) := by decide +kernel
theorem dX11_row_84 : decode cX11_row 84 = .ok (.fconst 0, 1) := by decide +kernel
theorem dX11_row_85 : decode cX11_row 85 = .ok (.fastore, 1) := by decide +kernel
theorem dX11_row_86 : decode cX11_row 86 = .ok (.goto 16, 3) := by decide +kernel
theorem dX11_row_89 : decode cX11_row 89 = .ok (.aload_n 0, 1) := by decide +kernel
theorem dX11_row_90 : decode cX11_row 90 = .ok (.getfield 72, 3) := by decide +kernel
theorem dX11_row_93 : decode cX11_row 93 = .ok (.bipush 60, 2) := by decide +kernel
theorem dX11_row_95 : decode cX11_row 95 = .ok (.iload_n 1, 1) := by decide +kernel
theorem dX11_row_96 : decode cX11_row 96 = .ok (.imul, 1) := by decide +kernel
theorem dX11_row_97 : decode cX11_row 97 = .ok (.iload 4, 2) := by decide +kernel
theorem dX11_row_99 : decode cX11_row 99 = .ok (.iadd, 1) := by decide +kernel
theorem dX11_row_100 : decode cX11_row 100 = .ok (.iconst 0, 1) := by decide +kernel
theorem dX11_row_101 : decode cX11_row 101 = .ok (.bastore, 1) := by decide +kernel
theorem dX11_row_102 : decode cX11_row 102 = .ok (.iinc 4 1, 3) := by decide +kernel
theorem dX11_row_105 : decode cX11_row 105 = .ok (.goto (-43), 3) := by decide +kernel
theorem dX11_row_108 : decode cX11_row 108 = .ok (.iconst 1, 1) := by decide +kernel
theorem dX11_row_109 : decode cX11_row 109 = .ok (.ireturn, 1) := by decide +kernel
theorem dX11_tick_0 : decode cX11_tick 0 = .ok (.aload_n 0, 1) := by decide +kernel
theorem dX11_tick_1 : decode cX11_tick 1 = .ok (.iload_n 1, 1) := by decide +kernel
theorem dX11_tick_2 : decode cX11_tick 2 = .ok (.invokevirtual 165, 3) := by decide +kernel
theorem dX11_tick_5 : decode cX11_tick 5 = .ok (.ifCond .eq 28, 3) := by decide +kernel
theorem dX11_tick_8 : decode cX11_tick 8 = .ok (.aload_n 0, 1) := by decide +kernel
theorem dX11_tick_9 : decode cX11_tick 9 = .ok (.getfield 40, 3) := by decide +kernel
theorem dX11_tick_12 : decode cX11_tick 12 = .ok (.iload_n 1, 1) := by decide +kernel
theorem dX11_tick_13 : decode cX11_tick 13 = .ok (.baload, 1) := by decide +kernel
theorem dX11_tick_14 : decode cX11_tick 14 = .ok (.ifCond .ne 19, 3) := by decide +kernel
theorem dX11_tick_17 : decode cX11_tick 17 = .ok (.iload_n 2, 1) := by decide +kernel
theorem dX11_tick_18 : decode cX11_tick 18 = .ok (.iconst 0, 1) := by decide +kernel
theorem dX11_tick_19 : decode cX11_tick 19 = .ok (.aload_n 0, 1) := by decide +kernel
theorem dX11_tick_20 : decode cX11_tick 20 = .ok (.getfield 62, 3) := by decide +kernel
theorem dX11_tick_23 : decode cX11_tick 23 = .ok (.iload_n 1, 1) := by decide +kernel
theorem dX11_tick_24 : decode cX11_tick 24 = .ok (.iaload, 1) := by decide +kernel
theorem dX11_tick_25 : decode cX11_tick 25 = .ok (.iconst 1, 1) := by decide +kernel
theorem dX11_tick_26 : decode cX11_tick 26 = .ok (.isub, 1) := by decide +kernel
theorem dX11_tick_27 : decode cX11_tick 27 = .ok (.invokestatic 156, 3) := by decide +kernel
theorem dX11_tick_30 : decode cX11_tick 30 = .ok (.ifCond .ne 5, 3) := by decide +kernel
theorem dX11_tick_33 : decode cX11_tick 33 = .ok (.iconst 0, 1) := by decide +kernel
theorem dX11_tick_34 : decode cX11_tick 34 = .ok (.ireturn, 1) := by decide +kernel
theorem dX11_tick_35 : decode cX11_tick 35 = .ok (.aload_n 0, 1) := by decide +kernel
theorem dX11_tick_36 : decode cX11_tick 36 = .ok (.getfield 68, 3) := by decide +kernel
theorem dX11_tick_39 : decode cX11_tick 39 = .ok (.bipush 60, 2) := by decide +kernel
theorem dX11_tick_41 : decode cX11_tick 41 = .ok (.iload_n 1, 1) := by decide +kernel
theorem dX11_tick_42 : decode cX11_tick 42 = .ok (.imul, 1) := by decide +kernel
theorem dX11_tick_43 : decode cX11_tick 43 = .ok (.iload_n 2, 1) := by decide +kernel
theorem dX11_tick_44 : decode cX11_tick 44 = .ok (.iadd, 1) := by decide +kernel
theorem dX11_tick_45 : decode cX11_tick 45 = .ok (.iload_n 3, 1) := by decide +kernel
theorem dX11_tick_46 : decode cX11_tick 46 = .ok (.invokestatic 169, 3) := by decide +kernel
theorem dX11_tick_49 : decode cX11_tick 49 = .ok (.fastore, 1) := by decide +kernel
theorem dX11_tick_50 : decode cX11_tick 50 = .ok (.iconst 1, 1) := by decide +kernel
theorem dX11_tick_51 : decode cX11_tick 51 = .ok (.ireturn, 1) := by decide +kernel
theorem dX11_stir_0 : decode cX11_stir 0 = .ok (.aload_n 0, 1) := by decide +kernel
theorem dX11_stir_1 : decode cX11_stir 1 = .ok (.iload_n 1, 1) := by decide +kernel
theorem dX11_stir_2 : decode cX11_stir 2 = .ok (.invokevirtual 165, 3) := by decide +kernel
theorem dX11_stir_5 : decode cX11_stir 5 = .ok (.ifCond .eq 28, 3) := by decide +kernel
theorem dX11_stir_8 : decode cX11_stir 8 = .ok (.aload_n 0, 1) := by decide +kernel
theorem dX11_stir_9 : decode cX11_stir 9 = .ok (.getfield 40, 3) := by decide +kernel
theorem dX11_stir_12 : decode cX11_stir 12 = .ok (.iload_n 1, 1) := by decide +kernel
theorem dX11_stir_13 : decode cX11_stir 13 = .ok (.baload, 1) := by decide +kernel
theorem dX11_stir_14 : decode cX11_stir 14 = .ok (.ifCond .ne 19, 3) := by decide +kernel
theorem dX11_stir_17 : decode cX11_stir 17 = .ok (.iload_n 2, 1) := by decide +kernel
theorem dX11_stir_18 : decode cX11_stir 18 = .ok (.iconst 0, 1) := by decide +kernel
theorem dX11_stir_19 : decode cX11_stir 19 = .ok (.aload_n 0, 1) := by decide +kernel
theorem dX11_stir_20 : decode cX11_stir 20 = .ok (.getfield 65, 3) := by decide +kernel
theorem dX11_stir_23 : decode cX11_stir 23 = .ok (.iload_n 1, 1) := by decide +kernel
theorem dX11_stir_24 : decode cX11_stir 24 = .ok (.iaload, 1) := by decide +kernel
theorem dX11_stir_25 : decode cX11_stir 25 = .ok (.iconst 1, 1) := by decide +kernel
theorem dX11_stir_26 : decode cX11_stir 26 = .ok (.isub, 1) := by decide +kernel
theorem dX11_stir_27 : decode cX11_stir 27 = .ok (.invokestatic 156, 3) := by decide +kernel
theorem dX11_stir_30 : decode cX11_stir 30 = .ok (.ifCond .ne 5, 3) := by decide +kernel
theorem dX11_stir_33 : decode cX11_stir 33 = .ok (.iconst 0, 1) := by decide +kernel
theorem dX11_stir_34 : decode cX11_stir 34 = .ok (.ireturn, 1) := by decide +kernel
theorem dX11_stir_35 : decode cX11_stir 35 = .ok (.aload_n 0, 1) := by decide +kernel
theorem dX11_stir_36 : decode cX11_stir 36 = .ok (.getfield 72, 3) := by decide +kernel
theorem dX11_stir_39 : decode cX11_stir 39 = .ok (.bipush 60, 2) := by decide +kernel
theorem dX11_stir_41 : decode cX11_stir 41 = .ok (.iload_n 1, 1) := by decide +kernel
theorem dX11_stir_42 : decode cX11_stir 42 = .ok (.imul, 1) := by decide +kernel
theorem dX11_stir_43 : decode cX11_stir 43 = .ok (.iload_n 2, 1) := by decide +kernel
theorem dX11_stir_44 : decode cX11_stir 44 = .ok (.iadd, 1) := by decide +kernel
theorem dX11_stir_45 : decode cX11_stir 45 = .ok (.iload_n 3, 1) := by decide +kernel
theorem dX11_stir_46 : decode cX11_stir 46 = .ok (.bastore, 1) := by decide +kernel
theorem dX11_stir_47 : decode cX11_stir 47 = .ok (.iconst 1, 1) := by decide +kernel
theorem dX11_stir_48 : decode cX11_stir 48 = .ok (.ireturn, 1) := by decide +kernel
theorem dX11_table_0 : decode cX11_table 0 = .ok (.aload_n 0, 1) := by decide +kernel
theorem dX11_table_1 : decode cX11_table 1 = .ok (.getfield 175, 3) := by decide +kernel
theorem dX11_table_4 : decode cX11_table 4 = .ok (.bipush 16, 2) := by decide +kernel
theorem dX11_table_6 : decode cX11_table 6 = .ok (.if_icmp .eq 36, 3) := by decide +kernel
theorem dX11_table_9 : decode cX11_table 9 = .ok (.iload_n 2, 1) := by decide +kernel
theorem dX11_table_10 : decode cX11_table 10 = .ok (.iconst 0, 1) := by decide +kernel
theorem dX11_table_11 : decode cX11_table 11 = .ok (.sipush 900, 3) := by decide +kernel
theorem dX11_table_14 : decode cX11_table 14 = .ok (.invokestatic 156, 3) := by decide +kernel
theorem dX11_table_17 : decode cX11_table 17 = .ok (.ifCond .eq 25, 3) := by decide +kernel
theorem dX11_table_20 : decode cX11_table 20 = .ok (.aload_n 0, 1) := by decide +kernel
theorem dX11_table_21 : decode cX11_table 21 = .ok (.getfield 175, 3) := by decide +kernel
theorem dX11_table_24 : decode cX11_table 24 = .ok (.ifCond .le 20, 3) := by decide +kernel
theorem dX11_table_27 : decode cX11_table 27 = .ok (.iload_n 1, 1) := by decide +kernel
theorem dX11_table_28 : decode cX11_table 28 = .ok (.aload_n 0, 1) := by decide +kernel
theorem dX11_table_29 : decode cX11_table 29 = .ok (.getfield 75, 3) := by decide +kernel
theorem dX11_table_32 : decode cX11_table 32 = .ok (.aload_n 0, 1) := by decide +kernel
theorem dX11_table_33 : decode cX11_table 33 = .ok (.getfield 175, 3) := by decide +kernel
theorem dX11_table_36 : decode cX11_table 36 = .ok (.iconst 1, 1) := by decide +kernel
theorem dX11_table_37 : decode cX11_table 37 = .ok (.isub, 1) := by decide +kernel
theorem dX11_table_38 : decode cX11_table 38 = .ok (.iaload, 1) := by decide +kernel
theorem dX11_table_39 : decode cX11_table 39 = .ok (.if_icmp .gt 5, 3) := by decide +kernel
theorem dX11_table_42 : decode cX11_table 42 = .ok (.iconst (-1), 1) := by decide +kernel
theorem dX11_table_43 : decode cX11_table 43 = .ok (.ireturn, 1) := by decide +kernel
theorem dX11_table_44 : decode cX11_table 44 = .ok (.aload_n 0, 1) := by decide +kernel
theorem dX11_table_45 : decode cX11_table 45 = .ok (.getfield 75, 3) := by decide +kernel
theorem dX11_table_48 : decode cX11_table 48 = .ok (.aload_n 0, 1) := by decide +kernel
theorem dX11_table_49 : decode cX11_table 49 = .ok (.getfield 175, 3) := by decide +kernel
theorem dX11_table_52 : decode cX11_table 52 = .ok (.iload_n 1, 1) := by decide +kernel
theorem dX11_table_53 : decode cX11_table 53 = .ok (.iastore, 1) := by decide +kernel
theorem dX11_table_54 : decode cX11_table 54 = .ok (.aload_n 0, 1) := by decide +kernel
theorem dX11_table_55 : decode cX11_table 55 = .ok (.getfield 78, 3) := by decide +kernel
theorem dX11_table_58 : decode cX11_table 58 = .ok (.aload_n 0, 1) := by decide +kernel
theorem dX11_table_59 : decode cX11_table 59 = .ok (.getfield 175, 3) := by decide +kernel
theorem dX11_table_62 : decode cX11_table 62 = .ok (.iload_n 2, 1) := by decide +kernel
theorem dX11_table_63 : decode cX11_table 63 = .ok (.iastore, 1) := by decide +kernel
theorem dX11_table_64 : decode cX11_table 64 = .ok (.aload_n 0, 1) := by decide +kernel
theorem dX11_table_65 : decode cX11_table 65 = .ok (.dup, 1) := by decide +kernel
theorem dX11_table_66 : decode cX11_table 66 = .ok (.getfield 175, 3) := by decide +kernel
theorem dX11_table_69 : decode cX11_table 69 = .ok (.iconst 1, 1) := by decide +kernel
theorem dX11_table_70 : decode cX11_table 70 = .ok (.iadd, 1) := by decide +kernel
theorem dX11_table_71 : decode cX11_table 71 = .ok (.putfield 175, 3) := by decide +kernel
theorem dX11_table_74 : decode cX11_table 74 = .ok (.aload_n 0, 1) := by decide +kernel
theorem dX11_table_75 : decode cX11_table 75 = .ok (.getfield 175, 3) := by decide +kernel
theorem dX11_table_78 : decode cX11_table 78 = .ok (.ireturn, 1) := by decide +kernel
theorem dX11_grain_0 : decode cX11_grain 0 = .ok (.aload_n 0, 1) := by decide +kernel
theorem dX11_grain_1 : decode cX11_grain 1 = .ok (.iload_n 1, 1) := by decide +kernel
theorem dX11_grain_2 : decode cX11_grain 2 = .ok (.putfield 178, 3) := by decide +kernel
theorem dX11_grain_5 : decode cX11_grain 5 = .ok (.aload_n 0, 1) := by decide +kernel
theorem dX11_grain_6 : decode cX11_grain 6 = .ok (.iload_n 2, 1) := by decide +kernel
theorem dX11_grain_7 : decode cX11_grain 7 = .ok (.putfield 81, 3) := by decide +kernel
theorem dX11_grain_10 : decode cX11_grain 10 = .ok (.iconst 1, 1) := by decide +kernel
theorem dX11_grain_11 : decode cX11_grain 11 = .ok (.ireturn, 1) := by decide +kernel
theorem dX11_bounds_0 : decode cX11_bounds 0 = .ok (.iload_n 1, 1) := by decide +kernel
theorem dX11_bounds_1 : decode cX11_bounds 1 = .ok (.iconst 0, 1) := by decide +kernel
theorem dX11_bounds_2 : decode cX11_bounds 2 = .ok (.iconst 5, 1) := by decide +kernel
theorem dX11_bounds_3 : decode cX11_bounds 3 = .ok (.invokestatic 156, 3) := by decide +kernel
theorem dX11_bounds_6 : decode cX11_bounds 6 = .ok (.ifCond .ne 5, 3) := by decide +kernel
theorem dX11_bounds_9 : decode cX11_bounds 9 = .ok (.iconst 0, 1) := by decide +kernel
theorem dX11_bounds_10 : decode cX11_bounds 10 = .ok (.ireturn, 1) := by decide +kernel
theorem dX11_bounds_11 : decode cX11_bounds 11 = .ok (.aload_n 0, 1) := by decide +kernel
theorem dX11_bounds_12 : decode cX11_bounds 12 = .ok (.getfield 85, 3) := by decide +kernel
theorem dX11_bounds_15 : decode cX11_bounds 15 = .ok (.iload_n 1, 1) := by decide +kernel
theorem dX11_bounds_16 : decode cX11_bounds 16 = .ok (.iload_n 2, 1) := by decide +kernel
theorem dX11_bounds_17 : decode cX11_bounds 17 = .ok (.iastore, 1) := by decide +kernel
theorem dX11_bounds_18 : decode cX11_bounds 18 = .ok (.aload_n 0, 1) := by decide +kernel
theorem dX11_bounds_19 : decode cX11_bounds 19 = .ok (.getfield 88, 3) := by decide +kernel
theorem dX11_bounds_22 : decode cX11_bounds 22 = .ok (.iload_n 1, 1) := by decide +kernel
theorem dX11_bounds_23 : decode cX11_bounds 23 = .ok (.iload_n 3, 1) := by decide +kernel
theorem dX11_bounds_24 : decode cX11_bounds 24 = .ok (.iastore, 1) := by decide +kernel
theorem dX11_bounds_25 : decode cX11_bounds 25 = .ok (.iconst 1, 1) := by decide +kernel
theorem dX11_bounds_26 : decode cX11_bounds 26 = .ok (.ireturn, 1) := by decide +kernel
theorem dX11_cook_0 : decode cX11_cook 0 = .ok (.aload_n 0, 1) := by decide +kernel
theorem dX11_cook_1 : decode cX11_cook 1 = .ok (.iload_n 1, 1) := by decide +kernel
theorem dX11_cook_2 : decode cX11_cook 2 = .ok (.invokevirtual 165, 3) := by decide +kernel
theorem dX11_cook_5 : decode cX11_cook 5 = .ok (.ifCond .eq 31, 3) := by decide +kernel
theorem dX11_cook_8 : decode cX11_cook 8 = .ok (.iload_n 2, 1) := by decide +kernel
theorem dX11_cook_9 : decode cX11_cook 9 = .ok (.iconst 1, 1) := by decide +kernel
theorem dX11_cook_10 : decode cX11_cook 10 = .ok (.bipush 60, 2) := by decide +kernel
theorem dX11_cook_12 : decode cX11_cook 12 = .ok (.invokestatic 156, 3) := by decide +kernel
theorem dX11_cook_15 : decode cX11_cook 15 = .ok (.ifCond .eq 21, 3) := by decide +kernel
theorem dX11_cook_18 : decode cX11_cook 18 = .ok (.aload_n 0, 1) := by decide +kernel
theorem dX11_cook_19 : decode cX11_cook 19 = .ok (.getfield 40, 3) := by decide +kernel
theorem dX11_cook_22 : decode cX11_cook 22 = .ok (.iload_n 1, 1) := by decide +kernel
theorem dX11_cook_23 : decode cX11_cook 23 = .ok (.baload, 1) := by decide +kernel
theorem dX11_cook_24 : decode cX11_cook 24 = .ok (.ifCond .ne 12, 3) := by decide +kernel
theorem dX11_cook_27 : decode cX11_cook 27 = .ok (.aload_n 0, 1) := by decide +kernel
theorem dX11_cook_28 : decode cX11_cook 28 = .ok (.getfield 19, 3) := by decide +kernel
theorem dX11_cook_31 : decode cX11_cook 31 = .ok (.iload_n 1, 1) := by decide +kernel
theorem dX11_cook_32 : decode cX11_cook 32 = .ok (.iaload, 1) := by decide +kernel
theorem dX11_cook_33 : decode cX11_cook 33 = .ok (.ifCond .ne 5, 3) := by decide +kernel
theorem dX11_cook_36 : decode cX11_cook 36 = .ok (.iconst (-1), 1) := by decide +kernel
theorem dX11_cook_37 : decode cX11_cook 37 = .ok (.ireturn, 1) := by decide +kernel
theorem dX11_cook_38 : decode cX11_cook 38 = .ok (.aload_n 0, 1) := by decide +kernel
theorem dX11_cook_39 : decode cX11_cook 39 = .ok (.getfield 40, 3) := by decide +kernel
theorem dX11_cook_42 : decode cX11_cook 42 = .ok (.iload_n 1, 1) := by decide +kernel
theorem dX11_cook_43 : decode cX11_cook 43 = .ok (.iconst 1, 1) := by decide +kernel
theorem dX11_cook_44 : decode cX11_cook 44 = .ok (.bastore, 1) := by decide +kernel
theorem dX11_cook_45 : decode cX11_cook 45 = .ok (.iload_n 2, 1) := by decide +kernel
theorem dX11_cook_46 : decode cX11_cook 46 = .ok (.istore_n 3, 1) := by decide +kernel
theorem dX11_cook_47 : decode cX11_cook 47 = .ok (.aload_n 0, 1) := by decide +kernel
theorem dX11_cook_48 : decode cX11_cook 48 = .ok (.getfield 62, 3) := by decide +kernel
theorem dX11_cook_51 : decode cX11_cook 51 = .ok (.iload_n 1, 1) := by decide +kernel
theorem dX11_cook_52 : decode cX11_cook 52 = .ok (.iaload, 1) := by decide +kernel
theorem dX11_cook_53 : decode cX11_cook 53 = .ok (.iload_n 2, 1) := by decide +kernel
theorem dX11_cook_54 : decode cX11_cook 54 = .ok (.if_icmp .ge 30, 3) := by decide +kernel
theorem dX11_cook_57 : decode cX11_cook 57 = .ok (.aload_n 0, 1) := by decide +kernel
theorem dX11_cook_58 : decode cX11_cook 58 = .ok (.getfield 62, 3) := by decide +kernel
theorem dX11_cook_61 : decode cX11_cook 61 = .ok (.iload_n 1, 1) := by decide +kernel
theorem dX11_cook_62 : decode cX11_cook 62 = .ok (.iaload, 1) := by decide +kernel
theorem dX11_cook_63 : decode cX11_cook 63 = .ok (.ifCond .ge 7, 3) := by decide +kernel
theorem dX11_cook_66 : decode cX11_cook 66 = .ok (.iconst 0, 1) := by decide +kernel
theorem dX11_cook_67 : decode cX11_cook 67 = .ok (.goto 9, 3) := by decide +kernel
theorem dX11_cook_70 : decode cX11_cook 70 = .ok (.aload_n 0, 1) := by decide +kernel
theorem dX11_cook_71 : decode cX11_cook 71 = .ok (.getfield 62, 3) := by decide +kernel
theorem dX11_cook_74 : decode cX11_cook 74 = .ok (.iload_n 1, 1) := by decide +kernel
theorem dX11_cook_75 : decode cX11_cook 75 = .ok (.iaload, 1) := by decide +kernel
theorem dX11_cook_76 : decode cX11_cook 76 = .ok (.istore_n 3, 1) := by decide +kernel
theorem dX11_cook_77 : decode cX11_cook 77 = .ok (.aload_n 0, 1) := by decide +kernel
theorem dX11_cook_78 : decode cX11_cook 78 = .ok (.getfield 37, 3) := by decide +kernel
theorem dX11_cook_81 : decode cX11_cook 81 = .ok (.iload_n 1, 1) := by decide +kernel
theorem dX11_cook_82 : decode cX11_cook 82 = .ok (.iload_n 3, 1) := by decide +kernel
theorem dX11_cook_83 : decode cX11_cook 83 = .ok (.iastore, 1) := by decide +kernel
theorem dX11_cook_84 : decode cX11_cook 84 = .ok (.iconst (-1), 1) := by decide +kernel
theorem dX11_cook_85 : decode cX11_cook 85 = .ok (.istore 4, 2) := by decide +kernel
theorem dX11_cook_87 : decode cX11_cook 87 = .ok (.iconst 0, 1) := by decide +kernel
theorem dX11_cook_88 : decode cX11_cook 88 = .ok (.istore 5, 2) := by decide +kernel
theorem dX11_cook_90 : decode cX11_cook 90 = .ok (.iload 5, 2) := by decide +kernel
theorem dX11_cook_92 : decode cX11_cook 92 = .ok (.iload_n 3, 1) := by decide +kernel
theorem dX11_cook_93 : decode cX11_cook 93 = .ok (.if_icmp .ge 60, 3) := by decide +kernel
theorem dX11_cook_96 : decode cX11_cook 96 = .ok (.aload_n 0, 1) := by decide +kernel
theorem dX11_cook_97 : decode cX11_cook 97 = .ok (.iload_n 1, 1) := by decide +kernel
theorem dX11_cook_98 : decode cX11_cook 98 = .ok (.iload 5, 2) := by decide +kernel
theorem dX11_cook_100 : decode cX11_cook 100 = .ok (.invokevirtual 182, 3) := by decide +kernel
theorem dX11_cook_103 : decode cX11_cook 103 = .ok (.ifCond .eq 44, 3) := by decide +kernel
theorem dX11_cook_106 : decode cX11_cook 106 = .ok (.iload 4, 2) := by decide +kernel
theorem dX11_cook_108 : decode cX11_cook 108 = .ok (.ifCond .lt 22, 3) := by decide +kernel
theorem dX11_cook_111 : decode cX11_cook 111 = .ok (.aload_n 0, 1) := by decide +kernel
theorem dX11_cook_112 : decode cX11_cook 112 = .ok (.iload_n 1, 1) := by decide +kernel
theorem dX11_cook_113 : decode cX11_cook 113 = .ok (.iload 5, 2) := by decide +kernel
theorem dX11_cook_115 : decode cX11_cook 115 = .ok (.invokevirtual 186, 3) := by decide +kernel
theorem dX11_cook_118 : decode cX11_cook 118 = .ok (.aload_n 0, 1) := by decide +kernel
theorem dX11_cook_119 : decode cX11_cook 119 = .ok (.getfield 31, 3) := by decide +kernel
theorem dX11_cook_122 : decode cX11_cook 122 = .ok (.iload_n 1, 1) := by decide +kernel
theorem dX11_cook_123 : decode cX11_cook 123 = .ok (.iaload, 1) := by decide +kernel
theorem dX11_cook_124 : decode cX11_cook 124 = .ok (.if_icmp .gt 6, 3) := by decide +kernel
theorem dX11_cook_127 : decode cX11_cook 127 = .ok (.goto 20, 3) := by decide +kernel
theorem dX11_cook_130 : decode cX11_cook 130 = .ok (.iload 5, 2) := by decide +kernel
theorem dX11_cook_132 : decode cX11_cook 132 = .ok (.istore 4, 2) := by decide +kernel
theorem dX11_cook_134 : decode cX11_cook 134 = .ok (.aload_n 0, 1) := by decide +kernel
theorem dX11_cook_135 : decode cX11_cook 135 = .ok (.getfield 31, 3) := by decide +kernel
theorem dX11_cook_138 : decode cX11_cook 138 = .ok (.iload_n 1, 1) := by decide +kernel
theorem dX11_cook_139 : decode cX11_cook 139 = .ok (.aload_n 0, 1) := by decide +kernel
theorem dX11_cook_140 : decode cX11_cook 140 = .ok (.iload_n 1, 1) := by decide +kernel
theorem dX11_cook_141 : decode cX11_cook 141 = .ok (.iload 5, 2) := by decide +kernel
theorem dX11_cook_143 : decode cX11_cook 143 = .ok (.invokevirtual 186, 3) := by decide +kernel
theorem dX11_cook_146 : decode cX11_cook 146 = .ok (.iastore, 1) := by decide +kernel
theorem dX11_cook_147 : decode cX11_cook 147 = .ok (.iinc 5 1, 3) := by decide +kernel
theorem dX11_cook_150 : decode cX11_cook 150 = .ok (.goto (-60), 3) := by decide +kernel
theorem dX11_cook_153 : decode cX11_cook 153 = .ok (.iload 4, 2) := by decide +kernel
theorem dX11_cook_155 : decode cX11_cook 155 = .ok (.iconst 1, 1) := by decide +kernel
theorem dX11_cook_156 : decode cX11_cook 156 = .ok (.iadd, 1) := by decide +kernel
theorem dX11_cook_157 : decode cX11_cook 157 = .ok (.istore 5, 2) := by decide +kernel
theorem dX11_cook_159 : decode cX11_cook 159 = .ok (.iload 5, 2) := by decide +kernel
theorem dX11_cook_161 : decode cX11_cook 161 = .ok (.iload_n 3, 1) := by decide +kernel
theorem dX11_cook_162 : decode cX11_cook 162 = .ok (.if_icmp .ge 100, 3) := by decide +kernel
theorem dX11_cook_165 : decode cX11_cook 165 = .ok (.iload 4, 2) := by decide +kernel
theorem dX11_cook_167 : decode cX11_cook 167 = .ok (.ifCond .lt 95, 3) := by decide +kernel
theorem dX11_cook_170 : decode cX11_cook 170 = .ok (.aload_n 0, 1) := by decide +kernel
theorem dX11_cook_171 : decode cX11_cook 171 = .ok (.getfield 34, 3) := by decide +kernel
theorem dX11_cook_174 : decode cX11_cook 174 = .ok (.iload_n 1, 1) := by decide +kernel
theorem dX11_cook_175 : decode cX11_cook 175 = .ok (.iaload, 1) := by decide +kernel
theorem dX11_cook_176 : decode cX11_cook 176 = .ok (.ifCond .ge 86, 3) := by decide +kernel
theorem dX11_cook_179 : decode cX11_cook 179 = .ok (.iload 5, 2) := by decide +kernel
theorem dX11_cook_181 : decode cX11_cook 181 = .ok (.aload_n 0, 1) := by decide +kernel
theorem dX11_cook_182 : decode cX11_cook 182 = .ok (.getfield 65, 3) := by decide +kernel
theorem dX11_cook_185 : decode cX11_cook 185 = .ok (.iload_n 1, 1) := by decide +kernel
theorem dX11_cook_186 : decode cX11_cook 186 = .ok (.iaload, 1) := by decide +kernel
theorem dX11_cook_187 : decode cX11_cook 187 = .ok (.if_icmp .ge 22, 3) := by decide +kernel
theorem dX11_cook_190 : decode cX11_cook 190 = .ok (.aload_n 0, 1) := by decide +kernel
theorem dX11_cook_191 : decode cX11_cook 191 = .ok (.getfield 72, 3) := by decide +kernel
theorem dX11_cook_194 : decode cX11_cook 194 = .ok (.bipush 60, 2) := by decide +kernel
theorem dX11_cook_196 : decode cX11_cook 196 = .ok (.iload_n 1, 1) := by decide +kernel
theorem dX11_cook_197 : decode cX11_cook 197 = .ok (.imul, 1) := by decide +kernel
theorem dX11_cook_198 : decode cX11_cook 198 = .ok (.iload 5, 2) := by decide +kernel
theorem dX11_cook_200 : decode cX11_cook 200 = .ok (.iadd, 1) := by decide +kernel
theorem dX11_cook_201 : decode cX11_cook 201 = .ok (.baload, 1) := by decide +kernel
theorem dX11_cook_202 : decode cX11_cook 202 = .ok (.ifCond .eq 7, 3) := by decide +kernel
theorem dX11_cook_205 : decode cX11_cook 205 = .ok (.iconst 1, 1) := by decide +kernel
theorem dX11_cook_206 : decode cX11_cook 206 = .ok (.goto 4, 3) := by decide +kernel
theorem dX11_cook_209 : decode cX11_cook 209 = .ok (.iconst 0, 1) := by decide +kernel
theorem dX11_cook_210 : decode cX11_cook 210 = .ok (.istore 6, 2) := by decide +kernel
theorem dX11_cook_212 : decode cX11_cook 212 = .ok (.iload 6, 2) := by decide +kernel
theorem dX11_cook_214 : decode cX11_cook 214 = .ok (.ifCond .eq 42, 3) := by decide +kernel
theorem dX11_cook_217 : decode cX11_cook 217 = .ok (.aload_n 0, 1) := by decide +kernel
theorem dX11_cook_218 : decode cX11_cook 218 = .ok (.iload_n 1, 1) := by decide +kernel
theorem dX11_cook_219 : decode cX11_cook 219 = .ok (.iload 5, 2) := by decide +kernel
theorem dX11_cook_221 : decode cX11_cook 221 = .ok (.invokevirtual 182, 3) := by decide +kernel
theorem dX11_cook_224 : decode cX11_cook 224 = .ok (.ifCond .eq 32, 3) := by decide +kernel
theorem dX11_cook_227 : decode cX11_cook 227 = .ok (.aload_n 0, 1) := by decide +kernel
theorem dX11_cook_228 : decode cX11_cook 228 = .ok (.iload_n 1, 1) := by decide +kernel
theorem dX11_cook_229 : decode cX11_cook 229 = .ok (.iload 5, 2) := by decide +kernel
theorem dX11_cook_231 : decode cX11_cook 231 = .ok (.invokevirtual 186, 3) := by decide +kernel
theorem dX11_cook_234 : decode cX11_cook 234 = .ok (.aload_n 0, 1) := by decide +kernel
theorem dX11_cook_235 : decode cX11_cook 235 = .ok (.getfield 178, 3) := by decide +kernel
theorem dX11_cook_238 : decode cX11_cook 238 = .ok (.aload_n 0, 1) := by decide +kernel
theorem dX11_cook_239 : decode cX11_cook 239 = .ok (.getfield 81, 3) := by decide +kernel
theorem dX11_cook_242 : decode cX11_cook 242 = .ok (.invokestatic 156, 3) := by decide +kernel
theorem dX11_cook_245 : decode cX11_cook 245 = .ok (.ifCond .eq 11, 3) := by decide +kernel
theorem dX11_cook_248 : decode cX11_cook 248 = .ok (.aload_n 0, 1) := by decide +kernel
theorem dX11_cook_249 : decode cX11_cook 249 = .ok (.getfield 34, 3) := by decide +kernel
theorem dX11_cook_252 : decode cX11_cook 252 = .ok (.iload_n 1, 1) := by decide +kernel
theorem dX11_cook_253 : decode cX11_cook 253 = .ok (.iload 5, 2) := by decide +kernel
theorem dX11_cook_255 : decode cX11_cook 255 = .ok (.iastore, 1) := by decide +kernel
theorem dX11_cook_256 : decode cX11_cook 256 = .ok (.iinc 5 1, 3) := by decide +kernel
theorem dX11_cook_259 : decode cX11_cook 259 = .ok (.goto (-100), 3) := by decide +kernel
theorem dX11_cook_262 : decode cX11_cook 262 = .ok (.aload_n 0, 1) := by decide +kernel
theorem dX11_cook_263 : decode cX11_cook 263 = .ok (.getfield 28, 3) := by decide +kernel
theorem dX11_cook_266 : decode cX11_cook 266 = .ok (.iload_n 1, 1) := by decide +kernel
theorem dX11_cook_267 : decode cX11_cook 267 = .ok (.aload_n 0, 1) := by decide +kernel
theorem dX11_cook_268 : decode cX11_cook 268 = .ok (.iload_n 1, 1) := by decide +kernel
theorem dX11_cook_269 : decode cX11_cook 269 = .ok (.iload 4, 2) := by decide +kernel
theorem dX11_cook_271 : decode cX11_cook 271 = .ok (.ifCond .lt 7, 3) := by decide +kernel
theorem dX11_cook_274 : decode cX11_cook 274 = .ok (.iconst 1, 1) := by decide +kernel
theorem dX11_cook_275 : decode cX11_cook 275 = .ok (.goto 4, 3) := by decide +kernel
theorem dX11_cook_278 : decode cX11_cook 278 = .ok (.iconst 0, 1) := by decide +kernel
theorem dX11_cook_279 : decode cX11_cook 279 = .ok (.invokevirtual 190, 3) := by decide +kernel
theorem dX11_cook_282 : decode cX11_cook 282 = .ok (.iastore, 1) := by decide +kernel
theorem dX11_cook_283 : decode cX11_cook 283 = .ok (.aload_n 0, 1) := by decide +kernel
theorem dX11_cook_284 : decode cX11_cook 284 = .ok (.getfield 25, 3) := by decide +kernel
theorem dX11_cook_287 : decode cX11_cook 287 = .ok (.iload_n 1, 1) := by decide +kernel
theorem dX11_cook_288 : decode cX11_cook 288 = .ok (.aload_n 0, 1) := by decide +kernel
theorem dX11_cook_289 : decode cX11_cook 289 = .ok (.getfield 19, 3) := by decide +kernel
theorem dX11_cook_292 : decode cX11_cook 292 = .ok (.iload_n 1, 1) := by decide +kernel
theorem dX11_cook_293 : decode cX11_cook 293 = .ok (.iaload, 1) := by decide +kernel
theorem dX11_cook_294 : decode cX11_cook 294 = .ok (.i2l, 1) := by decide +kernel
theorem dX11_cook_295 : decode cX11_cook 295 = .ok (.aload_n 0, 1) := by decide +kernel
theorem dX11_cook_296 : decode cX11_cook 296 = .ok (.getfield 28, 3) := by decide +kernel
theorem dX11_cook_299 : decode cX11_cook 299 = .ok (.iload_n 1, 1) := by decide +kernel
theorem dX11_cook_300 : decode cX11_cook 300 = .ok (.iaload, 1) := by decide +kernel
theorem dX11_cook_301 : decode cX11_cook 301 = .ok (.i2l, 1) := by decide +kernel
theorem dX11_cook_302 : decode cX11_cook 302 = .ok (.lmul, 1) := by decide +kernel
theorem dX11_cook_303 : decode cX11_cook 303 = .ok (.ldc2_w 194, 3) := by decide +kernel
theorem dX11_cook_306 : decode cX11_cook 306 = .ok (.ldiv, 1) := by decide +kernel
theorem dX11_cook_307 : decode cX11_cook 307 = .ok (.l2i, 1) := by decide +kernel
theorem dX11_cook_308 : decode cX11_cook 308 = .ok (.iastore, 1) := by decide +kernel
theorem dX11_cook_309 : decode cX11_cook 309 = .ok (.aload_n 0, 1) := by decide +kernel
theorem dX11_cook_310 : decode cX11_cook 310 = .ok (.getfield 19, 3) := by decide +kernel
theorem dX11_cook_313 : decode cX11_cook 313 = .ok (.iload_n 1, 1) := by decide +kernel
theorem dX11_cook_314 : decode cX11_cook 314 = .ok (.dup2, 1) := by decide +kernel
theorem dX11_cook_315 : decode cX11_cook 315 = .ok (.iaload, 1) := by decide +kernel
theorem dX11_cook_316 : decode cX11_cook 316 = .ok (.aload_n 0, 1) := by decide +kernel
theorem dX11_cook_317 : decode cX11_cook 317 = .ok (.getfield 25, 3) := by decide +kernel
theorem dX11_cook_320 : decode cX11_cook 320 = .ok (.iload_n 1, 1) := by decide +kernel
theorem dX11_cook_321 : decode cX11_cook 321 = .ok (.iaload, 1) := by decide +kernel
theorem dX11_cook_322 : decode cX11_cook 322 = .ok (.isub, 1) := by decide +kernel
theorem dX11_cook_323 : decode cX11_cook 323 = .ok (.iastore, 1) := by decide +kernel
theorem dX11_cook_324 : decode cX11_cook 324 = .ok (.aload_n 0, 1) := by decide +kernel
theorem dX11_cook_325 : decode cX11_cook 325 = .ok (.getfield 19, 3) := by decide +kernel
theorem dX11_cook_328 : decode cX11_cook 328 = .ok (.iload_n 1, 1) := by decide +kernel
theorem dX11_cook_329 : decode cX11_cook 329 = .ok (.iaload, 1) := by decide +kernel
theorem dX11_cook_330 : decode cX11_cook 330 = .ok (.ireturn, 1) := by decide +kernel
theorem dX11_vouch_0 : decode cX11_vouch 0 = .ok (.aload_n 0, 1) := by decide +kernel
theorem dX11_vouch_1 : decode cX11_vouch 1 = .ok (.iload_n 1, 1) := by decide +kernel
theorem dX11_vouch_2 : decode cX11_vouch 2 = .ok (.invokevirtual 165, 3) := by decide +kernel
theorem dX11_vouch_5 : decode cX11_vouch 5 = .ok (.ifCond .eq 12, 3) := by decide +kernel
theorem dX11_vouch_8 : decode cX11_vouch 8 = .ok (.aload_n 0, 1) := by decide +kernel
theorem dX11_vouch_9 : decode cX11_vouch 9 = .ok (.getfield 40, 3) := by decide +kernel
theorem dX11_vouch_12 : decode cX11_vouch 12 = .ok (.iload_n 1, 1) := by decide +kernel
theorem dX11_vouch_13 : decode cX11_vouch 13 = .ok (.baload, 1) := by decide +kernel
theorem dX11_vouch_14 : decode cX11_vouch 14 = .ok (.ifCond .ne 5, 3) := by decide +kernel
theorem dX11_vouch_17 : decode cX11_vouch 17 = .ok (.iconst 0, 1) := by decide +kernel
theorem dX11_vouch_18 : decode cX11_vouch 18 = .ok (.ireturn, 1) := by decide +kernel
theorem dX11_vouch_19 : decode cX11_vouch 19 = .ok (.aload_n 0, 1) := by decide +kernel
theorem dX11_vouch_20 : decode cX11_vouch 20 = .ok (.getfield 44, 3) := by decide +kernel
theorem dX11_vouch_23 : decode cX11_vouch 23 = .ok (.iload_n 1, 1) := by decide +kernel
theorem dX11_vouch_24 : decode cX11_vouch 24 = .ok (.iconst 1, 1) := by decide +kernel
theorem dX11_vouch_25 : decode cX11_vouch 25 = .ok (.bastore, 1) := by decide +kernel
theorem dX11_vouch_26 : decode cX11_vouch 26 = .ok (.iconst 1, 1) := by decide +kernel
theorem dX11_vouch_27 : decode cX11_vouch 27 = .ok (.ireturn, 1) := by decide +kernel
theorem dX11_why_0 : decode cX11_why 0 = .ok (.aload_n 0, 1) := by decide +kernel
theorem dX11_why_1 : decode cX11_why 1 = .ok (.iload_n 1, 1) := by decide +kernel
theorem dX11_why_2 : decode cX11_why 2 = .ok (.invokevirtual 165, 3) := by decide +kernel
theorem dX11_why_5 : decode cX11_why 5 = .ok (.ifCond .ne 5, 3) := by decide +kernel
theorem dX11_why_8 : decode cX11_why 8 = .ok (.iconst (-1), 1) := by decide +kernel
theorem dX11_why_9 : decode cX11_why 9 = .ok (.ireturn, 1) := by decide +kernel
theorem dX11_why_10 : decode cX11_why 10 = .ok (.aload_n 0, 1) := by decide +kernel
theorem dX11_why_11 : decode cX11_why 11 = .ok (.getfield 16, 3) := by decide +kernel
theorem dX11_why_14 : decode cX11_why 14 = .ok (.iload_n 1, 1) := by decide +kernel
theorem dX11_why_15 : decode cX11_why 15 = .ok (.iaload, 1) := by decide +kernel
theorem dX11_why_16 : decode cX11_why 16 = .ok (.istore_n 2, 1) := by decide +kernel
theorem dX11_why_17 : decode cX11_why 17 = .ok (.aload_n 0, 1) := by decide +kernel
theorem dX11_why_18 : decode cX11_why 18 = .ok (.getfield 34, 3) := by decide +kernel
theorem dX11_why_21 : decode cX11_why 21 = .ok (.iload_n 1, 1) := by decide +kernel
theorem dX11_why_22 : decode cX11_why 22 = .ok (.iaload, 1) := by decide +kernel
theorem dX11_why_23 : decode cX11_why 23 = .ok (.ifCond .lt 7, 3) := by decide +kernel
theorem dX11_why_26 : decode cX11_why 26 = .ok (.iconst 1, 1) := by decide +kernel
theorem dX11_why_27 : decode cX11_why 27 = .ok (.goto 4, 3) := by decide +kernel
theorem dX11_why_30 : decode cX11_why 30 = .ok (.iconst 0, 1) := by decide +kernel
theorem dX11_why_31 : decode cX11_why 31 = .ok (.istore_n 3, 1) := by decide +kernel
theorem dX11_why_32 : decode cX11_why 32 = .ok (.aload_n 0, 1) := by decide +kernel
theorem dX11_why_33 : decode cX11_why 33 = .ok (.getfield 40, 3) := by decide +kernel
theorem dX11_why_36 : decode cX11_why 36 = .ok (.iload_n 1, 1) := by decide +kernel
theorem dX11_why_37 : decode cX11_why 37 = .ok (.baload, 1) := by decide +kernel
theorem dX11_why_38 : decode cX11_why 38 = .ok (.ifCond .ne 5, 3) := by decide +kernel
theorem dX11_why_41 : decode cX11_why 41 = .ok (.iconst 1, 1) := by decide +kernel
theorem dX11_why_42 : decode cX11_why 42 = .ok (.ireturn, 1) := by decide +kernel
theorem dX11_why_43 : decode cX11_why 43 = .ok (.aload_n 0, 1) := by decide +kernel
theorem dX11_why_44 : decode cX11_why 44 = .ok (.getfield 44, 3) := by decide +kernel
theorem dX11_why_47 : decode cX11_why 47 = .ok (.iload_n 1, 1) := by decide +kernel
theorem dX11_why_48 : decode cX11_why 48 = .ok (.baload, 1) := by decide +kernel
theorem dX11_why_49 : decode cX11_why 49 = .ok (.ifCond .eq 5, 3) := by decide +kernel
theorem dX11_why_52 : decode cX11_why 52 = .ok (.iconst 0, 1) := by decide +kernel
theorem dX11_why_53 : decode cX11_why 53 = .ok (.ireturn, 1) := by decide +kernel
theorem dX11_why_54 : decode cX11_why 54 = .ok (.aload_n 0, 1) := by decide +kernel
theorem dX11_why_55 : decode cX11_why 55 = .ok (.getfield 37, 3) := by decide +kernel
theorem dX11_why_58 : decode cX11_why 58 = .ok (.iload_n 1, 1) := by decide +kernel
theorem dX11_why_59 : decode cX11_why 59 = .ok (.iaload, 1) := by decide +kernel
theorem dX11_why_60 : decode cX11_why 60 = .ok (.ifCond .lt 5, 3) := by decide +kernel
theorem dX11_why_63 : decode cX11_why 63 = .ok (.iconst 2, 1) := by decide +kernel
theorem dX11_why_64 : decode cX11_why 64 = .ok (.ireturn, 1) := by decide +kernel
theorem dX11_why_65 : decode cX11_why 65 = .ok (.aload_n 0, 1) := by decide +kernel
theorem dX11_why_66 : decode cX11_why 66 = .ok (.getfield 28, 3) := by decide +kernel
theorem dX11_why_69 : decode cX11_why 69 = .ok (.iload_n 1, 1) := by decide +kernel
theorem dX11_why_70 : decode cX11_why 70 = .ok (.iaload, 1) := by decide +kernel
theorem dX11_why_71 : decode cX11_why 71 = .ok (.aload_n 0, 1) := by decide +kernel
theorem dX11_why_72 : decode cX11_why 72 = .ok (.getfield 85, 3) := by decide +kernel
theorem dX11_why_75 : decode cX11_why 75 = .ok (.iload_n 2, 1) := by decide +kernel
theorem dX11_why_76 : decode cX11_why 76 = .ok (.iaload, 1) := by decide +kernel
theorem dX11_why_77 : decode cX11_why 77 = .ok (.if_icmp .ge 5, 3) := by decide +kernel
theorem dX11_why_80 : decode cX11_why 80 = .ok (.iconst 3, 1) := by decide +kernel
theorem dX11_why_81 : decode cX11_why 81 = .ok (.ireturn, 1) := by decide +kernel
theorem dX11_why_82 : decode cX11_why 82 = .ok (.aload_n 0, 1) := by decide +kernel
theorem dX11_why_83 : decode cX11_why 83 = .ok (.getfield 28, 3) := by decide +kernel
theorem dX11_why_86 : decode cX11_why 86 = .ok (.iload_n 1, 1) := by decide +kernel
theorem dX11_why_87 : decode cX11_why 87 = .ok (.iaload, 1) := by decide +kernel
theorem dX11_why_88 : decode cX11_why 88 = .ok (.aload_n 0, 1) := by decide +kernel
theorem dX11_why_89 : decode cX11_why 89 = .ok (.getfield 88, 3) := by decide +kernel
theorem dX11_why_92 : decode cX11_why 92 = .ok (.iload_n 2, 1) := by decide +kernel
theorem dX11_why_93 : decode cX11_why 93 = .ok (.iaload, 1) := by decide +kernel
theorem dX11_why_94 : decode cX11_why 94 = .ok (.if_icmp .le 5, 3) := by decide +kernel
theorem dX11_why_97 : decode cX11_why 97 = .ok (.iconst 4, 1) := by decide +kernel
theorem dX11_why_98 : decode cX11_why 98 = .ok (.ireturn, 1) := by decide +kernel
theorem dX11_why_99 : decode cX11_why 99 = .ok (.iload_n 2, 1) := by decide +kernel
theorem dX11_why_100 : decode cX11_why 100 = .ok (.iconst 1, 1) := by decide +kernel
theorem dX11_why_101 : decode cX11_why 101 = .ok (.if_icmp .eq 13, 3) := by decide +kernel
theorem dX11_why_104 : decode cX11_why 104 = .ok (.iload_n 2, 1) := by decide +kernel
theorem dX11_why_105 : decode cX11_why 105 = .ok (.iconst 3, 1) := by decide +kernel
theorem dX11_why_106 : decode cX11_why 106 = .ok (.if_icmp .eq 8, 3) := by decide +kernel
theorem dX11_why_109 : decode cX11_why 109 = .ok (.iload_n 2, 1) := by decide +kernel
theorem dX11_why_110 : decode cX11_why 110 = .ok (.iconst 4, 1) := by decide +kernel
theorem dX11_why_111 : decode cX11_why 111 = .ok (.if_icmp .ne 9, 3) := by decide +kernel
theorem dX11_why_114 : decode cX11_why 114 = .ok (.iload_n 3, 1) := by decide +kernel
theorem dX11_why_115 : decode cX11_why 115 = .ok (.ifCond .ne 5, 3) := by decide +kernel
theorem dX11_why_118 : decode cX11_why 118 = .ok (.iconst 5, 1) := by decide +kernel
theorem dX11_why_119 : decode cX11_why 119 = .ok (.ireturn, 1) := by decide +kernel
theorem dX11_why_120 : decode cX11_why 120 = .ok (.iload_n 2, 1) := by decide +kernel
theorem dX11_why_121 : decode cX11_why 121 = .ok (.iconst 2, 1) := by decide +kernel
theorem dX11_why_122 : decode cX11_why 122 = .ok (.if_icmp .ne 12, 3) := by decide +kernel
theorem dX11_why_125 : decode cX11_why 125 = .ok (.iload_n 3, 1) := by decide +kernel
theorem dX11_why_126 : decode cX11_why 126 = .ok (.ifCond .eq 8, 3) := by decide +kernel
theorem dX11_why_129 : decode cX11_why 129 = .ok (.bipush 6, 2) := by decide +kernel
theorem dX11_why_131 : decode cX11_why 131 = .ok (.goto 4, 3) := by decide +kernel
theorem dX11_why_134 : decode cX11_why 134 = .ok (.iconst 0, 1) := by decide +kernel
theorem dX11_why_135 : decode cX11_why 135 = .ok (.ireturn, 1) := by decide +kernel
theorem dX11_isGood_0 : decode cX11_isGood 0 = .ok (.aload_n 0, 1) := by decide +kernel
theorem dX11_isGood_1 : decode cX11_isGood 1 = .ok (.iload_n 1, 1) := by decide +kernel
theorem dX11_isGood_2 : decode cX11_isGood 2 = .ok (.invokevirtual 165, 3) := by decide +kernel
theorem dX11_isGood_5 : decode cX11_isGood 5 = .ok (.ifCond .eq 15, 3) := by decide +kernel
theorem dX11_isGood_8 : decode cX11_isGood 8 = .ok (.aload_n 0, 1) := by decide +kernel
theorem dX11_isGood_9 : decode cX11_isGood 9 = .ok (.iload_n 1, 1) := by decide +kernel
theorem dX11_isGood_10 : decode cX11_isGood 10 = .ok (.invokevirtual 196, 3) := by decide +kernel
theorem dX11_isGood_13 : decode cX11_isGood 13 = .ok (.ifCond .ne 7, 3) := by decide +kernel
theorem dX11_isGood_16 : decode cX11_isGood 16 = .ok (.iconst 1, 1) := by decide +kernel
theorem dX11_isGood_17 : decode cX11_isGood 17 = .ok (.goto 4, 3) := by decide +kernel
theorem dX11_isGood_20 : decode cX11_isGood 20 = .ok (.iconst 0, 1) := by decide +kernel
theorem dX11_isGood_21 : decode cX11_isGood 21 = .ok (.ireturn, 1) := by decide +kernel
theorem dX11_batchOf_0 : decode cX11_batchOf 0 = .ok (.aload_n 0, 1) := by decide +kernel
theorem dX11_batchOf_1 : decode cX11_batchOf 1 = .ok (.iload_n 1, 1) := by decide +kernel
theorem dX11_batchOf_2 : decode cX11_batchOf 2 = .ok (.invokevirtual 165, 3) := by decide +kernel
theorem dX11_batchOf_5 : decode cX11_batchOf 5 = .ok (.ifCond .ne 5, 3) := by decide +kernel
theorem dX11_batchOf_8 : decode cX11_batchOf 8 = .ok (.iconst (-1), 1) := by decide +kernel
theorem dX11_batchOf_9 : decode cX11_batchOf 9 = .ok (.ireturn, 1) := by decide +kernel
theorem dX11_batchOf_10 : decode cX11_batchOf 10 = .ok (.iload_n 2, 1) := by decide +kernel
theorem dX11_batchOf_11 : decode cX11_batchOf 11 = .ok (.tableswitch 190 0 12 #[65, 72, 79, 86, 93, 100, 107, 122, 147, 162, 169, 176, 183], 65) := by decide +kernel
theorem dX11_batchOf_76 : decode cX11_batchOf 76 = .ok (.aload_n 0, 1) := by decide +kernel
theorem dX11_batchOf_77 : decode cX11_batchOf 77 = .ok (.getfield 16, 3) := by decide +kernel
theorem dX11_batchOf_80 : decode cX11_batchOf 80 = .ok (.iload_n 1, 1) := by decide +kernel
theorem dX11_batchOf_81 : decode cX11_batchOf 81 = .ok (.iaload, 1) := by decide +kernel
theorem dX11_batchOf_82 : decode cX11_batchOf 82 = .ok (.ireturn, 1) := by decide +kernel
theorem dX11_batchOf_83 : decode cX11_batchOf 83 = .ok (.aload_n 0, 1) := by decide +kernel
theorem dX11_batchOf_84 : decode cX11_batchOf 84 = .ok (.getfield 19, 3) := by decide +kernel
theorem dX11_batchOf_87 : decode cX11_batchOf 87 = .ok (.iload_n 1, 1) := by decide +kernel
theorem dX11_batchOf_88 : decode cX11_batchOf 88 = .ok (.iaload, 1) := by decide +kernel
theorem dX11_batchOf_89 : decode cX11_batchOf 89 = .ok (.ireturn, 1) := by decide +kernel
theorem dX11_batchOf_90 : decode cX11_batchOf 90 = .ok (.aload_n 0, 1) := by decide +kernel
theorem dX11_batchOf_91 : decode cX11_batchOf 91 = .ok (.getfield 22, 3) := by decide +kernel
theorem dX11_batchOf_94 : decode cX11_batchOf 94 = .ok (.iload_n 1, 1) := by decide +kernel
theorem dX11_batchOf_95 : decode cX11_batchOf 95 = .ok (.iaload, 1) := by decide +kernel
theorem dX11_batchOf_96 : decode cX11_batchOf 96 = .ok (.ireturn, 1) := by decide +kernel
theorem dX11_batchOf_97 : decode cX11_batchOf 97 = .ok (.aload_n 0, 1) := by decide +kernel
theorem dX11_batchOf_98 : decode cX11_batchOf 98 = .ok (.getfield 25, 3) := by decide +kernel
theorem dX11_batchOf_101 : decode cX11_batchOf 101 = .ok (.iload_n 1, 1) := by decide +kernel
theorem dX11_batchOf_102 : decode cX11_batchOf 102 = .ok (.iaload, 1) := by decide +kernel
theorem dX11_batchOf_103 : decode cX11_batchOf 103 = .ok (.ireturn, 1) := by decide +kernel
theorem dX11_batchOf_104 : decode cX11_batchOf 104 = .ok (.aload_n 0, 1) := by decide +kernel
theorem dX11_batchOf_105 : decode cX11_batchOf 105 = .ok (.getfield 28, 3) := by decide +kernel
theorem dX11_batchOf_108 : decode cX11_batchOf 108 = .ok (.iload_n 1, 1) := by decide +kernel
theorem dX11_batchOf_109 : decode cX11_batchOf 109 = .ok (.iaload, 1) := by decide +kernel
theorem dX11_batchOf_110 : decode cX11_batchOf 110 = .ok (.ireturn, 1) := by decide +kernel
theorem dX11_batchOf_111 : decode cX11_batchOf 111 = .ok (.aload_n 0, 1) := by decide +kernel
theorem dX11_batchOf_112 : decode cX11_batchOf 112 = .ok (.getfield 31, 3) := by decide +kernel
theorem dX11_batchOf_115 : decode cX11_batchOf 115 = .ok (.iload_n 1, 1) := by decide +kernel
theorem dX11_batchOf_116 : decode cX11_batchOf 116 = .ok (.iaload, 1) := by decide +kernel
theorem dX11_batchOf_117 : decode cX11_batchOf 117 = .ok (.ireturn, 1) := by decide +kernel
theorem dX11_batchOf_118 : decode cX11_batchOf 118 = .ok (.aload_n 0, 1) := by decide +kernel
theorem dX11_batchOf_119 : decode cX11_batchOf 119 = .ok (.getfield 34, 3) := by decide +kernel
theorem dX11_batchOf_122 : decode cX11_batchOf 122 = .ok (.iload_n 1, 1) := by decide +kernel
theorem dX11_batchOf_123 : decode cX11_batchOf 123 = .ok (.iaload, 1) := by decide +kernel
theorem dX11_batchOf_124 : decode cX11_batchOf 124 = .ok (.ifCond .lt 7, 3) := by decide +kernel
theorem dX11_batchOf_127 : decode cX11_batchOf 127 = .ok (.iconst 1, 1) := by decide +kernel
theorem dX11_batchOf_128 : decode cX11_batchOf 128 = .ok (.goto 4, 3) := by decide +kernel
theorem dX11_batchOf_131 : decode cX11_batchOf 131 = .ok (.iconst 0, 1) := by decide +kernel
theorem dX11_batchOf_132 : decode cX11_batchOf 132 = .ok (.ireturn, 1) := by decide +kernel
theorem dX11_batchOf_133 : decode cX11_batchOf 133 = .ok (.aload_n 0, 1) := by decide +kernel
theorem dX11_batchOf_134 : decode cX11_batchOf 134 = .ok (.getfield 37, 3) := by decide +kernel
theorem dX11_batchOf_137 : decode cX11_batchOf 137 = .ok (.iload_n 1, 1) := by decide +kernel
theorem dX11_batchOf_138 : decode cX11_batchOf 138 = .ok (.iaload, 1) := by decide +kernel
theorem dX11_batchOf_139 : decode cX11_batchOf 139 = .ok (.ifCond .lt 12, 3) := by decide +kernel
theorem dX11_batchOf_142 : decode cX11_batchOf 142 = .ok (.aload_n 0, 1) := by decide +kernel
theorem dX11_batchOf_143 : decode cX11_batchOf 143 = .ok (.getfield 37, 3) := by decide +kernel
theorem dX11_batchOf_146 : decode cX11_batchOf 146 = .ok (.iload_n 1, 1) := by decide +kernel
theorem dX11_batchOf_147 : decode cX11_batchOf 147 = .ok (.iaload, 1) := by decide +kernel
theorem dX11_batchOf_148 : decode cX11_batchOf 148 = .ok (.goto 9, 3) := by decide +kernel
theorem dX11_batchOf_151 : decode cX11_batchOf 151 = .ok (.aload_n 0, 1) := by decide +kernel
theorem dX11_batchOf_152 : decode cX11_batchOf 152 = .ok (.getfield 34, 3) := by decide +kernel
theorem dX11_batchOf_155 : decode cX11_batchOf 155 = .ok (.iload_n 1, 1) := by decide +kernel
theorem dX11_batchOf_156 : decode cX11_batchOf 156 = .ok (.iaload, 1) := by decide +kernel
theorem dX11_batchOf_157 : decode cX11_batchOf 157 = .ok (.ireturn, 1) := by decide +kernel
theorem dX11_batchOf_158 : decode cX11_batchOf 158 = .ok (.aload_n 0, 1) := by decide +kernel
theorem dX11_batchOf_159 : decode cX11_batchOf 159 = .ok (.getfield 44, 3) := by decide +kernel
theorem dX11_batchOf_162 : decode cX11_batchOf 162 = .ok (.iload_n 1, 1) := by decide +kernel
theorem dX11_batchOf_163 : decode cX11_batchOf 163 = .ok (.baload, 1) := by decide +kernel
theorem dX11_batchOf_164 : decode cX11_batchOf 164 = .ok (.ifCond .eq 7, 3) := by decide +kernel
theorem dX11_batchOf_167 : decode cX11_batchOf 167 = .ok (.iconst 1, 1) := by decide +kernel
theorem dX11_batchOf_168 : decode cX11_batchOf 168 = .ok (.goto 4, 3) := by decide +kernel
theorem dX11_batchOf_171 : decode cX11_batchOf 171 = .ok (.iconst 0, 1) := by decide +kernel
theorem dX11_batchOf_172 : decode cX11_batchOf 172 = .ok (.ireturn, 1) := by decide +kernel
theorem dX11_batchOf_173 : decode cX11_batchOf 173 = .ok (.aload_n 0, 1) := by decide +kernel
theorem dX11_batchOf_174 : decode cX11_batchOf 174 = .ok (.getfield 47, 3) := by decide +kernel
theorem dX11_batchOf_177 : decode cX11_batchOf 177 = .ok (.iload_n 1, 1) := by decide +kernel
theorem dX11_batchOf_178 : decode cX11_batchOf 178 = .ok (.iaload, 1) := by decide +kernel
theorem dX11_batchOf_179 : decode cX11_batchOf 179 = .ok (.ireturn, 1) := by decide +kernel
theorem dX11_batchOf_180 : decode cX11_batchOf 180 = .ok (.aload_n 0, 1) := by decide +kernel
theorem dX11_batchOf_181 : decode cX11_batchOf 181 = .ok (.getfield 50, 3) := by decide +kernel
theorem dX11_batchOf_184 : decode cX11_batchOf 184 = .ok (.iload_n 1, 1) := by decide +kernel
theorem dX11_batchOf_185 : decode cX11_batchOf 185 = .ok (.iaload, 1) := by decide +kernel
theorem dX11_batchOf_186 : decode cX11_batchOf 186 = .ok (.ireturn, 1) := by decide +kernel
theorem dX11_batchOf_187 : decode cX11_batchOf 187 = .ok (.aload_n 0, 1) := by decide +kernel
theorem dX11_batchOf_188 : decode cX11_batchOf 188 = .ok (.getfield 53, 3) := by decide +kernel
theorem dX11_batchOf_191 : decode cX11_batchOf 191 = .ok (.iload_n 1, 1) := by decide +kernel
theorem dX11_batchOf_192 : decode cX11_batchOf 192 = .ok (.iaload, 1) := by decide +kernel
theorem dX11_batchOf_193 : decode cX11_batchOf 193 = .ok (.ireturn, 1) := by decide +kernel
theorem dX11_batchOf_194 : decode cX11_batchOf 194 = .ok (.aload_n 0, 1) := by decide +kernel
theorem dX11_batchOf_195 : decode cX11_batchOf 195 = .ok (.getfield 56, 3) := by decide +kernel
theorem dX11_batchOf_198 : decode cX11_batchOf 198 = .ok (.iload_n 1, 1) := by decide +kernel
theorem dX11_batchOf_199 : decode cX11_batchOf 199 = .ok (.iaload, 1) := by decide +kernel
theorem dX11_batchOf_200 : decode cX11_batchOf 200 = .ok (.ireturn, 1) := by decide +kernel
theorem dX11_batchOf_201 : decode cX11_batchOf 201 = .ok (.iconst (-1), 1) := by decide +kernel
theorem dX11_batchOf_202 : decode cX11_batchOf 202 = .ok (.ireturn, 1) := by decide +kernel
theorem dX11_temper_0 : decode cX11_temper 0 = .ok (.iload_n 2, 1) := by decide +kernel
theorem dX11_temper_1 : decode cX11_temper 1 = .ok (.iload_n 3, 1) := by decide +kernel
theorem dX11_temper_2 : decode cX11_temper 2 = .ok (.if_icmp .ge 32, 3) := by decide +kernel
theorem dX11_temper_5 : decode cX11_temper 5 = .ok (.iload_n 3, 1) := by decide +kernel
theorem dX11_temper_6 : decode cX11_temper 6 = .ok (.iload 4, 2) := by decide +kernel
theorem dX11_temper_8 : decode cX11_temper 8 = .ok (.if_icmp .gt 26, 3) := by decide +kernel
theorem dX11_temper_11 : decode cX11_temper 11 = .ok (.iload 4, 2) := by decide +kernel
theorem dX11_temper_13 : decode cX11_temper 13 = .ok (.iload_n 1, 1) := by decide +kernel
theorem dX11_temper_14 : decode cX11_temper 14 = .ok (.if_icmp .ge 20, 3) := by decide +kernel
theorem dX11_temper_17 : decode cX11_temper 17 = .ok (.iload 5, 2) := by decide +kernel
theorem dX11_temper_19 : decode cX11_temper 19 = .ok (.iload_n 3, 1) := by decide +kernel
theorem dX11_temper_20 : decode cX11_temper 20 = .ok (.if_icmp .gt 14, 3) := by decide +kernel
theorem dX11_temper_23 : decode cX11_temper 23 = .ok (.iload 6, 2) := by decide +kernel
theorem dX11_temper_25 : decode cX11_temper 25 = .ok (.iconst 1, 1) := by decide +kernel
theorem dX11_temper_26 : decode cX11_temper 26 = .ok (.bipush 20, 2) := by decide +kernel
theorem dX11_temper_28 : decode cX11_temper 28 = .ok (.invokestatic 156, 3) := by decide +kernel
theorem dX11_temper_31 : decode cX11_temper 31 = .ok (.ifCond .ne 5, 3) := by decide +kernel
theorem dX11_temper_34 : decode cX11_temper 34 = .ok (.iconst 0, 1) := by decide +kernel
theorem dX11_temper_35 : decode cX11_temper 35 = .ok (.ireturn, 1) := by decide +kernel
theorem dX11_temper_36 : decode cX11_temper 36 = .ok (.aload_n 0, 1) := by decide +kernel
theorem dX11_temper_37 : decode cX11_temper 37 = .ok (.getfield 91, 3) := by decide +kernel
theorem dX11_temper_40 : decode cX11_temper 40 = .ok (.iconst 0, 1) := by decide +kernel
theorem dX11_temper_41 : decode cX11_temper 41 = .ok (.iload_n 1, 1) := by decide +kernel
theorem dX11_temper_42 : decode cX11_temper 42 = .ok (.iastore, 1) := by decide +kernel
theorem dX11_temper_43 : decode cX11_temper 43 = .ok (.aload_n 0, 1) := by decide +kernel
theorem dX11_temper_44 : decode cX11_temper 44 = .ok (.getfield 91, 3) := by decide +kernel
theorem dX11_temper_47 : decode cX11_temper 47 = .ok (.iconst 1, 1) := by decide +kernel
theorem dX11_temper_48 : decode cX11_temper 48 = .ok (.iload_n 2, 1) := by decide +kernel
theorem dX11_temper_49 : decode cX11_temper 49 = .ok (.iastore, 1) := by decide +kernel
theorem dX11_temper_50 : decode cX11_temper 50 = .ok (.aload_n 0, 1) := by decide +kernel
theorem dX11_temper_51 : decode cX11_temper 51 = .ok (.getfield 91, 3) := by decide +kernel
theorem dX11_temper_54 : decode cX11_temper 54 = .ok (.iconst 2, 1) := by decide +kernel
theorem dX11_temper_55 : decode cX11_temper 55 = .ok (.iload_n 3, 1) := by decide +kernel
theorem dX11_temper_56 : decode cX11_temper 56 = .ok (.iastore, 1) := by decide +kernel
theorem dX11_temper_57 : decode cX11_temper 57 = .ok (.aload_n 0, 1) := by decide +kernel
theorem dX11_temper_58 : decode cX11_temper 58 = .ok (.getfield 91, 3) := by decide +kernel
theorem dX11_temper_61 : decode cX11_temper 61 = .ok (.iconst 3, 1) := by decide +kernel
theorem dX11_temper_62 : decode cX11_temper 62 = .ok (.iload 4, 2) := by decide +kernel
theorem dX11_temper_64 : decode cX11_temper 64 = .ok (.iastore, 1) := by decide +kernel
theorem dX11_temper_65 : decode cX11_temper 65 = .ok (.aload_n 0, 1) := by decide +kernel
theorem dX11_temper_66 : decode cX11_temper 66 = .ok (.getfield 91, 3) := by decide +kernel
theorem dX11_temper_69 : decode cX11_temper 69 = .ok (.iconst 4, 1) := by decide +kernel
theorem dX11_temper_70 : decode cX11_temper 70 = .ok (.iload 5, 2) := by decide +kernel
theorem dX11_temper_72 : decode cX11_temper 72 = .ok (.iastore, 1) := by decide +kernel
theorem dX11_temper_73 : decode cX11_temper 73 = .ok (.aload_n 0, 1) := by decide +kernel
theorem dX11_temper_74 : decode cX11_temper 74 = .ok (.getfield 91, 3) := by decide +kernel
theorem dX11_temper_77 : decode cX11_temper 77 = .ok (.iconst 5, 1) := by decide +kernel
theorem dX11_temper_78 : decode cX11_temper 78 = .ok (.iload 6, 2) := by decide +kernel
theorem dX11_temper_80 : decode cX11_temper 80 = .ok (.iastore, 1) := by decide +kernel
theorem dX11_temper_81 : decode cX11_temper 81 = .ok (.iconst 0, 1) := by decide +kernel
theorem dX11_temper_82 : decode cX11_temper 82 = .ok (.istore 7, 2) := by decide +kernel
theorem dX11_temper_84 : decode cX11_temper 84 = .ok (.iload 7, 2) := by decide +kernel
theorem dX11_temper_86 : decode cX11_temper 86 = .ok (.aload_n 0, 1) := by decide +kernel
theorem dX11_temper_87 : decode cX11_temper 87 = .ok (.getfield 153, 3) := by decide +kernel
theorem dX11_temper_90 : decode cX11_temper 90 = .ok (.if_icmp .ge 25, 3) := by decide +kernel
theorem dX11_temper_93 : decode cX11_temper 93 = .ok (.aload_n 0, 1) := by decide +kernel
theorem dX11_temper_94 : decode cX11_temper 94 = .ok (.getfield 47, 3) := by decide +kernel
theorem dX11_temper_97 : decode cX11_temper 97 = .ok (.iload 7, 2) := by decide +kernel
theorem dX11_temper_99 : decode cX11_temper 99 = .ok (.iconst 0, 1) := by decide +kernel
theorem dX11_temper_100 : decode cX11_temper 100 = .ok (.iastore, 1) := by decide +kernel
theorem dX11_temper_101 : decode cX11_temper 101 = .ok (.aload_n 0, 1) := by decide +kernel
theorem dX11_temper_102 : decode cX11_temper 102 = .ok (.getfield 50, 3) := by decide +kernel
theorem dX11_temper_105 : decode cX11_temper 105 = .ok (.iload 7, 2) := by decide +kernel
theorem dX11_temper_107 : decode cX11_temper 107 = .ok (.iconst 0, 1) := by decide +kernel
theorem dX11_temper_108 : decode cX11_temper 108 = .ok (.iastore, 1) := by decide +kernel
theorem dX11_temper_109 : decode cX11_temper 109 = .ok (.iinc 7 1, 3) := by decide +kernel
theorem dX11_temper_112 : decode cX11_temper 112 = .ok (.goto (-28), 3) := by decide +kernel
theorem dX11_temper_115 : decode cX11_temper 115 = .ok (.iconst 1, 1) := by decide +kernel
theorem dX11_temper_116 : decode cX11_temper 116 = .ok (.ireturn, 1) := by decide +kernel
theorem dX11_heat_0 : decode cX11_heat 0 = .ok (.aload_n 0, 1) := by decide +kernel
theorem dX11_heat_1 : decode cX11_heat 1 = .ok (.iload_n 1, 1) := by decide +kernel
theorem dX11_heat_2 : decode cX11_heat 2 = .ok (.invokevirtual 165, 3) := by decide +kernel
theorem dX11_heat_5 : decode cX11_heat 5 = .ok (.ifCond .eq 22, 3) := by decide +kernel
theorem dX11_heat_8 : decode cX11_heat 8 = .ok (.aload_n 0, 1) := by decide +kernel
theorem dX11_heat_9 : decode cX11_heat 9 = .ok (.getfield 40, 3) := by decide +kernel
theorem dX11_heat_12 : decode cX11_heat 12 = .ok (.iload_n 1, 1) := by decide +kernel
theorem dX11_heat_13 : decode cX11_heat 13 = .ok (.baload, 1) := by decide +kernel
theorem dX11_heat_14 : decode cX11_heat 14 = .ok (.ifCond .eq 13, 3) := by decide +kernel
theorem dX11_heat_17 : decode cX11_heat 17 = .ok (.aload_n 0, 1) := by decide +kernel
theorem dX11_heat_18 : decode cX11_heat 18 = .ok (.getfield 16, 3) := by decide +kernel
theorem dX11_heat_21 : decode cX11_heat 21 = .ok (.iload_n 1, 1) := by decide +kernel
theorem dX11_heat_22 : decode cX11_heat 22 = .ok (.iaload, 1) := by decide +kernel
theorem dX11_heat_23 : decode cX11_heat 23 = .ok (.iconst 5, 1) := by decide +kernel
theorem dX11_heat_24 : decode cX11_heat 24 = .ok (.if_icmp .eq 5, 3) := by decide +kernel
theorem dX11_heat_27 : decode cX11_heat 27 = .ok (.iconst (-1), 1) := by decide +kernel
theorem dX11_heat_28 : decode cX11_heat 28 = .ok (.ireturn, 1) := by decide +kernel
theorem dX11_heat_29 : decode cX11_heat 29 = .ok (.aload_n 0, 1) := by decide +kernel
theorem dX11_heat_30 : decode cX11_heat 30 = .ok (.getfield 47, 3) := by decide +kernel
theorem dX11_heat_33 : decode cX11_heat 33 = .ok (.iload_n 1, 1) := by decide +kernel
theorem dX11_heat_34 : decode cX11_heat 34 = .ok (.iaload, 1) := by decide +kernel
theorem dX11_heat_35 : decode cX11_heat 35 = .ok (.istore_n 3, 1) := by decide +kernel
theorem dX11_heat_36 : decode cX11_heat 36 = .ok (.iload_n 3, 1) := by decide +kernel
theorem dX11_heat_37 : decode cX11_heat 37 = .ok (.iconst 1, 1) := by decide +kernel
theorem dX11_heat_38 : decode cX11_heat 38 = .ok (.if_icmp .le 13, 3) := by decide +kernel
theorem dX11_heat_41 : decode cX11_heat 41 = .ok (.iload_n 2, 1) := by decide +kernel
theorem dX11_heat_42 : decode cX11_heat 42 = .ok (.aload_n 0, 1) := by decide +kernel
theorem dX11_heat_43 : decode cX11_heat 43 = .ok (.getfield 91, 3) := by decide +kernel
theorem dX11_heat_46 : decode cX11_heat 46 = .ok (.iconst 3, 1) := by decide +kernel
theorem dX11_heat_47 : decode cX11_heat 47 = .ok (.iaload, 1) := by decide +kernel
theorem dX11_heat_48 : decode cX11_heat 48 = .ok (.if_icmp .gt 18, 3) := by decide +kernel
theorem dX11_heat_51 : decode cX11_heat 51 = .ok (.iload_n 3, 1) := by decide +kernel
theorem dX11_heat_52 : decode cX11_heat 52 = .ok (.iconst 3, 1) := by decide +kernel
theorem dX11_heat_53 : decode cX11_heat 53 = .ok (.if_icmp .ne 22, 3) := by decide +kernel
theorem dX11_heat_56 : decode cX11_heat 56 = .ok (.iload_n 2, 1) := by decide +kernel
theorem dX11_heat_57 : decode cX11_heat 57 = .ok (.aload_n 0, 1) := by decide +kernel
theorem dX11_heat_58 : decode cX11_heat 58 = .ok (.getfield 91, 3) := by decide +kernel
theorem dX11_heat_61 : decode cX11_heat 61 = .ok (.iconst 4, 1) := by decide +kernel
theorem dX11_heat_62 : decode cX11_heat 62 = .ok (.iaload, 1) := by decide +kernel
theorem dX11_heat_63 : decode cX11_heat 63 = .ok (.if_icmp .ge 12, 3) := by decide +kernel
theorem dX11_heat_66 : decode cX11_heat 66 = .ok (.iconst 0, 1) := by decide +kernel
theorem dX11_heat_67 : decode cX11_heat 67 = .ok (.istore_n 3, 1) := by decide +kernel
theorem dX11_heat_68 : decode cX11_heat 68 = .ok (.aload_n 0, 1) := by decide +kernel
theorem dX11_heat_69 : decode cX11_heat 69 = .ok (.getfield 50, 3) := by decide +kernel
theorem dX11_heat_72 : decode cX11_heat 72 = .ok (.iload_n 1, 1) := by decide +kernel
theorem dX11_heat_73 : decode cX11_heat 73 = .ok (.iconst 0, 1) := by decide +kernel
theorem dX11_heat_74 : decode cX11_heat 74 = .ok (.iastore, 1) := by decide +kernel
theorem dX11_heat_75 : decode cX11_heat 75 = .ok (.iload_n 3, 1) := by decide +kernel
theorem dX11_heat_76 : decode cX11_heat 76 = .ok (.iconst 3, 1) := by decide +kernel
theorem dX11_heat_77 : decode cX11_heat 77 = .ok (.if_icmp .ge 91, 3) := by decide +kernel
theorem dX11_heat_80 : decode cX11_heat 80 = .ok (.iload_n 3, 1) := by decide +kernel
theorem dX11_heat_81 : decode cX11_heat 81 = .ok (.iconst 1, 1) := by decide +kernel
theorem dX11_heat_82 : decode cX11_heat 82 = .ok (.if_icmp .ne 21, 3) := by decide +kernel
theorem dX11_heat_85 : decode cX11_heat 85 = .ok (.iload_n 2, 1) := by decide +kernel
theorem dX11_heat_86 : decode cX11_heat 86 = .ok (.aload_n 0, 1) := by decide +kernel
theorem dX11_heat_87 : decode cX11_heat 87 = .ok (.getfield 91, 3) := by decide +kernel
theorem dX11_heat_90 : decode cX11_heat 90 = .ok (.iconst 1, 1) := by decide +kernel
theorem dX11_heat_91 : decode cX11_heat 91 = .ok (.iaload, 1) := by decide +kernel
theorem dX11_heat_92 : decode cX11_heat 92 = .ok (.if_icmp .gt 7, 3) := by decide +kernel
theorem dX11_heat_95 : decode cX11_heat 95 = .ok (.iconst 1, 1) := by decide +kernel
theorem dX11_heat_96 : decode cX11_heat 96 = .ok (.goto 22, 3) := by decide +kernel
theorem dX11_heat_99 : decode cX11_heat 99 = .ok (.iconst 0, 1) := by decide +kernel
theorem dX11_heat_100 : decode cX11_heat 100 = .ok (.goto 18, 3) := by decide +kernel
theorem dX11_heat_103 : decode cX11_heat 103 = .ok (.iload_n 2, 1) := by decide +kernel
theorem dX11_heat_104 : decode cX11_heat 104 = .ok (.aload_n 0, 1) := by decide +kernel
theorem dX11_heat_105 : decode cX11_heat 105 = .ok (.getfield 91, 3) := by decide +kernel
theorem dX11_heat_108 : decode cX11_heat 108 = .ok (.iload_n 3, 1) := by decide +kernel
theorem dX11_heat_109 : decode cX11_heat 109 = .ok (.iaload, 1) := by decide +kernel
theorem dX11_heat_110 : decode cX11_heat 110 = .ok (.if_icmp .lt 7, 3) := by decide +kernel
theorem dX11_heat_113 : decode cX11_heat 113 = .ok (.iconst 1, 1) := by decide +kernel
theorem dX11_heat_114 : decode cX11_heat 114 = .ok (.goto 4, 3) := by decide +kernel
theorem dX11_heat_117 : decode cX11_heat 117 = .ok (.iconst 0, 1) := by decide +kernel
theorem dX11_heat_118 : decode cX11_heat 118 = .ok (.istore 4, 2) := by decide +kernel
theorem dX11_heat_120 : decode cX11_heat 120 = .ok (.aload_n 0, 1) := by decide +kernel
theorem dX11_heat_121 : decode cX11_heat 121 = .ok (.getfield 50, 3) := by decide +kernel
theorem dX11_heat_124 : decode cX11_heat 124 = .ok (.iload_n 1, 1) := by decide +kernel
theorem dX11_heat_125 : decode cX11_heat 125 = .ok (.iload 4, 2) := by decide +kernel
theorem dX11_heat_127 : decode cX11_heat 127 = .ok (.ifCond .eq 14, 3) := by decide +kernel
theorem dX11_heat_130 : decode cX11_heat 130 = .ok (.aload_n 0, 1) := by decide +kernel
theorem dX11_heat_131 : decode cX11_heat 131 = .ok (.getfield 50, 3) := by decide +kernel
theorem dX11_heat_134 : decode cX11_heat 134 = .ok (.iload_n 1, 1) := by decide +kernel
theorem dX11_heat_135 : decode cX11_heat 135 = .ok (.iaload, 1) := by decide +kernel
theorem dX11_heat_136 : decode cX11_heat 136 = .ok (.iconst 1, 1) := by decide +kernel
theorem dX11_heat_137 : decode cX11_heat 137 = .ok (.iadd, 1) := by decide +kernel
theorem dX11_heat_138 : decode cX11_heat 138 = .ok (.goto 4, 3) := by decide +kernel
theorem dX11_heat_141 : decode cX11_heat 141 = .ok (.iconst 0, 1) := by decide +kernel
theorem dX11_heat_142 : decode cX11_heat 142 = .ok (.iastore, 1) := by decide +kernel
theorem dX11_heat_143 : decode cX11_heat 143 = .ok (.aload_n 0, 1) := by decide +kernel
theorem dX11_heat_144 : decode cX11_heat 144 = .ok (.getfield 50, 3) := by decide +kernel
theorem dX11_heat_147 : decode cX11_heat 147 = .ok (.iload_n 1, 1) := by decide +kernel
theorem dX11_heat_148 : decode cX11_heat 148 = .ok (.iaload, 1) := by decide +kernel
theorem dX11_heat_149 : decode cX11_heat 149 = .ok (.aload_n 0, 1) := by decide +kernel
theorem dX11_heat_150 : decode cX11_heat 150 = .ok (.getfield 91, 3) := by decide +kernel
theorem dX11_heat_153 : decode cX11_heat 153 = .ok (.iconst 5, 1) := by decide +kernel
theorem dX11_heat_154 : decode cX11_heat 154 = .ok (.iaload, 1) := by decide +kernel
theorem dX11_heat_155 : decode cX11_heat 155 = .ok (.if_icmp .ne 13, 3) := by decide +kernel
theorem dX11_heat_158 : decode cX11_heat 158 = .ok (.iinc 3 1, 3) := by decide +kernel
theorem dX11_heat_161 : decode cX11_heat 161 = .ok (.aload_n 0, 1) := by decide +kernel
theorem dX11_heat_162 : decode cX11_heat 162 = .ok (.getfield 50, 3) := by decide +kernel
theorem dX11_heat_165 : decode cX11_heat 165 = .ok (.iload_n 1, 1) := by decide +kernel
theorem dX11_heat_166 : decode cX11_heat 166 = .ok (.iconst 0, 1) := by decide +kernel
theorem dX11_heat_167 : decode cX11_heat 167 = .ok (.iastore, 1) := by decide +kernel
theorem dX11_heat_168 : decode cX11_heat 168 = .ok (.aload_n 0, 1) := by decide +kernel
theorem dX11_heat_169 : decode cX11_heat 169 = .ok (.getfield 47, 3) := by decide +kernel
theorem dX11_heat_172 : decode cX11_heat 172 = .ok (.iload_n 1, 1) := by decide +kernel
theorem dX11_heat_173 : decode cX11_heat 173 = .ok (.iload_n 3, 1) := by decide +kernel
theorem dX11_heat_174 : decode cX11_heat 174 = .ok (.iastore, 1) := by decide +kernel
theorem dX11_heat_175 : decode cX11_heat 175 = .ok (.iload_n 3, 1) := by decide +kernel
theorem dX11_heat_176 : decode cX11_heat 176 = .ok (.ireturn, 1) := by decide +kernel
theorem dX11_cut_0 : decode cX11_cut 0 = .ok (.iload_n 2, 1) := by decide +kernel
theorem dX11_cut_1 : decode cX11_cut 1 = .ok (.bipush 10, 2) := by decide +kernel
theorem dX11_cut_3 : decode cX11_cut 3 = .ok (.sipush 2000, 3) := by decide +kernel
theorem dX11_cut_6 : decode cX11_cut 6 = .ok (.invokestatic 156, 3) := by decide +kernel
theorem dX11_cut_9 : decode cX11_cut 9 = .ok (.ifCond .eq 41, 3) := by decide +kernel
theorem dX11_cut_12 : decode cX11_cut 12 = .ok (.iload_n 3, 1) := by decide +kernel
theorem dX11_cut_13 : decode cX11_cut 13 = .ok (.iconst 1, 1) := by decide +kernel
theorem dX11_cut_14 : decode cX11_cut 14 = .ok (.bipush 99, 2) := by decide +kernel
theorem dX11_cut_16 : decode cX11_cut 16 = .ok (.invokestatic 156, 3) := by decide +kernel
theorem dX11_cut_19 : decode cX11_cut 19 = .ok (.ifCond .eq 31, 3) := by decide +kernel
theorem dX11_cut_22 : decode cX11_cut 22 = .ok (.aload_n 0, 1) := by decide +kernel
theorem dX11_cut_23 : decode cX11_cut 23 = .ok (.iload_n 1, 1) := by decide +kernel
theorem dX11_cut_24 : decode cX11_cut 24 = .ok (.invokevirtual 200, 3) := by decide +kernel
theorem dX11_cut_27 : decode cX11_cut 27 = .ok (.ifCond .eq 23, 3) := by decide +kernel
theorem dX11_cut_30 : decode cX11_cut 30 = .ok (.aload_n 0, 1) := by decide +kernel
theorem dX11_cut_31 : decode cX11_cut 31 = .ok (.getfield 16, 3) := by decide +kernel
theorem dX11_cut_34 : decode cX11_cut 34 = .ok (.iload_n 1, 1) := by decide +kernel
theorem dX11_cut_35 : decode cX11_cut 35 = .ok (.iaload, 1) := by decide +kernel
theorem dX11_cut_36 : decode cX11_cut 36 = .ok (.iconst 3, 1) := by decide +kernel
theorem dX11_cut_37 : decode cX11_cut 37 = .ok (.if_icmp .eq 15, 3) := by decide +kernel
theorem dX11_cut_40 : decode cX11_cut 40 = .ok (.aload_n 0, 1) := by decide +kernel
theorem dX11_cut_41 : decode cX11_cut 41 = .ok (.getfield 16, 3) := by decide +kernel
theorem dX11_cut_44 : decode cX11_cut 44 = .ok (.iload_n 1, 1) := by decide +kernel
theorem dX11_cut_45 : decode cX11_cut 45 = .ok (.iaload, 1) := by decide +kernel
theorem dX11_cut_46 : decode cX11_cut 46 = .ok (.iconst 4, 1) := by decide +kernel
theorem dX11_cut_47 : decode cX11_cut 47 = .ok (.if_icmp .eq 5, 3) := by decide +kernel
theorem dX11_cut_50 : decode cX11_cut 50 = .ok (.iconst (-1), 1) := by decide +kernel
theorem dX11_cut_51 : decode cX11_cut 51 = .ok (.ireturn, 1) := by decide +kernel
theorem dX11_cut_52 : decode cX11_cut 52 = .ok (.iconst 0, 1) := by decide +kernel
theorem dX11_cut_53 : decode cX11_cut 53 = .ok (.istore 4, 2) := by decide +kernel
theorem dX11_cut_55 : decode cX11_cut 55 = .ok (.iload 4, 2) := by decide +kernel
theorem dX11_cut_57 : decode cX11_cut 57 = .ok (.iload_n 3, 1) := by decide +kernel
theorem dX11_cut_58 : decode cX11_cut 58 = .ok (.if_icmp .ge 109, 3) := by decide +kernel
theorem dX11_cut_61 : decode cX11_cut 61 = .ok (.aload_n 0, 1) := by decide +kernel
theorem dX11_cut_62 : decode cX11_cut 62 = .ok (.getfield 203, 3) := by decide +kernel
theorem dX11_cut_65 : decode cX11_cut 65 = .ok (.sipush 600, 3) := by decide +kernel
theorem dX11_cut_68 : decode cX11_cut 68 = .ok (.if_icmp .ge 99, 3) := by decide +kernel
theorem dX11_cut_71 : decode cX11_cut 71 = .ok (.aload_n 0, 1) := by decide +kernel
theorem dX11_cut_72 : decode cX11_cut 72 = .ok (.getfield 19, 3) := by decide +kernel
theorem dX11_cut_75 : decode cX11_cut 75 = .ok (.iload_n 1, 1) := by decide +kernel
theorem dX11_cut_76 : decode cX11_cut 76 = .ok (.iaload, 1) := by decide +kernel
theorem dX11_cut_77 : decode cX11_cut 77 = .ok (.iload_n 2, 1) := by decide +kernel
theorem dX11_cut_78 : decode cX11_cut 78 = .ok (.if_icmp .lt 89, 3) := by decide +kernel
theorem dX11_cut_81 : decode cX11_cut 81 = .ok (.aload_n 0, 1) := by decide +kernel
theorem dX11_cut_82 : decode cX11_cut 82 = .ok (.getfield 100, 3) := by decide +kernel
theorem dX11_cut_85 : decode cX11_cut 85 = .ok (.aload_n 0, 1) := by decide +kernel
theorem dX11_cut_86 : decode cX11_cut 86 = .ok (.getfield 203, 3) := by decide +kernel
theorem dX11_cut_89 : decode cX11_cut 89 = .ok (.iload_n 1, 1) := by decide +kernel
theorem dX11_cut_90 : decode cX11_cut 90 = .ok (.iastore, 1) := by decide +kernel
theorem dX11_cut_91 : decode cX11_cut 91 = .ok (.aload_n 0, 1) := by decide +kernel
theorem dX11_cut_92 : decode cX11_cut 92 = .ok (.getfield 103, 3) := by decide +kernel
theorem dX11_cut_95 : decode cX11_cut 95 = .ok (.aload_n 0, 1) := by decide +kernel
theorem dX11_cut_96 : decode cX11_cut 96 = .ok (.getfield 203, 3) := by decide +kernel
theorem dX11_cut_99 : decode cX11_cut 99 = .ok (.iload_n 2, 1) := by decide +kernel
theorem dX11_cut_100 : decode cX11_cut 100 = .ok (.iastore, 1) := by decide +kernel
theorem dX11_cut_101 : decode cX11_cut 101 = .ok (.aload_n 0, 1) := by decide +kernel
theorem dX11_cut_102 : decode cX11_cut 102 = .ok (.getfield 106, 3) := by decide +kernel
theorem dX11_cut_105 : decode cX11_cut 105 = .ok (.aload_n 0, 1) := by decide +kernel
theorem dX11_cut_106 : decode cX11_cut 106 = .ok (.getfield 203, 3) := by decide +kernel
theorem dX11_cut_109 : decode cX11_cut 109 = .ok (.iconst (-1), 1) := by decide +kernel
theorem dX11_cut_110 : decode cX11_cut 110 = .ok (.iastore, 1) := by decide +kernel
theorem dX11_cut_111 : decode cX11_cut 111 = .ok (.aload_n 0, 1) := by decide +kernel
theorem dX11_cut_112 : decode cX11_cut 112 = .ok (.getfield 109, 3) := by decide +kernel
theorem dX11_cut_115 : decode cX11_cut 115 = .ok (.aload_n 0, 1) := by decide +kernel
theorem dX11_cut_116 : decode cX11_cut 116 = .ok (.getfield 203, 3) := by decide +kernel
theorem dX11_cut_119 : decode cX11_cut 119 = .ok (.iconst (-1), 1) := by decide +kernel
theorem dX11_cut_120 : decode cX11_cut 120 = .ok (.iastore, 1) := by decide +kernel
theorem dX11_cut_121 : decode cX11_cut 121 = .ok (.aload_n 0, 1) := by decide +kernel
theorem dX11_cut_122 : decode cX11_cut 122 = .ok (.getfield 118, 3) := by decide +kernel
theorem dX11_cut_125 : decode cX11_cut 125 = .ok (.aload_n 0, 1) := by decide +kernel
theorem dX11_cut_126 : decode cX11_cut 126 = .ok (.getfield 203, 3) := by decide +kernel
theorem dX11_cut_129 : decode cX11_cut 129 = .ok (.iconst (-1), 1) := by decide +kernel
theorem dX11_cut_130 : decode cX11_cut 130 = .ok (.iastore, 1) := by decide +kernel
theorem dX11_cut_131 : decode cX11_cut 131 = .ok (.aload_n 0, 1) := by decide +kernel
theorem dX11_cut_132 : decode cX11_cut 132 = .ok (.dup, 1) := by decide +kernel
theorem dX11_cut_133 : decode cX11_cut 133 = .ok (.getfield 203, 3) := by decide +kernel
theorem dX11_cut_136 : decode cX11_cut 136 = .ok (.iconst 1, 1) := by decide +kernel
theorem dX11_cut_137 : decode cX11_cut 137 = .ok (.iadd, 1) := by decide +kernel
theorem dX11_cut_138 : decode cX11_cut 138 = .ok (.putfield 203, 3) := by decide +kernel
theorem dX11_cut_141 : decode cX11_cut 141 = .ok (.aload_n 0, 1) := by decide +kernel
theorem dX11_cut_142 : decode cX11_cut 142 = .ok (.getfield 19, 3) := by decide +kernel
theorem dX11_cut_145 : decode cX11_cut 145 = .ok (.iload_n 1, 1) := by decide +kernel
theorem dX11_cut_146 : decode cX11_cut 146 = .ok (.dup2, 1) := by decide +kernel
theorem dX11_cut_147 : decode cX11_cut 147 = .ok (.iaload, 1) := by decide +kernel
theorem dX11_cut_148 : decode cX11_cut 148 = .ok (.iload_n 2, 1) := by decide +kernel
theorem dX11_cut_149 : decode cX11_cut 149 = .ok (.isub, 1) := by decide +kernel
theorem dX11_cut_150 : decode cX11_cut 150 = .ok (.iastore, 1) := by decide +kernel
theorem dX11_cut_151 : decode cX11_cut 151 = .ok (.aload_n 0, 1) := by decide +kernel
theorem dX11_cut_152 : decode cX11_cut 152 = .ok (.getfield 53, 3) := by decide +kernel
theorem dX11_cut_155 : decode cX11_cut 155 = .ok (.iload_n 1, 1) := by decide +kernel
theorem dX11_cut_156 : decode cX11_cut 156 = .ok (.dup2, 1) := by decide +kernel
theorem dX11_cut_157 : decode cX11_cut 157 = .ok (.iaload, 1) := by decide +kernel
theorem dX11_cut_158 : decode cX11_cut 158 = .ok (.iload_n 2, 1) := by decide +kernel
theorem dX11_cut_159 : decode cX11_cut 159 = .ok (.iadd, 1) := by decide +kernel
theorem dX11_cut_160 : decode cX11_cut 160 = .ok (.iastore, 1) := by decide +kernel
theorem dX11_cut_161 : decode cX11_cut 161 = .ok (.iinc 4 1, 3) := by decide +kernel
theorem dX11_cut_164 : decode cX11_cut 164 = .ok (.goto (-109), 3) := by decide +kernel
theorem dX11_cut_167 : decode cX11_cut 167 = .ok (.iload 4, 2) := by decide +kernel
theorem dX11_cut_169 : decode cX11_cut 169 = .ok (.ireturn, 1) := by decide +kernel
theorem dX11_isOut_0 : decode cX11_isOut 0 = .ok (.iload_n 1, 1) := by decide +kernel
theorem dX11_isOut_1 : decode cX11_isOut 1 = .ok (.iconst 0, 1) := by decide +kernel
theorem dX11_isOut_2 : decode cX11_isOut 2 = .ok (.aload_n 0, 1) := by decide +kernel
theorem dX11_isOut_3 : decode cX11_isOut 3 = .ok (.getfield 203, 3) := by decide +kernel
theorem dX11_isOut_6 : decode cX11_isOut 6 = .ok (.iconst 1, 1) := by decide +kernel
theorem dX11_isOut_7 : decode cX11_isOut 7 = .ok (.isub, 1) := by decide +kernel
theorem dX11_isOut_8 : decode cX11_isOut 8 = .ok (.invokestatic 156, 3) := by decide +kernel
theorem dX11_isOut_11 : decode cX11_isOut 11 = .ok (.ifCond .eq 17, 3) := by decide +kernel
theorem dX11_isOut_14 : decode cX11_isOut 14 = .ok (.aload_n 0, 1) := by decide +kernel
theorem dX11_isOut_15 : decode cX11_isOut 15 = .ok (.getfield 115, 3) := by decide +kernel
theorem dX11_isOut_18 : decode cX11_isOut 18 = .ok (.iload_n 1, 1) := by decide +kernel
theorem dX11_isOut_19 : decode cX11_isOut 19 = .ok (.iaload, 1) := by decide +kernel
theorem dX11_isOut_20 : decode cX11_isOut 20 = .ok (.iconst 2, 1) := by decide +kernel
theorem dX11_isOut_21 : decode cX11_isOut 21 = .ok (.if_icmp .eq 7, 3) := by decide +kernel
theorem dX11_isOut_24 : decode cX11_isOut 24 = .ok (.iconst 1, 1) := by decide +kernel
theorem dX11_isOut_25 : decode cX11_isOut 25 = .ok (.goto 4, 3) := by decide +kernel
theorem dX11_isOut_28 : decode cX11_isOut 28 = .ok (.iconst 0, 1) := by decide +kernel
theorem dX11_isOut_29 : decode cX11_isOut 29 = .ok (.ireturn, 1) := by decide +kernel
theorem dX11_dip_0 : decode cX11_dip 0 = .ok (.aload_n 0, 1) := by decide +kernel
theorem dX11_dip_1 : decode cX11_dip 1 = .ok (.iload_n 1, 1) := by decide +kernel
theorem dX11_dip_2 : decode cX11_dip 2 = .ok (.invokevirtual 206, 3) := by decide +kernel
theorem dX11_dip_5 : decode cX11_dip 5 = .ok (.ifCond .eq 51, 3) := by decide +kernel
theorem dX11_dip_8 : decode cX11_dip 8 = .ok (.aload_n 0, 1) := by decide +kernel
theorem dX11_dip_9 : decode cX11_dip 9 = .ok (.getfield 106, 3) := by decide +kernel
theorem dX11_dip_12 : decode cX11_dip 12 = .ok (.iload_n 1, 1) := by decide +kernel
theorem dX11_dip_13 : decode cX11_dip 13 = .ok (.iaload, 1) := by decide +kernel
theorem dX11_dip_14 : decode cX11_dip 14 = .ok (.ifCond .ge 42, 3) := by decide +kernel
theorem dX11_dip_17 : decode cX11_dip 17 = .ok (.iload_n 3, 1) := by decide +kernel
theorem dX11_dip_18 : decode cX11_dip 18 = .ok (.iconst 1, 1) := by decide +kernel
theorem dX11_dip_19 : decode cX11_dip 19 = .ok (.sipush 1000, 3) := by decide +kernel
theorem dX11_dip_22 : decode cX11_dip 22 = .ok (.invokestatic 156, 3) := by decide +kernel
theorem dX11_dip_25 : decode cX11_dip 25 = .ok (.ifCond .eq 31, 3) := by decide +kernel
theorem dX11_dip_28 : decode cX11_dip 28 = .ok (.aload_n 0, 1) := by decide +kernel
theorem dX11_dip_29 : decode cX11_dip 29 = .ok (.iload_n 2, 1) := by decide +kernel
theorem dX11_dip_30 : decode cX11_dip 30 = .ok (.invokevirtual 200, 3) := by decide +kernel
theorem dX11_dip_33 : decode cX11_dip 33 = .ok (.ifCond .eq 23, 3) := by decide +kernel
theorem dX11_dip_36 : decode cX11_dip 36 = .ok (.aload_n 0, 1) := by decide +kernel
theorem dX11_dip_37 : decode cX11_dip 37 = .ok (.getfield 16, 3) := by decide +kernel
theorem dX11_dip_40 : decode cX11_dip 40 = .ok (.iload_n 2, 1) := by decide +kernel
theorem dX11_dip_41 : decode cX11_dip 41 = .ok (.iaload, 1) := by decide +kernel
theorem dX11_dip_42 : decode cX11_dip 42 = .ok (.iconst 5, 1) := by decide +kernel
theorem dX11_dip_43 : decode cX11_dip 43 = .ok (.if_icmp .ne 13, 3) := by decide +kernel
theorem dX11_dip_46 : decode cX11_dip 46 = .ok (.aload_n 0, 1) := by decide +kernel
theorem dX11_dip_47 : decode cX11_dip 47 = .ok (.getfield 19, 3) := by decide +kernel
theorem dX11_dip_50 : decode cX11_dip 50 = .ok (.iload_n 2, 1) := by decide +kernel
theorem dX11_dip_51 : decode cX11_dip 51 = .ok (.iaload, 1) := by decide +kernel
theorem dX11_dip_52 : decode cX11_dip 52 = .ok (.iload_n 3, 1) := by decide +kernel
theorem dX11_dip_53 : decode cX11_dip 53 = .ok (.if_icmp .ge 5, 3) := by decide +kernel
theorem dX11_dip_56 : decode cX11_dip 56 = .ok (.iconst (-1), 1) := by decide +kernel
theorem dX11_dip_57 : decode cX11_dip 57 = .ok (.ireturn, 1) := by decide +kernel
theorem dX11_dip_58 : decode cX11_dip 58 = .ok (.aload_n 0, 1) := by decide +kernel
theorem dX11_dip_59 : decode cX11_dip 59 = .ok (.getfield 19, 3) := by decide +kernel
theorem dX11_dip_62 : decode cX11_dip 62 = .ok (.iload_n 2, 1) := by decide +kernel
theorem dX11_dip_63 : decode cX11_dip 63 = .ok (.dup2, 1) := by decide +kernel
theorem dX11_dip_64 : decode cX11_dip 64 = .ok (.iaload, 1) := by decide +kernel
theorem dX11_dip_65 : decode cX11_dip 65 = .ok (.iload_n 3, 1) := by decide +kernel
theorem dX11_dip_66 : decode cX11_dip 66 = .ok (.isub, 1) := by decide +kernel
theorem dX11_dip_67 : decode cX11_dip 67 = .ok (.iastore, 1) := by decide +kernel
theorem dX11_dip_68 : decode cX11_dip 68 = .ok (.aload_n 0, 1) := by decide +kernel
theorem dX11_dip_69 : decode cX11_dip 69 = .ok (.getfield 56, 3) := by decide +kernel
theorem dX11_dip_72 : decode cX11_dip 72 = .ok (.iload_n 2, 1) := by decide +kernel
theorem dX11_dip_73 : decode cX11_dip 73 = .ok (.dup2, 1) := by decide +kernel
theorem dX11_dip_74 : decode cX11_dip 74 = .ok (.iaload, 1) := by decide +kernel
theorem dX11_dip_75 : decode cX11_dip 75 = .ok (.iload_n 3, 1) := by decide +kernel
theorem dX11_dip_76 : decode cX11_dip 76 = .ok (.iadd, 1) := by decide +kernel
theorem dX11_dip_77 : decode cX11_dip 77 = .ok (.iastore, 1) := by decide +kernel
theorem dX11_dip_78 : decode cX11_dip 78 = .ok (.aload_n 0, 1) := by decide +kernel
theorem dX11_dip_79 : decode cX11_dip 79 = .ok (.getfield 103, 3) := by decide +kernel
theorem dX11_dip_82 : decode cX11_dip 82 = .ok (.iload_n 1, 1) := by decide +kernel
theorem dX11_dip_83 : decode cX11_dip 83 = .ok (.dup2, 1) := by decide +kernel
theorem dX11_dip_84 : decode cX11_dip 84 = .ok (.iaload, 1) := by decide +kernel
theorem dX11_dip_85 : decode cX11_dip 85 = .ok (.iload_n 3, 1) := by decide +kernel
theorem dX11_dip_86 : decode cX11_dip 86 = .ok (.iadd, 1) := by decide +kernel
theorem dX11_dip_87 : decode cX11_dip 87 = .ok (.iastore, 1) := by decide +kernel
theorem dX11_dip_88 : decode cX11_dip 88 = .ok (.aload_n 0, 1) := by decide +kernel
theorem dX11_dip_89 : decode cX11_dip 89 = .ok (.getfield 106, 3) := by decide +kernel
theorem dX11_dip_92 : decode cX11_dip 92 = .ok (.iload_n 1, 1) := by decide +kernel
theorem dX11_dip_93 : decode cX11_dip 93 = .ok (.iload_n 2, 1) := by decide +kernel
theorem dX11_dip_94 : decode cX11_dip 94 = .ok (.iastore, 1) := by decide +kernel
theorem dX11_dip_95 : decode cX11_dip 95 = .ok (.aload_n 0, 1) := by decide +kernel
theorem dX11_dip_96 : decode cX11_dip 96 = .ok (.getfield 109, 3) := by decide +kernel
theorem dX11_dip_99 : decode cX11_dip 99 = .ok (.iload_n 1, 1) := by decide +kernel
theorem dX11_dip_100 : decode cX11_dip 100 = .ok (.aload_n 0, 1) := by decide +kernel
theorem dX11_dip_101 : decode cX11_dip 101 = .ok (.getfield 47, 3) := by decide +kernel
theorem dX11_dip_104 : decode cX11_dip 104 = .ok (.iload_n 2, 1) := by decide +kernel
theorem dX11_dip_105 : decode cX11_dip 105 = .ok (.iaload, 1) := by decide +kernel
theorem dX11_dip_106 : decode cX11_dip 106 = .ok (.iconst 3, 1) := by decide +kernel
theorem dX11_dip_107 : decode cX11_dip 107 = .ok (.if_icmp .ne 7, 3) := by decide +kernel
theorem dX11_dip_110 : decode cX11_dip 110 = .ok (.iconst 1, 1) := by decide +kernel
theorem dX11_dip_111 : decode cX11_dip 111 = .ok (.goto 4, 3) := by decide +kernel
theorem dX11_dip_114 : decode cX11_dip 114 = .ok (.iconst 0, 1) := by decide +kernel
theorem dX11_dip_115 : decode cX11_dip 115 = .ok (.iastore, 1) := by decide +kernel
theorem dX11_dip_116 : decode cX11_dip 116 = .ok (.aload_n 0, 1) := by decide +kernel
theorem dX11_dip_117 : decode cX11_dip 117 = .ok (.getfield 109, 3) := by decide +kernel
theorem dX11_dip_120 : decode cX11_dip 120 = .ok (.iload_n 1, 1) := by decide +kernel
theorem dX11_dip_121 : decode cX11_dip 121 = .ok (.iaload, 1) := by decide +kernel
theorem dX11_dip_122 : decode cX11_dip 122 = .ok (.ireturn, 1) := by decide +kernel
theorem dX11_place_0 : decode cX11_place 0 = .ok (.aload_n 0, 1) := by decide +kernel
theorem dX11_place_1 : decode cX11_place 1 = .ok (.iload_n 1, 1) := by decide +kernel
theorem dX11_place_2 : decode cX11_place 2 = .ok (.invokevirtual 206, 3) := by decide +kernel
theorem dX11_place_5 : decode cX11_place 5 = .ok (.ifCond .eq 36, 3) := by decide +kernel
theorem dX11_place_8 : decode cX11_place 8 = .ok (.iload_n 2, 1) := by decide +kernel
theorem dX11_place_9 : decode cX11_place 9 = .ok (.iconst 0, 1) := by decide +kernel
theorem dX11_place_10 : decode cX11_place 10 = .ok (.iconst 5, 1) := by decide +kernel
theorem dX11_place_11 : decode cX11_place 11 = .ok (.invokestatic 156, 3) := by decide +kernel
theorem dX11_place_14 : decode cX11_place 14 = .ok (.ifCond .eq 27, 3) := by decide +kernel
theorem dX11_place_17 : decode cX11_place 17 = .ok (.iload_n 3, 1) := by decide +kernel
theorem dX11_place_18 : decode cX11_place 18 = .ok (.iconst 0, 1) := by decide +kernel
theorem dX11_place_19 : decode cX11_place 19 = .ok (.bipush 23, 2) := by decide +kernel
theorem dX11_place_21 : decode cX11_place 21 = .ok (.invokestatic 156, 3) := by decide +kernel
theorem dX11_place_24 : decode cX11_place 24 = .ok (.ifCond .eq 17, 3) := by decide +kernel
theorem dX11_place_27 : decode cX11_place 27 = .ok (.aload_n 0, 1) := by decide +kernel
theorem dX11_place_28 : decode cX11_place 28 = .ok (.getfield 121, 3) := by decide +kernel
theorem dX11_place_31 : decode cX11_place 31 = .ok (.bipush 24, 2) := by decide +kernel
theorem dX11_place_33 : decode cX11_place 33 = .ok (.iload_n 2, 1) := by decide +kernel
theorem dX11_place_34 : decode cX11_place 34 = .ok (.imul, 1) := by decide +kernel
theorem dX11_place_35 : decode cX11_place 35 = .ok (.iload_n 3, 1) := by decide +kernel
theorem dX11_place_36 : decode cX11_place 36 = .ok (.iadd, 1) := by decide +kernel
theorem dX11_place_37 : decode cX11_place 37 = .ok (.iaload, 1) := by decide +kernel
theorem dX11_place_38 : decode cX11_place 38 = .ok (.ifCond .lt 5, 3) := by decide +kernel
theorem dX11_place_41 : decode cX11_place 41 = .ok (.iconst 0, 1) := by decide +kernel
theorem dX11_place_42 : decode cX11_place 42 = .ok (.ireturn, 1) := by decide +kernel
theorem dX11_place_43 : decode cX11_place 43 = .ok (.aload_n 0, 1) := by decide +kernel
theorem dX11_place_44 : decode cX11_place 44 = .ok (.iload_n 1, 1) := by decide +kernel
theorem dX11_place_45 : decode cX11_place 45 = .ok (.invokevirtual 209, 3) := by decide +kernel
theorem dX11_place_48 : decode cX11_place 48 = .ok (.aload_n 0, 1) := by decide +kernel
theorem dX11_place_49 : decode cX11_place 49 = .ok (.getfield 115, 3) := by decide +kernel
theorem dX11_place_52 : decode cX11_place 52 = .ok (.iload_n 1, 1) := by decide +kernel
theorem dX11_place_53 : decode cX11_place 53 = .ok (.iconst 1, 1) := by decide +kernel
theorem dX11_place_54 : decode cX11_place 54 = .ok (.iastore, 1) := by decide +kernel
theorem dX11_place_55 : decode cX11_place 55 = .ok (.aload_n 0, 1) := by decide +kernel
theorem dX11_place_56 : decode cX11_place 56 = .ok (.getfield 118, 3) := by decide +kernel
theorem dX11_place_59 : decode cX11_place 59 = .ok (.iload_n 1, 1) := by decide +kernel
theorem dX11_place_60 : decode cX11_place 60 = .ok (.bipush 24, 2) := by decide +kernel
theorem dX11_place_62 : decode cX11_place 62 = .ok (.iload_n 2, 1) := by decide +kernel
theorem dX11_place_63 : decode cX11_place 63 = .ok (.imul, 1) := by decide +kernel
theorem dX11_place_64 : decode cX11_place 64 = .ok (.iload_n 3, 1) := by decide +kernel
theorem dX11_place_65 : decode cX11_place 65 = .ok (.iadd, 1) := by decide +kernel
theorem dX11_place_66 : decode cX11_place 66 = .ok (.iastore, 1) := by decide +kernel
theorem dX11_place_67 : decode cX11_place 67 = .ok (.aload_n 0, 1) := by decide +kernel
theorem dX11_place_68 : decode cX11_place 68 = .ok (.getfield 121, 3) := by decide +kernel
theorem dX11_place_71 : decode cX11_place 71 = .ok (.bipush 24, 2) := by decide +kernel
theorem dX11_place_73 : decode cX11_place 73 = .ok (.iload_n 2, 1) := by decide +kernel
theorem dX11_place_74 : decode cX11_place 74 = .ok (.imul, 1) := by decide +kernel
theorem dX11_place_75 : decode cX11_place 75 = .ok (.iload_n 3, 1) := by decide +kernel
theorem dX11_place_76 : decode cX11_place 76 = .ok (.iadd, 1) := by decide +kernel
theorem dX11_place_77 : decode cX11_place 77 = .ok (.iload_n 1, 1) := by decide +kernel
theorem dX11_place_78 : decode cX11_place 78 = .ok (.iastore, 1) := by decide +kernel
theorem dX11_place_79 : decode cX11_place 79 = .ok (.iconst 1, 1) := by decide +kernel
theorem dX11_place_80 : decode cX11_place 80 = .ok (.ireturn, 1) := by decide +kernel
theorem dX11_take_0 : decode cX11_take 0 = .ok (.iload_n 1, 1) := by decide +kernel
theorem dX11_take_1 : decode cX11_take 1 = .ok (.iconst 0, 1) := by decide +kernel
theorem dX11_take_2 : decode cX11_take 2 = .ok (.aload_n 0, 1) := by decide +kernel
theorem dX11_take_3 : decode cX11_take 3 = .ok (.getfield 203, 3) := by decide +kernel
theorem dX11_take_6 : decode cX11_take 6 = .ok (.iconst 1, 1) := by decide +kernel
theorem dX11_take_7 : decode cX11_take 7 = .ok (.isub, 1) := by decide +kernel
theorem dX11_take_8 : decode cX11_take 8 = .ok (.invokestatic 156, 3) := by decide +kernel
theorem dX11_take_11 : decode cX11_take 11 = .ok (.ifCond .eq 13, 3) := by decide +kernel
theorem dX11_take_14 : decode cX11_take 14 = .ok (.aload_n 0, 1) := by decide +kernel
theorem dX11_take_15 : decode cX11_take 15 = .ok (.getfield 115, 3) := by decide +kernel
theorem dX11_take_18 : decode cX11_take 18 = .ok (.iload_n 1, 1) := by decide +kernel
theorem dX11_take_19 : decode cX11_take 19 = .ok (.iaload, 1) := by decide +kernel
theorem dX11_take_20 : decode cX11_take 20 = .ok (.iconst 1, 1) := by decide +kernel
theorem dX11_take_21 : decode cX11_take 21 = .ok (.if_icmp .eq 5, 3) := by decide +kernel
theorem dX11_take_24 : decode cX11_take 24 = .ok (.iconst 0, 1) := by decide +kernel
theorem dX11_take_25 : decode cX11_take 25 = .ok (.ireturn, 1) := by decide +kernel
theorem dX11_take_26 : decode cX11_take 26 = .ok (.aload_n 0, 1) := by decide +kernel
theorem dX11_take_27 : decode cX11_take 27 = .ok (.iload_n 1, 1) := by decide +kernel
theorem dX11_take_28 : decode cX11_take 28 = .ok (.invokevirtual 209, 3) := by decide +kernel
theorem dX11_take_31 : decode cX11_take 31 = .ok (.iconst 1, 1) := by decide +kernel
theorem dX11_take_32 : decode cX11_take 32 = .ok (.ireturn, 1) := by decide +kernel
theorem dX11_allow_0 : decode cX11_allow 0 = .ok (.iload_n 1, 1) := by decide +kernel
theorem dX11_allow_1 : decode cX11_allow 1 = .ok (.iconst 0, 1) := by decide +kernel
theorem dX11_allow_2 : decode cX11_allow 2 = .ok (.aload_n 0, 1) := by decide +kernel
theorem dX11_allow_3 : decode cX11_allow 3 = .ok (.getfield 203, 3) := by decide +kernel
theorem dX11_allow_6 : decode cX11_allow 6 = .ok (.iconst 1, 1) := by decide +kernel
theorem dX11_allow_7 : decode cX11_allow 7 = .ok (.isub, 1) := by decide +kernel
theorem dX11_allow_8 : decode cX11_allow 8 = .ok (.invokestatic 156, 3) := by decide +kernel
theorem dX11_allow_11 : decode cX11_allow 11 = .ok (.ifCond .eq 12, 3) := by decide +kernel
theorem dX11_allow_14 : decode cX11_allow 14 = .ok (.aload_n 0, 1) := by decide +kernel
theorem dX11_allow_15 : decode cX11_allow 15 = .ok (.getfield 109, 3) := by decide +kernel
theorem dX11_allow_18 : decode cX11_allow 18 = .ok (.iload_n 1, 1) := by decide +kernel
theorem dX11_allow_19 : decode cX11_allow 19 = .ok (.iaload, 1) := by decide +kernel
theorem dX11_allow_20 : decode cX11_allow 20 = .ok (.ifCond .eq 5, 3) := by decide +kernel
theorem dX11_allow_23 : decode cX11_allow 23 = .ok (.iconst 0, 1) := by decide +kernel
theorem dX11_allow_24 : decode cX11_allow 24 = .ok (.ireturn, 1) := by decide +kernel
theorem dX11_allow_25 : decode cX11_allow 25 = .ok (.aload_n 0, 1) := by decide +kernel
theorem dX11_allow_26 : decode cX11_allow 26 = .ok (.getfield 112, 3) := by decide +kernel
theorem dX11_allow_29 : decode cX11_allow 29 = .ok (.iload_n 1, 1) := by decide +kernel
theorem dX11_allow_30 : decode cX11_allow 30 = .ok (.iconst 1, 1) := by decide +kernel
theorem dX11_allow_31 : decode cX11_allow 31 = .ok (.bastore, 1) := by decide +kernel
theorem dX11_allow_32 : decode cX11_allow 32 = .ok (.iconst 1, 1) := by decide +kernel
theorem dX11_allow_33 : decode cX11_allow 33 = .ok (.ireturn, 1) := by decide +kernel
theorem dX11_pieceOf_0 : decode cX11_pieceOf 0 = .ok (.iload_n 1, 1) := by decide +kernel
theorem dX11_pieceOf_1 : decode cX11_pieceOf 1 = .ok (.iconst 0, 1) := by decide +kernel
theorem dX11_pieceOf_2 : decode cX11_pieceOf 2 = .ok (.aload_n 0, 1) := by decide +kernel
theorem dX11_pieceOf_3 : decode cX11_pieceOf 3 = .ok (.getfield 203, 3) := by decide +kernel
theorem dX11_pieceOf_6 : decode cX11_pieceOf 6 = .ok (.iconst 1, 1) := by decide +kernel
theorem dX11_pieceOf_7 : decode cX11_pieceOf 7 = .ok (.isub, 1) := by decide +kernel
theorem dX11_pieceOf_8 : decode cX11_pieceOf 8 = .ok (.invokestatic 156, 3) := by decide +kernel
theorem dX11_pieceOf_11 : decode cX11_pieceOf 11 = .ok (.ifCond .ne 5, 3) := by decide +kernel
theorem dX11_pieceOf_14 : decode cX11_pieceOf 14 = .ok (.iconst (-1), 1) := by decide +kernel
theorem dX11_pieceOf_15 : decode cX11_pieceOf 15 = .ok (.ireturn, 1) := by decide +kernel
theorem dX11_pieceOf_16 : decode cX11_pieceOf 16 = .ok (.iload_n 2, 1) := by decide +kernel
theorem dX11_pieceOf_17 : decode cX11_pieceOf 17 = .ok (.tableswitch 128 0 8 #[51, 58, 65, 72, 79, 94, 101, 108, 114], 51) := by decide +kernel
theorem dX11_pieceOf_68 : decode cX11_pieceOf 68 = .ok (.aload_n 0, 1) := by decide +kernel
theorem dX11_pieceOf_69 : decode cX11_pieceOf 69 = .ok (.getfield 100, 3) := by decide +kernel
theorem dX11_pieceOf_72 : decode cX11_pieceOf 72 = .ok (.iload_n 1, 1) := by decide +kernel
theorem dX11_pieceOf_73 : decode cX11_pieceOf 73 = .ok (.iaload, 1) := by decide +kernel
theorem dX11_pieceOf_74 : decode cX11_pieceOf 74 = .ok (.ireturn, 1) := by decide +kernel
theorem dX11_pieceOf_75 : decode cX11_pieceOf 75 = .ok (.aload_n 0, 1) := by decide +kernel
theorem dX11_pieceOf_76 : decode cX11_pieceOf 76 = .ok (.getfield 103, 3) := by decide +kernel
theorem dX11_pieceOf_79 : decode cX11_pieceOf 79 = .ok (.iload_n 1, 1) := by decide +kernel
theorem dX11_pieceOf_80 : decode cX11_pieceOf 80 = .ok (.iaload, 1) := by decide +kernel
theorem dX11_pieceOf_81 : decode cX11_pieceOf 81 = .ok (.ireturn, 1) := by decide +kernel
theorem dX11_pieceOf_82 : decode cX11_pieceOf 82 = .ok (.aload_n 0, 1) := by decide +kernel
theorem dX11_pieceOf_83 : decode cX11_pieceOf 83 = .ok (.getfield 106, 3) := by decide +kernel
theorem dX11_pieceOf_86 : decode cX11_pieceOf 86 = .ok (.iload_n 1, 1) := by decide +kernel
theorem dX11_pieceOf_87 : decode cX11_pieceOf 87 = .ok (.iaload, 1) := by decide +kernel
theorem dX11_pieceOf_88 : decode cX11_pieceOf 88 = .ok (.ireturn, 1) := by decide +kernel
theorem dX11_pieceOf_89 : decode cX11_pieceOf 89 = .ok (.aload_n 0, 1) := by decide +kernel
theorem dX11_pieceOf_90 : decode cX11_pieceOf 90 = .ok (.getfield 109, 3) := by decide +kernel
theorem dX11_pieceOf_93 : decode cX11_pieceOf 93 = .ok (.iload_n 1, 1) := by decide +kernel
theorem dX11_pieceOf_94 : decode cX11_pieceOf 94 = .ok (.iaload, 1) := by decide +kernel
theorem dX11_pieceOf_95 : decode cX11_pieceOf 95 = .ok (.ireturn, 1) := by decide +kernel
theorem dX11_pieceOf_96 : decode cX11_pieceOf 96 = .ok (.aload_n 0, 1) := by decide +kernel
theorem dX11_pieceOf_97 : decode cX11_pieceOf 97 = .ok (.getfield 112, 3) := by decide +kernel
theorem dX11_pieceOf_100 : decode cX11_pieceOf 100 = .ok (.iload_n 1, 1) := by decide +kernel
theorem dX11_pieceOf_101 : decode cX11_pieceOf 101 = .ok (.baload, 1) := by decide +kernel
theorem dX11_pieceOf_102 : decode cX11_pieceOf 102 = .ok (.ifCond .eq 7, 3) := by decide +kernel
theorem dX11_pieceOf_105 : decode cX11_pieceOf 105 = .ok (.iconst 1, 1) := by decide +kernel
theorem dX11_pieceOf_106 : decode cX11_pieceOf 106 = .ok (.goto 4, 3) := by decide +kernel
theorem dX11_pieceOf_109 : decode cX11_pieceOf 109 = .ok (.iconst 0, 1) := by decide +kernel
theorem dX11_pieceOf_110 : decode cX11_pieceOf 110 = .ok (.ireturn, 1) := by decide +kernel
theorem dX11_pieceOf_111 : decode cX11_pieceOf 111 = .ok (.aload_n 0, 1) := by decide +kernel
theorem dX11_pieceOf_112 : decode cX11_pieceOf 112 = .ok (.getfield 115, 3) := by decide +kernel
theorem dX11_pieceOf_115 : decode cX11_pieceOf 115 = .ok (.iload_n 1, 1) := by decide +kernel
theorem dX11_pieceOf_116 : decode cX11_pieceOf 116 = .ok (.iaload, 1) := by decide +kernel
theorem dX11_pieceOf_117 : decode cX11_pieceOf 117 = .ok (.ireturn, 1) := by decide +kernel
theorem dX11_pieceOf_118 : decode cX11_pieceOf 118 = .ok (.aload_n 0, 1) := by decide +kernel
theorem dX11_pieceOf_119 : decode cX11_pieceOf 119 = .ok (.getfield 118, 3) := by decide +kernel
theorem dX11_pieceOf_122 : decode cX11_pieceOf 122 = .ok (.iload_n 1, 1) := by decide +kernel
theorem dX11_pieceOf_123 : decode cX11_pieceOf 123 = .ok (.iaload, 1) := by decide +kernel
theorem dX11_pieceOf_124 : decode cX11_pieceOf 124 = .ok (.ireturn, 1) := by decide +kernel
theorem dX11_pieceOf_125 : decode cX11_pieceOf 125 = .ok (.aload_n 0, 1) := by decide +kernel
theorem dX11_pieceOf_126 : decode cX11_pieceOf 126 = .ok (.iload_n 1, 1) := by decide +kernel
theorem dX11_pieceOf_127 : decode cX11_pieceOf 127 = .ok (.invokevirtual 213, 3) := by decide +kernel
theorem dX11_pieceOf_130 : decode cX11_pieceOf 130 = .ok (.ireturn, 1) := by decide +kernel
theorem dX11_pieceOf_131 : decode cX11_pieceOf 131 = .ok (.aload_n 0, 1) := by decide +kernel
theorem dX11_pieceOf_132 : decode cX11_pieceOf 132 = .ok (.iload_n 1, 1) := by decide +kernel
theorem dX11_pieceOf_133 : decode cX11_pieceOf 133 = .ok (.invokevirtual 216, 3) := by decide +kernel
theorem dX11_pieceOf_136 : decode cX11_pieceOf 136 = .ok (.ifCond .eq 7, 3) := by decide +kernel
theorem dX11_pieceOf_139 : decode cX11_pieceOf 139 = .ok (.iconst 1, 1) := by decide +kernel
theorem dX11_pieceOf_140 : decode cX11_pieceOf 140 = .ok (.goto 4, 3) := by decide +kernel
theorem dX11_pieceOf_143 : decode cX11_pieceOf 143 = .ok (.iconst 0, 1) := by decide +kernel
theorem dX11_pieceOf_144 : decode cX11_pieceOf 144 = .ok (.ireturn, 1) := by decide +kernel
theorem dX11_pieceOf_145 : decode cX11_pieceOf 145 = .ok (.iconst (-1), 1) := by decide +kernel
theorem dX11_pieceOf_146 : decode cX11_pieceOf 146 = .ok (.ireturn, 1) := by decide +kernel
theorem dX11_at_0 : decode cX11_at 0 = .ok (.iload_n 1, 1) := by decide +kernel
theorem dX11_at_1 : decode cX11_at 1 = .ok (.iconst 0, 1) := by decide +kernel
theorem dX11_at_2 : decode cX11_at 2 = .ok (.iconst 5, 1) := by decide +kernel
theorem dX11_at_3 : decode cX11_at 3 = .ok (.invokestatic 156, 3) := by decide +kernel
theorem dX11_at_6 : decode cX11_at 6 = .ok (.ifCond .eq 27, 3) := by decide +kernel
theorem dX11_at_9 : decode cX11_at 9 = .ok (.iload_n 2, 1) := by decide +kernel
theorem dX11_at_10 : decode cX11_at 10 = .ok (.iconst 0, 1) := by decide +kernel
theorem dX11_at_11 : decode cX11_at 11 = .ok (.bipush 23, 2) := by decide +kernel
theorem dX11_at_13 : decode cX11_at 13 = .ok (.invokestatic 156, 3) := by decide +kernel
theorem dX11_at_16 : decode cX11_at 16 = .ok (.ifCond .eq 17, 3) := by decide +kernel
theorem dX11_at_19 : decode cX11_at 19 = .ok (.aload_n 0, 1) := by decide +kernel
theorem dX11_at_20 : decode cX11_at 20 = .ok (.getfield 121, 3) := by decide +kernel
theorem dX11_at_23 : decode cX11_at 23 = .ok (.bipush 24, 2) := by decide +kernel
theorem dX11_at_25 : decode cX11_at 25 = .ok (.iload_n 1, 1) := by decide +kernel
theorem dX11_at_26 : decode cX11_at 26 = .ok (.imul, 1) := by decide +kernel
theorem dX11_at_27 : decode cX11_at 27 = .ok (.iload_n 2, 1) := by decide +kernel
theorem dX11_at_28 : decode cX11_at 28 = .ok (.iadd, 1) := by decide +kernel
theorem dX11_at_29 : decode cX11_at 29 = .ok (.iaload, 1) := by decide +kernel
theorem dX11_at_30 : decode cX11_at 30 = .ok (.goto 4, 3) := by decide +kernel
theorem dX11_at_33 : decode cX11_at 33 = .ok (.iconst (-1), 1) := by decide +kernel
theorem dX11_at_34 : decode cX11_at 34 = .ok (.ireturn, 1) := by decide +kernel
theorem dX11_list_0 : decode cX11_list 0 = .ok (.aload_n 0, 1) := by decide +kernel
theorem dX11_list_1 : decode cX11_list 1 = .ok (.iconst 0, 1) := by decide +kernel
theorem dX11_list_2 : decode cX11_list 2 = .ok (.putfield 219, 3) := by decide +kernel
theorem dX11_list_5 : decode cX11_list 5 = .ok (.iconst 0, 1) := by decide +kernel
theorem dX11_list_6 : decode cX11_list 6 = .ok (.istore_n 2, 1) := by decide +kernel
theorem dX11_list_7 : decode cX11_list 7 = .ok (.iload_n 2, 1) := by decide +kernel
theorem dX11_list_8 : decode cX11_list 8 = .ok (.sipush 144, 3) := by decide +kernel
theorem dX11_list_11 : decode cX11_list 11 = .ok (.if_icmp .ge 73, 3) := by decide +kernel
theorem dX11_list_14 : decode cX11_list 14 = .ok (.aload_n 0, 1) := by decide +kernel
theorem dX11_list_15 : decode cX11_list 15 = .ok (.getfield 121, 3) := by decide +kernel
theorem dX11_list_18 : decode cX11_list 18 = .ok (.iload_n 2, 1) := by decide +kernel
theorem dX11_list_19 : decode cX11_list 19 = .ok (.iaload, 1) := by decide +kernel
theorem dX11_list_20 : decode cX11_list 20 = .ok (.istore_n 3, 1) := by decide +kernel
theorem dX11_list_21 : decode cX11_list 21 = .ok (.iload_n 3, 1) := by decide +kernel
theorem dX11_list_22 : decode cX11_list 22 = .ok (.ifCond .lt 56, 3) := by decide +kernel
theorem dX11_list_25 : decode cX11_list 25 = .ok (.aload_n 0, 1) := by decide +kernel
theorem dX11_list_26 : decode cX11_list 26 = .ok (.iload_n 3, 1) := by decide +kernel
theorem dX11_list_27 : decode cX11_list 27 = .ok (.invokevirtual 216, 3) := by decide +kernel
theorem dX11_list_30 : decode cX11_list 30 = .ok (.ifCond .eq 48, 3) := by decide +kernel
theorem dX11_list_33 : decode cX11_list 33 = .ok (.iload_n 1, 1) := by decide +kernel
theorem dX11_list_34 : decode cX11_list 34 = .ok (.aload_n 0, 1) := by decide +kernel
theorem dX11_list_35 : decode cX11_list 35 = .ok (.iload_n 3, 1) := by decide +kernel
theorem dX11_list_36 : decode cX11_list 36 = .ok (.invokevirtual 213, 3) := by decide +kernel
theorem dX11_list_39 : decode cX11_list 39 = .ok (.ishr, 1) := by decide +kernel
theorem dX11_list_40 : decode cX11_list 40 = .ok (.iconst 1, 1) := by decide +kernel
theorem dX11_list_41 : decode cX11_list 41 = .ok (.iand, 1) := by decide +kernel
theorem dX11_list_42 : decode cX11_list 42 = .ok (.ifCond .ne 6, 3) := by decide +kernel
theorem dX11_list_45 : decode cX11_list 45 = .ok (.goto 33, 3) := by decide +kernel
theorem dX11_list_48 : decode cX11_list 48 = .ok (.aload_n 0, 1) := by decide +kernel
theorem dX11_list_49 : decode cX11_list 49 = .ok (.getfield 127, 3) := by decide +kernel
theorem dX11_list_52 : decode cX11_list 52 = .ok (.aload_n 0, 1) := by decide +kernel
theorem dX11_list_53 : decode cX11_list 53 = .ok (.getfield 219, 3) := by decide +kernel
theorem dX11_list_56 : decode cX11_list 56 = .ok (.iload_n 3, 1) := by decide +kernel
theorem dX11_list_57 : decode cX11_list 57 = .ok (.iastore, 1) := by decide +kernel
theorem dX11_list_58 : decode cX11_list 58 = .ok (.aload_n 0, 1) := by decide +kernel
theorem dX11_list_59 : decode cX11_list 59 = .ok (.getfield 130, 3) := by decide +kernel
theorem dX11_list_62 : decode cX11_list 62 = .ok (.aload_n 0, 1) := by decide +kernel
theorem dX11_list_63 : decode cX11_list 63 = .ok (.getfield 219, 3) := by decide +kernel
theorem dX11_list_66 : decode cX11_list 66 = .ok (.iconst 0, 1) := by decide +kernel
theorem dX11_list_67 : decode cX11_list 67 = .ok (.bastore, 1) := by decide +kernel
theorem dX11_list_68 : decode cX11_list 68 = .ok (.aload_n 0, 1) := by decide +kernel
theorem dX11_list_69 : decode cX11_list 69 = .ok (.dup, 1) := by decide +kernel
theorem dX11_list_70 : decode cX11_list 70 = .ok (.getfield 219, 3) := by decide +kernel
theorem dX11_list_73 : decode cX11_list 73 = .ok (.iconst 1, 1) := by decide +kernel
theorem dX11_list_74 : decode cX11_list 74 = .ok (.iadd, 1) := by decide +kernel
theorem dX11_list_75 : decode cX11_list 75 = .ok (.putfield 219, 3) := by decide +kernel
theorem dX11_list_78 : decode cX11_list 78 = .ok (.iinc 2 1, 3) := by decide +kernel
theorem dX11_list_81 : decode cX11_list 81 = .ok (.goto (-74), 3) := by decide +kernel
theorem dX11_list_84 : decode cX11_list 84 = .ok (.aload_n 0, 1) := by decide +kernel
theorem dX11_list_85 : decode cX11_list 85 = .ok (.aload_n 0, 1) := by decide +kernel
theorem dX11_list_86 : decode cX11_list 86 = .ok (.getfield 219, 3) := by decide +kernel
theorem dX11_list_89 : decode cX11_list 89 = .ok (.bipush 40, 2) := by decide +kernel
theorem dX11_list_91 : decode cX11_list 91 = .ok (.if_icmp .le 8, 3) := by decide +kernel
theorem dX11_list_94 : decode cX11_list 94 = .ok (.bipush 40, 2) := by decide +kernel
theorem dX11_list_96 : decode cX11_list 96 = .ok (.goto 7, 3) := by decide +kernel
theorem dX11_list_99 : decode cX11_list 99 = .ok (.aload_n 0, 1) := by decide +kernel
theorem dX11_list_100 : decode cX11_list 100 = .ok (.getfield 219, 3) := by decide +kernel
theorem dX11_list_103 : decode cX11_list 103 = .ok (.putfield 222, 3) := by decide +kernel
theorem dX11_list_106 : decode cX11_list 106 = .ok (.return_, 1) := by decide +kernel
theorem dX11_gather_0 : decode cX11_gather 0 = .ok (.aload_n 0, 1) := by decide +kernel
theorem dX11_gather_1 : decode cX11_gather 1 = .ok (.iconst 0, 1) := by decide +kernel
theorem dX11_gather_2 : decode cX11_gather 2 = .ok (.putfield 225, 3) := by decide +kernel
theorem dX11_gather_5 : decode cX11_gather 5 = .ok (.iconst 0, 1) := by decide +kernel
theorem dX11_gather_6 : decode cX11_gather 6 = .ok (.istore_n 1, 1) := by decide +kernel
theorem dX11_gather_7 : decode cX11_gather 7 = .ok (.iload_n 1, 1) := by decide +kernel
theorem dX11_gather_8 : decode cX11_gather 8 = .ok (.aload_n 0, 1) := by decide +kernel
theorem dX11_gather_9 : decode cX11_gather 9 = .ok (.getfield 219, 3) := by decide +kernel
theorem dX11_gather_12 : decode cX11_gather 12 = .ok (.if_icmp .ge 50, 3) := by decide +kernel
theorem dX11_gather_15 : decode cX11_gather 15 = .ok (.aload_n 0, 1) := by decide +kernel
theorem dX11_gather_16 : decode cX11_gather 16 = .ok (.getfield 225, 3) := by decide +kernel
theorem dX11_gather_19 : decode cX11_gather 19 = .ok (.bipush 40, 2) := by decide +kernel
theorem dX11_gather_21 : decode cX11_gather 21 = .ok (.if_icmp .ge 41, 3) := by decide +kernel
theorem dX11_gather_24 : decode cX11_gather 24 = .ok (.aload_n 0, 1) := by decide +kernel
theorem dX11_gather_25 : decode cX11_gather 25 = .ok (.getfield 130, 3) := by decide +kernel
theorem dX11_gather_28 : decode cX11_gather 28 = .ok (.iload_n 1, 1) := by decide +kernel
theorem dX11_gather_29 : decode cX11_gather 29 = .ok (.baload, 1) := by decide +kernel
theorem dX11_gather_30 : decode cX11_gather 30 = .ok (.ifCond .eq 6, 3) := by decide +kernel
theorem dX11_gather_33 : decode cX11_gather 33 = .ok (.goto 23, 3) := by decide +kernel
theorem dX11_gather_36 : decode cX11_gather 36 = .ok (.aload_n 0, 1) := by decide +kernel
theorem dX11_gather_37 : decode cX11_gather 37 = .ok (.getfield 140, 3) := by decide +kernel
theorem dX11_gather_40 : decode cX11_gather 40 = .ok (.aload_n 0, 1) := by decide +kernel
theorem dX11_gather_41 : decode cX11_gather 41 = .ok (.getfield 225, 3) := by decide +kernel
theorem dX11_gather_44 : decode cX11_gather 44 = .ok (.iload_n 1, 1) := by decide +kernel
theorem dX11_gather_45 : decode cX11_gather 45 = .ok (.iastore, 1) := by decide +kernel
theorem dX11_gather_46 : decode cX11_gather 46 = .ok (.aload_n 0, 1) := by decide +kernel
theorem dX11_gather_47 : decode cX11_gather 47 = .ok (.dup, 1) := by decide +kernel
theorem dX11_gather_48 : decode cX11_gather 48 = .ok (.getfield 225, 3) := by decide +kernel
theorem dX11_gather_51 : decode cX11_gather 51 = .ok (.iconst 1, 1) := by decide +kernel
theorem dX11_gather_52 : decode cX11_gather 52 = .ok (.iadd, 1) := by decide +kernel
theorem dX11_gather_53 : decode cX11_gather 53 = .ok (.putfield 225, 3) := by decide +kernel
theorem dX11_gather_56 : decode cX11_gather 56 = .ok (.iinc 1 1, 3) := by decide +kernel
theorem dX11_gather_59 : decode cX11_gather 59 = .ok (.goto (-52), 3) := by decide +kernel
theorem dX11_gather_62 : decode cX11_gather 62 = .ok (.return_, 1) := by decide +kernel
theorem dX11_leastSum_0 : decode cX11_leastSum 0 = .ok (.iload_n 1, 1) := by decide +kernel
theorem dX11_leastSum_1 : decode cX11_leastSum 1 = .ok (.iload_n 2, 1) := by decide +kernel
theorem dX11_leastSum_2 : decode cX11_leastSum 2 = .ok (.iadd, 1) := by decide +kernel
theorem dX11_leastSum_3 : decode cX11_leastSum 3 = .ok (.istore_n 3, 1) := by decide +kernel
theorem dX11_leastSum_4 : decode cX11_leastSum 4 = .ok (.aload_n 0, 1) := by decide +kernel
theorem dX11_leastSum_5 : decode cX11_leastSum 5 = .ok (.getfield 225, 3) := by decide +kernel
theorem dX11_leastSum_8 : decode cX11_leastSum 8 = .ok (.istore 4, 2) := by decide +kernel
theorem dX11_leastSum_10 : decode cX11_leastSum 10 = .ok (.iload 4, 2) := by decide +kernel
theorem dX11_leastSum_12 : decode cX11_leastSum 12 = .ok (.ifCond .lt 151, 3) := by decide +kernel
theorem dX11_leastSum_15 : decode cX11_leastSum 15 = .ok (.iload 4, 2) := by decide +kernel
theorem dX11_leastSum_17 : decode cX11_leastSum 17 = .ok (.aload_n 0, 1) := by decide +kernel
theorem dX11_leastSum_18 : decode cX11_leastSum 18 = .ok (.getfield 225, 3) := by decide +kernel
theorem dX11_leastSum_21 : decode cX11_leastSum 21 = .ok (.if_icmp .ge 23, 3) := by decide +kernel
theorem dX11_leastSum_24 : decode cX11_leastSum 24 = .ok (.aload_n 0, 1) := by decide +kernel
theorem dX11_leastSum_25 : decode cX11_leastSum 25 = .ok (.getfield 103, 3) := by decide +kernel
theorem dX11_leastSum_28 : decode cX11_leastSum 28 = .ok (.aload_n 0, 1) := by decide +kernel
theorem dX11_leastSum_29 : decode cX11_leastSum 29 = .ok (.getfield 127, 3) := by decide +kernel
theorem dX11_leastSum_32 : decode cX11_leastSum 32 = .ok (.aload_n 0, 1) := by decide +kernel
theorem dX11_leastSum_33 : decode cX11_leastSum 33 = .ok (.getfield 140, 3) := by decide +kernel
theorem dX11_leastSum_36 : decode cX11_leastSum 36 = .ok (.iload 4, 2) := by decide +kernel
theorem dX11_leastSum_38 : decode cX11_leastSum 38 = .ok (.iaload, 1) := by decide +kernel
theorem dX11_leastSum_39 : decode cX11_leastSum 39 = .ok (.iaload, 1) := by decide +kernel
theorem dX11_leastSum_40 : decode cX11_leastSum 40 = .ok (.iaload, 1) := by decide +kernel
theorem dX11_leastSum_41 : decode cX11_leastSum 41 = .ok (.goto 4, 3) := by decide +kernel
theorem dX11_leastSum_44 : decode cX11_leastSum 44 = .ok (.iconst 0, 1) := by decide +kernel
theorem dX11_leastSum_45 : decode cX11_leastSum 45 = .ok (.istore 5, 2) := by decide +kernel
theorem dX11_leastSum_47 : decode cX11_leastSum 47 = .ok (.iconst 0, 1) := by decide +kernel
theorem dX11_leastSum_48 : decode cX11_leastSum 48 = .ok (.istore 6, 2) := by decide +kernel
theorem dX11_leastSum_50 : decode cX11_leastSum 50 = .ok (.iload 6, 2) := by decide +kernel
theorem dX11_leastSum_52 : decode cX11_leastSum 52 = .ok (.sipush 8500, 3) := by decide +kernel
theorem dX11_leastSum_55 : decode cX11_leastSum 55 = .ok (.if_icmp .ge 102, 3) := by decide +kernel
theorem dX11_leastSum_58 : decode cX11_leastSum 58 = .ok (.iload 4, 2) := by decide +kernel
theorem dX11_leastSum_60 : decode cX11_leastSum 60 = .ok (.aload_n 0, 1) := by decide +kernel
theorem dX11_leastSum_61 : decode cX11_leastSum 61 = .ok (.getfield 225, 3) := by decide +kernel
theorem dX11_leastSum_64 : decode cX11_leastSum 64 = .ok (.if_icmp .ne 16, 3) := by decide +kernel
theorem dX11_leastSum_67 : decode cX11_leastSum 67 = .ok (.iload 6, 2) := by decide +kernel
theorem dX11_leastSum_69 : decode cX11_leastSum 69 = .ok (.ifCond .ne 7, 3) := by decide +kernel
theorem dX11_leastSum_72 : decode cX11_leastSum 72 = .ok (.iconst 1, 1) := by decide +kernel
theorem dX11_leastSum_73 : decode cX11_leastSum 73 = .ok (.goto 60, 3) := by decide +kernel
theorem dX11_leastSum_76 : decode cX11_leastSum 76 = .ok (.iconst 0, 1) := by decide +kernel
theorem dX11_leastSum_77 : decode cX11_leastSum 77 = .ok (.goto 56, 3) := by decide +kernel
theorem dX11_leastSum_80 : decode cX11_leastSum 80 = .ok (.aload_n 0, 1) := by decide +kernel
theorem dX11_leastSum_81 : decode cX11_leastSum 81 = .ok (.getfield 137, 3) := by decide +kernel
theorem dX11_leastSum_84 : decode cX11_leastSum 84 = .ok (.sipush 8500, 3) := by decide +kernel
theorem dX11_leastSum_87 : decode cX11_leastSum 87 = .ok (.iload 4, 2) := by decide +kernel
theorem dX11_leastSum_89 : decode cX11_leastSum 89 = .ok (.iconst 1, 1) := by decide +kernel
theorem dX11_leastSum_90 : decode cX11_leastSum 90 = .ok (.iadd, 1) := by decide +kernel
theorem dX11_leastSum_91 : decode cX11_leastSum 91 = .ok (.imul, 1) := by decide +kernel
theorem dX11_leastSum_92 : decode cX11_leastSum 92 = .ok (.iload 6, 2) := by decide +kernel
theorem dX11_leastSum_94 : decode cX11_leastSum 94 = .ok (.iadd, 1) := by decide +kernel
theorem dX11_leastSum_95 : decode cX11_leastSum 95 = .ok (.baload, 1) := by decide +kernel
theorem dX11_leastSum_96 : decode cX11_leastSum 96 = .ok (.ifCond .ne 32, 3) := by decide +kernel
theorem dX11_leastSum_99 : decode cX11_leastSum 99 = .ok (.iload 6, 2) := by decide +kernel
theorem dX11_leastSum_101 : decode cX11_leastSum 101 = .ok (.iload 5, 2) := by decide +kernel
theorem dX11_leastSum_103 : decode cX11_leastSum 103 = .ok (.if_icmp .lt 29, 3) := by decide +kernel
theorem dX11_leastSum_106 : decode cX11_leastSum 106 = .ok (.aload_n 0, 1) := by decide +kernel
theorem dX11_leastSum_107 : decode cX11_leastSum 107 = .ok (.getfield 137, 3) := by decide +kernel
theorem dX11_leastSum_110 : decode cX11_leastSum 110 = .ok (.sipush 8500, 3) := by decide +kernel
theorem dX11_leastSum_113 : decode cX11_leastSum 113 = .ok (.iload 4, 2) := by decide +kernel
theorem dX11_leastSum_115 : decode cX11_leastSum 115 = .ok (.iconst 1, 1) := by decide +kernel
theorem dX11_leastSum_116 : decode cX11_leastSum 116 = .ok (.iadd, 1) := by decide +kernel
theorem dX11_leastSum_117 : decode cX11_leastSum 117 = .ok (.imul, 1) := by decide +kernel
theorem dX11_leastSum_118 : decode cX11_leastSum 118 = .ok (.iload 6, 2) := by decide +kernel
theorem dX11_leastSum_120 : decode cX11_leastSum 120 = .ok (.iadd, 1) := by decide +kernel
theorem dX11_leastSum_121 : decode cX11_leastSum 121 = .ok (.iload 5, 2) := by decide +kernel
theorem dX11_leastSum_123 : decode cX11_leastSum 123 = .ok (.isub, 1) := by decide +kernel
theorem dX11_leastSum_124 : decode cX11_leastSum 124 = .ok (.baload, 1) := by decide +kernel
theorem dX11_leastSum_125 : decode cX11_leastSum 125 = .ok (.ifCond .eq 7, 3) := by decide +kernel
theorem dX11_leastSum_128 : decode cX11_leastSum 128 = .ok (.iconst 1, 1) := by decide +kernel
theorem dX11_leastSum_129 : decode cX11_leastSum 129 = .ok (.goto 4, 3) := by decide +kernel
theorem dX11_leastSum_132 : decode cX11_leastSum 132 = .ok (.iconst 0, 1) := by decide +kernel
theorem dX11_leastSum_133 : decode cX11_leastSum 133 = .ok (.istore 7, 2) := by decide +kernel
theorem dX11_leastSum_135 : decode cX11_leastSum 135 = .ok (.aload_n 0, 1) := by decide +kernel
theorem dX11_leastSum_136 : decode cX11_leastSum 136 = .ok (.getfield 137, 3) := by decide +kernel
theorem dX11_leastSum_139 : decode cX11_leastSum 139 = .ok (.sipush 8500, 3) := by decide +kernel
theorem dX11_leastSum_142 : decode cX11_leastSum 142 = .ok (.iload 4, 2) := by decide +kernel
theorem dX11_leastSum_144 : decode cX11_leastSum 144 = .ok (.imul, 1) := by decide +kernel
theorem dX11_leastSum_145 : decode cX11_leastSum 145 = .ok (.iload 6, 2) := by decide +kernel
theorem dX11_leastSum_147 : decode cX11_leastSum 147 = .ok (.iadd, 1) := by decide +kernel
theorem dX11_leastSum_148 : decode cX11_leastSum 148 = .ok (.iload 7, 2) := by decide +kernel
theorem dX11_leastSum_150 : decode cX11_leastSum 150 = .ok (.bastore, 1) := by decide +kernel
theorem dX11_leastSum_151 : decode cX11_leastSum 151 = .ok (.iinc 6 1, 3) := by decide +kernel
theorem dX11_leastSum_154 : decode cX11_leastSum 154 = .ok (.goto (-104), 3) := by decide +kernel
theorem dX11_leastSum_157 : decode cX11_leastSum 157 = .ok (.iinc 4 (-1), 3) := by decide +kernel
theorem dX11_leastSum_160 : decode cX11_leastSum 160 = .ok (.goto (-150), 3) := by decide +kernel
theorem dX11_leastSum_163 : decode cX11_leastSum 163 = .ok (.iload_n 1, 1) := by decide +kernel
theorem dX11_leastSum_164 : decode cX11_leastSum 164 = .ok (.istore 4, 2) := by decide +kernel
theorem dX11_leastSum_166 : decode cX11_leastSum 166 = .ok (.iload 4, 2) := by decide +kernel
theorem dX11_leastSum_168 : decode cX11_leastSum 168 = .ok (.iload_n 3, 1) := by decide +kernel
theorem dX11_leastSum_169 : decode cX11_leastSum 169 = .ok (.if_icmp .gt 30, 3) := by decide +kernel
theorem dX11_leastSum_172 : decode cX11_leastSum 172 = .ok (.iload 4, 2) := by decide +kernel
theorem dX11_leastSum_174 : decode cX11_leastSum 174 = .ok (.sipush 8500, 3) := by decide +kernel
theorem dX11_leastSum_177 : decode cX11_leastSum 177 = .ok (.if_icmp .ge 22, 3) := by decide +kernel
theorem dX11_leastSum_180 : decode cX11_leastSum 180 = .ok (.aload_n 0, 1) := by decide +kernel
theorem dX11_leastSum_181 : decode cX11_leastSum 181 = .ok (.getfield 137, 3) := by decide +kernel
theorem dX11_leastSum_184 : decode cX11_leastSum 184 = .ok (.iload 4, 2) := by decide +kernel
theorem dX11_leastSum_186 : decode cX11_leastSum 186 = .ok (.baload, 1) := by decide +kernel
theorem dX11_leastSum_187 : decode cX11_leastSum 187 = .ok (.ifCond .eq 6, 3) := by decide +kernel
theorem dX11_leastSum_190 : decode cX11_leastSum 190 = .ok (.iload 4, 2) := by decide +kernel
theorem dX11_leastSum_192 : decode cX11_leastSum 192 = .ok (.ireturn, 1) := by decide +kernel
theorem dX11_leastSum_193 : decode cX11_leastSum 193 = .ok (.iinc 4 1, 3) := by decide +kernel
theorem dX11_leastSum_196 : decode cX11_leastSum 196 = .ok (.goto (-30), 3) := by decide +kernel
theorem dX11_leastSum_199 : decode cX11_leastSum 199 = .ok (.iload_n 3, 1) := by decide +kernel
theorem dX11_leastSum_200 : decode cX11_leastSum 200 = .ok (.sipush 8500, 3) := by decide +kernel
theorem dX11_leastSum_203 : decode cX11_leastSum 203 = .ok (.if_icmp .lt 18, 3) := by decide +kernel
theorem dX11_leastSum_206 : decode cX11_leastSum 206 = .ok (.aload_n 0, 1) := by decide +kernel
theorem dX11_leastSum_207 : decode cX11_leastSum 207 = .ok (.invokevirtual 228, 3) := by decide +kernel
theorem dX11_leastSum_210 : decode cX11_leastSum 210 = .ok (.ifCond .eq 9, 3) := by decide +kernel
theorem dX11_leastSum_213 : decode cX11_leastSum 213 = .ok (.sipush 8500, 3) := by decide +kernel
theorem dX11_leastSum_216 : decode cX11_leastSum 216 = .ok (.goto 4, 3) := by decide +kernel
theorem dX11_leastSum_219 : decode cX11_leastSum 219 = .ok (.iconst (-1), 1) := by decide +kernel
theorem dX11_leastSum_220 : decode cX11_leastSum 220 = .ok (.ireturn, 1) := by decide +kernel
theorem dX11_leastSum_221 : decode cX11_leastSum 221 = .ok (.iconst (-1), 1) := by decide +kernel
theorem dX11_leastSum_222 : decode cX11_leastSum 222 = .ok (.ireturn, 1) := by decide +kernel
theorem dX11_reaches8500_0 : decode cX11_reaches8500 0 = .ok (.iconst 0, 1) := by decide +kernel
theorem dX11_reaches8500_1 : decode cX11_reaches8500 1 = .ok (.istore_n 1, 1) := by decide +kernel
theorem dX11_reaches8500_2 : decode cX11_reaches8500 2 = .ok (.iload_n 1, 1) := by decide +kernel
theorem dX11_reaches8500_3 : decode cX11_reaches8500 3 = .ok (.aload_n 0, 1) := by decide +kernel
theorem dX11_reaches8500_4 : decode cX11_reaches8500 4 = .ok (.getfield 225, 3) := by decide +kernel
theorem dX11_reaches8500_7 : decode cX11_reaches8500 7 = .ok (.if_icmp .ge 60, 3) := by decide +kernel
theorem dX11_reaches8500_10 : decode cX11_reaches8500 10 = .ok (.aload_n 0, 1) := by decide +kernel
theorem dX11_reaches8500_11 : decode cX11_reaches8500 11 = .ok (.getfield 103, 3) := by decide +kernel
theorem dX11_reaches8500_14 : decode cX11_reaches8500 14 = .ok (.aload_n 0, 1) := by decide +kernel
theorem dX11_reaches8500_15 : decode cX11_reaches8500 15 = .ok (.getfield 127, 3) := by decide +kernel
theorem dX11_reaches8500_18 : decode cX11_reaches8500 18 = .ok (.aload_n 0, 1) := by decide +kernel
theorem dX11_reaches8500_19 : decode cX11_reaches8500 19 = .ok (.getfield 140, 3) := by decide +kernel
theorem dX11_reaches8500_22 : decode cX11_reaches8500 22 = .ok (.iload_n 1, 1) := by decide +kernel
theorem dX11_reaches8500_23 : decode cX11_reaches8500 23 = .ok (.iaload, 1) := by decide +kernel
theorem dX11_reaches8500_24 : decode cX11_reaches8500 24 = .ok (.iaload, 1) := by decide +kernel
theorem dX11_reaches8500_25 : decode cX11_reaches8500 25 = .ok (.iaload, 1) := by decide +kernel
theorem dX11_reaches8500_26 : decode cX11_reaches8500 26 = .ok (.istore_n 2, 1) := by decide +kernel
theorem dX11_reaches8500_27 : decode cX11_reaches8500 27 = .ok (.iload_n 2, 1) := by decide +kernel
theorem dX11_reaches8500_28 : decode cX11_reaches8500 28 = .ok (.sipush 8500, 3) := by decide +kernel
theorem dX11_reaches8500_31 : decode cX11_reaches8500 31 = .ok (.if_icmp .gt 30, 3) := by decide +kernel
theorem dX11_reaches8500_34 : decode cX11_reaches8500 34 = .ok (.iload_n 2, 1) := by decide +kernel
theorem dX11_reaches8500_35 : decode cX11_reaches8500 35 = .ok (.ifCond .le 26, 3) := by decide +kernel
theorem dX11_reaches8500_38 : decode cX11_reaches8500 38 = .ok (.aload_n 0, 1) := by decide +kernel
theorem dX11_reaches8500_39 : decode cX11_reaches8500 39 = .ok (.getfield 137, 3) := by decide +kernel
theorem dX11_reaches8500_42 : decode cX11_reaches8500 42 = .ok (.sipush 8500, 3) := by decide +kernel
theorem dX11_reaches8500_45 : decode cX11_reaches8500 45 = .ok (.iload_n 1, 1) := by decide +kernel
theorem dX11_reaches8500_46 : decode cX11_reaches8500 46 = .ok (.iconst 1, 1) := by decide +kernel
theorem dX11_reaches8500_47 : decode cX11_reaches8500 47 = .ok (.iadd, 1) := by decide +kernel
theorem dX11_reaches8500_48 : decode cX11_reaches8500 48 = .ok (.imul, 1) := by decide +kernel
theorem dX11_reaches8500_49 : decode cX11_reaches8500 49 = .ok (.sipush 8500, 3) := by decide +kernel
theorem dX11_reaches8500_52 : decode cX11_reaches8500 52 = .ok (.iadd, 1) := by decide +kernel
theorem dX11_reaches8500_53 : decode cX11_reaches8500 53 = .ok (.iload_n 2, 1) := by decide +kernel
theorem dX11_reaches8500_54 : decode cX11_reaches8500 54 = .ok (.isub, 1) := by decide +kernel
theorem dX11_reaches8500_55 : decode cX11_reaches8500 55 = .ok (.baload, 1) := by decide +kernel
theorem dX11_reaches8500_56 : decode cX11_reaches8500 56 = .ok (.ifCond .eq 5, 3) := by decide +kernel
theorem dX11_reaches8500_59 : decode cX11_reaches8500 59 = .ok (.iconst 1, 1) := by decide +kernel
theorem dX11_reaches8500_60 : decode cX11_reaches8500 60 = .ok (.ireturn, 1) := by decide +kernel
theorem dX11_reaches8500_61 : decode cX11_reaches8500 61 = .ok (.iinc 1 1, 3) := by decide +kernel
theorem dX11_reaches8500_64 : decode cX11_reaches8500 64 = .ok (.goto (-62), 3) := by decide +kernel
theorem dX11_reaches8500_67 : decode cX11_reaches8500 67 = .ok (.iconst 0, 1) := by decide +kernel
theorem dX11_reaches8500_68 : decode cX11_reaches8500 68 = .ok (.ireturn, 1) := by decide +kernel
theorem dX11_areNumbers_0 : decode cX11_areNumbers 0 = .ok (.iload_n 0, 1) := by decide +kernel
theorem dX11_areNumbers_1 : decode cX11_areNumbers 1 = .ok (.iconst 1, 1) := by decide +kernel
theorem dX11_areNumbers_2 : decode cX11_areNumbers 2 = .ok (.bipush 15, 2) := by decide +kernel
theorem dX11_areNumbers_4 : decode cX11_areNumbers 4 = .ok (.invokestatic 156, 3) := by decide +kernel
theorem dX11_areNumbers_7 : decode cX11_areNumbers 7 = .ok (.ifCond .eq 29, 3) := by decide +kernel
theorem dX11_areNumbers_10 : decode cX11_areNumbers 10 = .ok (.iload_n 1, 1) := by decide +kernel
theorem dX11_areNumbers_11 : decode cX11_areNumbers 11 = .ok (.iconst 1, 1) := by decide +kernel
theorem dX11_areNumbers_12 : decode cX11_areNumbers 12 = .ok (.sipush 8000, 3) := by decide +kernel
theorem dX11_areNumbers_15 : decode cX11_areNumbers 15 = .ok (.invokestatic 156, 3) := by decide +kernel
theorem dX11_areNumbers_18 : decode cX11_areNumbers 18 = .ok (.ifCond .eq 18, 3) := by decide +kernel
theorem dX11_areNumbers_21 : decode cX11_areNumbers 21 = .ok (.iload_n 2, 1) := by decide +kernel
theorem dX11_areNumbers_22 : decode cX11_areNumbers 22 = .ok (.iconst 0, 1) := by decide +kernel
theorem dX11_areNumbers_23 : decode cX11_areNumbers 23 = .ok (.sipush 500, 3) := by decide +kernel
theorem dX11_areNumbers_26 : decode cX11_areNumbers 26 = .ok (.invokestatic 156, 3) := by decide +kernel
theorem dX11_areNumbers_29 : decode cX11_areNumbers 29 = .ok (.ifCond .eq 7, 3) := by decide +kernel
theorem dX11_areNumbers_32 : decode cX11_areNumbers 32 = .ok (.iconst 1, 1) := by decide +kernel
theorem dX11_areNumbers_33 : decode cX11_areNumbers 33 = .ok (.goto 4, 3) := by decide +kernel
theorem dX11_areNumbers_36 : decode cX11_areNumbers 36 = .ok (.iconst 0, 1) := by decide +kernel
theorem dX11_areNumbers_37 : decode cX11_areNumbers 37 = .ok (.ireturn, 1) := by decide +kernel
theorem dX11_pack_0 : decode cX11_pack 0 = .ok (.iload_n 1, 1) := by decide +kernel
theorem dX11_pack_1 : decode cX11_pack 1 = .ok (.iload_n 2, 1) := by decide +kernel
theorem dX11_pack_2 : decode cX11_pack 2 = .ok (.iload_n 3, 1) := by decide +kernel
theorem dX11_pack_3 : decode cX11_pack 3 = .ok (.invokestatic 232, 3) := by decide +kernel
theorem dX11_pack_6 : decode cX11_pack 6 = .ok (.ifCond .eq 13, 3) := by decide +kernel
theorem dX11_pack_9 : decode cX11_pack 9 = .ok (.aload_n 0, 1) := by decide +kernel
theorem dX11_pack_10 : decode cX11_pack 10 = .ok (.getfield 235, 3) := by decide +kernel
theorem dX11_pack_13 : decode cX11_pack 13 = .ok (.sipush 200, 3) := by decide +kernel
theorem dX11_pack_16 : decode cX11_pack 16 = .ok (.if_icmp .ne 5, 3) := by decide +kernel
theorem dX11_pack_19 : decode cX11_pack 19 = .ok (.iconst (-1), 1) := by decide +kernel
theorem dX11_pack_20 : decode cX11_pack 20 = .ok (.ireturn, 1) := by decide +kernel
theorem dX11_pack_21 : decode cX11_pack 21 = .ok (.aload_n 0, 1) := by decide +kernel
theorem dX11_pack_22 : decode cX11_pack 22 = .ok (.iload_n 1, 1) := by decide +kernel
theorem dX11_pack_23 : decode cX11_pack 23 = .ok (.invokevirtual 238, 3) := by decide +kernel
theorem dX11_pack_26 : decode cX11_pack 26 = .ok (.aload_n 0, 1) := by decide +kernel
theorem dX11_pack_27 : decode cX11_pack 27 = .ok (.invokevirtual 241, 3) := by decide +kernel
theorem dX11_pack_30 : decode cX11_pack 30 = .ok (.aload_n 0, 1) := by decide +kernel
theorem dX11_pack_31 : decode cX11_pack 31 = .ok (.iload_n 2, 1) := by decide +kernel
theorem dX11_pack_32 : decode cX11_pack 32 = .ok (.iload_n 3, 1) := by decide +kernel
theorem dX11_pack_33 : decode cX11_pack 33 = .ok (.invokevirtual 244, 3) := by decide +kernel
theorem dX11_pack_36 : decode cX11_pack 36 = .ok (.istore 4, 2) := by decide +kernel
theorem dX11_pack_38 : decode cX11_pack 38 = .ok (.iload 4, 2) := by decide +kernel
theorem dX11_pack_40 : decode cX11_pack 40 = .ok (.ifCond .ge 5, 3) := by decide +kernel
theorem dX11_pack_43 : decode cX11_pack 43 = .ok (.iconst (-1), 1) := by decide +kernel
theorem dX11_pack_44 : decode cX11_pack 44 = .ok (.ireturn, 1) := by decide +kernel
theorem dX11_pack_45 : decode cX11_pack 45 = .ok (.aload_n 0, 1) := by decide +kernel
theorem dX11_pack_46 : decode cX11_pack 46 = .ok (.iload 4, 2) := by decide +kernel
theorem dX11_pack_48 : decode cX11_pack 48 = .ok (.invokevirtual 247, 3) := by decide +kernel
theorem dX11_pack_51 : decode cX11_pack 51 = .ok (.pop, 1) := by decide +kernel
theorem dX11_pack_52 : decode cX11_pack 52 = .ok (.iconst 0, 1) := by decide +kernel
theorem dX11_pack_53 : decode cX11_pack 53 = .ok (.istore 5, 2) := by decide +kernel
theorem dX11_pack_55 : decode cX11_pack 55 = .ok (.iload 5, 2) := by decide +kernel
theorem dX11_pack_57 : decode cX11_pack 57 = .ok (.aload_n 0, 1) := by decide +kernel
theorem dX11_pack_58 : decode cX11_pack 58 = .ok (.getfield 225, 3) := by decide +kernel
theorem dX11_pack_61 : decode cX11_pack 61 = .ok (.if_icmp .ge 66, 3) := by decide +kernel
theorem dX11_pack_64 : decode cX11_pack 64 = .ok (.aload_n 0, 1) := by decide +kernel
theorem dX11_pack_65 : decode cX11_pack 65 = .ok (.getfield 133, 3) := by decide +kernel
theorem dX11_pack_68 : decode cX11_pack 68 = .ok (.aload_n 0, 1) := by decide +kernel
theorem dX11_pack_69 : decode cX11_pack 69 = .ok (.getfield 140, 3) := by decide +kernel
theorem dX11_pack_72 : decode cX11_pack 72 = .ok (.iload 5, 2) := by decide +kernel
theorem dX11_pack_74 : decode cX11_pack 74 = .ok (.iaload, 1) := by decide +kernel
theorem dX11_pack_75 : decode cX11_pack 75 = .ok (.baload, 1) := by decide +kernel
theorem dX11_pack_76 : decode cX11_pack 76 = .ok (.ifCond .ne 6, 3) := by decide +kernel
theorem dX11_pack_79 : decode cX11_pack 79 = .ok (.goto 42, 3) := by decide +kernel
theorem dX11_pack_82 : decode cX11_pack 82 = .ok (.aload_n 0, 1) := by decide +kernel
theorem dX11_pack_83 : decode cX11_pack 83 = .ok (.getfield 127, 3) := by decide +kernel
theorem dX11_pack_86 : decode cX11_pack 86 = .ok (.aload_n 0, 1) := by decide +kernel
theorem dX11_pack_87 : decode cX11_pack 87 = .ok (.getfield 140, 3) := by decide +kernel
theorem dX11_pack_90 : decode cX11_pack 90 = .ok (.iload 5, 2) := by decide +kernel
theorem dX11_pack_92 : decode cX11_pack 92 = .ok (.iaload, 1) := by decide +kernel
theorem dX11_pack_93 : decode cX11_pack 93 = .ok (.iaload, 1) := by decide +kernel
theorem dX11_pack_94 : decode cX11_pack 94 = .ok (.istore 6, 2) := by decide +kernel
theorem dX11_pack_96 : decode cX11_pack 96 = .ok (.aload_n 0, 1) := by decide +kernel
theorem dX11_pack_97 : decode cX11_pack 97 = .ok (.iload 6, 2) := by decide +kernel
theorem dX11_pack_99 : decode cX11_pack 99 = .ok (.invokevirtual 209, 3) := by decide +kernel
theorem dX11_pack_102 : decode cX11_pack 102 = .ok (.aload_n 0, 1) := by decide +kernel
theorem dX11_pack_103 : decode cX11_pack 103 = .ok (.getfield 115, 3) := by decide +kernel
theorem dX11_pack_106 : decode cX11_pack 106 = .ok (.iload 6, 2) := by decide +kernel
theorem dX11_pack_108 : decode cX11_pack 108 = .ok (.iconst 2, 1) := by decide +kernel
theorem dX11_pack_109 : decode cX11_pack 109 = .ok (.iastore, 1) := by decide +kernel
theorem dX11_pack_110 : decode cX11_pack 110 = .ok (.aload_n 0, 1) := by decide +kernel
theorem dX11_pack_111 : decode cX11_pack 111 = .ok (.getfield 118, 3) := by decide +kernel
theorem dX11_pack_114 : decode cX11_pack 114 = .ok (.iload 6, 2) := by decide +kernel
theorem dX11_pack_116 : decode cX11_pack 116 = .ok (.aload_n 0, 1) := by decide +kernel
theorem dX11_pack_117 : decode cX11_pack 117 = .ok (.getfield 235, 3) := by decide +kernel
theorem dX11_pack_120 : decode cX11_pack 120 = .ok (.iastore, 1) := by decide +kernel
theorem dX11_pack_121 : decode cX11_pack 121 = .ok (.iinc 5 1, 3) := by decide +kernel
theorem dX11_pack_124 : decode cX11_pack 124 = .ok (.goto (-69), 3) := by decide +kernel
theorem dX11_pack_127 : decode cX11_pack 127 = .ok (.aload_n 0, 1) := by decide +kernel
theorem dX11_pack_128 : decode cX11_pack 128 = .ok (.getfield 124, 3) := by decide +kernel
theorem dX11_pack_131 : decode cX11_pack 131 = .ok (.aload_n 0, 1) := by decide +kernel
theorem dX11_pack_132 : decode cX11_pack 132 = .ok (.getfield 235, 3) := by decide +kernel
theorem dX11_pack_135 : decode cX11_pack 135 = .ok (.iload_n 2, 1) := by decide +kernel
theorem dX11_pack_136 : decode cX11_pack 136 = .ok (.iastore, 1) := by decide +kernel
theorem dX11_pack_137 : decode cX11_pack 137 = .ok (.aload_n 0, 1) := by decide +kernel
theorem dX11_pack_138 : decode cX11_pack 138 = .ok (.dup, 1) := by decide +kernel
theorem dX11_pack_139 : decode cX11_pack 139 = .ok (.getfield 235, 3) := by decide +kernel
theorem dX11_pack_142 : decode cX11_pack 142 = .ok (.iconst 1, 1) := by decide +kernel
theorem dX11_pack_143 : decode cX11_pack 143 = .ok (.iadd, 1) := by decide +kernel
theorem dX11_pack_144 : decode cX11_pack 144 = .ok (.putfield 235, 3) := by decide +kernel
theorem dX11_pack_147 : decode cX11_pack 147 = .ok (.aload_n 0, 1) := by decide +kernel
theorem dX11_pack_148 : decode cX11_pack 148 = .ok (.getfield 235, 3) := by decide +kernel
theorem dX11_pack_151 : decode cX11_pack 151 = .ok (.iconst 1, 1) := by decide +kernel
theorem dX11_pack_152 : decode cX11_pack 152 = .ok (.isub, 1) := by decide +kernel
theorem dX11_pack_153 : decode cX11_pack 153 = .ok (.ireturn, 1) := by decide +kernel
theorem dX11_full_0 : decode cX11_full 0 = .ok (.iconst 0, 1) := by decide +kernel
theorem dX11_full_1 : decode cX11_full 1 = .ok (.istore_n 3, 1) := by decide +kernel
theorem dX11_full_2 : decode cX11_full 2 = .ok (.iconst 1, 1) := by decide +kernel
theorem dX11_full_3 : decode cX11_full 3 = .ok (.istore 4, 2) := by decide +kernel
theorem dX11_full_5 : decode cX11_full 5 = .ok (.iload 4, 2) := by decide +kernel
theorem dX11_full_7 : decode cX11_full 7 = .ok (.ifCond .eq 94, 3) := by decide +kernel
theorem dX11_full_10 : decode cX11_full 10 = .ok (.aload_n 0, 1) := by decide +kernel
theorem dX11_full_11 : decode cX11_full 11 = .ok (.invokevirtual 241, 3) := by decide +kernel
theorem dX11_full_14 : decode cX11_full 14 = .ok (.aload_n 0, 1) := by decide +kernel
theorem dX11_full_15 : decode cX11_full 15 = .ok (.iload_n 1, 1) := by decide +kernel
theorem dX11_full_16 : decode cX11_full 16 = .ok (.iload_n 2, 1) := by decide +kernel
theorem dX11_full_17 : decode cX11_full 17 = .ok (.invokevirtual 244, 3) := by decide +kernel
theorem dX11_full_20 : decode cX11_full 20 = .ok (.istore 5, 2) := by decide +kernel
theorem dX11_full_22 : decode cX11_full 22 = .ok (.iload 5, 2) := by decide +kernel
theorem dX11_full_24 : decode cX11_full 24 = .ok (.ifCond .lt 7, 3) := by decide +kernel
theorem dX11_full_27 : decode cX11_full 27 = .ok (.iconst 1, 1) := by decide +kernel
theorem dX11_full_28 : decode cX11_full 28 = .ok (.goto 4, 3) := by decide +kernel
theorem dX11_full_31 : decode cX11_full 31 = .ok (.iconst 0, 1) := by decide +kernel
theorem dX11_full_32 : decode cX11_full 32 = .ok (.istore 4, 2) := by decide +kernel
theorem dX11_full_34 : decode cX11_full 34 = .ok (.iload 4, 2) := by decide +kernel
theorem dX11_full_36 : decode cX11_full 36 = .ok (.ifCond .ne 6, 3) := by decide +kernel
theorem dX11_full_39 : decode cX11_full 39 = .ok (.goto (-34), 3) := by decide +kernel
theorem dX11_full_42 : decode cX11_full 42 = .ok (.aload_n 0, 1) := by decide +kernel
theorem dX11_full_43 : decode cX11_full 43 = .ok (.iload 5, 2) := by decide +kernel
theorem dX11_full_45 : decode cX11_full 45 = .ok (.invokevirtual 247, 3) := by decide +kernel
theorem dX11_full_48 : decode cX11_full 48 = .ok (.pop, 1) := by decide +kernel
theorem dX11_full_49 : decode cX11_full 49 = .ok (.iconst 0, 1) := by decide +kernel
theorem dX11_full_50 : decode cX11_full 50 = .ok (.istore 6, 2) := by decide +kernel
theorem dX11_full_52 : decode cX11_full 52 = .ok (.iload 6, 2) := by decide +kernel
theorem dX11_full_54 : decode cX11_full 54 = .ok (.aload_n 0, 1) := by decide +kernel
theorem dX11_full_55 : decode cX11_full 55 = .ok (.getfield 225, 3) := by decide +kernel
theorem dX11_full_58 : decode cX11_full 58 = .ok (.if_icmp .ge 37, 3) := by decide +kernel
theorem dX11_full_61 : decode cX11_full 61 = .ok (.aload_n 0, 1) := by decide +kernel
theorem dX11_full_62 : decode cX11_full 62 = .ok (.getfield 133, 3) := by decide +kernel
theorem dX11_full_65 : decode cX11_full 65 = .ok (.aload_n 0, 1) := by decide +kernel
theorem dX11_full_66 : decode cX11_full 66 = .ok (.getfield 140, 3) := by decide +kernel
theorem dX11_full_69 : decode cX11_full 69 = .ok (.iload 6, 2) := by decide +kernel
theorem dX11_full_71 : decode cX11_full 71 = .ok (.iaload, 1) := by decide +kernel
theorem dX11_full_72 : decode cX11_full 72 = .ok (.baload, 1) := by decide +kernel
theorem dX11_full_73 : decode cX11_full 73 = .ok (.ifCond .eq 16, 3) := by decide +kernel
theorem dX11_full_76 : decode cX11_full 76 = .ok (.aload_n 0, 1) := by decide +kernel
theorem dX11_full_77 : decode cX11_full 77 = .ok (.getfield 130, 3) := by decide +kernel
theorem dX11_full_80 : decode cX11_full 80 = .ok (.aload_n 0, 1) := by decide +kernel
theorem dX11_full_81 : decode cX11_full 81 = .ok (.getfield 140, 3) := by decide +kernel
theorem dX11_full_84 : decode cX11_full 84 = .ok (.iload 6, 2) := by decide +kernel
theorem dX11_full_86 : decode cX11_full 86 = .ok (.iaload, 1) := by decide +kernel
theorem dX11_full_87 : decode cX11_full 87 = .ok (.iconst 1, 1) := by decide +kernel
theorem dX11_full_88 : decode cX11_full 88 = .ok (.bastore, 1) := by decide +kernel
theorem dX11_full_89 : decode cX11_full 89 = .ok (.iinc 6 1, 3) := by decide +kernel
theorem dX11_full_92 : decode cX11_full 92 = .ok (.goto (-40), 3) := by decide +kernel
theorem dX11_full_95 : decode cX11_full 95 = .ok (.iinc 3 1, 3) := by decide +kernel
theorem dX11_full_98 : decode cX11_full 98 = .ok (.goto (-93), 3) := by decide +kernel
theorem dX11_full_101 : decode cX11_full 101 = .ok (.iload_n 3, 1) := by decide +kernel
theorem dX11_full_102 : decode cX11_full 102 = .ok (.ireturn, 1) := by decide +kernel
theorem dX11_most_0 : decode cX11_most 0 = .ok (.aload_n 0, 1) := by decide +kernel
theorem dX11_most_1 : decode cX11_most 1 = .ok (.getfield 222, 3) := by decide +kernel
theorem dX11_most_4 : decode cX11_most 4 = .ok (.bipush 14, 2) := by decide +kernel
theorem dX11_most_6 : decode cX11_most 6 = .ok (.if_icmp .ge 10, 3) := by decide +kernel
theorem dX11_most_9 : decode cX11_most 9 = .ok (.aload_n 0, 1) := by decide +kernel
theorem dX11_most_10 : decode cX11_most 10 = .ok (.getfield 222, 3) := by decide +kernel
theorem dX11_most_13 : decode cX11_most 13 = .ok (.goto 5, 3) := by decide +kernel
theorem dX11_most_16 : decode cX11_most 16 = .ok (.bipush 14, 2) := by decide +kernel
theorem dX11_most_18 : decode cX11_most 18 = .ok (.istore_n 3, 1) := by decide +kernel
theorem dX11_most_19 : decode cX11_most 19 = .ok (.iconst 0, 1) := by decide +kernel
theorem dX11_most_20 : decode cX11_most 20 = .ok (.istore 4, 2) := by decide +kernel
theorem dX11_most_22 : decode cX11_most 22 = .ok (.iload 4, 2) := by decide +kernel
theorem dX11_most_24 : decode cX11_most 24 = .ok (.iconst 1, 1) := by decide +kernel
theorem dX11_most_25 : decode cX11_most 25 = .ok (.iload_n 3, 1) := by decide +kernel
theorem dX11_most_26 : decode cX11_most 26 = .ok (.ishl, 1) := by decide +kernel
theorem dX11_most_27 : decode cX11_most 27 = .ok (.if_icmp .ge 217, 3) := by decide +kernel
theorem dX11_most_30 : decode cX11_most 30 = .ok (.iconst 0, 1) := by decide +kernel
theorem dX11_most_31 : decode cX11_most 31 = .ok (.istore 5, 2) := by decide +kernel
theorem dX11_most_33 : decode cX11_most 33 = .ok (.iload 4, 2) := by decide +kernel
theorem dX11_most_35 : decode cX11_most 35 = .ok (.ifCond .le 19, 3) := by decide +kernel
theorem dX11_most_38 : decode cX11_most 38 = .ok (.iload 4, 2) := by decide +kernel
theorem dX11_most_40 : decode cX11_most 40 = .ok (.iload 5, 2) := by decide +kernel
theorem dX11_most_42 : decode cX11_most 42 = .ok (.ishr, 1) := by decide +kernel
theorem dX11_most_43 : decode cX11_most 43 = .ok (.iconst 1, 1) := by decide +kernel
theorem dX11_most_44 : decode cX11_most 44 = .ok (.iand, 1) := by decide +kernel
theorem dX11_most_45 : decode cX11_most 45 = .ok (.ifCond .ne 9, 3) := by decide +kernel
theorem dX11_most_48 : decode cX11_most 48 = .ok (.iinc 5 1, 3) := by decide +kernel
theorem dX11_most_51 : decode cX11_most 51 = .ok (.goto (-18), 3) := by decide +kernel
theorem dX11_most_54 : decode cX11_most 54 = .ok (.aload_n 0, 1) := by decide +kernel
theorem dX11_most_55 : decode cX11_most 55 = .ok (.getfield 143, 3) := by decide +kernel
theorem dX11_most_58 : decode cX11_most 58 = .ok (.iload 4, 2) := by decide +kernel
theorem dX11_most_60 : decode cX11_most 60 = .ok (.iload 4, 2) := by decide +kernel
theorem dX11_most_62 : decode cX11_most 62 = .ok (.ifCond .ne 7, 3) := by decide +kernel
theorem dX11_most_65 : decode cX11_most 65 = .ok (.iconst 0, 1) := by decide +kernel
theorem dX11_most_66 : decode cX11_most 66 = .ok (.goto 28, 3) := by decide +kernel
theorem dX11_most_69 : decode cX11_most 69 = .ok (.aload_n 0, 1) := by decide +kernel
theorem dX11_most_70 : decode cX11_most 70 = .ok (.getfield 143, 3) := by decide +kernel
theorem dX11_most_73 : decode cX11_most 73 = .ok (.iload 4, 2) := by decide +kernel
theorem dX11_most_75 : decode cX11_most 75 = .ok (.iload 4, 2) := by decide +kernel
theorem dX11_most_77 : decode cX11_most 77 = .ok (.iconst 1, 1) := by decide +kernel
theorem dX11_most_78 : decode cX11_most 78 = .ok (.isub, 1) := by decide +kernel
theorem dX11_most_79 : decode cX11_most 79 = .ok (.iand, 1) := by decide +kernel
theorem dX11_most_80 : decode cX11_most 80 = .ok (.iaload, 1) := by decide +kernel
theorem dX11_most_81 : decode cX11_most 81 = .ok (.aload_n 0, 1) := by decide +kernel
theorem dX11_most_82 : decode cX11_most 82 = .ok (.getfield 103, 3) := by decide +kernel
theorem dX11_most_85 : decode cX11_most 85 = .ok (.aload_n 0, 1) := by decide +kernel
theorem dX11_most_86 : decode cX11_most 86 = .ok (.getfield 127, 3) := by decide +kernel
theorem dX11_most_89 : decode cX11_most 89 = .ok (.iload 5, 2) := by decide +kernel
theorem dX11_most_91 : decode cX11_most 91 = .ok (.iaload, 1) := by decide +kernel
theorem dX11_most_92 : decode cX11_most 92 = .ok (.iaload, 1) := by decide +kernel
theorem dX11_most_93 : decode cX11_most 93 = .ok (.iadd, 1) := by decide +kernel
theorem dX11_most_94 : decode cX11_most 94 = .ok (.iastore, 1) := by decide +kernel
theorem dX11_most_95 : decode cX11_most 95 = .ok (.aload_n 0, 1) := by decide +kernel
theorem dX11_most_96 : decode cX11_most 96 = .ok (.getfield 146, 3) := by decide +kernel
theorem dX11_most_99 : decode cX11_most 99 = .ok (.iload 4, 2) := by decide +kernel
theorem dX11_most_101 : decode cX11_most 101 = .ok (.iload 4, 2) := by decide +kernel
theorem dX11_most_103 : decode cX11_most 103 = .ok (.ifCond .ne 7, 3) := by decide +kernel
theorem dX11_most_106 : decode cX11_most 106 = .ok (.iconst 0, 1) := by decide +kernel
theorem dX11_most_107 : decode cX11_most 107 = .ok (.goto 15, 3) := by decide +kernel
theorem dX11_most_110 : decode cX11_most 110 = .ok (.aload_n 0, 1) := by decide +kernel
theorem dX11_most_111 : decode cX11_most 111 = .ok (.getfield 146, 3) := by decide +kernel
theorem dX11_most_114 : decode cX11_most 114 = .ok (.iload 4, 2) := by decide +kernel
theorem dX11_most_116 : decode cX11_most 116 = .ok (.iload 4, 2) := by decide +kernel
theorem dX11_most_118 : decode cX11_most 118 = .ok (.iconst 1, 1) := by decide +kernel
theorem dX11_most_119 : decode cX11_most 119 = .ok (.isub, 1) := by decide +kernel
theorem dX11_most_120 : decode cX11_most 120 = .ok (.iand, 1) := by decide +kernel
theorem dX11_most_121 : decode cX11_most 121 = .ok (.baload, 1) := by decide +kernel
theorem dX11_most_122 : decode cX11_most 122 = .ok (.bastore, 1) := by decide +kernel
theorem dX11_most_123 : decode cX11_most 123 = .ok (.iload 4, 2) := by decide +kernel
theorem dX11_most_125 : decode cX11_most 125 = .ok (.ifCond .ne 6, 3) := by decide +kernel
theorem dX11_most_128 : decode cX11_most 128 = .ok (.goto 110, 3) := by decide +kernel
theorem dX11_most_131 : decode cX11_most 131 = .ok (.iload 4, 2) := by decide +kernel
theorem dX11_most_133 : decode cX11_most 133 = .ok (.iload 4, 2) := by decide +kernel
theorem dX11_most_135 : decode cX11_most 135 = .ok (.iconst 1, 1) := by decide +kernel
theorem dX11_most_136 : decode cX11_most 136 = .ok (.isub, 1) := by decide +kernel
theorem dX11_most_137 : decode cX11_most 137 = .ok (.iand, 1) := by decide +kernel
theorem dX11_most_138 : decode cX11_most 138 = .ok (.istore 6, 2) := by decide +kernel
theorem dX11_most_140 : decode cX11_most 140 = .ok (.iload 6, 2) := by decide +kernel
theorem dX11_most_142 : decode cX11_most 142 = .ok (.istore 7, 2) := by decide +kernel
theorem dX11_most_144 : decode cX11_most 144 = .ok (.iload 7, 2) := by decide +kernel
theorem dX11_most_146 : decode cX11_most 146 = .ok (.ifCond .lt 92, 3) := by decide +kernel
theorem dX11_most_149 : decode cX11_most 149 = .ok (.iload 7, 2) := by decide +kernel
theorem dX11_most_151 : decode cX11_most 151 = .ok (.iconst 1, 1) := by decide +kernel
theorem dX11_most_152 : decode cX11_most 152 = .ok (.iload 5, 2) := by decide +kernel
theorem dX11_most_154 : decode cX11_most 154 = .ok (.ishl, 1) := by decide +kernel
theorem dX11_most_155 : decode cX11_most 155 = .ok (.ior, 1) := by decide +kernel
theorem dX11_most_156 : decode cX11_most 156 = .ok (.istore 8, 2) := by decide +kernel
theorem dX11_most_158 : decode cX11_most 158 = .ok (.aload_n 0, 1) := by decide +kernel
theorem dX11_most_159 : decode cX11_most 159 = .ok (.getfield 143, 3) := by decide +kernel
theorem dX11_most_162 : decode cX11_most 162 = .ok (.iload 8, 2) := by decide +kernel
theorem dX11_most_164 : decode cX11_most 164 = .ok (.iaload, 1) := by decide +kernel
theorem dX11_most_165 : decode cX11_most 165 = .ok (.iload_n 1, 1) := by decide +kernel
theorem dX11_most_166 : decode cX11_most 166 = .ok (.iload_n 1, 1) := by decide +kernel
theorem dX11_most_167 : decode cX11_most 167 = .ok (.iload_n 2, 1) := by decide +kernel
theorem dX11_most_168 : decode cX11_most 168 = .ok (.iadd, 1) := by decide +kernel
theorem dX11_most_169 : decode cX11_most 169 = .ok (.invokestatic 156, 3) := by decide +kernel
theorem dX11_most_172 : decode cX11_most 172 = .ok (.ifCond .eq 45, 3) := by decide +kernel
theorem dX11_most_175 : decode cX11_most 175 = .ok (.aload_n 0, 1) := by decide +kernel
theorem dX11_most_176 : decode cX11_most 176 = .ok (.getfield 146, 3) := by decide +kernel
theorem dX11_most_179 : decode cX11_most 179 = .ok (.iload 4, 2) := by decide +kernel
theorem dX11_most_181 : decode cX11_most 181 = .ok (.iload 8, 2) := by decide +kernel
theorem dX11_most_183 : decode cX11_most 183 = .ok (.ixor, 1) := by decide +kernel
theorem dX11_most_184 : decode cX11_most 184 = .ok (.baload, 1) := by decide +kernel
theorem dX11_most_185 : decode cX11_most 185 = .ok (.iconst 1, 1) := by decide +kernel
theorem dX11_most_186 : decode cX11_most 186 = .ok (.iadd, 1) := by decide +kernel
theorem dX11_most_187 : decode cX11_most 187 = .ok (.aload_n 0, 1) := by decide +kernel
theorem dX11_most_188 : decode cX11_most 188 = .ok (.getfield 146, 3) := by decide +kernel
theorem dX11_most_191 : decode cX11_most 191 = .ok (.iload 4, 2) := by decide +kernel
theorem dX11_most_193 : decode cX11_most 193 = .ok (.baload, 1) := by decide +kernel
theorem dX11_most_194 : decode cX11_most 194 = .ok (.if_icmp .le 23, 3) := by decide +kernel
theorem dX11_most_197 : decode cX11_most 197 = .ok (.aload_n 0, 1) := by decide +kernel
theorem dX11_most_198 : decode cX11_most 198 = .ok (.getfield 146, 3) := by decide +kernel
theorem dX11_most_201 : decode cX11_most 201 = .ok (.iload 4, 2) := by decide +kernel
theorem dX11_most_203 : decode cX11_most 203 = .ok (.aload_n 0, 1) := by decide +kernel
theorem dX11_most_204 : decode cX11_most 204 = .ok (.getfield 146, 3) := by decide +kernel
theorem dX11_most_207 : decode cX11_most 207 = .ok (.iload 4, 2) := by decide +kernel
theorem dX11_most_209 : decode cX11_most 209 = .ok (.iload 8, 2) := by decide +kernel
theorem dX11_most_211 : decode cX11_most 211 = .ok (.ixor, 1) := by decide +kernel
theorem dX11_most_212 : decode cX11_most 212 = .ok (.baload, 1) := by decide +kernel
theorem dX11_most_213 : decode cX11_most 213 = .ok (.iconst 1, 1) := by decide +kernel
theorem dX11_most_214 : decode cX11_most 214 = .ok (.iadd, 1) := by decide +kernel
theorem dX11_most_215 : decode cX11_most 215 = .ok (.i2b, 1) := by decide +kernel
theorem dX11_most_216 : decode cX11_most 216 = .ok (.bastore, 1) := by decide +kernel
theorem dX11_most_217 : decode cX11_most 217 = .ok (.iload 7, 2) := by decide +kernel
theorem dX11_most_219 : decode cX11_most 219 = .ok (.ifCond .ne 7, 3) := by decide +kernel
theorem dX11_most_222 : decode cX11_most 222 = .ok (.iconst (-1), 1) := by decide +kernel
theorem dX11_most_223 : decode cX11_most 223 = .ok (.goto 10, 3) := by decide +kernel
theorem dX11_most_226 : decode cX11_most 226 = .ok (.iload 7, 2) := by decide +kernel
theorem dX11_most_228 : decode cX11_most 228 = .ok (.iconst 1, 1) := by decide +kernel
theorem dX11_most_229 : decode cX11_most 229 = .ok (.isub, 1) := by decide +kernel
theorem dX11_most_230 : decode cX11_most 230 = .ok (.iload 6, 2) := by decide +kernel
theorem dX11_most_232 : decode cX11_most 232 = .ok (.iand, 1) := by decide +kernel
theorem dX11_most_233 : decode cX11_most 233 = .ok (.istore 7, 2) := by decide +kernel
theorem dX11_most_235 : decode cX11_most 235 = .ok (.goto (-91), 3) := by decide +kernel
theorem dX11_most_238 : decode cX11_most 238 = .ok (.iinc 4 1, 3) := by decide +kernel
theorem dX11_most_241 : decode cX11_most 241 = .ok (.goto (-219), 3) := by decide +kernel
theorem dX11_most_244 : decode cX11_most 244 = .ok (.aload_n 0, 1) := by decide +kernel
theorem dX11_most_245 : decode cX11_most 245 = .ok (.getfield 146, 3) := by decide +kernel
theorem dX11_most_248 : decode cX11_most 248 = .ok (.iconst 1, 1) := by decide +kernel
theorem dX11_most_249 : decode cX11_most 249 = .ok (.iload_n 3, 1) := by decide +kernel
theorem dX11_most_250 : decode cX11_most 250 = .ok (.ishl, 1) := by decide +kernel
theorem dX11_most_251 : decode cX11_most 251 = .ok (.iconst 1, 1) := by decide +kernel
theorem dX11_most_252 : decode cX11_most 252 = .ok (.isub, 1) := by decide +kernel
theorem dX11_most_253 : decode cX11_most 253 = .ok (.baload, 1) := by decide +kernel
theorem dX11_most_254 : decode cX11_most 254 = .ok (.ireturn, 1) := by decide +kernel
theorem dX11_would_0 : decode cX11_would 0 = .ok (.iload_n 1, 1) := by decide +kernel
theorem dX11_would_1 : decode cX11_would 1 = .ok (.iload_n 2, 1) := by decide +kernel
theorem dX11_would_2 : decode cX11_would 2 = .ok (.iload_n 3, 1) := by decide +kernel
theorem dX11_would_3 : decode cX11_would 3 = .ok (.invokestatic 232, 3) := by decide +kernel
theorem dX11_would_6 : decode cX11_would 6 = .ok (.ifCond .ne 5, 3) := by decide +kernel
theorem dX11_would_9 : decode cX11_would 9 = .ok (.iconst (-1), 1) := by decide +kernel
theorem dX11_would_10 : decode cX11_would 10 = .ok (.ireturn, 1) := by decide +kernel
theorem dX11_would_11 : decode cX11_would 11 = .ok (.aload_n 0, 1) := by decide +kernel
theorem dX11_would_12 : decode cX11_would 12 = .ok (.iload_n 1, 1) := by decide +kernel
theorem dX11_would_13 : decode cX11_would 13 = .ok (.invokevirtual 238, 3) := by decide +kernel
theorem dX11_would_16 : decode cX11_would 16 = .ok (.iload 4, 2) := by decide +kernel
theorem dX11_would_18 : decode cX11_would 18 = .ok (.iconst 4, 1) := by decide +kernel
theorem dX11_would_19 : decode cX11_would 19 = .ok (.if_icmp .ne 8, 3) := by decide +kernel
theorem dX11_would_22 : decode cX11_would 22 = .ok (.aload_n 0, 1) := by decide +kernel
theorem dX11_would_23 : decode cX11_would 23 = .ok (.getfield 222, 3) := by decide +kernel
theorem dX11_would_26 : decode cX11_would 26 = .ok (.ireturn, 1) := by decide +kernel
theorem dX11_would_27 : decode cX11_would 27 = .ok (.iload 4, 2) := by decide +kernel
theorem dX11_would_29 : decode cX11_would 29 = .ok (.iconst 3, 1) := by decide +kernel
theorem dX11_would_30 : decode cX11_would 30 = .ok (.if_icmp .ne 10, 3) := by decide +kernel
theorem dX11_would_33 : decode cX11_would 33 = .ok (.aload_n 0, 1) := by decide +kernel
theorem dX11_would_34 : decode cX11_would 34 = .ok (.iload_n 2, 1) := by decide +kernel
theorem dX11_would_35 : decode cX11_would 35 = .ok (.iload_n 3, 1) := by decide +kernel
theorem dX11_would_36 : decode cX11_would 36 = .ok (.invokevirtual 250, 3) := by decide +kernel
theorem dX11_would_39 : decode cX11_would 39 = .ok (.ireturn, 1) := by decide +kernel
theorem dX11_would_40 : decode cX11_would 40 = .ok (.iload 4, 2) := by decide +kernel
theorem dX11_would_42 : decode cX11_would 42 = .ok (.iconst 2, 1) := by decide +kernel
theorem dX11_would_43 : decode cX11_would 43 = .ok (.if_icmp .ne 10, 3) := by decide +kernel
theorem dX11_would_46 : decode cX11_would 46 = .ok (.aload_n 0, 1) := by decide +kernel
theorem dX11_would_47 : decode cX11_would 47 = .ok (.iload_n 2, 1) := by decide +kernel
theorem dX11_would_48 : decode cX11_would 48 = .ok (.iload_n 3, 1) := by decide +kernel
theorem dX11_would_49 : decode cX11_would 49 = .ok (.invokevirtual 253, 3) := by decide +kernel
theorem dX11_would_52 : decode cX11_would 52 = .ok (.ireturn, 1) := by decide +kernel
theorem dX11_would_53 : decode cX11_would 53 = .ok (.iload 4, 2) := by decide +kernel
theorem dX11_would_55 : decode cX11_would 55 = .ok (.ifCond .eq 11, 3) := by decide +kernel
theorem dX11_would_58 : decode cX11_would 58 = .ok (.iload 4, 2) := by decide +kernel
theorem dX11_would_60 : decode cX11_would 60 = .ok (.iconst 1, 1) := by decide +kernel
theorem dX11_would_61 : decode cX11_would 61 = .ok (.if_icmp .eq 5, 3) := by decide +kernel
theorem dX11_would_64 : decode cX11_would 64 = .ok (.iconst (-1), 1) := by decide +kernel
theorem dX11_would_65 : decode cX11_would 65 = .ok (.ireturn, 1) := by decide +kernel
theorem dX11_would_66 : decode cX11_would 66 = .ok (.aload_n 0, 1) := by decide +kernel
theorem dX11_would_67 : decode cX11_would 67 = .ok (.invokevirtual 241, 3) := by decide +kernel
theorem dX11_would_70 : decode cX11_would 70 = .ok (.aload_n 0, 1) := by decide +kernel
theorem dX11_would_71 : decode cX11_would 71 = .ok (.iload_n 2, 1) := by decide +kernel
theorem dX11_would_72 : decode cX11_would 72 = .ok (.iload_n 3, 1) := by decide +kernel
theorem dX11_would_73 : decode cX11_would 73 = .ok (.invokevirtual 244, 3) := by decide +kernel
theorem dX11_would_76 : decode cX11_would 76 = .ok (.istore 5, 2) := by decide +kernel
theorem dX11_would_78 : decode cX11_would 78 = .ok (.iload 5, 2) := by decide +kernel
theorem dX11_would_80 : decode cX11_would 80 = .ok (.ifCond .ge 5, 3) := by decide +kernel
theorem dX11_would_83 : decode cX11_would 83 = .ok (.iconst (-1), 1) := by decide +kernel
theorem dX11_would_84 : decode cX11_would 84 = .ok (.ireturn, 1) := by decide +kernel
theorem dX11_would_85 : decode cX11_would 85 = .ok (.iload 4, 2) := by decide +kernel
theorem dX11_would_87 : decode cX11_would 87 = .ok (.ifCond .ne 10, 3) := by decide +kernel
theorem dX11_would_90 : decode cX11_would 90 = .ok (.iload 5, 2) := by decide +kernel
theorem dX11_would_92 : decode cX11_would 92 = .ok (.iload_n 2, 1) := by decide +kernel
theorem dX11_would_93 : decode cX11_would 93 = .ok (.isub, 1) := by decide +kernel
theorem dX11_would_94 : decode cX11_would 94 = .ok (.goto 9, 3) := by decide +kernel
theorem dX11_would_97 : decode cX11_would 97 = .ok (.aload_n 0, 1) := by decide +kernel
theorem dX11_would_98 : decode cX11_would 98 = .ok (.iload 5, 2) := by decide +kernel
theorem dX11_would_100 : decode cX11_would 100 = .ok (.invokevirtual 247, 3) := by decide +kernel
theorem dX11_would_103 : decode cX11_would 103 = .ok (.ireturn, 1) := by decide +kernel
theorem dX11_boxOf_0 : decode cX11_boxOf 0 = .ok (.iload_n 1, 1) := by decide +kernel
theorem dX11_boxOf_1 : decode cX11_boxOf 1 = .ok (.iconst 0, 1) := by decide +kernel
theorem dX11_boxOf_2 : decode cX11_boxOf 2 = .ok (.aload_n 0, 1) := by decide +kernel
theorem dX11_boxOf_3 : decode cX11_boxOf 3 = .ok (.getfield 235, 3) := by decide +kernel
theorem dX11_boxOf_6 : decode cX11_boxOf 6 = .ok (.iconst 1, 1) := by decide +kernel
theorem dX11_boxOf_7 : decode cX11_boxOf 7 = .ok (.isub, 1) := by decide +kernel
theorem dX11_boxOf_8 : decode cX11_boxOf 8 = .ok (.invokestatic 156, 3) := by decide +kernel
theorem dX11_boxOf_11 : decode cX11_boxOf 11 = .ok (.ifCond .ne 5, 3) := by decide +kernel
theorem dX11_boxOf_14 : decode cX11_boxOf 14 = .ok (.iconst (-1), 1) := by decide +kernel
theorem dX11_boxOf_15 : decode cX11_boxOf 15 = .ok (.ireturn, 1) := by decide +kernel
theorem dX11_boxOf_16 : decode cX11_boxOf 16 = .ok (.iconst 0, 1) := by decide +kernel
theorem dX11_boxOf_17 : decode cX11_boxOf 17 = .ok (.istore_n 3, 1) := by decide +kernel
theorem dX11_boxOf_18 : decode cX11_boxOf 18 = .ok (.iconst 0, 1) := by decide +kernel
theorem dX11_boxOf_19 : decode cX11_boxOf 19 = .ok (.istore 4, 2) := by decide +kernel
theorem dX11_boxOf_21 : decode cX11_boxOf 21 = .ok (.iconst 0, 1) := by decide +kernel
theorem dX11_boxOf_22 : decode cX11_boxOf 22 = .ok (.istore 5, 2) := by decide +kernel
theorem dX11_boxOf_24 : decode cX11_boxOf 24 = .ok (.iload 5, 2) := by decide +kernel
theorem dX11_boxOf_26 : decode cX11_boxOf 26 = .ok (.aload_n 0, 1) := by decide +kernel
theorem dX11_boxOf_27 : decode cX11_boxOf 27 = .ok (.getfield 203, 3) := by decide +kernel
theorem dX11_boxOf_30 : decode cX11_boxOf 30 = .ok (.if_icmp .ge 37, 3) := by decide +kernel
theorem dX11_boxOf_33 : decode cX11_boxOf 33 = .ok (.aload_n 0, 1) := by decide +kernel
theorem dX11_boxOf_34 : decode cX11_boxOf 34 = .ok (.iload 5, 2) := by decide +kernel
theorem dX11_boxOf_36 : decode cX11_boxOf 36 = .ok (.iload_n 1, 1) := by decide +kernel
theorem dX11_boxOf_37 : decode cX11_boxOf 37 = .ok (.invokevirtual 259, 3) := by decide +kernel
theorem dX11_boxOf_40 : decode cX11_boxOf 40 = .ok (.ifCond .ne 6, 3) := by decide +kernel
theorem dX11_boxOf_43 : decode cX11_boxOf 43 = .ok (.goto 18, 3) := by decide +kernel
theorem dX11_boxOf_46 : decode cX11_boxOf 46 = .ok (.iinc 3 1, 3) := by decide +kernel
theorem dX11_boxOf_49 : decode cX11_boxOf 49 = .ok (.iload 4, 2) := by decide +kernel
theorem dX11_boxOf_51 : decode cX11_boxOf 51 = .ok (.aload_n 0, 1) := by decide +kernel
theorem dX11_boxOf_52 : decode cX11_boxOf 52 = .ok (.getfield 103, 3) := by decide +kernel
theorem dX11_boxOf_55 : decode cX11_boxOf 55 = .ok (.iload 5, 2) := by decide +kernel
theorem dX11_boxOf_57 : decode cX11_boxOf 57 = .ok (.iaload, 1) := by decide +kernel
theorem dX11_boxOf_58 : decode cX11_boxOf 58 = .ok (.iadd, 1) := by decide +kernel
theorem dX11_boxOf_59 : decode cX11_boxOf 59 = .ok (.istore 4, 2) := by decide +kernel
theorem dX11_boxOf_61 : decode cX11_boxOf 61 = .ok (.iinc 5 1, 3) := by decide +kernel
theorem dX11_boxOf_64 : decode cX11_boxOf 64 = .ok (.goto (-40), 3) := by decide +kernel
theorem dX11_boxOf_67 : decode cX11_boxOf 67 = .ok (.iconst 0, 1) := by decide +kernel
theorem dX11_boxOf_68 : decode cX11_boxOf 68 = .ok (.istore 5, 2) := by decide +kernel
theorem dX11_boxOf_70 : decode cX11_boxOf 70 = .ok (.iconst 0, 1) := by decide +kernel
theorem dX11_boxOf_71 : decode cX11_boxOf 71 = .ok (.istore 6, 2) := by decide +kernel
theorem dX11_boxOf_73 : decode cX11_boxOf 73 = .ok (.iconst 0, 1) := by decide +kernel
theorem dX11_boxOf_74 : decode cX11_boxOf 74 = .ok (.istore 7, 2) := by decide +kernel
theorem dX11_boxOf_76 : decode cX11_boxOf 76 = .ok (.iload 7, 2) := by decide +kernel
theorem dX11_boxOf_78 : decode cX11_boxOf 78 = .ok (.aload_n 0, 1) := by decide +kernel
theorem dX11_boxOf_79 : decode cX11_boxOf 79 = .ok (.getfield 161, 3) := by decide +kernel
theorem dX11_boxOf_82 : decode cX11_boxOf 82 = .ok (.if_icmp .ge 37, 3) := by decide +kernel
theorem dX11_boxOf_85 : decode cX11_boxOf 85 = .ok (.aload_n 0, 1) := by decide +kernel
theorem dX11_boxOf_86 : decode cX11_boxOf 86 = .ok (.iload_n 1, 1) := by decide +kernel
theorem dX11_boxOf_87 : decode cX11_boxOf 87 = .ok (.iload 7, 2) := by decide +kernel
theorem dX11_boxOf_89 : decode cX11_boxOf 89 = .ok (.invokevirtual 265, 3) := by decide +kernel
theorem dX11_boxOf_92 : decode cX11_boxOf 92 = .ok (.ifCond .ne 6, 3) := by decide +kernel
theorem dX11_boxOf_95 : decode cX11_boxOf 95 = .ok (.goto 18, 3) := by decide +kernel
theorem dX11_boxOf_98 : decode cX11_boxOf 98 = .ok (.iload 5, 2) := by decide +kernel
theorem dX11_boxOf_100 : decode cX11_boxOf 100 = .ok (.aload_n 0, 1) := by decide +kernel
theorem dX11_boxOf_101 : decode cX11_boxOf 101 = .ok (.getfield 13, 3) := by decide +kernel
theorem dX11_boxOf_104 : decode cX11_boxOf 104 = .ok (.iload 7, 2) := by decide +kernel
theorem dX11_boxOf_106 : decode cX11_boxOf 106 = .ok (.iaload, 1) := by decide +kernel
theorem dX11_boxOf_107 : decode cX11_boxOf 107 = .ok (.ior, 1) := by decide +kernel
theorem dX11_boxOf_108 : decode cX11_boxOf 108 = .ok (.istore 5, 2) := by decide +kernel
theorem dX11_boxOf_110 : decode cX11_boxOf 110 = .ok (.iinc 6 1, 3) := by decide +kernel
theorem dX11_boxOf_113 : decode cX11_boxOf 113 = .ok (.iinc 7 1, 3) := by decide +kernel
theorem dX11_boxOf_116 : decode cX11_boxOf 116 = .ok (.goto (-40), 3) := by decide +kernel
theorem dX11_boxOf_119 : decode cX11_boxOf 119 = .ok (.iload_n 2, 1) := by decide +kernel
theorem dX11_boxOf_120 : decode cX11_boxOf 120 = .ok (.sipush 200, 3) := by decide +kernel
theorem dX11_boxOf_123 : decode cX11_boxOf 123 = .ok (.if_icmp .lt 14, 3) := by decide +kernel
theorem dX11_boxOf_126 : decode cX11_boxOf 126 = .ok (.aload_n 0, 1) := by decide +kernel
theorem dX11_boxOf_127 : decode cX11_boxOf 127 = .ok (.iload_n 1, 1) := by decide +kernel
theorem dX11_boxOf_128 : decode cX11_boxOf 128 = .ok (.iload_n 2, 1) := by decide +kernel
theorem dX11_boxOf_129 : decode cX11_boxOf 129 = .ok (.sipush 200, 3) := by decide +kernel
theorem dX11_boxOf_132 : decode cX11_boxOf 132 = .ok (.isub, 1) := by decide +kernel
theorem dX11_boxOf_133 : decode cX11_boxOf 133 = .ok (.invokevirtual 268, 3) := by decide +kernel
theorem dX11_boxOf_136 : decode cX11_boxOf 136 = .ok (.ireturn, 1) := by decide +kernel
theorem dX11_boxOf_137 : decode cX11_boxOf 137 = .ok (.iload_n 2, 1) := by decide +kernel
theorem dX11_boxOf_138 : decode cX11_boxOf 138 = .ok (.bipush 100, 2) := by decide +kernel
theorem dX11_boxOf_140 : decode cX11_boxOf 140 = .ok (.if_icmp .lt 13, 3) := by decide +kernel
theorem dX11_boxOf_143 : decode cX11_boxOf 143 = .ok (.aload_n 0, 1) := by decide +kernel
theorem dX11_boxOf_144 : decode cX11_boxOf 144 = .ok (.iload_n 1, 1) := by decide +kernel
theorem dX11_boxOf_145 : decode cX11_boxOf 145 = .ok (.iload_n 2, 1) := by decide +kernel
theorem dX11_boxOf_146 : decode cX11_boxOf 146 = .ok (.bipush 100, 2) := by decide +kernel
theorem dX11_boxOf_148 : decode cX11_boxOf 148 = .ok (.isub, 1) := by decide +kernel
theorem dX11_boxOf_149 : decode cX11_boxOf 149 = .ok (.invokevirtual 271, 3) := by decide +kernel
theorem dX11_boxOf_152 : decode cX11_boxOf 152 = .ok (.ireturn, 1) := by decide +kernel
theorem dX11_boxOf_153 : decode cX11_boxOf 153 = .ok (.iload_n 2, 1) := by decide +kernel
theorem dX11_boxOf_154 : decode cX11_boxOf 154 = .ok (.tableswitch 52 0 4 #[34, 36, 39, 46, 49], 34) := by decide +kernel
theorem dX11_boxOf_188 : decode cX11_boxOf 188 = .ok (.iload_n 3, 1) := by decide +kernel
theorem dX11_boxOf_189 : decode cX11_boxOf 189 = .ok (.ireturn, 1) := by decide +kernel
theorem dX11_boxOf_190 : decode cX11_boxOf 190 = .ok (.iload 4, 2) := by decide +kernel
theorem dX11_boxOf_192 : decode cX11_boxOf 192 = .ok (.ireturn, 1) := by decide +kernel
theorem dX11_boxOf_193 : decode cX11_boxOf 193 = .ok (.aload_n 0, 1) := by decide +kernel
theorem dX11_boxOf_194 : decode cX11_boxOf 194 = .ok (.getfield 124, 3) := by decide +kernel
theorem dX11_boxOf_197 : decode cX11_boxOf 197 = .ok (.iload_n 1, 1) := by decide +kernel
theorem dX11_boxOf_198 : decode cX11_boxOf 198 = .ok (.iaload, 1) := by decide +kernel
theorem dX11_boxOf_199 : decode cX11_boxOf 199 = .ok (.ireturn, 1) := by decide +kernel
theorem dX11_boxOf_200 : decode cX11_boxOf 200 = .ok (.iload 5, 2) := by decide +kernel
theorem dX11_boxOf_202 : decode cX11_boxOf 202 = .ok (.ireturn, 1) := by decide +kernel
theorem dX11_boxOf_203 : decode cX11_boxOf 203 = .ok (.iload 6, 2) := by decide +kernel
theorem dX11_boxOf_205 : decode cX11_boxOf 205 = .ok (.ireturn, 1) := by decide +kernel
theorem dX11_boxOf_206 : decode cX11_boxOf 206 = .ok (.iconst (-1), 1) := by decide +kernel
theorem dX11_boxOf_207 : decode cX11_boxOf 207 = .ok (.ireturn, 1) := by decide +kernel
theorem dX11_wash_0 : decode cX11_wash 0 = .ok (.iload_n 1, 1) := by decide +kernel
theorem dX11_wash_1 : decode cX11_wash 1 = .ok (.iconst 0, 1) := by decide +kernel
theorem dX11_wash_2 : decode cX11_wash 2 = .ok (.iconst 5, 1) := by decide +kernel
theorem dX11_wash_3 : decode cX11_wash 3 = .ok (.invokestatic 156, 3) := by decide +kernel
theorem dX11_wash_6 : decode cX11_wash 6 = .ok (.ifCond .eq 23, 3) := by decide +kernel
theorem dX11_wash_9 : decode cX11_wash 9 = .ok (.iload_n 2, 1) := by decide +kernel
theorem dX11_wash_10 : decode cX11_wash 10 = .ok (.iconst 0, 1) := by decide +kernel
theorem dX11_wash_11 : decode cX11_wash 11 = .ok (.iconst 5, 1) := by decide +kernel
theorem dX11_wash_12 : decode cX11_wash 12 = .ok (.invokestatic 156, 3) := by decide +kernel
theorem dX11_wash_15 : decode cX11_wash 15 = .ok (.ifCond .eq 14, 3) := by decide +kernel
theorem dX11_wash_18 : decode cX11_wash 18 = .ok (.iload_n 3, 1) := by decide +kernel
theorem dX11_wash_19 : decode cX11_wash 19 = .ok (.iconst 0, 1) := by decide +kernel
theorem dX11_wash_20 : decode cX11_wash 20 = .ok (.sipush 600, 3) := by decide +kernel
theorem dX11_wash_23 : decode cX11_wash 23 = .ok (.invokestatic 156, 3) := by decide +kernel
theorem dX11_wash_26 : decode cX11_wash 26 = .ok (.ifCond .ne 5, 3) := by decide +kernel
theorem dX11_wash_29 : decode cX11_wash 29 = .ok (.iconst 0, 1) := by decide +kernel
theorem dX11_wash_30 : decode cX11_wash 30 = .ok (.ireturn, 1) := by decide +kernel
theorem dX11_wash_31 : decode cX11_wash 31 = .ok (.aload_n 0, 1) := by decide +kernel
theorem dX11_wash_32 : decode cX11_wash 32 = .ok (.getfield 94, 3) := by decide +kernel
theorem dX11_wash_35 : decode cX11_wash 35 = .ok (.bipush 6, 2) := by decide +kernel
theorem dX11_wash_37 : decode cX11_wash 37 = .ok (.iload_n 1, 1) := by decide +kernel
theorem dX11_wash_38 : decode cX11_wash 38 = .ok (.imul, 1) := by decide +kernel
theorem dX11_wash_39 : decode cX11_wash 39 = .ok (.iload_n 2, 1) := by decide +kernel
theorem dX11_wash_40 : decode cX11_wash 40 = .ok (.iadd, 1) := by decide +kernel
theorem dX11_wash_41 : decode cX11_wash 41 = .ok (.iload_n 3, 1) := by decide +kernel
theorem dX11_wash_42 : decode cX11_wash 42 = .ok (.iastore, 1) := by decide +kernel
theorem dX11_wash_43 : decode cX11_wash 43 = .ok (.iconst 1, 1) := by decide +kernel
theorem dX11_wash_44 : decode cX11_wash 44 = .ok (.ireturn, 1) := by decide +kernel
theorem dX11_queue_0 : decode cX11_queue 0 = .ok (.iload_n 1, 1) := by decide +kernel
theorem dX11_queue_1 : decode cX11_queue 1 = .ok (.iconst (-1), 1) := by decide +kernel
theorem dX11_queue_2 : decode cX11_queue 2 = .ok (.if_icmp .ne 10, 3) := by decide +kernel
theorem dX11_queue_5 : decode cX11_queue 5 = .ok (.aload_n 0, 1) := by decide +kernel
theorem dX11_queue_6 : decode cX11_queue 6 = .ok (.iconst 0, 1) := by decide +kernel
theorem dX11_queue_7 : decode cX11_queue 7 = .ok (.putfield 274, 3) := by decide +kernel
theorem dX11_queue_10 : decode cX11_queue 10 = .ok (.iconst 0, 1) := by decide +kernel
theorem dX11_queue_11 : decode cX11_queue 11 = .ok (.ireturn, 1) := by decide +kernel
theorem dX11_queue_12 : decode cX11_queue 12 = .ok (.aload_n 0, 1) := by decide +kernel
theorem dX11_queue_13 : decode cX11_queue 13 = .ok (.iload_n 1, 1) := by decide +kernel
theorem dX11_queue_14 : decode cX11_queue 14 = .ok (.invokevirtual 165, 3) := by decide +kernel
theorem dX11_queue_17 : decode cX11_queue 17 = .ok (.ifCond .eq 12, 3) := by decide +kernel
theorem dX11_queue_20 : decode cX11_queue 20 = .ok (.aload_n 0, 1) := by decide +kernel
theorem dX11_queue_21 : decode cX11_queue 21 = .ok (.getfield 274, 3) := by decide +kernel
theorem dX11_queue_24 : decode cX11_queue 24 = .ok (.bipush 10, 2) := by decide +kernel
theorem dX11_queue_26 : decode cX11_queue 26 = .ok (.if_icmp .ne 5, 3) := by decide +kernel
theorem dX11_queue_29 : decode cX11_queue 29 = .ok (.iconst (-1), 1) := by decide +kernel
theorem dX11_queue_30 : decode cX11_queue 30 = .ok (.ireturn, 1) := by decide +kernel
theorem dX11_queue_31 : decode cX11_queue 31 = .ok (.iconst 0, 1) := by decide +kernel
theorem dX11_queue_32 : decode cX11_queue 32 = .ok (.istore_n 2, 1) := by decide +kernel
theorem dX11_queue_33 : decode cX11_queue 33 = .ok (.iload_n 2, 1) := by decide +kernel
theorem dX11_queue_34 : decode cX11_queue 34 = .ok (.aload_n 0, 1) := by decide +kernel
theorem dX11_queue_35 : decode cX11_queue 35 = .ok (.getfield 274, 3) := by decide +kernel
theorem dX11_queue_38 : decode cX11_queue 38 = .ok (.if_icmp .ge 21, 3) := by decide +kernel
theorem dX11_queue_41 : decode cX11_queue 41 = .ok (.aload_n 0, 1) := by decide +kernel
theorem dX11_queue_42 : decode cX11_queue 42 = .ok (.getfield 97, 3) := by decide +kernel
theorem dX11_queue_45 : decode cX11_queue 45 = .ok (.iload_n 2, 1) := by decide +kernel
theorem dX11_queue_46 : decode cX11_queue 46 = .ok (.iaload, 1) := by decide +kernel
theorem dX11_queue_47 : decode cX11_queue 47 = .ok (.iload_n 1, 1) := by decide +kernel
theorem dX11_queue_48 : decode cX11_queue 48 = .ok (.if_icmp .ne 5, 3) := by decide +kernel
theorem dX11_queue_51 : decode cX11_queue 51 = .ok (.iconst (-1), 1) := by decide +kernel
theorem dX11_queue_52 : decode cX11_queue 52 = .ok (.ireturn, 1) := by decide +kernel
theorem dX11_queue_53 : decode cX11_queue 53 = .ok (.iinc 2 1, 3) := by decide +kernel
theorem dX11_queue_56 : decode cX11_queue 56 = .ok (.goto (-23), 3) := by decide +kernel
theorem dX11_queue_59 : decode cX11_queue 59 = .ok (.aload_n 0, 1) := by decide +kernel
theorem dX11_queue_60 : decode cX11_queue 60 = .ok (.getfield 97, 3) := by decide +kernel
theorem dX11_queue_63 : decode cX11_queue 63 = .ok (.aload_n 0, 1) := by decide +kernel
theorem dX11_queue_64 : decode cX11_queue 64 = .ok (.getfield 274, 3) := by decide +kernel
theorem dX11_queue_67 : decode cX11_queue 67 = .ok (.iload_n 1, 1) := by decide +kernel
theorem dX11_queue_68 : decode cX11_queue 68 = .ok (.iastore, 1) := by decide +kernel
theorem dX11_queue_69 : decode cX11_queue 69 = .ok (.aload_n 0, 1) := by decide +kernel
theorem dX11_queue_70 : decode cX11_queue 70 = .ok (.dup, 1) := by decide +kernel
theorem dX11_queue_71 : decode cX11_queue 71 = .ok (.getfield 274, 3) := by decide +kernel
theorem dX11_queue_74 : decode cX11_queue 74 = .ok (.iconst 1, 1) := by decide +kernel
theorem dX11_queue_75 : decode cX11_queue 75 = .ok (.iadd, 1) := by decide +kernel
theorem dX11_queue_76 : decode cX11_queue 76 = .ok (.putfield 274, 3) := by decide +kernel
theorem dX11_queue_79 : decode cX11_queue 79 = .ok (.aload_n 0, 1) := by decide +kernel
theorem dX11_queue_80 : decode cX11_queue 80 = .ok (.getfield 274, 3) := by decide +kernel
theorem dX11_queue_83 : decode cX11_queue 83 = .ok (.ireturn, 1) := by decide +kernel
theorem dX11_reckon_0 : decode cX11_reckon 0 = .ok (.iconst 1, 1) := by decide +kernel
theorem dX11_reckon_1 : decode cX11_reckon 1 = .ok (.aload_n 0, 1) := by decide +kernel
theorem dX11_reckon_2 : decode cX11_reckon 2 = .ok (.getfield 274, 3) := by decide +kernel
theorem dX11_reckon_5 : decode cX11_reckon 5 = .ok (.ishl, 1) := by decide +kernel
theorem dX11_reckon_6 : decode cX11_reckon 6 = .ok (.iconst 1, 1) := by decide +kernel
theorem dX11_reckon_7 : decode cX11_reckon 7 = .ok (.isub, 1) := by decide +kernel
theorem dX11_reckon_8 : decode cX11_reckon 8 = .ok (.istore_n 2, 1) := by decide +kernel
theorem dX11_reckon_9 : decode cX11_reckon 9 = .ok (.iload_n 2, 1) := by decide +kernel
theorem dX11_reckon_10 : decode cX11_reckon 10 = .ok (.istore_n 3, 1) := by decide +kernel
theorem dX11_reckon_11 : decode cX11_reckon 11 = .ok (.iload_n 3, 1) := by decide +kernel
theorem dX11_reckon_12 : decode cX11_reckon 12 = .ok (.ifCond .le 126, 3) := by decide +kernel
theorem dX11_reckon_15 : decode cX11_reckon 15 = .ok (.iconst 0, 1) := by decide +kernel
theorem dX11_reckon_16 : decode cX11_reckon 16 = .ok (.istore 4, 2) := by decide +kernel
theorem dX11_reckon_18 : decode cX11_reckon 18 = .ok (.iload 4, 2) := by decide +kernel
theorem dX11_reckon_20 : decode cX11_reckon 20 = .ok (.aload_n 0, 1) := by decide +kernel
theorem dX11_reckon_21 : decode cX11_reckon 21 = .ok (.getfield 274, 3) := by decide +kernel
theorem dX11_reckon_24 : decode cX11_reckon 24 = .ok (.if_icmp .ge 108, 3) := by decide +kernel
theorem dX11_reckon_27 : decode cX11_reckon 27 = .ok (.iload_n 3, 1) := by decide +kernel
theorem dX11_reckon_28 : decode cX11_reckon 28 = .ok (.iload_n 2, 1) := by decide +kernel
theorem dX11_reckon_29 : decode cX11_reckon 29 = .ok (.if_icmp .ne 7, 3) := by decide +kernel
theorem dX11_reckon_32 : decode cX11_reckon 32 = .ok (.iconst 0, 1) := by decide +kernel
theorem dX11_reckon_33 : decode cX11_reckon 33 = .ok (.goto 6, 3) := by decide +kernel
theorem dX11_reckon_36 : decode cX11_reckon 36 = .ok (.ldc_w 280, 3) := by decide +kernel
theorem dX11_reckon_39 : decode cX11_reckon 39 = .ok (.istore 5, 2) := by decide +kernel
theorem dX11_reckon_41 : decode cX11_reckon 41 = .ok (.iconst 0, 1) := by decide +kernel
theorem dX11_reckon_42 : decode cX11_reckon 42 = .ok (.istore 6, 2) := by decide +kernel
theorem dX11_reckon_44 : decode cX11_reckon 44 = .ok (.iload 6, 2) := by decide +kernel
theorem dX11_reckon_46 : decode cX11_reckon 46 = .ok (.aload_n 0, 1) := by decide +kernel
theorem dX11_reckon_47 : decode cX11_reckon 47 = .ok (.getfield 274, 3) := by decide +kernel
theorem dX11_reckon_50 : decode cX11_reckon 50 = .ok (.if_icmp .ge 62, 3) := by decide +kernel
theorem dX11_reckon_53 : decode cX11_reckon 53 = .ok (.iload_n 3, 1) := by decide +kernel
theorem dX11_reckon_54 : decode cX11_reckon 54 = .ok (.iload_n 2, 1) := by decide +kernel
theorem dX11_reckon_55 : decode cX11_reckon 55 = .ok (.if_icmp .eq 57, 3) := by decide +kernel
theorem dX11_reckon_58 : decode cX11_reckon 58 = .ok (.aload_n 0, 1) := by decide +kernel
theorem dX11_reckon_59 : decode cX11_reckon 59 = .ok (.iload_n 3, 1) := by decide +kernel
theorem dX11_reckon_60 : decode cX11_reckon 60 = .ok (.iload 6, 2) := by decide +kernel
theorem dX11_reckon_62 : decode cX11_reckon 62 = .ok (.iload_n 1, 1) := by decide +kernel
theorem dX11_reckon_63 : decode cX11_reckon 63 = .ok (.invokevirtual 281, 3) := by decide +kernel
theorem dX11_reckon_66 : decode cX11_reckon 66 = .ok (.ifCond .ne 6, 3) := by decide +kernel
theorem dX11_reckon_69 : decode cX11_reckon 69 = .ok (.goto 37, 3) := by decide +kernel
theorem dX11_reckon_72 : decode cX11_reckon 72 = .ok (.aload_n 0, 1) := by decide +kernel
theorem dX11_reckon_73 : decode cX11_reckon 73 = .ok (.iload 4, 2) := by decide +kernel
theorem dX11_reckon_75 : decode cX11_reckon 75 = .ok (.iload 6, 2) := by decide +kernel
theorem dX11_reckon_77 : decode cX11_reckon 77 = .ok (.invokevirtual 285, 3) := by decide +kernel
theorem dX11_reckon_80 : decode cX11_reckon 80 = .ok (.aload_n 0, 1) := by decide +kernel
theorem dX11_reckon_81 : decode cX11_reckon 81 = .ok (.iload_n 3, 1) := by decide +kernel
theorem dX11_reckon_82 : decode cX11_reckon 82 = .ok (.iconst 1, 1) := by decide +kernel
theorem dX11_reckon_83 : decode cX11_reckon 83 = .ok (.iload 6, 2) := by decide +kernel
theorem dX11_reckon_85 : decode cX11_reckon 85 = .ok (.ishl, 1) := by decide +kernel
theorem dX11_reckon_86 : decode cX11_reckon 86 = .ok (.ior, 1) := by decide +kernel
theorem dX11_reckon_87 : decode cX11_reckon 87 = .ok (.iload 6, 2) := by decide +kernel
theorem dX11_reckon_89 : decode cX11_reckon 89 = .ok (.invokevirtual 288, 3) := by decide +kernel
theorem dX11_reckon_92 : decode cX11_reckon 92 = .ok (.iadd, 1) := by decide +kernel
theorem dX11_reckon_93 : decode cX11_reckon 93 = .ok (.istore 7, 2) := by decide +kernel
theorem dX11_reckon_95 : decode cX11_reckon 95 = .ok (.iload 7, 2) := by decide +kernel
theorem dX11_reckon_97 : decode cX11_reckon 97 = .ok (.iload 5, 2) := by decide +kernel
theorem dX11_reckon_99 : decode cX11_reckon 99 = .ok (.if_icmp .ge 7, 3) := by decide +kernel
theorem dX11_reckon_102 : decode cX11_reckon 102 = .ok (.iload 7, 2) := by decide +kernel
theorem dX11_reckon_104 : decode cX11_reckon 104 = .ok (.istore 5, 2) := by decide +kernel
theorem dX11_reckon_106 : decode cX11_reckon 106 = .ok (.iinc 6 1, 3) := by decide +kernel
theorem dX11_reckon_109 : decode cX11_reckon 109 = .ok (.goto (-65), 3) := by decide +kernel
theorem dX11_reckon_112 : decode cX11_reckon 112 = .ok (.aload_n 0, 1) := by decide +kernel
theorem dX11_reckon_113 : decode cX11_reckon 113 = .ok (.getfield 150, 3) := by decide +kernel
theorem dX11_reckon_116 : decode cX11_reckon 116 = .ok (.bipush 10, 2) := by decide +kernel
theorem dX11_reckon_118 : decode cX11_reckon 118 = .ok (.iload_n 3, 1) := by decide +kernel
theorem dX11_reckon_119 : decode cX11_reckon 119 = .ok (.imul, 1) := by decide +kernel
theorem dX11_reckon_120 : decode cX11_reckon 120 = .ok (.iload 4, 2) := by decide +kernel
theorem dX11_reckon_122 : decode cX11_reckon 122 = .ok (.iadd, 1) := by decide +kernel
theorem dX11_reckon_123 : decode cX11_reckon 123 = .ok (.iload 5, 2) := by decide +kernel
theorem dX11_reckon_125 : decode cX11_reckon 125 = .ok (.iastore, 1) := by decide +kernel
theorem dX11_reckon_126 : decode cX11_reckon 126 = .ok (.iinc 4 1, 3) := by decide +kernel
theorem dX11_reckon_129 : decode cX11_reckon 129 = .ok (.goto (-111), 3) := by decide +kernel
theorem dX11_reckon_132 : decode cX11_reckon 132 = .ok (.iinc 3 (-1), 3) := by decide +kernel
theorem dX11_reckon_135 : decode cX11_reckon 135 = .ok (.goto (-124), 3) := by decide +kernel
theorem dX11_reckon_138 : decode cX11_reckon 138 = .ok (.return_, 1) := by decide +kernel
theorem dX11_order_0 : decode cX11_order 0 = .ok (.iload_n 2, 1) := by decide +kernel
theorem dX11_order_1 : decode cX11_order 1 = .ok (.iconst (-1), 1) := by decide +kernel
theorem dX11_order_2 : decode cX11_order 2 = .ok (.aload_n 0, 1) := by decide +kernel
theorem dX11_order_3 : decode cX11_order 3 = .ok (.getfield 274, 3) := by decide +kernel
theorem dX11_order_6 : decode cX11_order 6 = .ok (.iconst 1, 1) := by decide +kernel
theorem dX11_order_7 : decode cX11_order 7 = .ok (.isub, 1) := by decide +kernel
theorem dX11_order_8 : decode cX11_order 8 = .ok (.invokestatic 156, 3) := by decide +kernel
theorem dX11_order_11 : decode cX11_order 11 = .ok (.ifCond .ne 5, 3) := by decide +kernel
theorem dX11_order_14 : decode cX11_order 14 = .ok (.iconst (-1), 1) := by decide +kernel
theorem dX11_order_15 : decode cX11_order 15 = .ok (.ireturn, 1) := by decide +kernel
theorem dX11_order_16 : decode cX11_order 16 = .ok (.aload_n 0, 1) := by decide +kernel
theorem dX11_order_17 : decode cX11_order 17 = .ok (.iload_n 1, 1) := by decide +kernel
theorem dX11_order_18 : decode cX11_order 18 = .ok (.invokevirtual 291, 3) := by decide +kernel
theorem dX11_order_21 : decode cX11_order 21 = .ok (.iconst 0, 1) := by decide +kernel
theorem dX11_order_22 : decode cX11_order 22 = .ok (.istore_n 3, 1) := by decide +kernel
theorem dX11_order_23 : decode cX11_order 23 = .ok (.iconst (-1), 1) := by decide +kernel
theorem dX11_order_24 : decode cX11_order 24 = .ok (.istore 4, 2) := by decide +kernel
theorem dX11_order_26 : decode cX11_order 26 = .ok (.iconst 0, 1) := by decide +kernel
theorem dX11_order_27 : decode cX11_order 27 = .ok (.istore 5, 2) := by decide +kernel
theorem dX11_order_29 : decode cX11_order 29 = .ok (.iconst 0, 1) := by decide +kernel
theorem dX11_order_30 : decode cX11_order 30 = .ok (.istore 6, 2) := by decide +kernel
theorem dX11_order_32 : decode cX11_order 32 = .ok (.iload 6, 2) := by decide +kernel
theorem dX11_order_34 : decode cX11_order 34 = .ok (.aload_n 0, 1) := by decide +kernel
theorem dX11_order_35 : decode cX11_order 35 = .ok (.getfield 274, 3) := by decide +kernel
theorem dX11_order_38 : decode cX11_order 38 = .ok (.if_icmp .ge 131, 3) := by decide +kernel
theorem dX11_order_41 : decode cX11_order 41 = .ok (.iconst (-1), 1) := by decide +kernel
theorem dX11_order_42 : decode cX11_order 42 = .ok (.istore 7, 2) := by decide +kernel
theorem dX11_order_44 : decode cX11_order 44 = .ok (.iconst 0, 1) := by decide +kernel
theorem dX11_order_45 : decode cX11_order 45 = .ok (.istore 8, 2) := by decide +kernel
theorem dX11_order_47 : decode cX11_order 47 = .ok (.iconst 0, 1) := by decide +kernel
theorem dX11_order_48 : decode cX11_order 48 = .ok (.istore 9, 2) := by decide +kernel
theorem dX11_order_50 : decode cX11_order 50 = .ok (.iload 9, 2) := by decide +kernel
theorem dX11_order_52 : decode cX11_order 52 = .ok (.aload_n 0, 1) := by decide +kernel
theorem dX11_order_53 : decode cX11_order 53 = .ok (.getfield 274, 3) := by decide +kernel
theorem dX11_order_56 : decode cX11_order 56 = .ok (.if_icmp .ge 69, 3) := by decide +kernel
theorem dX11_order_59 : decode cX11_order 59 = .ok (.aload_n 0, 1) := by decide +kernel
theorem dX11_order_60 : decode cX11_order 60 = .ok (.iload_n 3, 1) := by decide +kernel
theorem dX11_order_61 : decode cX11_order 61 = .ok (.iload 9, 2) := by decide +kernel
theorem dX11_order_63 : decode cX11_order 63 = .ok (.iload_n 1, 1) := by decide +kernel
theorem dX11_order_64 : decode cX11_order 64 = .ok (.invokevirtual 281, 3) := by decide +kernel
theorem dX11_order_67 : decode cX11_order 67 = .ok (.ifCond .ne 6, 3) := by decide +kernel
theorem dX11_order_70 : decode cX11_order 70 = .ok (.goto 49, 3) := by decide +kernel
theorem dX11_order_73 : decode cX11_order 73 = .ok (.aload_n 0, 1) := by decide +kernel
theorem dX11_order_74 : decode cX11_order 74 = .ok (.iload 4, 2) := by decide +kernel
theorem dX11_order_76 : decode cX11_order 76 = .ok (.iload 9, 2) := by decide +kernel
theorem dX11_order_78 : decode cX11_order 78 = .ok (.invokevirtual 285, 3) := by decide +kernel
theorem dX11_order_81 : decode cX11_order 81 = .ok (.aload_n 0, 1) := by decide +kernel
theorem dX11_order_82 : decode cX11_order 82 = .ok (.iload_n 3, 1) := by decide +kernel
theorem dX11_order_83 : decode cX11_order 83 = .ok (.iconst 1, 1) := by decide +kernel
theorem dX11_order_84 : decode cX11_order 84 = .ok (.iload 9, 2) := by decide +kernel
theorem dX11_order_86 : decode cX11_order 86 = .ok (.ishl, 1) := by decide +kernel
theorem dX11_order_87 : decode cX11_order 87 = .ok (.ior, 1) := by decide +kernel
theorem dX11_order_88 : decode cX11_order 88 = .ok (.iload 9, 2) := by decide +kernel
theorem dX11_order_90 : decode cX11_order 90 = .ok (.invokevirtual 288, 3) := by decide +kernel
theorem dX11_order_93 : decode cX11_order 93 = .ok (.iadd, 1) := by decide +kernel
theorem dX11_order_94 : decode cX11_order 94 = .ok (.istore 10, 2) := by decide +kernel
theorem dX11_order_96 : decode cX11_order 96 = .ok (.iload 7, 2) := by decide +kernel
theorem dX11_order_98 : decode cX11_order 98 = .ok (.ifCond .lt 13, 3) := by decide +kernel
theorem dX11_order_101 : decode cX11_order 101 = .ok (.iload 10, 2) := by decide +kernel
theorem dX11_order_103 : decode cX11_order 103 = .ok (.iload 8, 2) := by decide +kernel
theorem dX11_order_105 : decode cX11_order 105 = .ok (.if_icmp .lt 6, 3) := by decide +kernel
theorem dX11_order_108 : decode cX11_order 108 = .ok (.goto 11, 3) := by decide +kernel
theorem dX11_order_111 : decode cX11_order 111 = .ok (.iload 9, 2) := by decide +kernel
theorem dX11_order_113 : decode cX11_order 113 = .ok (.istore 7, 2) := by decide +kernel
theorem dX11_order_115 : decode cX11_order 115 = .ok (.iload 10, 2) := by decide +kernel
theorem dX11_order_117 : decode cX11_order 117 = .ok (.istore 8, 2) := by decide +kernel
theorem dX11_order_119 : decode cX11_order 119 = .ok (.iinc 9 1, 3) := by decide +kernel
theorem dX11_order_122 : decode cX11_order 122 = .ok (.goto (-72), 3) := by decide +kernel
theorem dX11_order_125 : decode cX11_order 125 = .ok (.iload 5, 2) := by decide +kernel
theorem dX11_order_127 : decode cX11_order 127 = .ok (.aload_n 0, 1) := by decide +kernel
theorem dX11_order_128 : decode cX11_order 128 = .ok (.iload 4, 2) := by decide +kernel
theorem dX11_order_130 : decode cX11_order 130 = .ok (.iload 7, 2) := by decide +kernel
theorem dX11_order_132 : decode cX11_order 132 = .ok (.invokevirtual 285, 3) := by decide +kernel
theorem dX11_order_135 : decode cX11_order 135 = .ok (.iadd, 1) := by decide +kernel
theorem dX11_order_136 : decode cX11_order 136 = .ok (.istore 5, 2) := by decide +kernel
theorem dX11_order_138 : decode cX11_order 138 = .ok (.iload_n 3, 1) := by decide +kernel
theorem dX11_order_139 : decode cX11_order 139 = .ok (.iconst 1, 1) := by decide +kernel
theorem dX11_order_140 : decode cX11_order 140 = .ok (.iload 7, 2) := by decide +kernel
theorem dX11_order_142 : decode cX11_order 142 = .ok (.ishl, 1) := by decide +kernel
theorem dX11_order_143 : decode cX11_order 143 = .ok (.ior, 1) := by decide +kernel
theorem dX11_order_144 : decode cX11_order 144 = .ok (.istore_n 3, 1) := by decide +kernel
theorem dX11_order_145 : decode cX11_order 145 = .ok (.iload 7, 2) := by decide +kernel
theorem dX11_order_147 : decode cX11_order 147 = .ok (.istore 4, 2) := by decide +kernel
theorem dX11_order_149 : decode cX11_order 149 = .ok (.iload 6, 2) := by decide +kernel
theorem dX11_order_151 : decode cX11_order 151 = .ok (.iload_n 2, 1) := by decide +kernel
theorem dX11_order_152 : decode cX11_order 152 = .ok (.if_icmp .ne 11, 3) := by decide +kernel
theorem dX11_order_155 : decode cX11_order 155 = .ok (.aload_n 0, 1) := by decide +kernel
theorem dX11_order_156 : decode cX11_order 156 = .ok (.getfield 97, 3) := by decide +kernel
theorem dX11_order_159 : decode cX11_order 159 = .ok (.iload 7, 2) := by decide +kernel
theorem dX11_order_161 : decode cX11_order 161 = .ok (.iaload, 1) := by decide +kernel
theorem dX11_order_162 : decode cX11_order 162 = .ok (.ireturn, 1) := by decide +kernel
theorem dX11_order_163 : decode cX11_order 163 = .ok (.iinc 6 1, 3) := by decide +kernel
theorem dX11_order_166 : decode cX11_order 166 = .ok (.goto (-134), 3) := by decide +kernel
theorem dX11_order_169 : decode cX11_order 169 = .ok (.iload 5, 2) := by decide +kernel
theorem dX11_order_171 : decode cX11_order 171 = .ok (.ireturn, 1) := by decide +kernel
theorem dX11_recall_0 : decode cX11_recall 0 = .ok (.iload_n 1, 1) := by decide +kernel
theorem dX11_recall_1 : decode cX11_recall 1 = .ok (.iconst 0, 1) := by decide +kernel
theorem dX11_recall_2 : decode cX11_recall 2 = .ok (.aload_n 0, 1) := by decide +kernel
theorem dX11_recall_3 : decode cX11_recall 3 = .ok (.getfield 161, 3) := by decide +kernel
theorem dX11_recall_6 : decode cX11_recall 6 = .ok (.iconst 1, 1) := by decide +kernel
theorem dX11_recall_7 : decode cX11_recall 7 = .ok (.isub, 1) := by decide +kernel
theorem dX11_recall_8 : decode cX11_recall 8 = .ok (.invokestatic 156, 3) := by decide +kernel
theorem dX11_recall_11 : decode cX11_recall 11 = .ok (.ifCond .eq 12, 3) := by decide +kernel
theorem dX11_recall_14 : decode cX11_recall 14 = .ok (.iload_n 2, 1) := by decide +kernel
theorem dX11_recall_15 : decode cX11_recall 15 = .ok (.iconst 0, 1) := by decide +kernel
theorem dX11_recall_16 : decode cX11_recall 16 = .ok (.iconst 2, 1) := by decide +kernel
theorem dX11_recall_17 : decode cX11_recall 17 = .ok (.invokestatic 156, 3) := by decide +kernel
theorem dX11_recall_20 : decode cX11_recall 20 = .ok (.ifCond .ne 5, 3) := by decide +kernel
theorem dX11_recall_23 : decode cX11_recall 23 = .ok (.iconst (-1), 1) := by decide +kernel
theorem dX11_recall_24 : decode cX11_recall 24 = .ok (.ireturn, 1) := by decide +kernel
theorem dX11_recall_25 : decode cX11_recall 25 = .ok (.iload_n 2, 1) := by decide +kernel
theorem dX11_recall_26 : decode cX11_recall 26 = .ok (.ifCond .ne 10, 3) := by decide +kernel
theorem dX11_recall_29 : decode cX11_recall 29 = .ok (.aload_n 0, 1) := by decide +kernel
theorem dX11_recall_30 : decode cX11_recall 30 = .ok (.getfield 153, 3) := by decide +kernel
theorem dX11_recall_33 : decode cX11_recall 33 = .ok (.goto 19, 3) := by decide +kernel
theorem dX11_recall_36 : decode cX11_recall 36 = .ok (.iload_n 2, 1) := by decide +kernel
theorem dX11_recall_37 : decode cX11_recall 37 = .ok (.iconst 1, 1) := by decide +kernel
theorem dX11_recall_38 : decode cX11_recall 38 = .ok (.if_icmp .ne 10, 3) := by decide +kernel
theorem dX11_recall_41 : decode cX11_recall 41 = .ok (.aload_n 0, 1) := by decide +kernel
theorem dX11_recall_42 : decode cX11_recall 42 = .ok (.getfield 203, 3) := by decide +kernel
theorem dX11_recall_45 : decode cX11_recall 45 = .ok (.goto 7, 3) := by decide +kernel
theorem dX11_recall_48 : decode cX11_recall 48 = .ok (.aload_n 0, 1) := by decide +kernel
theorem dX11_recall_49 : decode cX11_recall 49 = .ok (.getfield 235, 3) := by decide +kernel
theorem dX11_recall_52 : decode cX11_recall 52 = .ok (.istore 4, 2) := by decide +kernel
theorem dX11_recall_54 : decode cX11_recall 54 = .ok (.iconst 0, 1) := by decide +kernel
theorem dX11_recall_55 : decode cX11_recall 55 = .ok (.istore 5, 2) := by decide +kernel
theorem dX11_recall_57 : decode cX11_recall 57 = .ok (.iconst 0, 1) := by decide +kernel
theorem dX11_recall_58 : decode cX11_recall 58 = .ok (.istore 6, 2) := by decide +kernel
theorem dX11_recall_60 : decode cX11_recall 60 = .ok (.iload 6, 2) := by decide +kernel
theorem dX11_recall_62 : decode cX11_recall 62 = .ok (.iload 4, 2) := by decide +kernel
theorem dX11_recall_64 : decode cX11_recall 64 = .ok (.if_icmp .ge 35, 3) := by decide +kernel
theorem dX11_recall_67 : decode cX11_recall 67 = .ok (.aload_n 0, 1) := by decide +kernel
theorem dX11_recall_68 : decode cX11_recall 68 = .ok (.iload_n 2, 1) := by decide +kernel
theorem dX11_recall_69 : decode cX11_recall 69 = .ok (.iload 6, 2) := by decide +kernel
theorem dX11_recall_71 : decode cX11_recall 71 = .ok (.iload_n 1, 1) := by decide +kernel
theorem dX11_recall_72 : decode cX11_recall 72 = .ok (.invokevirtual 295, 3) := by decide +kernel
theorem dX11_recall_75 : decode cX11_recall 75 = .ok (.ifCond .ne 6, 3) := by decide +kernel
theorem dX11_recall_78 : decode cX11_recall 78 = .ok (.goto 15, 3) := by decide +kernel
theorem dX11_recall_81 : decode cX11_recall 81 = .ok (.iload 5, 2) := by decide +kernel
theorem dX11_recall_83 : decode cX11_recall 83 = .ok (.iload_n 3, 1) := by decide +kernel
theorem dX11_recall_84 : decode cX11_recall 84 = .ok (.if_icmp .ne 6, 3) := by decide +kernel
theorem dX11_recall_87 : decode cX11_recall 87 = .ok (.iload 6, 2) := by decide +kernel
theorem dX11_recall_89 : decode cX11_recall 89 = .ok (.ireturn, 1) := by decide +kernel
theorem dX11_recall_90 : decode cX11_recall 90 = .ok (.iinc 5 1, 3) := by decide +kernel
theorem dX11_recall_93 : decode cX11_recall 93 = .ok (.iinc 6 1, 3) := by decide +kernel
theorem dX11_recall_96 : decode cX11_recall 96 = .ok (.goto (-36), 3) := by decide +kernel
theorem dX11_recall_99 : decode cX11_recall 99 = .ok (.iconst (-1), 1) := by decide +kernel
theorem dX11_recall_100 : decode cX11_recall 100 = .ok (.ireturn, 1) := by decide +kernel
theorem dX11_about_0 : decode cX11_about 0 = .ok (.iconst 0, 1) := by decide +kernel
theorem dX11_about_1 : decode cX11_about 1 = .ok (.istore_n 2, 1) := by decide +kernel
theorem dX11_about_2 : decode cX11_about 2 = .ok (.iconst 0, 1) := by decide +kernel
theorem dX11_about_3 : decode cX11_about 3 = .ok (.istore_n 3, 1) := by decide +kernel
theorem dX11_about_4 : decode cX11_about 4 = .ok (.iload_n 3, 1) := by decide +kernel
theorem dX11_about_5 : decode cX11_about 5 = .ok (.aload_n 0, 1) := by decide +kernel
theorem dX11_about_6 : decode cX11_about 6 = .ok (.getfield 203, 3) := by decide +kernel
theorem dX11_about_9 : decode cX11_about 9 = .ok (.if_icmp .ge 25, 3) := by decide +kernel
theorem dX11_about_12 : decode cX11_about 12 = .ok (.iload_n 2, 1) := by decide +kernel
theorem dX11_about_13 : decode cX11_about 13 = .ok (.aload_n 0, 1) := by decide +kernel
theorem dX11_about_14 : decode cX11_about 14 = .ok (.iload_n 3, 1) := by decide +kernel
theorem dX11_about_15 : decode cX11_about 15 = .ok (.invokevirtual 216, 3) := by decide +kernel
theorem dX11_about_18 : decode cX11_about 18 = .ok (.ifCond .eq 7, 3) := by decide +kernel
theorem dX11_about_21 : decode cX11_about 21 = .ok (.iconst 1, 1) := by decide +kernel
theorem dX11_about_22 : decode cX11_about 22 = .ok (.goto 4, 3) := by decide +kernel
theorem dX11_about_25 : decode cX11_about 25 = .ok (.iconst 0, 1) := by decide +kernel
theorem dX11_about_26 : decode cX11_about 26 = .ok (.iadd, 1) := by decide +kernel
theorem dX11_about_27 : decode cX11_about 27 = .ok (.istore_n 2, 1) := by decide +kernel
theorem dX11_about_28 : decode cX11_about 28 = .ok (.iinc 3 1, 3) := by decide +kernel
theorem dX11_about_31 : decode cX11_about 31 = .ok (.goto (-27), 3) := by decide +kernel
theorem dX11_about_34 : decode cX11_about 34 = .ok (.iload_n 1, 1) := by decide +kernel
theorem dX11_about_35 : decode cX11_about 35 = .ok (.tableswitch 73 0 6 #[41, 46, 51, 56, 61, 66, 71], 41) := by decide +kernel
theorem dX11_about_76 : decode cX11_about 76 = .ok (.aload_n 0, 1) := by decide +kernel
theorem dX11_about_77 : decode cX11_about 77 = .ok (.getfield 161, 3) := by decide +kernel
theorem dX11_about_80 : decode cX11_about 80 = .ok (.ireturn, 1) := by decide +kernel
theorem dX11_about_81 : decode cX11_about 81 = .ok (.aload_n 0, 1) := by decide +kernel
theorem dX11_about_82 : decode cX11_about 82 = .ok (.getfield 153, 3) := by decide +kernel
theorem dX11_about_85 : decode cX11_about 85 = .ok (.ireturn, 1) := by decide +kernel
theorem dX11_about_86 : decode cX11_about 86 = .ok (.aload_n 0, 1) := by decide +kernel
theorem dX11_about_87 : decode cX11_about 87 = .ok (.getfield 203, 3) := by decide +kernel
theorem dX11_about_90 : decode cX11_about 90 = .ok (.ireturn, 1) := by decide +kernel
theorem dX11_about_91 : decode cX11_about 91 = .ok (.aload_n 0, 1) := by decide +kernel
theorem dX11_about_92 : decode cX11_about 92 = .ok (.getfield 235, 3) := by decide +kernel
theorem dX11_about_95 : decode cX11_about 95 = .ok (.ireturn, 1) := by decide +kernel
theorem dX11_about_96 : decode cX11_about 96 = .ok (.aload_n 0, 1) := by decide +kernel
theorem dX11_about_97 : decode cX11_about 97 = .ok (.getfield 175, 3) := by decide +kernel
theorem dX11_about_100 : decode cX11_about 100 = .ok (.ireturn, 1) := by decide +kernel
theorem dX11_about_101 : decode cX11_about 101 = .ok (.aload_n 0, 1) := by decide +kernel
theorem dX11_about_102 : decode cX11_about 102 = .ok (.getfield 274, 3) := by decide +kernel
theorem dX11_about_105 : decode cX11_about 105 = .ok (.ireturn, 1) := by decide +kernel
theorem dX11_about_106 : decode cX11_about 106 = .ok (.iload_n 2, 1) := by decide +kernel
theorem dX11_about_107 : decode cX11_about 107 = .ok (.ireturn, 1) := by decide +kernel
theorem dX11_about_108 : decode cX11_about 108 = .ok (.iconst (-1), 1) := by decide +kernel
theorem dX11_about_109 : decode cX11_about 109 = .ok (.ireturn, 1) := by decide +kernel
theorem dX11_left_0 : decode cX11_left 0 = .ok (.iload_n 1, 1) := by decide +kernel
theorem dX11_left_1 : decode cX11_left 1 = .ok (.iconst 0, 1) := by decide +kernel
theorem dX11_left_2 : decode cX11_left 2 = .ok (.aload_n 0, 1) := by decide +kernel
theorem dX11_left_3 : decode cX11_left 3 = .ok (.getfield 161, 3) := by decide +kernel
theorem dX11_left_6 : decode cX11_left 6 = .ok (.iconst 1, 1) := by decide +kernel
theorem dX11_left_7 : decode cX11_left 7 = .ok (.isub, 1) := by decide +kernel
theorem dX11_left_8 : decode cX11_left 8 = .ok (.invokestatic 156, 3) := by decide +kernel
theorem dX11_left_11 : decode cX11_left 11 = .ok (.ifCond .eq 12, 3) := by decide +kernel
theorem dX11_left_14 : decode cX11_left 14 = .ok (.aload_n 0, 1) := by decide +kernel
theorem dX11_left_15 : decode cX11_left 15 = .ok (.getfield 7, 3) := by decide +kernel
theorem dX11_left_18 : decode cX11_left 18 = .ok (.iload_n 1, 1) := by decide +kernel
theorem dX11_left_19 : decode cX11_left 19 = .ok (.iaload, 1) := by decide +kernel
theorem dX11_left_20 : decode cX11_left 20 = .ok (.goto 4, 3) := by decide +kernel
theorem dX11_left_23 : decode cX11_left 23 = .ok (.iconst (-1), 1) := by decide +kernel
theorem dX11_left_24 : decode cX11_left 24 = .ok (.ireturn, 1) := by decide +kernel
end
section
theorem dL_law_0 : decode cL_law 0 = .ok (.new 7, 3) := by decide +kernel
theorem dL_law_3 : decode cL_law 3 = .ok (.dup, 1) := by decide +kernel
theorem dL_law_4 : decode cL_law 4 = .ok (.invokespecial 9, 3) := by decide +kernel
theorem dL_law_7 : decode cL_law 7 = .ok (.astore_n 1, 1) := by decide +kernel
theorem dL_law_8 : decode cL_law 8 = .ok (.new 10, 3) := by decide +kernel
theorem dL_law_11 : decode cL_law 11 = .ok (.dup, 1) := by decide +kernel
theorem dL_law_12 : decode cL_law 12 = .ok (.invokespecial 12, 3) := by decide +kernel
theorem dL_law_15 : decode cL_law 15 = .ok (.astore_n 2, 1) := by decide +kernel
theorem dL_law_16 : decode cL_law 16 = .ok (.iconst 0, 1) := by decide +kernel
theorem dL_law_17 : decode cL_law 17 = .ok (.istore_n 3, 1) := by decide +kernel
theorem dL_law_18 : decode cL_law 18 = .ok (.iload_n 3, 1) := by decide +kernel
theorem dL_law_19 : decode cL_law 19 = .ok (.aload_n 0, 1) := by decide +kernel
theorem dL_law_20 : decode cL_law 20 = .ok (.arraylength, 1) := by decide +kernel
theorem dL_law_21 : decode cL_law 21 = .ok (.bipush 7, 2) := by decide +kernel
theorem dL_law_23 : decode cL_law 23 = .ok (.isub, 1) := by decide +kernel
theorem dL_law_24 : decode cL_law 24 = .ok (.if_icmp .gt 1301, 3) := by decide +kernel
theorem dL_law_27 : decode cL_law 27 = .ok (.aload_n 0, 1) := by decide +kernel
theorem dL_law_28 : decode cL_law 28 = .ok (.iload_n 3, 1) := by decide +kernel
theorem dL_law_29 : decode cL_law 29 = .ok (.iaload, 1) := by decide +kernel
theorem dL_law_30 : decode cL_law 30 = .ok (.bipush 31, 2) := by decide +kernel
theorem dL_law_32 : decode cL_law 32 = .ok (.iand, 1) := by decide +kernel
theorem dL_law_33 : decode cL_law 33 = .ok (.tableswitch 1286 0 30 #[139, 172, 195, 238, 281, 324, 383, 416, 449, 492, 525, 548, 571, 604, 679, 712, 755, 798, 841, 864, 887, 920, 953, 996, 1049, 1082, 1125, 1148, 1197, 1240, 1263], 139) := by decide +kernel
theorem dL_law_172 : decode cL_law 172 = .ok (.aload_n 1, 1) := by decide +kernel
theorem dL_law_173 : decode cL_law 173 = .ok (.aload_n 0, 1) := by decide +kernel
theorem dL_law_174 : decode cL_law 174 = .ok (.iload_n 3, 1) := by decide +kernel
theorem dL_law_175 : decode cL_law 175 = .ok (.iconst 1, 1) := by decide +kernel
theorem dL_law_176 : decode cL_law 176 = .ok (.iadd, 1) := by decide +kernel
theorem dL_law_177 : decode cL_law 177 = .ok (.iaload, 1) := by decide +kernel
theorem dL_law_178 : decode cL_law 178 = .ok (.aload_n 0, 1) := by decide +kernel
theorem dL_law_179 : decode cL_law 179 = .ok (.iload_n 3, 1) := by decide +kernel
theorem dL_law_180 : decode cL_law 180 = .ok (.iconst 2, 1) := by decide +kernel
theorem dL_law_181 : decode cL_law 181 = .ok (.iadd, 1) := by decide +kernel
theorem dL_law_182 : decode cL_law 182 = .ok (.iaload, 1) := by decide +kernel
theorem dL_law_183 : decode cL_law 183 = .ok (.invokevirtual 13, 3) := by decide +kernel
theorem dL_law_186 : decode cL_law 186 = .ok (.aload_n 2, 1) := by decide +kernel
theorem dL_law_187 : decode cL_law 187 = .ok (.aload_n 0, 1) := by decide +kernel
theorem dL_law_188 : decode cL_law 188 = .ok (.iload_n 3, 1) := by decide +kernel
theorem dL_law_189 : decode cL_law 189 = .ok (.iconst 1, 1) := by decide +kernel
theorem dL_law_190 : decode cL_law 190 = .ok (.iadd, 1) := by decide +kernel
theorem dL_law_191 : decode cL_law 191 = .ok (.iaload, 1) := by decide +kernel
theorem dL_law_192 : decode cL_law 192 = .ok (.aload_n 0, 1) := by decide +kernel
theorem dL_law_193 : decode cL_law 193 = .ok (.iload_n 3, 1) := by decide +kernel
theorem dL_law_194 : decode cL_law 194 = .ok (.iconst 2, 1) := by decide +kernel
theorem dL_law_195 : decode cL_law 195 = .ok (.iadd, 1) := by decide +kernel
theorem dL_law_196 : decode cL_law 196 = .ok (.iaload, 1) := by decide +kernel
theorem dL_law_197 : decode cL_law 197 = .ok (.invokevirtual 17, 3) := by decide +kernel
theorem dL_law_200 : decode cL_law 200 = .ok (.if_icmp .eq 1119, 3) := by decide +kernel
theorem dL_law_203 : decode cL_law 203 = .ok (.iconst 0, 1) := by decide +kernel
theorem dL_law_204 : decode cL_law 204 = .ok (.ireturn, 1) := by decide +kernel
theorem dL_law_205 : decode cL_law 205 = .ok (.aload_n 1, 1) := by decide +kernel
theorem dL_law_206 : decode cL_law 206 = .ok (.aload_n 0, 1) := by decide +kernel
theorem dL_law_207 : decode cL_law 207 = .ok (.iload_n 3, 1) := by decide +kernel
theorem dL_law_208 : decode cL_law 208 = .ok (.iconst 1, 1) := by decide +kernel
theorem dL_law_209 : decode cL_law 209 = .ok (.iadd, 1) := by decide +kernel
theorem dL_law_210 : decode cL_law 210 = .ok (.iaload, 1) := by decide +kernel
theorem dL_law_211 : decode cL_law 211 = .ok (.invokevirtual 18, 3) := by decide +kernel
theorem dL_law_214 : decode cL_law 214 = .ok (.aload_n 2, 1) := by decide +kernel
theorem dL_law_215 : decode cL_law 215 = .ok (.aload_n 0, 1) := by decide +kernel
theorem dL_law_216 : decode cL_law 216 = .ok (.iload_n 3, 1) := by decide +kernel
theorem dL_law_217 : decode cL_law 217 = .ok (.iconst 1, 1) := by decide +kernel
theorem dL_law_218 : decode cL_law 218 = .ok (.iadd, 1) := by decide +kernel
theorem dL_law_219 : decode cL_law 219 = .ok (.iaload, 1) := by decide +kernel
theorem dL_law_220 : decode cL_law 220 = .ok (.invokevirtual 22, 3) := by decide +kernel
theorem dL_law_223 : decode cL_law 223 = .ok (.if_icmp .eq 1096, 3) := by decide +kernel
theorem dL_law_226 : decode cL_law 226 = .ok (.iconst 0, 1) := by decide +kernel
theorem dL_law_227 : decode cL_law 227 = .ok (.ireturn, 1) := by decide +kernel
theorem dL_law_228 : decode cL_law 228 = .ok (.aload_n 1, 1) := by decide +kernel
theorem dL_law_229 : decode cL_law 229 = .ok (.aload_n 0, 1) := by decide +kernel
theorem dL_law_230 : decode cL_law 230 = .ok (.iload_n 3, 1) := by decide +kernel
theorem dL_law_231 : decode cL_law 231 = .ok (.iconst 1, 1) := by decide +kernel
theorem dL_law_232 : decode cL_law 232 = .ok (.iadd, 1) := by decide +kernel
theorem dL_law_233 : decode cL_law 233 = .ok (.iaload, 1) := by decide +kernel
theorem dL_law_234 : decode cL_law 234 = .ok (.aload_n 0, 1) := by decide +kernel
theorem dL_law_235 : decode cL_law 235 = .ok (.iload_n 3, 1) := by decide +kernel
theorem dL_law_236 : decode cL_law 236 = .ok (.iconst 2, 1) := by decide +kernel
theorem dL_law_237 : decode cL_law 237 = .ok (.iadd, 1) := by decide +kernel
theorem dL_law_238 : decode cL_law 238 = .ok (.iaload, 1) := by decide +kernel
theorem dL_law_239 : decode cL_law 239 = .ok (.aload_n 0, 1) := by decide +kernel
theorem dL_law_240 : decode cL_law 240 = .ok (.iload_n 3, 1) := by decide +kernel
theorem dL_law_241 : decode cL_law 241 = .ok (.iconst 3, 1) := by decide +kernel
theorem dL_law_242 : decode cL_law 242 = .ok (.iadd, 1) := by decide +kernel
theorem dL_law_243 : decode cL_law 243 = .ok (.iaload, 1) := by decide +kernel
theorem dL_law_244 : decode cL_law 244 = .ok (.invokevirtual 23, 3) := by decide +kernel
theorem dL_law_247 : decode cL_law 247 = .ok (.aload_n 2, 1) := by decide +kernel
theorem dL_law_248 : decode cL_law 248 = .ok (.aload_n 0, 1) := by decide +kernel
theorem dL_law_249 : decode cL_law 249 = .ok (.iload_n 3, 1) := by decide +kernel
theorem dL_law_250 : decode cL_law 250 = .ok (.iconst 1, 1) := by decide +kernel
theorem dL_law_251 : decode cL_law 251 = .ok (.iadd, 1) := by decide +kernel
theorem dL_law_252 : decode cL_law 252 = .ok (.iaload, 1) := by decide +kernel
theorem dL_law_253 : decode cL_law 253 = .ok (.aload_n 0, 1) := by decide +kernel
theorem dL_law_254 : decode cL_law 254 = .ok (.iload_n 3, 1) := by decide +kernel
theorem dL_law_255 : decode cL_law 255 = .ok (.iconst 2, 1) := by decide +kernel
theorem dL_law_256 : decode cL_law 256 = .ok (.iadd, 1) := by decide +kernel
theorem dL_law_257 : decode cL_law 257 = .ok (.iaload, 1) := by decide +kernel
theorem dL_law_258 : decode cL_law 258 = .ok (.aload_n 0, 1) := by decide +kernel
theorem dL_law_259 : decode cL_law 259 = .ok (.iload_n 3, 1) := by decide +kernel
theorem dL_law_260 : decode cL_law 260 = .ok (.iconst 3, 1) := by decide +kernel
theorem dL_law_261 : decode cL_law 261 = .ok (.iadd, 1) := by decide +kernel
theorem dL_law_262 : decode cL_law 262 = .ok (.iaload, 1) := by decide +kernel
theorem dL_law_263 : decode cL_law 263 = .ok (.invokevirtual 27, 3) := by decide +kernel
theorem dL_law_266 : decode cL_law 266 = .ok (.if_icmp .eq 1053, 3) := by decide +kernel
theorem dL_law_269 : decode cL_law 269 = .ok (.iconst 0, 1) := by decide +kernel
theorem dL_law_270 : decode cL_law 270 = .ok (.ireturn, 1) := by decide +kernel
theorem dL_law_271 : decode cL_law 271 = .ok (.aload_n 1, 1) := by decide +kernel
theorem dL_law_272 : decode cL_law 272 = .ok (.aload_n 0, 1) := by decide +kernel
theorem dL_law_273 : decode cL_law 273 = .ok (.iload_n 3, 1) := by decide +kernel
theorem dL_law_274 : decode cL_law 274 = .ok (.iconst 1, 1) := by decide +kernel
theorem dL_law_275 : decode cL_law 275 = .ok (.iadd, 1) := by decide +kernel
theorem dL_law_276 : decode cL_law 276 = .ok (.iaload, 1) := by decide +kernel
theorem dL_law_277 : decode cL_law 277 = .ok (.aload_n 0, 1) := by decide +kernel
theorem dL_law_278 : decode cL_law 278 = .ok (.iload_n 3, 1) := by decide +kernel
theorem dL_law_279 : decode cL_law 279 = .ok (.iconst 2, 1) := by decide +kernel
theorem dL_law_280 : decode cL_law 280 = .ok (.iadd, 1) := by decide +kernel
theorem dL_law_281 : decode cL_law 281 = .ok (.iaload, 1) := by decide +kernel
theorem dL_law_282 : decode cL_law 282 = .ok (.aload_n 0, 1) := by decide +kernel
theorem dL_law_283 : decode cL_law 283 = .ok (.iload_n 3, 1) := by decide +kernel
theorem dL_law_284 : decode cL_law 284 = .ok (.iconst 3, 1) := by decide +kernel
theorem dL_law_285 : decode cL_law 285 = .ok (.iadd, 1) := by decide +kernel
theorem dL_law_286 : decode cL_law 286 = .ok (.iaload, 1) := by decide +kernel
theorem dL_law_287 : decode cL_law 287 = .ok (.invokevirtual 28, 3) := by decide +kernel
theorem dL_law_290 : decode cL_law 290 = .ok (.aload_n 2, 1) := by decide +kernel
theorem dL_law_291 : decode cL_law 291 = .ok (.aload_n 0, 1) := by decide +kernel
theorem dL_law_292 : decode cL_law 292 = .ok (.iload_n 3, 1) := by decide +kernel
theorem dL_law_293 : decode cL_law 293 = .ok (.iconst 1, 1) := by decide +kernel
theorem dL_law_294 : decode cL_law 294 = .ok (.iadd, 1) := by decide +kernel
theorem dL_law_295 : decode cL_law 295 = .ok (.iaload, 1) := by decide +kernel
theorem dL_law_296 : decode cL_law 296 = .ok (.aload_n 0, 1) := by decide +kernel
theorem dL_law_297 : decode cL_law 297 = .ok (.iload_n 3, 1) := by decide +kernel
theorem dL_law_298 : decode cL_law 298 = .ok (.iconst 2, 1) := by decide +kernel
theorem dL_law_299 : decode cL_law 299 = .ok (.iadd, 1) := by decide +kernel
theorem dL_law_300 : decode cL_law 300 = .ok (.iaload, 1) := by decide +kernel
theorem dL_law_301 : decode cL_law 301 = .ok (.aload_n 0, 1) := by decide +kernel
theorem dL_law_302 : decode cL_law 302 = .ok (.iload_n 3, 1) := by decide +kernel
theorem dL_law_303 : decode cL_law 303 = .ok (.iconst 3, 1) := by decide +kernel
theorem dL_law_304 : decode cL_law 304 = .ok (.iadd, 1) := by decide +kernel
theorem dL_law_305 : decode cL_law 305 = .ok (.iaload, 1) := by decide +kernel
theorem dL_law_306 : decode cL_law 306 = .ok (.invokevirtual 32, 3) := by decide +kernel
theorem dL_law_309 : decode cL_law 309 = .ok (.if_icmp .eq 1010, 3) := by decide +kernel
theorem dL_law_312 : decode cL_law 312 = .ok (.iconst 0, 1) := by decide +kernel
theorem dL_law_313 : decode cL_law 313 = .ok (.ireturn, 1) := by decide +kernel
theorem dL_law_314 : decode cL_law 314 = .ok (.aload_n 1, 1) := by decide +kernel
theorem dL_law_315 : decode cL_law 315 = .ok (.aload_n 0, 1) := by decide +kernel
theorem dL_law_316 : decode cL_law 316 = .ok (.iload_n 3, 1) := by decide +kernel
theorem dL_law_317 : decode cL_law 317 = .ok (.iconst 1, 1) := by decide +kernel
theorem dL_law_318 : decode cL_law 318 = .ok (.iadd, 1) := by decide +kernel
theorem dL_law_319 : decode cL_law 319 = .ok (.iaload, 1) := by decide +kernel
theorem dL_law_320 : decode cL_law 320 = .ok (.aload_n 0, 1) := by decide +kernel
theorem dL_law_321 : decode cL_law 321 = .ok (.iload_n 3, 1) := by decide +kernel
theorem dL_law_322 : decode cL_law 322 = .ok (.iconst 2, 1) := by decide +kernel
theorem dL_law_323 : decode cL_law 323 = .ok (.iadd, 1) := by decide +kernel
theorem dL_law_324 : decode cL_law 324 = .ok (.iaload, 1) := by decide +kernel
theorem dL_law_325 : decode cL_law 325 = .ok (.aload_n 0, 1) := by decide +kernel
theorem dL_law_326 : decode cL_law 326 = .ok (.iload_n 3, 1) := by decide +kernel
theorem dL_law_327 : decode cL_law 327 = .ok (.iconst 3, 1) := by decide +kernel
theorem dL_law_328 : decode cL_law 328 = .ok (.iadd, 1) := by decide +kernel
theorem dL_law_329 : decode cL_law 329 = .ok (.iaload, 1) := by decide +kernel
theorem dL_law_330 : decode cL_law 330 = .ok (.invokevirtual 33, 3) := by decide +kernel
theorem dL_law_333 : decode cL_law 333 = .ok (.aload_n 2, 1) := by decide +kernel
theorem dL_law_334 : decode cL_law 334 = .ok (.aload_n 0, 1) := by decide +kernel
theorem dL_law_335 : decode cL_law 335 = .ok (.iload_n 3, 1) := by decide +kernel
theorem dL_law_336 : decode cL_law 336 = .ok (.iconst 1, 1) := by decide +kernel
theorem dL_law_337 : decode cL_law 337 = .ok (.iadd, 1) := by decide +kernel
theorem dL_law_338 : decode cL_law 338 = .ok (.iaload, 1) := by decide +kernel
theorem dL_law_339 : decode cL_law 339 = .ok (.aload_n 0, 1) := by decide +kernel
theorem dL_law_340 : decode cL_law 340 = .ok (.iload_n 3, 1) := by decide +kernel
theorem dL_law_341 : decode cL_law 341 = .ok (.iconst 2, 1) := by decide +kernel
theorem dL_law_342 : decode cL_law 342 = .ok (.iadd, 1) := by decide +kernel
theorem dL_law_343 : decode cL_law 343 = .ok (.iaload, 1) := by decide +kernel
theorem dL_law_344 : decode cL_law 344 = .ok (.aload_n 0, 1) := by decide +kernel
theorem dL_law_345 : decode cL_law 345 = .ok (.iload_n 3, 1) := by decide +kernel
theorem dL_law_346 : decode cL_law 346 = .ok (.iconst 3, 1) := by decide +kernel
theorem dL_law_347 : decode cL_law 347 = .ok (.iadd, 1) := by decide +kernel
theorem dL_law_348 : decode cL_law 348 = .ok (.iaload, 1) := by decide +kernel
theorem dL_law_349 : decode cL_law 349 = .ok (.invokevirtual 36, 3) := by decide +kernel
theorem dL_law_352 : decode cL_law 352 = .ok (.if_icmp .eq 967, 3) := by decide +kernel
theorem dL_law_355 : decode cL_law 355 = .ok (.iconst 0, 1) := by decide +kernel
theorem dL_law_356 : decode cL_law 356 = .ok (.ireturn, 1) := by decide +kernel
theorem dL_law_357 : decode cL_law 357 = .ok (.aload_n 1, 1) := by decide +kernel
theorem dL_law_358 : decode cL_law 358 = .ok (.aload_n 0, 1) := by decide +kernel
theorem dL_law_359 : decode cL_law 359 = .ok (.iload_n 3, 1) := by decide +kernel
theorem dL_law_360 : decode cL_law 360 = .ok (.iconst 1, 1) := by decide +kernel
theorem dL_law_361 : decode cL_law 361 = .ok (.iadd, 1) := by decide +kernel
theorem dL_law_362 : decode cL_law 362 = .ok (.iaload, 1) := by decide +kernel
theorem dL_law_363 : decode cL_law 363 = .ok (.aload_n 0, 1) := by decide +kernel
theorem dL_law_364 : decode cL_law 364 = .ok (.iload_n 3, 1) := by decide +kernel
theorem dL_law_365 : decode cL_law 365 = .ok (.iconst 2, 1) := by decide +kernel
theorem dL_law_366 : decode cL_law 366 = .ok (.iadd, 1) := by decide +kernel
theorem dL_law_367 : decode cL_law 367 = .ok (.iaload, 1) := by decide +kernel
theorem dL_law_368 : decode cL_law 368 = .ok (.aload_n 0, 1) := by decide +kernel
theorem dL_law_369 : decode cL_law 369 = .ok (.iload_n 3, 1) := by decide +kernel
theorem dL_law_370 : decode cL_law 370 = .ok (.iconst 3, 1) := by decide +kernel
theorem dL_law_371 : decode cL_law 371 = .ok (.iadd, 1) := by decide +kernel
theorem dL_law_372 : decode cL_law 372 = .ok (.iaload, 1) := by decide +kernel
theorem dL_law_373 : decode cL_law 373 = .ok (.ifCond .eq 7, 3) := by decide +kernel
theorem dL_law_376 : decode cL_law 376 = .ok (.iconst 1, 1) := by decide +kernel
theorem dL_law_377 : decode cL_law 377 = .ok (.goto 4, 3) := by decide +kernel
theorem dL_law_380 : decode cL_law 380 = .ok (.iconst 0, 1) := by decide +kernel
theorem dL_law_381 : decode cL_law 381 = .ok (.invokevirtual 37, 3) := by decide +kernel
theorem dL_law_384 : decode cL_law 384 = .ok (.aload_n 2, 1) := by decide +kernel
theorem dL_law_385 : decode cL_law 385 = .ok (.aload_n 0, 1) := by decide +kernel
theorem dL_law_386 : decode cL_law 386 = .ok (.iload_n 3, 1) := by decide +kernel
theorem dL_law_387 : decode cL_law 387 = .ok (.iconst 1, 1) := by decide +kernel
theorem dL_law_388 : decode cL_law 388 = .ok (.iadd, 1) := by decide +kernel
theorem dL_law_389 : decode cL_law 389 = .ok (.iaload, 1) := by decide +kernel
theorem dL_law_390 : decode cL_law 390 = .ok (.aload_n 0, 1) := by decide +kernel
theorem dL_law_391 : decode cL_law 391 = .ok (.iload_n 3, 1) := by decide +kernel
theorem dL_law_392 : decode cL_law 392 = .ok (.iconst 2, 1) := by decide +kernel
theorem dL_law_393 : decode cL_law 393 = .ok (.iadd, 1) := by decide +kernel
theorem dL_law_394 : decode cL_law 394 = .ok (.iaload, 1) := by decide +kernel
theorem dL_law_395 : decode cL_law 395 = .ok (.aload_n 0, 1) := by decide +kernel
theorem dL_law_396 : decode cL_law 396 = .ok (.iload_n 3, 1) := by decide +kernel
theorem dL_law_397 : decode cL_law 397 = .ok (.iconst 3, 1) := by decide +kernel
theorem dL_law_398 : decode cL_law 398 = .ok (.iadd, 1) := by decide +kernel
theorem dL_law_399 : decode cL_law 399 = .ok (.iaload, 1) := by decide +kernel
theorem dL_law_400 : decode cL_law 400 = .ok (.ifCond .eq 7, 3) := by decide +kernel
theorem dL_law_403 : decode cL_law 403 = .ok (.iconst 1, 1) := by decide +kernel
theorem dL_law_404 : decode cL_law 404 = .ok (.goto 4, 3) := by decide +kernel
theorem dL_law_407 : decode cL_law 407 = .ok (.iconst 0, 1) := by decide +kernel
theorem dL_law_408 : decode cL_law 408 = .ok (.invokevirtual 41, 3) := by decide +kernel
theorem dL_law_411 : decode cL_law 411 = .ok (.if_icmp .eq 908, 3) := by decide +kernel
theorem dL_law_414 : decode cL_law 414 = .ok (.iconst 0, 1) := by decide +kernel
theorem dL_law_415 : decode cL_law 415 = .ok (.ireturn, 1) := by decide +kernel
theorem dL_law_416 : decode cL_law 416 = .ok (.aload_n 1, 1) := by decide +kernel
theorem dL_law_417 : decode cL_law 417 = .ok (.aload_n 0, 1) := by decide +kernel
theorem dL_law_418 : decode cL_law 418 = .ok (.iload_n 3, 1) := by decide +kernel
theorem dL_law_419 : decode cL_law 419 = .ok (.iconst 1, 1) := by decide +kernel
theorem dL_law_420 : decode cL_law 420 = .ok (.iadd, 1) := by decide +kernel
theorem dL_law_421 : decode cL_law 421 = .ok (.iaload, 1) := by decide +kernel
theorem dL_law_422 : decode cL_law 422 = .ok (.aload_n 0, 1) := by decide +kernel
theorem dL_law_423 : decode cL_law 423 = .ok (.iload_n 3, 1) := by decide +kernel
theorem dL_law_424 : decode cL_law 424 = .ok (.iconst 2, 1) := by decide +kernel
theorem dL_law_425 : decode cL_law 425 = .ok (.iadd, 1) := by decide +kernel
theorem dL_law_426 : decode cL_law 426 = .ok (.iaload, 1) := by decide +kernel
theorem dL_law_427 : decode cL_law 427 = .ok (.invokevirtual 42, 3) := by decide +kernel
theorem dL_law_430 : decode cL_law 430 = .ok (.aload_n 2, 1) := by decide +kernel
theorem dL_law_431 : decode cL_law 431 = .ok (.aload_n 0, 1) := by decide +kernel
theorem dL_law_432 : decode cL_law 432 = .ok (.iload_n 3, 1) := by decide +kernel
theorem dL_law_433 : decode cL_law 433 = .ok (.iconst 1, 1) := by decide +kernel
theorem dL_law_434 : decode cL_law 434 = .ok (.iadd, 1) := by decide +kernel
theorem dL_law_435 : decode cL_law 435 = .ok (.iaload, 1) := by decide +kernel
theorem dL_law_436 : decode cL_law 436 = .ok (.aload_n 0, 1) := by decide +kernel
theorem dL_law_437 : decode cL_law 437 = .ok (.iload_n 3, 1) := by decide +kernel
theorem dL_law_438 : decode cL_law 438 = .ok (.iconst 2, 1) := by decide +kernel
theorem dL_law_439 : decode cL_law 439 = .ok (.iadd, 1) := by decide +kernel
theorem dL_law_440 : decode cL_law 440 = .ok (.iaload, 1) := by decide +kernel
theorem dL_law_441 : decode cL_law 441 = .ok (.invokevirtual 45, 3) := by decide +kernel
theorem dL_law_444 : decode cL_law 444 = .ok (.if_icmp .eq 875, 3) := by decide +kernel
theorem dL_law_447 : decode cL_law 447 = .ok (.iconst 0, 1) := by decide +kernel
theorem dL_law_448 : decode cL_law 448 = .ok (.ireturn, 1) := by decide +kernel
theorem dL_law_449 : decode cL_law 449 = .ok (.aload_n 1, 1) := by decide +kernel
theorem dL_law_450 : decode cL_law 450 = .ok (.aload_n 0, 1) := by decide +kernel
theorem dL_law_451 : decode cL_law 451 = .ok (.iload_n 3, 1) := by decide +kernel
theorem dL_law_452 : decode cL_law 452 = .ok (.iconst 1, 1) := by decide +kernel
theorem dL_law_453 : decode cL_law 453 = .ok (.iadd, 1) := by decide +kernel
theorem dL_law_454 : decode cL_law 454 = .ok (.iaload, 1) := by decide +kernel
theorem dL_law_455 : decode cL_law 455 = .ok (.aload_n 0, 1) := by decide +kernel
theorem dL_law_456 : decode cL_law 456 = .ok (.iload_n 3, 1) := by decide +kernel
theorem dL_law_457 : decode cL_law 457 = .ok (.iconst 2, 1) := by decide +kernel
theorem dL_law_458 : decode cL_law 458 = .ok (.iadd, 1) := by decide +kernel
theorem dL_law_459 : decode cL_law 459 = .ok (.iaload, 1) := by decide +kernel
theorem dL_law_460 : decode cL_law 460 = .ok (.invokevirtual 46, 3) := by decide +kernel
theorem dL_law_463 : decode cL_law 463 = .ok (.aload_n 2, 1) := by decide +kernel
theorem dL_law_464 : decode cL_law 464 = .ok (.aload_n 0, 1) := by decide +kernel
theorem dL_law_465 : decode cL_law 465 = .ok (.iload_n 3, 1) := by decide +kernel
theorem dL_law_466 : decode cL_law 466 = .ok (.iconst 1, 1) := by decide +kernel
theorem dL_law_467 : decode cL_law 467 = .ok (.iadd, 1) := by decide +kernel
theorem dL_law_468 : decode cL_law 468 = .ok (.iaload, 1) := by decide +kernel
theorem dL_law_469 : decode cL_law 469 = .ok (.aload_n 0, 1) := by decide +kernel
theorem dL_law_470 : decode cL_law 470 = .ok (.iload_n 3, 1) := by decide +kernel
theorem dL_law_471 : decode cL_law 471 = .ok (.iconst 2, 1) := by decide +kernel
theorem dL_law_472 : decode cL_law 472 = .ok (.iadd, 1) := by decide +kernel
theorem dL_law_473 : decode cL_law 473 = .ok (.iaload, 1) := by decide +kernel
theorem dL_law_474 : decode cL_law 474 = .ok (.invokevirtual 50, 3) := by decide +kernel
theorem dL_law_477 : decode cL_law 477 = .ok (.if_icmp .eq 842, 3) := by decide +kernel
theorem dL_law_480 : decode cL_law 480 = .ok (.iconst 0, 1) := by decide +kernel
theorem dL_law_481 : decode cL_law 481 = .ok (.ireturn, 1) := by decide +kernel
theorem dL_law_482 : decode cL_law 482 = .ok (.aload_n 1, 1) := by decide +kernel
theorem dL_law_483 : decode cL_law 483 = .ok (.aload_n 0, 1) := by decide +kernel
theorem dL_law_484 : decode cL_law 484 = .ok (.iload_n 3, 1) := by decide +kernel
theorem dL_law_485 : decode cL_law 485 = .ok (.iconst 1, 1) := by decide +kernel
theorem dL_law_486 : decode cL_law 486 = .ok (.iadd, 1) := by decide +kernel
theorem dL_law_487 : decode cL_law 487 = .ok (.iaload, 1) := by decide +kernel
theorem dL_law_488 : decode cL_law 488 = .ok (.aload_n 0, 1) := by decide +kernel
theorem dL_law_489 : decode cL_law 489 = .ok (.iload_n 3, 1) := by decide +kernel
theorem dL_law_490 : decode cL_law 490 = .ok (.iconst 2, 1) := by decide +kernel
theorem dL_law_491 : decode cL_law 491 = .ok (.iadd, 1) := by decide +kernel
theorem dL_law_492 : decode cL_law 492 = .ok (.iaload, 1) := by decide +kernel
theorem dL_law_493 : decode cL_law 493 = .ok (.aload_n 0, 1) := by decide +kernel
theorem dL_law_494 : decode cL_law 494 = .ok (.iload_n 3, 1) := by decide +kernel
theorem dL_law_495 : decode cL_law 495 = .ok (.iconst 3, 1) := by decide +kernel
theorem dL_law_496 : decode cL_law 496 = .ok (.iadd, 1) := by decide +kernel
theorem dL_law_497 : decode cL_law 497 = .ok (.iaload, 1) := by decide +kernel
theorem dL_law_498 : decode cL_law 498 = .ok (.invokevirtual 51, 3) := by decide +kernel
theorem dL_law_501 : decode cL_law 501 = .ok (.aload_n 2, 1) := by decide +kernel
theorem dL_law_502 : decode cL_law 502 = .ok (.aload_n 0, 1) := by decide +kernel
theorem dL_law_503 : decode cL_law 503 = .ok (.iload_n 3, 1) := by decide +kernel
theorem dL_law_504 : decode cL_law 504 = .ok (.iconst 1, 1) := by decide +kernel
theorem dL_law_505 : decode cL_law 505 = .ok (.iadd, 1) := by decide +kernel
theorem dL_law_506 : decode cL_law 506 = .ok (.iaload, 1) := by decide +kernel
theorem dL_law_507 : decode cL_law 507 = .ok (.aload_n 0, 1) := by decide +kernel
theorem dL_law_508 : decode cL_law 508 = .ok (.iload_n 3, 1) := by decide +kernel
theorem dL_law_509 : decode cL_law 509 = .ok (.iconst 2, 1) := by decide +kernel
theorem dL_law_510 : decode cL_law 510 = .ok (.iadd, 1) := by decide +kernel
theorem dL_law_511 : decode cL_law 511 = .ok (.iaload, 1) := by decide +kernel
theorem dL_law_512 : decode cL_law 512 = .ok (.aload_n 0, 1) := by decide +kernel
theorem dL_law_513 : decode cL_law 513 = .ok (.iload_n 3, 1) := by decide +kernel
theorem dL_law_514 : decode cL_law 514 = .ok (.iconst 3, 1) := by decide +kernel
theorem dL_law_515 : decode cL_law 515 = .ok (.iadd, 1) := by decide +kernel
theorem dL_law_516 : decode cL_law 516 = .ok (.iaload, 1) := by decide +kernel
theorem dL_law_517 : decode cL_law 517 = .ok (.invokevirtual 54, 3) := by decide +kernel
theorem dL_law_520 : decode cL_law 520 = .ok (.if_icmp .eq 799, 3) := by decide +kernel
theorem dL_law_523 : decode cL_law 523 = .ok (.iconst 0, 1) := by decide +kernel
theorem dL_law_524 : decode cL_law 524 = .ok (.ireturn, 1) := by decide +kernel
theorem dL_law_525 : decode cL_law 525 = .ok (.aload_n 1, 1) := by decide +kernel
theorem dL_law_526 : decode cL_law 526 = .ok (.aload_n 0, 1) := by decide +kernel
theorem dL_law_527 : decode cL_law 527 = .ok (.iload_n 3, 1) := by decide +kernel
theorem dL_law_528 : decode cL_law 528 = .ok (.iconst 1, 1) := by decide +kernel
theorem dL_law_529 : decode cL_law 529 = .ok (.iadd, 1) := by decide +kernel
theorem dL_law_530 : decode cL_law 530 = .ok (.iaload, 1) := by decide +kernel
theorem dL_law_531 : decode cL_law 531 = .ok (.aload_n 0, 1) := by decide +kernel
theorem dL_law_532 : decode cL_law 532 = .ok (.iload_n 3, 1) := by decide +kernel
theorem dL_law_533 : decode cL_law 533 = .ok (.iconst 2, 1) := by decide +kernel
theorem dL_law_534 : decode cL_law 534 = .ok (.iadd, 1) := by decide +kernel
theorem dL_law_535 : decode cL_law 535 = .ok (.iaload, 1) := by decide +kernel
theorem dL_law_536 : decode cL_law 536 = .ok (.invokevirtual 55, 3) := by decide +kernel
theorem dL_law_539 : decode cL_law 539 = .ok (.aload_n 2, 1) := by decide +kernel
theorem dL_law_540 : decode cL_law 540 = .ok (.aload_n 0, 1) := by decide +kernel
theorem dL_law_541 : decode cL_law 541 = .ok (.iload_n 3, 1) := by decide +kernel
theorem dL_law_542 : decode cL_law 542 = .ok (.iconst 1, 1) := by decide +kernel
theorem dL_law_543 : decode cL_law 543 = .ok (.iadd, 1) := by decide +kernel
theorem dL_law_544 : decode cL_law 544 = .ok (.iaload, 1) := by decide +kernel
theorem dL_law_545 : decode cL_law 545 = .ok (.aload_n 0, 1) := by decide +kernel
theorem dL_law_546 : decode cL_law 546 = .ok (.iload_n 3, 1) := by decide +kernel
theorem dL_law_547 : decode cL_law 547 = .ok (.iconst 2, 1) := by decide +kernel
theorem dL_law_548 : decode cL_law 548 = .ok (.iadd, 1) := by decide +kernel
theorem dL_law_549 : decode cL_law 549 = .ok (.iaload, 1) := by decide +kernel
theorem dL_law_550 : decode cL_law 550 = .ok (.invokevirtual 58, 3) := by decide +kernel
theorem dL_law_553 : decode cL_law 553 = .ok (.if_icmp .eq 766, 3) := by decide +kernel
theorem dL_law_556 : decode cL_law 556 = .ok (.iconst 0, 1) := by decide +kernel
theorem dL_law_557 : decode cL_law 557 = .ok (.ireturn, 1) := by decide +kernel
theorem dL_law_558 : decode cL_law 558 = .ok (.aload_n 1, 1) := by decide +kernel
theorem dL_law_559 : decode cL_law 559 = .ok (.aload_n 0, 1) := by decide +kernel
theorem dL_law_560 : decode cL_law 560 = .ok (.iload_n 3, 1) := by decide +kernel
theorem dL_law_561 : decode cL_law 561 = .ok (.iconst 1, 1) := by decide +kernel
theorem dL_law_562 : decode cL_law 562 = .ok (.iadd, 1) := by decide +kernel
theorem dL_law_563 : decode cL_law 563 = .ok (.iaload, 1) := by decide +kernel
theorem dL_law_564 : decode cL_law 564 = .ok (.invokevirtual 59, 3) := by decide +kernel
theorem dL_law_567 : decode cL_law 567 = .ok (.aload_n 2, 1) := by decide +kernel
theorem dL_law_568 : decode cL_law 568 = .ok (.aload_n 0, 1) := by decide +kernel
theorem dL_law_569 : decode cL_law 569 = .ok (.iload_n 3, 1) := by decide +kernel
theorem dL_law_570 : decode cL_law 570 = .ok (.iconst 1, 1) := by decide +kernel
theorem dL_law_571 : decode cL_law 571 = .ok (.iadd, 1) := by decide +kernel
theorem dL_law_572 : decode cL_law 572 = .ok (.iaload, 1) := by decide +kernel
theorem dL_law_573 : decode cL_law 573 = .ok (.invokevirtual 63, 3) := by decide +kernel
theorem dL_law_576 : decode cL_law 576 = .ok (.if_icmp .eq 743, 3) := by decide +kernel
theorem dL_law_579 : decode cL_law 579 = .ok (.iconst 0, 1) := by decide +kernel
theorem dL_law_580 : decode cL_law 580 = .ok (.ireturn, 1) := by decide +kernel
theorem dL_law_581 : decode cL_law 581 = .ok (.aload_n 1, 1) := by decide +kernel
theorem dL_law_582 : decode cL_law 582 = .ok (.aload_n 0, 1) := by decide +kernel
theorem dL_law_583 : decode cL_law 583 = .ok (.iload_n 3, 1) := by decide +kernel
theorem dL_law_584 : decode cL_law 584 = .ok (.iconst 1, 1) := by decide +kernel
theorem dL_law_585 : decode cL_law 585 = .ok (.iadd, 1) := by decide +kernel
theorem dL_law_586 : decode cL_law 586 = .ok (.iaload, 1) := by decide +kernel
theorem dL_law_587 : decode cL_law 587 = .ok (.invokevirtual 64, 3) := by decide +kernel
theorem dL_law_590 : decode cL_law 590 = .ok (.aload_n 2, 1) := by decide +kernel
theorem dL_law_591 : decode cL_law 591 = .ok (.aload_n 0, 1) := by decide +kernel
theorem dL_law_592 : decode cL_law 592 = .ok (.iload_n 3, 1) := by decide +kernel
theorem dL_law_593 : decode cL_law 593 = .ok (.iconst 1, 1) := by decide +kernel
theorem dL_law_594 : decode cL_law 594 = .ok (.iadd, 1) := by decide +kernel
theorem dL_law_595 : decode cL_law 595 = .ok (.iaload, 1) := by decide +kernel
theorem dL_law_596 : decode cL_law 596 = .ok (.invokevirtual 67, 3) := by decide +kernel
theorem dL_law_599 : decode cL_law 599 = .ok (.if_icmp .eq 720, 3) := by decide +kernel
theorem dL_law_602 : decode cL_law 602 = .ok (.iconst 0, 1) := by decide +kernel
theorem dL_law_603 : decode cL_law 603 = .ok (.ireturn, 1) := by decide +kernel
theorem dL_law_604 : decode cL_law 604 = .ok (.aload_n 1, 1) := by decide +kernel
theorem dL_law_605 : decode cL_law 605 = .ok (.aload_n 0, 1) := by decide +kernel
theorem dL_law_606 : decode cL_law 606 = .ok (.iload_n 3, 1) := by decide +kernel
theorem dL_law_607 : decode cL_law 607 = .ok (.iconst 1, 1) := by decide +kernel
theorem dL_law_608 : decode cL_law 608 = .ok (.iadd, 1) := by decide +kernel
theorem dL_law_609 : decode cL_law 609 = .ok (.iaload, 1) := by decide +kernel
theorem dL_law_610 : decode cL_law 610 = .ok (.aload_n 0, 1) := by decide +kernel
theorem dL_law_611 : decode cL_law 611 = .ok (.iload_n 3, 1) := by decide +kernel
theorem dL_law_612 : decode cL_law 612 = .ok (.iconst 2, 1) := by decide +kernel
theorem dL_law_613 : decode cL_law 613 = .ok (.iadd, 1) := by decide +kernel
theorem dL_law_614 : decode cL_law 614 = .ok (.iaload, 1) := by decide +kernel
theorem dL_law_615 : decode cL_law 615 = .ok (.invokevirtual 68, 3) := by decide +kernel
theorem dL_law_618 : decode cL_law 618 = .ok (.aload_n 2, 1) := by decide +kernel
theorem dL_law_619 : decode cL_law 619 = .ok (.aload_n 0, 1) := by decide +kernel
theorem dL_law_620 : decode cL_law 620 = .ok (.iload_n 3, 1) := by decide +kernel
theorem dL_law_621 : decode cL_law 621 = .ok (.iconst 1, 1) := by decide +kernel
theorem dL_law_622 : decode cL_law 622 = .ok (.iadd, 1) := by decide +kernel
theorem dL_law_623 : decode cL_law 623 = .ok (.iaload, 1) := by decide +kernel
theorem dL_law_624 : decode cL_law 624 = .ok (.aload_n 0, 1) := by decide +kernel
theorem dL_law_625 : decode cL_law 625 = .ok (.iload_n 3, 1) := by decide +kernel
theorem dL_law_626 : decode cL_law 626 = .ok (.iconst 2, 1) := by decide +kernel
theorem dL_law_627 : decode cL_law 627 = .ok (.iadd, 1) := by decide +kernel
theorem dL_law_628 : decode cL_law 628 = .ok (.iaload, 1) := by decide +kernel
theorem dL_law_629 : decode cL_law 629 = .ok (.invokevirtual 71, 3) := by decide +kernel
theorem dL_law_632 : decode cL_law 632 = .ok (.if_icmp .eq 687, 3) := by decide +kernel
theorem dL_law_635 : decode cL_law 635 = .ok (.iconst 0, 1) := by decide +kernel
theorem dL_law_636 : decode cL_law 636 = .ok (.ireturn, 1) := by decide +kernel
theorem dL_law_637 : decode cL_law 637 = .ok (.aload_n 1, 1) := by decide +kernel
theorem dL_law_638 : decode cL_law 638 = .ok (.aload_n 0, 1) := by decide +kernel
theorem dL_law_639 : decode cL_law 639 = .ok (.iload_n 3, 1) := by decide +kernel
theorem dL_law_640 : decode cL_law 640 = .ok (.iconst 1, 1) := by decide +kernel
theorem dL_law_641 : decode cL_law 641 = .ok (.iadd, 1) := by decide +kernel
theorem dL_law_642 : decode cL_law 642 = .ok (.iaload, 1) := by decide +kernel
theorem dL_law_643 : decode cL_law 643 = .ok (.aload_n 0, 1) := by decide +kernel
theorem dL_law_644 : decode cL_law 644 = .ok (.iload_n 3, 1) := by decide +kernel
theorem dL_law_645 : decode cL_law 645 = .ok (.iconst 2, 1) := by decide +kernel
theorem dL_law_646 : decode cL_law 646 = .ok (.iadd, 1) := by decide +kernel
theorem dL_law_647 : decode cL_law 647 = .ok (.iaload, 1) := by decide +kernel
theorem dL_law_648 : decode cL_law 648 = .ok (.aload_n 0, 1) := by decide +kernel
theorem dL_law_649 : decode cL_law 649 = .ok (.iload_n 3, 1) := by decide +kernel
theorem dL_law_650 : decode cL_law 650 = .ok (.iconst 3, 1) := by decide +kernel
theorem dL_law_651 : decode cL_law 651 = .ok (.iadd, 1) := by decide +kernel
theorem dL_law_652 : decode cL_law 652 = .ok (.iaload, 1) := by decide +kernel
theorem dL_law_653 : decode cL_law 653 = .ok (.aload_n 0, 1) := by decide +kernel
theorem dL_law_654 : decode cL_law 654 = .ok (.iload_n 3, 1) := by decide +kernel
theorem dL_law_655 : decode cL_law 655 = .ok (.iconst 4, 1) := by decide +kernel
theorem dL_law_656 : decode cL_law 656 = .ok (.iadd, 1) := by decide +kernel
theorem dL_law_657 : decode cL_law 657 = .ok (.iaload, 1) := by decide +kernel
theorem dL_law_658 : decode cL_law 658 = .ok (.aload_n 0, 1) := by decide +kernel
theorem dL_law_659 : decode cL_law 659 = .ok (.iload_n 3, 1) := by decide +kernel
theorem dL_law_660 : decode cL_law 660 = .ok (.iconst 5, 1) := by decide +kernel
theorem dL_law_661 : decode cL_law 661 = .ok (.iadd, 1) := by decide +kernel
theorem dL_law_662 : decode cL_law 662 = .ok (.iaload, 1) := by decide +kernel
theorem dL_law_663 : decode cL_law 663 = .ok (.aload_n 0, 1) := by decide +kernel
theorem dL_law_664 : decode cL_law 664 = .ok (.iload_n 3, 1) := by decide +kernel
theorem dL_law_665 : decode cL_law 665 = .ok (.bipush 6, 2) := by decide +kernel
theorem dL_law_667 : decode cL_law 667 = .ok (.iadd, 1) := by decide +kernel
theorem dL_law_668 : decode cL_law 668 = .ok (.iaload, 1) := by decide +kernel
theorem dL_law_669 : decode cL_law 669 = .ok (.invokevirtual 72, 3) := by decide +kernel
theorem dL_law_672 : decode cL_law 672 = .ok (.aload_n 2, 1) := by decide +kernel
theorem dL_law_673 : decode cL_law 673 = .ok (.aload_n 0, 1) := by decide +kernel
theorem dL_law_674 : decode cL_law 674 = .ok (.iload_n 3, 1) := by decide +kernel
theorem dL_law_675 : decode cL_law 675 = .ok (.iconst 1, 1) := by decide +kernel
theorem dL_law_676 : decode cL_law 676 = .ok (.iadd, 1) := by decide +kernel
theorem dL_law_677 : decode cL_law 677 = .ok (.iaload, 1) := by decide +kernel
theorem dL_law_678 : decode cL_law 678 = .ok (.aload_n 0, 1) := by decide +kernel
theorem dL_law_679 : decode cL_law 679 = .ok (.iload_n 3, 1) := by decide +kernel
theorem dL_law_680 : decode cL_law 680 = .ok (.iconst 2, 1) := by decide +kernel
theorem dL_law_681 : decode cL_law 681 = .ok (.iadd, 1) := by decide +kernel
theorem dL_law_682 : decode cL_law 682 = .ok (.iaload, 1) := by decide +kernel
theorem dL_law_683 : decode cL_law 683 = .ok (.aload_n 0, 1) := by decide +kernel
theorem dL_law_684 : decode cL_law 684 = .ok (.iload_n 3, 1) := by decide +kernel
theorem dL_law_685 : decode cL_law 685 = .ok (.iconst 3, 1) := by decide +kernel
theorem dL_law_686 : decode cL_law 686 = .ok (.iadd, 1) := by decide +kernel
theorem dL_law_687 : decode cL_law 687 = .ok (.iaload, 1) := by decide +kernel
theorem dL_law_688 : decode cL_law 688 = .ok (.aload_n 0, 1) := by decide +kernel
theorem dL_law_689 : decode cL_law 689 = .ok (.iload_n 3, 1) := by decide +kernel
theorem dL_law_690 : decode cL_law 690 = .ok (.iconst 4, 1) := by decide +kernel
theorem dL_law_691 : decode cL_law 691 = .ok (.iadd, 1) := by decide +kernel
theorem dL_law_692 : decode cL_law 692 = .ok (.iaload, 1) := by decide +kernel
theorem dL_law_693 : decode cL_law 693 = .ok (.aload_n 0, 1) := by decide +kernel
theorem dL_law_694 : decode cL_law 694 = .ok (.iload_n 3, 1) := by decide +kernel
theorem dL_law_695 : decode cL_law 695 = .ok (.iconst 5, 1) := by decide +kernel
theorem dL_law_696 : decode cL_law 696 = .ok (.iadd, 1) := by decide +kernel
theorem dL_law_697 : decode cL_law 697 = .ok (.iaload, 1) := by decide +kernel
theorem dL_law_698 : decode cL_law 698 = .ok (.aload_n 0, 1) := by decide +kernel
theorem dL_law_699 : decode cL_law 699 = .ok (.iload_n 3, 1) := by decide +kernel
theorem dL_law_700 : decode cL_law 700 = .ok (.bipush 6, 2) := by decide +kernel
theorem dL_law_702 : decode cL_law 702 = .ok (.iadd, 1) := by decide +kernel
theorem dL_law_703 : decode cL_law 703 = .ok (.iaload, 1) := by decide +kernel
theorem dL_law_704 : decode cL_law 704 = .ok (.invokevirtual 76, 3) := by decide +kernel
theorem dL_law_707 : decode cL_law 707 = .ok (.if_icmp .eq 612, 3) := by decide +kernel
theorem dL_law_710 : decode cL_law 710 = .ok (.iconst 0, 1) := by decide +kernel
theorem dL_law_711 : decode cL_law 711 = .ok (.ireturn, 1) := by decide +kernel
theorem dL_law_712 : decode cL_law 712 = .ok (.aload_n 1, 1) := by decide +kernel
theorem dL_law_713 : decode cL_law 713 = .ok (.aload_n 0, 1) := by decide +kernel
theorem dL_law_714 : decode cL_law 714 = .ok (.iload_n 3, 1) := by decide +kernel
theorem dL_law_715 : decode cL_law 715 = .ok (.iconst 1, 1) := by decide +kernel
theorem dL_law_716 : decode cL_law 716 = .ok (.iadd, 1) := by decide +kernel
theorem dL_law_717 : decode cL_law 717 = .ok (.iaload, 1) := by decide +kernel
theorem dL_law_718 : decode cL_law 718 = .ok (.aload_n 0, 1) := by decide +kernel
theorem dL_law_719 : decode cL_law 719 = .ok (.iload_n 3, 1) := by decide +kernel
theorem dL_law_720 : decode cL_law 720 = .ok (.iconst 2, 1) := by decide +kernel
theorem dL_law_721 : decode cL_law 721 = .ok (.iadd, 1) := by decide +kernel
theorem dL_law_722 : decode cL_law 722 = .ok (.iaload, 1) := by decide +kernel
theorem dL_law_723 : decode cL_law 723 = .ok (.invokevirtual 77, 3) := by decide +kernel
theorem dL_law_726 : decode cL_law 726 = .ok (.aload_n 2, 1) := by decide +kernel
theorem dL_law_727 : decode cL_law 727 = .ok (.aload_n 0, 1) := by decide +kernel
theorem dL_law_728 : decode cL_law 728 = .ok (.iload_n 3, 1) := by decide +kernel
theorem dL_law_729 : decode cL_law 729 = .ok (.iconst 1, 1) := by decide +kernel
theorem dL_law_730 : decode cL_law 730 = .ok (.iadd, 1) := by decide +kernel
theorem dL_law_731 : decode cL_law 731 = .ok (.iaload, 1) := by decide +kernel
theorem dL_law_732 : decode cL_law 732 = .ok (.aload_n 0, 1) := by decide +kernel
theorem dL_law_733 : decode cL_law 733 = .ok (.iload_n 3, 1) := by decide +kernel
theorem dL_law_734 : decode cL_law 734 = .ok (.iconst 2, 1) := by decide +kernel
theorem dL_law_735 : decode cL_law 735 = .ok (.iadd, 1) := by decide +kernel
theorem dL_law_736 : decode cL_law 736 = .ok (.iaload, 1) := by decide +kernel
theorem dL_law_737 : decode cL_law 737 = .ok (.invokevirtual 80, 3) := by decide +kernel
theorem dL_law_740 : decode cL_law 740 = .ok (.if_icmp .eq 579, 3) := by decide +kernel
theorem dL_law_743 : decode cL_law 743 = .ok (.iconst 0, 1) := by decide +kernel
theorem dL_law_744 : decode cL_law 744 = .ok (.ireturn, 1) := by decide +kernel
theorem dL_law_745 : decode cL_law 745 = .ok (.aload_n 1, 1) := by decide +kernel
theorem dL_law_746 : decode cL_law 746 = .ok (.aload_n 0, 1) := by decide +kernel
theorem dL_law_747 : decode cL_law 747 = .ok (.iload_n 3, 1) := by decide +kernel
theorem dL_law_748 : decode cL_law 748 = .ok (.iconst 1, 1) := by decide +kernel
theorem dL_law_749 : decode cL_law 749 = .ok (.iadd, 1) := by decide +kernel
theorem dL_law_750 : decode cL_law 750 = .ok (.iaload, 1) := by decide +kernel
theorem dL_law_751 : decode cL_law 751 = .ok (.aload_n 0, 1) := by decide +kernel
theorem dL_law_752 : decode cL_law 752 = .ok (.iload_n 3, 1) := by decide +kernel
theorem dL_law_753 : decode cL_law 753 = .ok (.iconst 2, 1) := by decide +kernel
theorem dL_law_754 : decode cL_law 754 = .ok (.iadd, 1) := by decide +kernel
theorem dL_law_755 : decode cL_law 755 = .ok (.iaload, 1) := by decide +kernel
theorem dL_law_756 : decode cL_law 756 = .ok (.aload_n 0, 1) := by decide +kernel
theorem dL_law_757 : decode cL_law 757 = .ok (.iload_n 3, 1) := by decide +kernel
theorem dL_law_758 : decode cL_law 758 = .ok (.iconst 3, 1) := by decide +kernel
theorem dL_law_759 : decode cL_law 759 = .ok (.iadd, 1) := by decide +kernel
theorem dL_law_760 : decode cL_law 760 = .ok (.iaload, 1) := by decide +kernel
theorem dL_law_761 : decode cL_law 761 = .ok (.invokevirtual 81, 3) := by decide +kernel
theorem dL_law_764 : decode cL_law 764 = .ok (.aload_n 2, 1) := by decide +kernel
theorem dL_law_765 : decode cL_law 765 = .ok (.aload_n 0, 1) := by decide +kernel
theorem dL_law_766 : decode cL_law 766 = .ok (.iload_n 3, 1) := by decide +kernel
theorem dL_law_767 : decode cL_law 767 = .ok (.iconst 1, 1) := by decide +kernel
theorem dL_law_768 : decode cL_law 768 = .ok (.iadd, 1) := by decide +kernel
theorem dL_law_769 : decode cL_law 769 = .ok (.iaload, 1) := by decide +kernel
theorem dL_law_770 : decode cL_law 770 = .ok (.aload_n 0, 1) := by decide +kernel
theorem dL_law_771 : decode cL_law 771 = .ok (.iload_n 3, 1) := by decide +kernel
theorem dL_law_772 : decode cL_law 772 = .ok (.iconst 2, 1) := by decide +kernel
theorem dL_law_773 : decode cL_law 773 = .ok (.iadd, 1) := by decide +kernel
theorem dL_law_774 : decode cL_law 774 = .ok (.iaload, 1) := by decide +kernel
theorem dL_law_775 : decode cL_law 775 = .ok (.aload_n 0, 1) := by decide +kernel
theorem dL_law_776 : decode cL_law 776 = .ok (.iload_n 3, 1) := by decide +kernel
theorem dL_law_777 : decode cL_law 777 = .ok (.iconst 3, 1) := by decide +kernel
theorem dL_law_778 : decode cL_law 778 = .ok (.iadd, 1) := by decide +kernel
theorem dL_law_779 : decode cL_law 779 = .ok (.iaload, 1) := by decide +kernel
theorem dL_law_780 : decode cL_law 780 = .ok (.invokevirtual 84, 3) := by decide +kernel
theorem dL_law_783 : decode cL_law 783 = .ok (.if_icmp .eq 536, 3) := by decide +kernel
theorem dL_law_786 : decode cL_law 786 = .ok (.iconst 0, 1) := by decide +kernel
theorem dL_law_787 : decode cL_law 787 = .ok (.ireturn, 1) := by decide +kernel
theorem dL_law_788 : decode cL_law 788 = .ok (.aload_n 1, 1) := by decide +kernel
theorem dL_law_789 : decode cL_law 789 = .ok (.aload_n 0, 1) := by decide +kernel
theorem dL_law_790 : decode cL_law 790 = .ok (.iload_n 3, 1) := by decide +kernel
theorem dL_law_791 : decode cL_law 791 = .ok (.iconst 1, 1) := by decide +kernel
theorem dL_law_792 : decode cL_law 792 = .ok (.iadd, 1) := by decide +kernel
theorem dL_law_793 : decode cL_law 793 = .ok (.iaload, 1) := by decide +kernel
theorem dL_law_794 : decode cL_law 794 = .ok (.aload_n 0, 1) := by decide +kernel
theorem dL_law_795 : decode cL_law 795 = .ok (.iload_n 3, 1) := by decide +kernel
theorem dL_law_796 : decode cL_law 796 = .ok (.iconst 2, 1) := by decide +kernel
theorem dL_law_797 : decode cL_law 797 = .ok (.iadd, 1) := by decide +kernel
theorem dL_law_798 : decode cL_law 798 = .ok (.iaload, 1) := by decide +kernel
theorem dL_law_799 : decode cL_law 799 = .ok (.aload_n 0, 1) := by decide +kernel
theorem dL_law_800 : decode cL_law 800 = .ok (.iload_n 3, 1) := by decide +kernel
theorem dL_law_801 : decode cL_law 801 = .ok (.iconst 3, 1) := by decide +kernel
theorem dL_law_802 : decode cL_law 802 = .ok (.iadd, 1) := by decide +kernel
theorem dL_law_803 : decode cL_law 803 = .ok (.iaload, 1) := by decide +kernel
theorem dL_law_804 : decode cL_law 804 = .ok (.invokevirtual 85, 3) := by decide +kernel
theorem dL_law_807 : decode cL_law 807 = .ok (.aload_n 2, 1) := by decide +kernel
theorem dL_law_808 : decode cL_law 808 = .ok (.aload_n 0, 1) := by decide +kernel
theorem dL_law_809 : decode cL_law 809 = .ok (.iload_n 3, 1) := by decide +kernel
theorem dL_law_810 : decode cL_law 810 = .ok (.iconst 1, 1) := by decide +kernel
theorem dL_law_811 : decode cL_law 811 = .ok (.iadd, 1) := by decide +kernel
theorem dL_law_812 : decode cL_law 812 = .ok (.iaload, 1) := by decide +kernel
theorem dL_law_813 : decode cL_law 813 = .ok (.aload_n 0, 1) := by decide +kernel
theorem dL_law_814 : decode cL_law 814 = .ok (.iload_n 3, 1) := by decide +kernel
theorem dL_law_815 : decode cL_law 815 = .ok (.iconst 2, 1) := by decide +kernel
theorem dL_law_816 : decode cL_law 816 = .ok (.iadd, 1) := by decide +kernel
theorem dL_law_817 : decode cL_law 817 = .ok (.iaload, 1) := by decide +kernel
theorem dL_law_818 : decode cL_law 818 = .ok (.aload_n 0, 1) := by decide +kernel
theorem dL_law_819 : decode cL_law 819 = .ok (.iload_n 3, 1) := by decide +kernel
theorem dL_law_820 : decode cL_law 820 = .ok (.iconst 3, 1) := by decide +kernel
theorem dL_law_821 : decode cL_law 821 = .ok (.iadd, 1) := by decide +kernel
theorem dL_law_822 : decode cL_law 822 = .ok (.iaload, 1) := by decide +kernel
theorem dL_law_823 : decode cL_law 823 = .ok (.invokevirtual 88, 3) := by decide +kernel
theorem dL_law_826 : decode cL_law 826 = .ok (.if_icmp .eq 493, 3) := by decide +kernel
theorem dL_law_829 : decode cL_law 829 = .ok (.iconst 0, 1) := by decide +kernel
theorem dL_law_830 : decode cL_law 830 = .ok (.ireturn, 1) := by decide +kernel
theorem dL_law_831 : decode cL_law 831 = .ok (.aload_n 1, 1) := by decide +kernel
theorem dL_law_832 : decode cL_law 832 = .ok (.aload_n 0, 1) := by decide +kernel
theorem dL_law_833 : decode cL_law 833 = .ok (.iload_n 3, 1) := by decide +kernel
theorem dL_law_834 : decode cL_law 834 = .ok (.iconst 1, 1) := by decide +kernel
theorem dL_law_835 : decode cL_law 835 = .ok (.iadd, 1) := by decide +kernel
theorem dL_law_836 : decode cL_law 836 = .ok (.iaload, 1) := by decide +kernel
theorem dL_law_837 : decode cL_law 837 = .ok (.aload_n 0, 1) := by decide +kernel
theorem dL_law_838 : decode cL_law 838 = .ok (.iload_n 3, 1) := by decide +kernel
theorem dL_law_839 : decode cL_law 839 = .ok (.iconst 2, 1) := by decide +kernel
theorem dL_law_840 : decode cL_law 840 = .ok (.iadd, 1) := by decide +kernel
theorem dL_law_841 : decode cL_law 841 = .ok (.iaload, 1) := by decide +kernel
theorem dL_law_842 : decode cL_law 842 = .ok (.aload_n 0, 1) := by decide +kernel
theorem dL_law_843 : decode cL_law 843 = .ok (.iload_n 3, 1) := by decide +kernel
theorem dL_law_844 : decode cL_law 844 = .ok (.iconst 3, 1) := by decide +kernel
theorem dL_law_845 : decode cL_law 845 = .ok (.iadd, 1) := by decide +kernel
theorem dL_law_846 : decode cL_law 846 = .ok (.iaload, 1) := by decide +kernel
theorem dL_law_847 : decode cL_law 847 = .ok (.invokevirtual 89, 3) := by decide +kernel
theorem dL_law_850 : decode cL_law 850 = .ok (.aload_n 2, 1) := by decide +kernel
theorem dL_law_851 : decode cL_law 851 = .ok (.aload_n 0, 1) := by decide +kernel
theorem dL_law_852 : decode cL_law 852 = .ok (.iload_n 3, 1) := by decide +kernel
theorem dL_law_853 : decode cL_law 853 = .ok (.iconst 1, 1) := by decide +kernel
theorem dL_law_854 : decode cL_law 854 = .ok (.iadd, 1) := by decide +kernel
theorem dL_law_855 : decode cL_law 855 = .ok (.iaload, 1) := by decide +kernel
theorem dL_law_856 : decode cL_law 856 = .ok (.aload_n 0, 1) := by decide +kernel
theorem dL_law_857 : decode cL_law 857 = .ok (.iload_n 3, 1) := by decide +kernel
theorem dL_law_858 : decode cL_law 858 = .ok (.iconst 2, 1) := by decide +kernel
theorem dL_law_859 : decode cL_law 859 = .ok (.iadd, 1) := by decide +kernel
theorem dL_law_860 : decode cL_law 860 = .ok (.iaload, 1) := by decide +kernel
theorem dL_law_861 : decode cL_law 861 = .ok (.aload_n 0, 1) := by decide +kernel
theorem dL_law_862 : decode cL_law 862 = .ok (.iload_n 3, 1) := by decide +kernel
theorem dL_law_863 : decode cL_law 863 = .ok (.iconst 3, 1) := by decide +kernel
theorem dL_law_864 : decode cL_law 864 = .ok (.iadd, 1) := by decide +kernel
theorem dL_law_865 : decode cL_law 865 = .ok (.iaload, 1) := by decide +kernel
theorem dL_law_866 : decode cL_law 866 = .ok (.invokevirtual 92, 3) := by decide +kernel
theorem dL_law_869 : decode cL_law 869 = .ok (.if_icmp .eq 450, 3) := by decide +kernel
theorem dL_law_872 : decode cL_law 872 = .ok (.iconst 0, 1) := by decide +kernel
theorem dL_law_873 : decode cL_law 873 = .ok (.ireturn, 1) := by decide +kernel
theorem dL_law_874 : decode cL_law 874 = .ok (.aload_n 1, 1) := by decide +kernel
theorem dL_law_875 : decode cL_law 875 = .ok (.aload_n 0, 1) := by decide +kernel
theorem dL_law_876 : decode cL_law 876 = .ok (.iload_n 3, 1) := by decide +kernel
theorem dL_law_877 : decode cL_law 877 = .ok (.iconst 1, 1) := by decide +kernel
theorem dL_law_878 : decode cL_law 878 = .ok (.iadd, 1) := by decide +kernel
theorem dL_law_879 : decode cL_law 879 = .ok (.iaload, 1) := by decide +kernel
theorem dL_law_880 : decode cL_law 880 = .ok (.invokevirtual 93, 3) := by decide +kernel
theorem dL_law_883 : decode cL_law 883 = .ok (.aload_n 2, 1) := by decide +kernel
theorem dL_law_884 : decode cL_law 884 = .ok (.aload_n 0, 1) := by decide +kernel
theorem dL_law_885 : decode cL_law 885 = .ok (.iload_n 3, 1) := by decide +kernel
theorem dL_law_886 : decode cL_law 886 = .ok (.iconst 1, 1) := by decide +kernel
theorem dL_law_887 : decode cL_law 887 = .ok (.iadd, 1) := by decide +kernel
theorem dL_law_888 : decode cL_law 888 = .ok (.iaload, 1) := by decide +kernel
theorem dL_law_889 : decode cL_law 889 = .ok (.invokevirtual 96, 3) := by decide +kernel
theorem dL_law_892 : decode cL_law 892 = .ok (.if_icmp .eq 427, 3) := by decide +kernel
theorem dL_law_895 : decode cL_law 895 = .ok (.iconst 0, 1) := by decide +kernel
theorem dL_law_896 : decode cL_law 896 = .ok (.ireturn, 1) := by decide +kernel
theorem dL_law_897 : decode cL_law 897 = .ok (.aload_n 1, 1) := by decide +kernel
theorem dL_law_898 : decode cL_law 898 = .ok (.aload_n 0, 1) := by decide +kernel
theorem dL_law_899 : decode cL_law 899 = .ok (.iload_n 3, 1) := by decide +kernel
theorem dL_law_900 : decode cL_law 900 = .ok (.iconst 1, 1) := by decide +kernel
theorem dL_law_901 : decode cL_law 901 = .ok (.iadd, 1) := by decide +kernel
theorem dL_law_902 : decode cL_law 902 = .ok (.iaload, 1) := by decide +kernel
theorem dL_law_903 : decode cL_law 903 = .ok (.invokevirtual 97, 3) := by decide +kernel
theorem dL_law_906 : decode cL_law 906 = .ok (.aload_n 2, 1) := by decide +kernel
theorem dL_law_907 : decode cL_law 907 = .ok (.aload_n 0, 1) := by decide +kernel
theorem dL_law_908 : decode cL_law 908 = .ok (.iload_n 3, 1) := by decide +kernel
theorem dL_law_909 : decode cL_law 909 = .ok (.iconst 1, 1) := by decide +kernel
theorem dL_law_910 : decode cL_law 910 = .ok (.iadd, 1) := by decide +kernel
theorem dL_law_911 : decode cL_law 911 = .ok (.iaload, 1) := by decide +kernel
theorem dL_law_912 : decode cL_law 912 = .ok (.invokevirtual 100, 3) := by decide +kernel
theorem dL_law_915 : decode cL_law 915 = .ok (.if_icmp .eq 404, 3) := by decide +kernel
theorem dL_law_918 : decode cL_law 918 = .ok (.iconst 0, 1) := by decide +kernel
theorem dL_law_919 : decode cL_law 919 = .ok (.ireturn, 1) := by decide +kernel
theorem dL_law_920 : decode cL_law 920 = .ok (.aload_n 1, 1) := by decide +kernel
theorem dL_law_921 : decode cL_law 921 = .ok (.aload_n 0, 1) := by decide +kernel
theorem dL_law_922 : decode cL_law 922 = .ok (.iload_n 3, 1) := by decide +kernel
theorem dL_law_923 : decode cL_law 923 = .ok (.iconst 1, 1) := by decide +kernel
theorem dL_law_924 : decode cL_law 924 = .ok (.iadd, 1) := by decide +kernel
theorem dL_law_925 : decode cL_law 925 = .ok (.iaload, 1) := by decide +kernel
theorem dL_law_926 : decode cL_law 926 = .ok (.aload_n 0, 1) := by decide +kernel
theorem dL_law_927 : decode cL_law 927 = .ok (.iload_n 3, 1) := by decide +kernel
theorem dL_law_928 : decode cL_law 928 = .ok (.iconst 2, 1) := by decide +kernel
theorem dL_law_929 : decode cL_law 929 = .ok (.iadd, 1) := by decide +kernel
theorem dL_law_930 : decode cL_law 930 = .ok (.iaload, 1) := by decide +kernel
theorem dL_law_931 : decode cL_law 931 = .ok (.invokevirtual 101, 3) := by decide +kernel
theorem dL_law_934 : decode cL_law 934 = .ok (.aload_n 2, 1) := by decide +kernel
theorem dL_law_935 : decode cL_law 935 = .ok (.aload_n 0, 1) := by decide +kernel
theorem dL_law_936 : decode cL_law 936 = .ok (.iload_n 3, 1) := by decide +kernel
theorem dL_law_937 : decode cL_law 937 = .ok (.iconst 1, 1) := by decide +kernel
theorem dL_law_938 : decode cL_law 938 = .ok (.iadd, 1) := by decide +kernel
theorem dL_law_939 : decode cL_law 939 = .ok (.iaload, 1) := by decide +kernel
theorem dL_law_940 : decode cL_law 940 = .ok (.aload_n 0, 1) := by decide +kernel
theorem dL_law_941 : decode cL_law 941 = .ok (.iload_n 3, 1) := by decide +kernel
theorem dL_law_942 : decode cL_law 942 = .ok (.iconst 2, 1) := by decide +kernel
theorem dL_law_943 : decode cL_law 943 = .ok (.iadd, 1) := by decide +kernel
theorem dL_law_944 : decode cL_law 944 = .ok (.iaload, 1) := by decide +kernel
theorem dL_law_945 : decode cL_law 945 = .ok (.invokevirtual 104, 3) := by decide +kernel
theorem dL_law_948 : decode cL_law 948 = .ok (.if_icmp .eq 371, 3) := by decide +kernel
theorem dL_law_951 : decode cL_law 951 = .ok (.iconst 0, 1) := by decide +kernel
theorem dL_law_952 : decode cL_law 952 = .ok (.ireturn, 1) := by decide +kernel
theorem dL_law_953 : decode cL_law 953 = .ok (.aload_n 1, 1) := by decide +kernel
theorem dL_law_954 : decode cL_law 954 = .ok (.aload_n 0, 1) := by decide +kernel
theorem dL_law_955 : decode cL_law 955 = .ok (.iload_n 3, 1) := by decide +kernel
theorem dL_law_956 : decode cL_law 956 = .ok (.iconst 1, 1) := by decide +kernel
theorem dL_law_957 : decode cL_law 957 = .ok (.iadd, 1) := by decide +kernel
theorem dL_law_958 : decode cL_law 958 = .ok (.iaload, 1) := by decide +kernel
theorem dL_law_959 : decode cL_law 959 = .ok (.aload_n 0, 1) := by decide +kernel
theorem dL_law_960 : decode cL_law 960 = .ok (.iload_n 3, 1) := by decide +kernel
theorem dL_law_961 : decode cL_law 961 = .ok (.iconst 2, 1) := by decide +kernel
theorem dL_law_962 : decode cL_law 962 = .ok (.iadd, 1) := by decide +kernel
theorem dL_law_963 : decode cL_law 963 = .ok (.iaload, 1) := by decide +kernel
theorem dL_law_964 : decode cL_law 964 = .ok (.invokevirtual 105, 3) := by decide +kernel
theorem dL_law_967 : decode cL_law 967 = .ok (.aload_n 2, 1) := by decide +kernel
theorem dL_law_968 : decode cL_law 968 = .ok (.aload_n 0, 1) := by decide +kernel
theorem dL_law_969 : decode cL_law 969 = .ok (.iload_n 3, 1) := by decide +kernel
theorem dL_law_970 : decode cL_law 970 = .ok (.iconst 1, 1) := by decide +kernel
theorem dL_law_971 : decode cL_law 971 = .ok (.iadd, 1) := by decide +kernel
theorem dL_law_972 : decode cL_law 972 = .ok (.iaload, 1) := by decide +kernel
theorem dL_law_973 : decode cL_law 973 = .ok (.aload_n 0, 1) := by decide +kernel
theorem dL_law_974 : decode cL_law 974 = .ok (.iload_n 3, 1) := by decide +kernel
theorem dL_law_975 : decode cL_law 975 = .ok (.iconst 2, 1) := by decide +kernel
theorem dL_law_976 : decode cL_law 976 = .ok (.iadd, 1) := by decide +kernel
theorem dL_law_977 : decode cL_law 977 = .ok (.iaload, 1) := by decide +kernel
theorem dL_law_978 : decode cL_law 978 = .ok (.invokevirtual 108, 3) := by decide +kernel
theorem dL_law_981 : decode cL_law 981 = .ok (.if_icmp .eq 338, 3) := by decide +kernel
theorem dL_law_984 : decode cL_law 984 = .ok (.iconst 0, 1) := by decide +kernel
theorem dL_law_985 : decode cL_law 985 = .ok (.ireturn, 1) := by decide +kernel
theorem dL_law_986 : decode cL_law 986 = .ok (.aload_n 1, 1) := by decide +kernel
theorem dL_law_987 : decode cL_law 987 = .ok (.aload_n 0, 1) := by decide +kernel
theorem dL_law_988 : decode cL_law 988 = .ok (.iload_n 3, 1) := by decide +kernel
theorem dL_law_989 : decode cL_law 989 = .ok (.iconst 1, 1) := by decide +kernel
theorem dL_law_990 : decode cL_law 990 = .ok (.iadd, 1) := by decide +kernel
theorem dL_law_991 : decode cL_law 991 = .ok (.iaload, 1) := by decide +kernel
theorem dL_law_992 : decode cL_law 992 = .ok (.aload_n 0, 1) := by decide +kernel
theorem dL_law_993 : decode cL_law 993 = .ok (.iload_n 3, 1) := by decide +kernel
theorem dL_law_994 : decode cL_law 994 = .ok (.iconst 2, 1) := by decide +kernel
theorem dL_law_995 : decode cL_law 995 = .ok (.iadd, 1) := by decide +kernel
theorem dL_law_996 : decode cL_law 996 = .ok (.iaload, 1) := by decide +kernel
theorem dL_law_997 : decode cL_law 997 = .ok (.aload_n 0, 1) := by decide +kernel
theorem dL_law_998 : decode cL_law 998 = .ok (.iload_n 3, 1) := by decide +kernel
theorem dL_law_999 : decode cL_law 999 = .ok (.iconst 3, 1) := by decide +kernel
theorem dL_law_1000 : decode cL_law 1000 = .ok (.iadd, 1) := by decide +kernel
theorem dL_law_1001 : decode cL_law 1001 = .ok (.iaload, 1) := by decide +kernel
theorem dL_law_1002 : decode cL_law 1002 = .ok (.invokevirtual 109, 3) := by decide +kernel
theorem dL_law_1005 : decode cL_law 1005 = .ok (.aload_n 2, 1) := by decide +kernel
theorem dL_law_1006 : decode cL_law 1006 = .ok (.aload_n 0, 1) := by decide +kernel
theorem dL_law_1007 : decode cL_law 1007 = .ok (.iload_n 3, 1) := by decide +kernel
theorem dL_law_1008 : decode cL_law 1008 = .ok (.iconst 1, 1) := by decide +kernel
theorem dL_law_1009 : decode cL_law 1009 = .ok (.iadd, 1) := by decide +kernel
theorem dL_law_1010 : decode cL_law 1010 = .ok (.iaload, 1) := by decide +kernel
theorem dL_law_1011 : decode cL_law 1011 = .ok (.aload_n 0, 1) := by decide +kernel
theorem dL_law_1012 : decode cL_law 1012 = .ok (.iload_n 3, 1) := by decide +kernel
theorem dL_law_1013 : decode cL_law 1013 = .ok (.iconst 2, 1) := by decide +kernel
theorem dL_law_1014 : decode cL_law 1014 = .ok (.iadd, 1) := by decide +kernel
theorem dL_law_1015 : decode cL_law 1015 = .ok (.iaload, 1) := by decide +kernel
theorem dL_law_1016 : decode cL_law 1016 = .ok (.aload_n 0, 1) := by decide +kernel
theorem dL_law_1017 : decode cL_law 1017 = .ok (.iload_n 3, 1) := by decide +kernel
theorem dL_law_1018 : decode cL_law 1018 = .ok (.iconst 3, 1) := by decide +kernel
theorem dL_law_1019 : decode cL_law 1019 = .ok (.iadd, 1) := by decide +kernel
theorem dL_law_1020 : decode cL_law 1020 = .ok (.iaload, 1) := by decide +kernel
theorem dL_law_1021 : decode cL_law 1021 = .ok (.invokevirtual 112, 3) := by decide +kernel
theorem dL_law_1024 : decode cL_law 1024 = .ok (.if_icmp .eq 295, 3) := by decide +kernel
theorem dL_law_1027 : decode cL_law 1027 = .ok (.iconst 0, 1) := by decide +kernel
theorem dL_law_1028 : decode cL_law 1028 = .ok (.ireturn, 1) := by decide +kernel
theorem dL_law_1029 : decode cL_law 1029 = .ok (.aload_n 1, 1) := by decide +kernel
theorem dL_law_1030 : decode cL_law 1030 = .ok (.aload_n 0, 1) := by decide +kernel
theorem dL_law_1031 : decode cL_law 1031 = .ok (.iload_n 3, 1) := by decide +kernel
theorem dL_law_1032 : decode cL_law 1032 = .ok (.iconst 1, 1) := by decide +kernel
theorem dL_law_1033 : decode cL_law 1033 = .ok (.iadd, 1) := by decide +kernel
theorem dL_law_1034 : decode cL_law 1034 = .ok (.iaload, 1) := by decide +kernel
theorem dL_law_1035 : decode cL_law 1035 = .ok (.aload_n 0, 1) := by decide +kernel
theorem dL_law_1036 : decode cL_law 1036 = .ok (.iload_n 3, 1) := by decide +kernel
theorem dL_law_1037 : decode cL_law 1037 = .ok (.iconst 2, 1) := by decide +kernel
theorem dL_law_1038 : decode cL_law 1038 = .ok (.iadd, 1) := by decide +kernel
theorem dL_law_1039 : decode cL_law 1039 = .ok (.iaload, 1) := by decide +kernel
theorem dL_law_1040 : decode cL_law 1040 = .ok (.aload_n 0, 1) := by decide +kernel
theorem dL_law_1041 : decode cL_law 1041 = .ok (.iload_n 3, 1) := by decide +kernel
theorem dL_law_1042 : decode cL_law 1042 = .ok (.iconst 3, 1) := by decide +kernel
theorem dL_law_1043 : decode cL_law 1043 = .ok (.iadd, 1) := by decide +kernel
theorem dL_law_1044 : decode cL_law 1044 = .ok (.iaload, 1) := by decide +kernel
theorem dL_law_1045 : decode cL_law 1045 = .ok (.aload_n 0, 1) := by decide +kernel
theorem dL_law_1046 : decode cL_law 1046 = .ok (.iload_n 3, 1) := by decide +kernel
theorem dL_law_1047 : decode cL_law 1047 = .ok (.iconst 4, 1) := by decide +kernel
theorem dL_law_1048 : decode cL_law 1048 = .ok (.iadd, 1) := by decide +kernel
theorem dL_law_1049 : decode cL_law 1049 = .ok (.iaload, 1) := by decide +kernel
theorem dL_law_1050 : decode cL_law 1050 = .ok (.invokevirtual 113, 3) := by decide +kernel
theorem dL_law_1053 : decode cL_law 1053 = .ok (.aload_n 2, 1) := by decide +kernel
theorem dL_law_1054 : decode cL_law 1054 = .ok (.aload_n 0, 1) := by decide +kernel
theorem dL_law_1055 : decode cL_law 1055 = .ok (.iload_n 3, 1) := by decide +kernel
theorem dL_law_1056 : decode cL_law 1056 = .ok (.iconst 1, 1) := by decide +kernel
theorem dL_law_1057 : decode cL_law 1057 = .ok (.iadd, 1) := by decide +kernel
theorem dL_law_1058 : decode cL_law 1058 = .ok (.iaload, 1) := by decide +kernel
theorem dL_law_1059 : decode cL_law 1059 = .ok (.aload_n 0, 1) := by decide +kernel
theorem dL_law_1060 : decode cL_law 1060 = .ok (.iload_n 3, 1) := by decide +kernel
theorem dL_law_1061 : decode cL_law 1061 = .ok (.iconst 2, 1) := by decide +kernel
theorem dL_law_1062 : decode cL_law 1062 = .ok (.iadd, 1) := by decide +kernel
theorem dL_law_1063 : decode cL_law 1063 = .ok (.iaload, 1) := by decide +kernel
theorem dL_law_1064 : decode cL_law 1064 = .ok (.aload_n 0, 1) := by decide +kernel
theorem dL_law_1065 : decode cL_law 1065 = .ok (.iload_n 3, 1) := by decide +kernel
theorem dL_law_1066 : decode cL_law 1066 = .ok (.iconst 3, 1) := by decide +kernel
theorem dL_law_1067 : decode cL_law 1067 = .ok (.iadd, 1) := by decide +kernel
theorem dL_law_1068 : decode cL_law 1068 = .ok (.iaload, 1) := by decide +kernel
theorem dL_law_1069 : decode cL_law 1069 = .ok (.aload_n 0, 1) := by decide +kernel
theorem dL_law_1070 : decode cL_law 1070 = .ok (.iload_n 3, 1) := by decide +kernel
theorem dL_law_1071 : decode cL_law 1071 = .ok (.iconst 4, 1) := by decide +kernel
theorem dL_law_1072 : decode cL_law 1072 = .ok (.iadd, 1) := by decide +kernel
theorem dL_law_1073 : decode cL_law 1073 = .ok (.iaload, 1) := by decide +kernel
theorem dL_law_1074 : decode cL_law 1074 = .ok (.invokevirtual 117, 3) := by decide +kernel
theorem dL_law_1077 : decode cL_law 1077 = .ok (.if_icmp .eq 242, 3) := by decide +kernel
theorem dL_law_1080 : decode cL_law 1080 = .ok (.iconst 0, 1) := by decide +kernel
theorem dL_law_1081 : decode cL_law 1081 = .ok (.ireturn, 1) := by decide +kernel
theorem dL_law_1082 : decode cL_law 1082 = .ok (.aload_n 1, 1) := by decide +kernel
theorem dL_law_1083 : decode cL_law 1083 = .ok (.aload_n 0, 1) := by decide +kernel
theorem dL_law_1084 : decode cL_law 1084 = .ok (.iload_n 3, 1) := by decide +kernel
theorem dL_law_1085 : decode cL_law 1085 = .ok (.iconst 1, 1) := by decide +kernel
theorem dL_law_1086 : decode cL_law 1086 = .ok (.iadd, 1) := by decide +kernel
theorem dL_law_1087 : decode cL_law 1087 = .ok (.iaload, 1) := by decide +kernel
theorem dL_law_1088 : decode cL_law 1088 = .ok (.aload_n 0, 1) := by decide +kernel
theorem dL_law_1089 : decode cL_law 1089 = .ok (.iload_n 3, 1) := by decide +kernel
theorem dL_law_1090 : decode cL_law 1090 = .ok (.iconst 2, 1) := by decide +kernel
theorem dL_law_1091 : decode cL_law 1091 = .ok (.iadd, 1) := by decide +kernel
theorem dL_law_1092 : decode cL_law 1092 = .ok (.iaload, 1) := by decide +kernel
theorem dL_law_1093 : decode cL_law 1093 = .ok (.invokevirtual 118, 3) := by decide +kernel
theorem dL_law_1096 : decode cL_law 1096 = .ok (.aload_n 2, 1) := by decide +kernel
theorem dL_law_1097 : decode cL_law 1097 = .ok (.aload_n 0, 1) := by decide +kernel
theorem dL_law_1098 : decode cL_law 1098 = .ok (.iload_n 3, 1) := by decide +kernel
theorem dL_law_1099 : decode cL_law 1099 = .ok (.iconst 1, 1) := by decide +kernel
theorem dL_law_1100 : decode cL_law 1100 = .ok (.iadd, 1) := by decide +kernel
theorem dL_law_1101 : decode cL_law 1101 = .ok (.iaload, 1) := by decide +kernel
theorem dL_law_1102 : decode cL_law 1102 = .ok (.aload_n 0, 1) := by decide +kernel
theorem dL_law_1103 : decode cL_law 1103 = .ok (.iload_n 3, 1) := by decide +kernel
theorem dL_law_1104 : decode cL_law 1104 = .ok (.iconst 2, 1) := by decide +kernel
theorem dL_law_1105 : decode cL_law 1105 = .ok (.iadd, 1) := by decide +kernel
theorem dL_law_1106 : decode cL_law 1106 = .ok (.iaload, 1) := by decide +kernel
theorem dL_law_1107 : decode cL_law 1107 = .ok (.invokevirtual 121, 3) := by decide +kernel
theorem dL_law_1110 : decode cL_law 1110 = .ok (.if_icmp .eq 209, 3) := by decide +kernel
theorem dL_law_1113 : decode cL_law 1113 = .ok (.iconst 0, 1) := by decide +kernel
theorem dL_law_1114 : decode cL_law 1114 = .ok (.ireturn, 1) := by decide +kernel
theorem dL_law_1115 : decode cL_law 1115 = .ok (.aload_n 1, 1) := by decide +kernel
theorem dL_law_1116 : decode cL_law 1116 = .ok (.aload_n 0, 1) := by decide +kernel
theorem dL_law_1117 : decode cL_law 1117 = .ok (.iload_n 3, 1) := by decide +kernel
theorem dL_law_1118 : decode cL_law 1118 = .ok (.iconst 1, 1) := by decide +kernel
theorem dL_law_1119 : decode cL_law 1119 = .ok (.iadd, 1) := by decide +kernel
theorem dL_law_1120 : decode cL_law 1120 = .ok (.iaload, 1) := by decide +kernel
theorem dL_law_1121 : decode cL_law 1121 = .ok (.aload_n 0, 1) := by decide +kernel
theorem dL_law_1122 : decode cL_law 1122 = .ok (.iload_n 3, 1) := by decide +kernel
theorem dL_law_1123 : decode cL_law 1123 = .ok (.iconst 2, 1) := by decide +kernel
theorem dL_law_1124 : decode cL_law 1124 = .ok (.iadd, 1) := by decide +kernel
theorem dL_law_1125 : decode cL_law 1125 = .ok (.iaload, 1) := by decide +kernel
theorem dL_law_1126 : decode cL_law 1126 = .ok (.aload_n 0, 1) := by decide +kernel
theorem dL_law_1127 : decode cL_law 1127 = .ok (.iload_n 3, 1) := by decide +kernel
theorem dL_law_1128 : decode cL_law 1128 = .ok (.iconst 3, 1) := by decide +kernel
theorem dL_law_1129 : decode cL_law 1129 = .ok (.iadd, 1) := by decide +kernel
theorem dL_law_1130 : decode cL_law 1130 = .ok (.iaload, 1) := by decide +kernel
theorem dL_law_1131 : decode cL_law 1131 = .ok (.invokevirtual 122, 3) := by decide +kernel
theorem dL_law_1134 : decode cL_law 1134 = .ok (.aload_n 2, 1) := by decide +kernel
theorem dL_law_1135 : decode cL_law 1135 = .ok (.aload_n 0, 1) := by decide +kernel
theorem dL_law_1136 : decode cL_law 1136 = .ok (.iload_n 3, 1) := by decide +kernel
theorem dL_law_1137 : decode cL_law 1137 = .ok (.iconst 1, 1) := by decide +kernel
theorem dL_law_1138 : decode cL_law 1138 = .ok (.iadd, 1) := by decide +kernel
theorem dL_law_1139 : decode cL_law 1139 = .ok (.iaload, 1) := by decide +kernel
theorem dL_law_1140 : decode cL_law 1140 = .ok (.aload_n 0, 1) := by decide +kernel
theorem dL_law_1141 : decode cL_law 1141 = .ok (.iload_n 3, 1) := by decide +kernel
theorem dL_law_1142 : decode cL_law 1142 = .ok (.iconst 2, 1) := by decide +kernel
theorem dL_law_1143 : decode cL_law 1143 = .ok (.iadd, 1) := by decide +kernel
theorem dL_law_1144 : decode cL_law 1144 = .ok (.iaload, 1) := by decide +kernel
theorem dL_law_1145 : decode cL_law 1145 = .ok (.aload_n 0, 1) := by decide +kernel
theorem dL_law_1146 : decode cL_law 1146 = .ok (.iload_n 3, 1) := by decide +kernel
theorem dL_law_1147 : decode cL_law 1147 = .ok (.iconst 3, 1) := by decide +kernel
theorem dL_law_1148 : decode cL_law 1148 = .ok (.iadd, 1) := by decide +kernel
theorem dL_law_1149 : decode cL_law 1149 = .ok (.iaload, 1) := by decide +kernel
theorem dL_law_1150 : decode cL_law 1150 = .ok (.invokevirtual 125, 3) := by decide +kernel
theorem dL_law_1153 : decode cL_law 1153 = .ok (.if_icmp .eq 166, 3) := by decide +kernel
theorem dL_law_1156 : decode cL_law 1156 = .ok (.iconst 0, 1) := by decide +kernel
theorem dL_law_1157 : decode cL_law 1157 = .ok (.ireturn, 1) := by decide +kernel
theorem dL_law_1158 : decode cL_law 1158 = .ok (.aload_n 1, 1) := by decide +kernel
theorem dL_law_1159 : decode cL_law 1159 = .ok (.aload_n 0, 1) := by decide +kernel
theorem dL_law_1160 : decode cL_law 1160 = .ok (.iload_n 3, 1) := by decide +kernel
theorem dL_law_1161 : decode cL_law 1161 = .ok (.iconst 1, 1) := by decide +kernel
theorem dL_law_1162 : decode cL_law 1162 = .ok (.iadd, 1) := by decide +kernel
theorem dL_law_1163 : decode cL_law 1163 = .ok (.iaload, 1) := by decide +kernel
theorem dL_law_1164 : decode cL_law 1164 = .ok (.invokevirtual 126, 3) := by decide +kernel
theorem dL_law_1167 : decode cL_law 1167 = .ok (.aload_n 2, 1) := by decide +kernel
theorem dL_law_1168 : decode cL_law 1168 = .ok (.aload_n 0, 1) := by decide +kernel
theorem dL_law_1169 : decode cL_law 1169 = .ok (.iload_n 3, 1) := by decide +kernel
theorem dL_law_1170 : decode cL_law 1170 = .ok (.iconst 1, 1) := by decide +kernel
theorem dL_law_1171 : decode cL_law 1171 = .ok (.iadd, 1) := by decide +kernel
theorem dL_law_1172 : decode cL_law 1172 = .ok (.iaload, 1) := by decide +kernel
theorem dL_law_1173 : decode cL_law 1173 = .ok (.invokevirtual 129, 3) := by decide +kernel
theorem dL_law_1176 : decode cL_law 1176 = .ok (.if_icmp .eq 143, 3) := by decide +kernel
theorem dL_law_1179 : decode cL_law 1179 = .ok (.iconst 0, 1) := by decide +kernel
theorem dL_law_1180 : decode cL_law 1180 = .ok (.ireturn, 1) := by decide +kernel
theorem dL_law_1181 : decode cL_law 1181 = .ok (.aload_n 1, 1) := by decide +kernel
theorem dL_law_1182 : decode cL_law 1182 = .ok (.aload_n 0, 1) := by decide +kernel
theorem dL_law_1183 : decode cL_law 1183 = .ok (.iload_n 3, 1) := by decide +kernel
theorem dL_law_1184 : decode cL_law 1184 = .ok (.iconst 1, 1) := by decide +kernel
theorem dL_law_1185 : decode cL_law 1185 = .ok (.iadd, 1) := by decide +kernel
theorem dL_law_1186 : decode cL_law 1186 = .ok (.iaload, 1) := by decide +kernel
theorem dL_law_1187 : decode cL_law 1187 = .ok (.ifCond .eq 7, 3) := by decide +kernel
theorem dL_law_1190 : decode cL_law 1190 = .ok (.iconst 1, 1) := by decide +kernel
theorem dL_law_1191 : decode cL_law 1191 = .ok (.goto 4, 3) := by decide +kernel
theorem dL_law_1194 : decode cL_law 1194 = .ok (.iconst 0, 1) := by decide +kernel
theorem dL_law_1195 : decode cL_law 1195 = .ok (.aload_n 0, 1) := by decide +kernel
theorem dL_law_1196 : decode cL_law 1196 = .ok (.iload_n 3, 1) := by decide +kernel
theorem dL_law_1197 : decode cL_law 1197 = .ok (.iconst 2, 1) := by decide +kernel
theorem dL_law_1198 : decode cL_law 1198 = .ok (.iadd, 1) := by decide +kernel
theorem dL_law_1199 : decode cL_law 1199 = .ok (.iaload, 1) := by decide +kernel
theorem dL_law_1200 : decode cL_law 1200 = .ok (.invokevirtual 130, 3) := by decide +kernel
theorem dL_law_1203 : decode cL_law 1203 = .ok (.aload_n 2, 1) := by decide +kernel
theorem dL_law_1204 : decode cL_law 1204 = .ok (.aload_n 0, 1) := by decide +kernel
theorem dL_law_1205 : decode cL_law 1205 = .ok (.iload_n 3, 1) := by decide +kernel
theorem dL_law_1206 : decode cL_law 1206 = .ok (.iconst 1, 1) := by decide +kernel
theorem dL_law_1207 : decode cL_law 1207 = .ok (.iadd, 1) := by decide +kernel
theorem dL_law_1208 : decode cL_law 1208 = .ok (.iaload, 1) := by decide +kernel
theorem dL_law_1209 : decode cL_law 1209 = .ok (.ifCond .eq 7, 3) := by decide +kernel
theorem dL_law_1212 : decode cL_law 1212 = .ok (.iconst 1, 1) := by decide +kernel
theorem dL_law_1213 : decode cL_law 1213 = .ok (.goto 4, 3) := by decide +kernel
theorem dL_law_1216 : decode cL_law 1216 = .ok (.iconst 0, 1) := by decide +kernel
theorem dL_law_1217 : decode cL_law 1217 = .ok (.aload_n 0, 1) := by decide +kernel
theorem dL_law_1218 : decode cL_law 1218 = .ok (.iload_n 3, 1) := by decide +kernel
theorem dL_law_1219 : decode cL_law 1219 = .ok (.iconst 2, 1) := by decide +kernel
theorem dL_law_1220 : decode cL_law 1220 = .ok (.iadd, 1) := by decide +kernel
theorem dL_law_1221 : decode cL_law 1221 = .ok (.iaload, 1) := by decide +kernel
theorem dL_law_1222 : decode cL_law 1222 = .ok (.invokevirtual 134, 3) := by decide +kernel
theorem dL_law_1225 : decode cL_law 1225 = .ok (.if_icmp .eq 94, 3) := by decide +kernel
theorem dL_law_1228 : decode cL_law 1228 = .ok (.iconst 0, 1) := by decide +kernel
theorem dL_law_1229 : decode cL_law 1229 = .ok (.ireturn, 1) := by decide +kernel
theorem dL_law_1230 : decode cL_law 1230 = .ok (.aload_n 1, 1) := by decide +kernel
theorem dL_law_1231 : decode cL_law 1231 = .ok (.aload_n 0, 1) := by decide +kernel
theorem dL_law_1232 : decode cL_law 1232 = .ok (.iload_n 3, 1) := by decide +kernel
theorem dL_law_1233 : decode cL_law 1233 = .ok (.iconst 1, 1) := by decide +kernel
theorem dL_law_1234 : decode cL_law 1234 = .ok (.iadd, 1) := by decide +kernel
theorem dL_law_1235 : decode cL_law 1235 = .ok (.iaload, 1) := by decide +kernel
theorem dL_law_1236 : decode cL_law 1236 = .ok (.aload_n 0, 1) := by decide +kernel
theorem dL_law_1237 : decode cL_law 1237 = .ok (.iload_n 3, 1) := by decide +kernel
theorem dL_law_1238 : decode cL_law 1238 = .ok (.iconst 2, 1) := by decide +kernel
theorem dL_law_1239 : decode cL_law 1239 = .ok (.iadd, 1) := by decide +kernel
theorem dL_law_1240 : decode cL_law 1240 = .ok (.iaload, 1) := by decide +kernel
theorem dL_law_1241 : decode cL_law 1241 = .ok (.aload_n 0, 1) := by decide +kernel
theorem dL_law_1242 : decode cL_law 1242 = .ok (.iload_n 3, 1) := by decide +kernel
theorem dL_law_1243 : decode cL_law 1243 = .ok (.iconst 3, 1) := by decide +kernel
theorem dL_law_1244 : decode cL_law 1244 = .ok (.iadd, 1) := by decide +kernel
theorem dL_law_1245 : decode cL_law 1245 = .ok (.iaload, 1) := by decide +kernel
theorem dL_law_1246 : decode cL_law 1246 = .ok (.invokevirtual 135, 3) := by decide +kernel
theorem dL_law_1249 : decode cL_law 1249 = .ok (.aload_n 2, 1) := by decide +kernel
theorem dL_law_1250 : decode cL_law 1250 = .ok (.aload_n 0, 1) := by decide +kernel
theorem dL_law_1251 : decode cL_law 1251 = .ok (.iload_n 3, 1) := by decide +kernel
theorem dL_law_1252 : decode cL_law 1252 = .ok (.iconst 1, 1) := by decide +kernel
theorem dL_law_1253 : decode cL_law 1253 = .ok (.iadd, 1) := by decide +kernel
theorem dL_law_1254 : decode cL_law 1254 = .ok (.iaload, 1) := by decide +kernel
theorem dL_law_1255 : decode cL_law 1255 = .ok (.aload_n 0, 1) := by decide +kernel
theorem dL_law_1256 : decode cL_law 1256 = .ok (.iload_n 3, 1) := by decide +kernel
theorem dL_law_1257 : decode cL_law 1257 = .ok (.iconst 2, 1) := by decide +kernel
theorem dL_law_1258 : decode cL_law 1258 = .ok (.iadd, 1) := by decide +kernel
theorem dL_law_1259 : decode cL_law 1259 = .ok (.iaload, 1) := by decide +kernel
theorem dL_law_1260 : decode cL_law 1260 = .ok (.aload_n 0, 1) := by decide +kernel
theorem dL_law_1261 : decode cL_law 1261 = .ok (.iload_n 3, 1) := by decide +kernel
theorem dL_law_1262 : decode cL_law 1262 = .ok (.iconst 3, 1) := by decide +kernel
theorem dL_law_1263 : decode cL_law 1263 = .ok (.iadd, 1) := by decide +kernel
theorem dL_law_1264 : decode cL_law 1264 = .ok (.iaload, 1) := by decide +kernel
theorem dL_law_1265 : decode cL_law 1265 = .ok (.invokevirtual 138, 3) := by decide +kernel
theorem dL_law_1268 : decode cL_law 1268 = .ok (.if_icmp .eq 51, 3) := by decide +kernel
theorem dL_law_1271 : decode cL_law 1271 = .ok (.iconst 0, 1) := by decide +kernel
theorem dL_law_1272 : decode cL_law 1272 = .ok (.ireturn, 1) := by decide +kernel
theorem dL_law_1273 : decode cL_law 1273 = .ok (.aload_n 1, 1) := by decide +kernel
theorem dL_law_1274 : decode cL_law 1274 = .ok (.aload_n 0, 1) := by decide +kernel
theorem dL_law_1275 : decode cL_law 1275 = .ok (.iload_n 3, 1) := by decide +kernel
theorem dL_law_1276 : decode cL_law 1276 = .ok (.iconst 1, 1) := by decide +kernel
theorem dL_law_1277 : decode cL_law 1277 = .ok (.iadd, 1) := by decide +kernel
theorem dL_law_1278 : decode cL_law 1278 = .ok (.iaload, 1) := by decide +kernel
theorem dL_law_1279 : decode cL_law 1279 = .ok (.invokevirtual 139, 3) := by decide +kernel
theorem dL_law_1282 : decode cL_law 1282 = .ok (.aload_n 2, 1) := by decide +kernel
theorem dL_law_1283 : decode cL_law 1283 = .ok (.aload_n 0, 1) := by decide +kernel
theorem dL_law_1284 : decode cL_law 1284 = .ok (.iload_n 3, 1) := by decide +kernel
theorem dL_law_1285 : decode cL_law 1285 = .ok (.iconst 1, 1) := by decide +kernel
theorem dL_law_1286 : decode cL_law 1286 = .ok (.iadd, 1) := by decide +kernel
theorem dL_law_1287 : decode cL_law 1287 = .ok (.iaload, 1) := by decide +kernel
theorem dL_law_1288 : decode cL_law 1288 = .ok (.invokevirtual 142, 3) := by decide +kernel
theorem dL_law_1291 : decode cL_law 1291 = .ok (.if_icmp .eq 28, 3) := by decide +kernel
theorem dL_law_1294 : decode cL_law 1294 = .ok (.iconst 0, 1) := by decide +kernel
theorem dL_law_1295 : decode cL_law 1295 = .ok (.ireturn, 1) := by decide +kernel
theorem dL_law_1296 : decode cL_law 1296 = .ok (.aload_n 1, 1) := by decide +kernel
theorem dL_law_1297 : decode cL_law 1297 = .ok (.aload_n 0, 1) := by decide +kernel
theorem dL_law_1298 : decode cL_law 1298 = .ok (.iload_n 3, 1) := by decide +kernel
theorem dL_law_1299 : decode cL_law 1299 = .ok (.iconst 1, 1) := by decide +kernel
theorem dL_law_1300 : decode cL_law 1300 = .ok (.iadd, 1) := by decide +kernel
theorem dL_law_1301 : decode cL_law 1301 = .ok (.iaload, 1) := by decide +kernel
theorem dL_law_1302 : decode cL_law 1302 = .ok (.invokevirtual 143, 3) := by decide +kernel
theorem dL_law_1305 : decode cL_law 1305 = .ok (.aload_n 2, 1) := by decide +kernel
theorem dL_law_1306 : decode cL_law 1306 = .ok (.aload_n 0, 1) := by decide +kernel
theorem dL_law_1307 : decode cL_law 1307 = .ok (.iload_n 3, 1) := by decide +kernel
theorem dL_law_1308 : decode cL_law 1308 = .ok (.iconst 1, 1) := by decide +kernel
theorem dL_law_1309 : decode cL_law 1309 = .ok (.iadd, 1) := by decide +kernel
theorem dL_law_1310 : decode cL_law 1310 = .ok (.iaload, 1) := by decide +kernel
theorem dL_law_1311 : decode cL_law 1311 = .ok (.invokevirtual 146, 3) := by decide +kernel
theorem dL_law_1314 : decode cL_law 1314 = .ok (.if_icmp .eq 5, 3) := by decide +kernel
theorem dL_law_1317 : decode cL_law 1317 = .ok (.iconst 0, 1) := by decide +kernel
theorem dL_law_1318 : decode cL_law 1318 = .ok (.ireturn, 1) := by decide +kernel
theorem dL_law_1319 : decode cL_law 1319 = .ok (.iinc 3 7, 3) := by decide +kernel
theorem dL_law_1322 : decode cL_law 1322 = .ok (.goto (-1304), 3) := by decide +kernel
theorem dL_law_1325 : decode cL_law 1325 = .ok (.iconst 1, 1) := by decide +kernel
theorem dL_law_1326 : decode cL_law 1326 = .ok (.ireturn, 1) := by decide +kernel
end
