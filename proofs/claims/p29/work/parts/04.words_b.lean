theorem mw_662 : ((Jvm.Cond.methodLink "SugarKitchen$Choice" (36 : Nat) ({ cls := "SugarKitchen$Choice", name := "sumUp", desc := "(I)V" } : Jvm.MethodName)) : Cond) ∈ gT := gI 662 (by decide +kernel) rfl
theorem mw_664 : ((Jvm.Cond.instanceMethod ({ cls := "SugarKitchen$Choice", name := "sumUp", desc := "(I)V" } : Jvm.MethodName)) : Cond) ∈ gT := gI 664 (by decide +kernel) rfl
set_option maxRecDepth 100000 in
theorem mw_665 : ((Jvm.Cond.code ({ cls := "SugarKitchen$Choice", name := "sumUp", desc := "(I)V" } : Jvm.MethodName) prog_4_method_6_code (4 : Nat) (Option.none : Option Jvm.ClassFile.FieldType)) : Cond) ∈ gT := gI 665 rfl rfl
theorem mw_666 : ((Jvm.Cond.methodLink "SugarKitchen$Choice" (57 : Nat) ({ cls := "SugarKitchen$Choice", name := "addPiece", desc := "(II)V" } : Jvm.MethodName)) : Cond) ∈ gT := gI 666 (by decide +kernel) rfl
theorem mw_668 : ((Jvm.Cond.instanceMethod ({ cls := "SugarKitchen$Choice", name := "addPiece", desc := "(II)V" } : Jvm.MethodName)) : Cond) ∈ gT := gI 668 (by decide +kernel) rfl
set_option maxRecDepth 100000 in
theorem mw_669 : ((Jvm.Cond.code ({ cls := "SugarKitchen$Choice", name := "addPiece", desc := "(II)V" } : Jvm.MethodName) prog_4_method_7_code (11 : Nat) (Option.none : Option Jvm.ClassFile.FieldType)) : Cond) ∈ gT := gI 669 rfl rfl
theorem mw_670 : ((Jvm.Cond.methodLink "SugarKitchen$Choice" (61 : Nat) ({ cls := "java/lang/System", name := "arraycopy", desc := "(Ljava/lang/Object;ILjava/lang/Object;II)V" } : Jvm.MethodName)) : Cond) ∈ gT := gI 670 (by decide +kernel) rfl
theorem mw_671 : ((Jvm.Cond.static ({ cls := "java/lang/System", name := "arraycopy", desc := "(Ljava/lang/Object;ILjava/lang/Object;II)V" } : Jvm.MethodName)) : Cond) ∈ gT := gI 671 (by decide +kernel) rfl
theorem mw_672 : ((Jvm.Cond.native ({ cls := "java/lang/System", name := "arraycopy", desc := "(Ljava/lang/Object;ILjava/lang/Object;II)V" } : Jvm.MethodName)) : Cond) ∈ gT := gI 672 (by decide +kernel) rfl
theorem mw_673 : ((Jvm.Cond.methodLink "SugarKitchen$Choice" (40 : Nat) ({ cls := "java/lang/Math", name := "max", desc := "(II)I" } : Jvm.MethodName)) : Cond) ∈ gT := gI 673 (by decide +kernel) rfl
theorem mw_674 : ((Jvm.Cond.methodLink "SugarKitchen$Choice" (43 : Nat) ({ cls := "SugarKitchen$Choice", name := "canWeigh", desc := "(II)Z" } : Jvm.MethodName)) : Cond) ∈ gT := gI 674 (by decide +kernel) rfl
theorem mw_676 : ((Jvm.Cond.instanceMethod ({ cls := "SugarKitchen$Choice", name := "canWeigh", desc := "(II)Z" } : Jvm.MethodName)) : Cond) ∈ gT := gI 676 (by decide +kernel) rfl
set_option maxRecDepth 100000 in
theorem mw_677 : ((Jvm.Cond.code ({ cls := "SugarKitchen$Choice", name := "canWeigh", desc := "(II)Z" } : Jvm.MethodName) prog_4_method_8_code (3 : Nat) (Option.some Jvm.ClassFile.FieldType.boolean)) : Cond) ∈ gT := gI 677 rfl rfl
theorem mw_678 : ((Jvm.Cond.methodLink "SugarKitchen$Choice" (47 : Nat) ({ cls := "SugarKitchen$Choice", name := "markFirst", desc := "(I)V" } : Jvm.MethodName)) : Cond) ∈ gT := gI 678 (by decide +kernel) rfl
theorem mw_680 : ((Jvm.Cond.instanceMethod ({ cls := "SugarKitchen$Choice", name := "markFirst", desc := "(I)V" } : Jvm.MethodName)) : Cond) ∈ gT := gI 680 (by decide +kernel) rfl
set_option maxRecDepth 100000 in
theorem mw_681 : ((Jvm.Cond.code ({ cls := "SugarKitchen$Choice", name := "markFirst", desc := "(I)V" } : Jvm.MethodName) prog_4_method_9_code (4 : Nat) (Option.none : Option Jvm.ClassFile.FieldType)) : Cond) ∈ gT := gI 681 rfl rfl
theorem mw_682 : ((Jvm.Cond.instantiable "SugarKitchen$Box" (6 : Nat)) : Cond) ∈ gT := gI 682 (by decide +kernel) rfl
theorem mw_683 : ((Jvm.Cond.methodLink "SugarKitchen" (272 : Nat) ({ cls := "SugarKitchen$Choice", name := "countChosen", desc := "()I" } : Jvm.MethodName)) : Cond) ∈ gT := gI 683 (by decide +kernel) rfl
theorem mw_684 : ((Jvm.Cond.instanceMethod ({ cls := "SugarKitchen$Choice", name := "countChosen", desc := "()I" } : Jvm.MethodName)) : Cond) ∈ gT := gI 684 (by decide +kernel) rfl
theorem mw_685 : ((Jvm.Cond.selects "SugarKitchen$Choice" ({ cls := "SugarKitchen$Choice", name := "countChosen", desc := "()I" } : Jvm.MethodName) ({ cls := "SugarKitchen$Choice", name := "countChosen", desc := "()I" } : Jvm.MethodName)) : Cond) ∈ gT := gI 685 (by decide +kernel) rfl
set_option maxRecDepth 100000 in
theorem mw_686 : ((Jvm.Cond.code ({ cls := "SugarKitchen$Choice", name := "countChosen", desc := "()I" } : Jvm.MethodName) prog_4_method_4_code (3 : Nat) (Option.some Jvm.ClassFile.FieldType.int)) : Cond) ∈ gT := gI 686 rfl rfl
theorem mw_687 : ((Jvm.Cond.methodLink "SugarKitchen" (276 : Nat) ({ cls := "SugarKitchen$Box", name := "<init>", desc := "(III)V" } : Jvm.MethodName)) : Cond) ∈ gT := gI 687 (by decide +kernel) rfl
theorem mw_688 : ((Jvm.Cond.instanceMethod ({ cls := "SugarKitchen$Box", name := "<init>", desc := "(III)V" } : Jvm.MethodName)) : Cond) ∈ gT := gI 688 (by decide +kernel) rfl
set_option maxRecDepth 100000 in
theorem mw_689 : ((Jvm.Cond.code ({ cls := "SugarKitchen$Box", name := "<init>", desc := "(III)V" } : Jvm.MethodName) prog_3_method_1_code (4 : Nat) (Option.none : Option Jvm.ClassFile.FieldType)) : Cond) ∈ gT := gI 689 rfl rfl
theorem mw_690 : ((Jvm.Cond.methodLink "SugarKitchen$Box" (3 : Nat) ({ cls := "java/lang/Object", name := "<init>", desc := "()V" } : Jvm.MethodName)) : Cond) ∈ gT := gI 690 (by decide +kernel) rfl
theorem mw_691 : ((Jvm.Cond.methodLink "SugarKitchen$Box" (18 : Nat) ({ cls := "java/lang/Math", name := "max", desc := "(II)I" } : Jvm.MethodName)) : Cond) ∈ gT := gI 691 (by decide +kernel) rfl
theorem mw_692 : ((Jvm.Cond.fieldLink "SugarKitchen$Box" (9 : Nat) "SugarKitchen$Box" "told" "I") : Cond) ∈ gT := gI 692 (by decide +kernel) rfl
theorem mw_693 : ((Jvm.Cond.fieldLink "SugarKitchen$Box" (15 : Nat) "SugarKitchen$Box" "weight" "I") : Cond) ∈ gT := gI 693 (by decide +kernel) rfl
theorem mw_694 : ((Jvm.Cond.fieldLink "SugarKitchen$Box" (24 : Nat) "SugarKitchen$Box" "numbers" "[I") : Cond) ∈ gT := gI 694 (by decide +kernel) rfl
theorem mw_695 : ((Jvm.Cond.fieldLink "SugarKitchen$Box" (28 : Nat) "SugarKitchen$Box" "many" "I") : Cond) ∈ gT := gI 695 (by decide +kernel) rfl
theorem mw_696 : ((Jvm.Cond.fieldLink "SugarKitchen$Box" (31 : Nat) "SugarKitchen$Box" "lots" "J") : Cond) ∈ gT := gI 696 (by decide +kernel) rfl
theorem mw_697 : ((Jvm.Cond.fieldLink "SugarKitchen" (292 : Nat) "SugarKitchen$Box" "lots" "J") : Cond) ∈ gT := gI 697 (by decide +kernel) rfl
theorem mw_698 : ((Jvm.Cond.fieldLink "SugarKitchen$Box" (43 : Nat) "SugarKitchen$Box" "warnings" "I") : Cond) ∈ gT := gI 698 (by decide +kernel) rfl
theorem mw_699 : ((Jvm.Cond.fieldLink "SugarKitchen" (297 : Nat) "SugarKitchen$Box" "warnings" "I") : Cond) ∈ gT := gI 699 (by decide +kernel) rfl
theorem mw_700 : ((Jvm.Cond.laysFinal "SugarKitchen$Box" "SugarKitchen$Box" "told" "I") : Cond) ∈ gT := gI 700 (by decide +kernel) rfl
theorem mw_701 : ((Jvm.Cond.soleField "SugarKitchen$Box" "told") : Cond) ∈ gT := gI 701 (by decide +kernel) rfl
theorem mw_702 : ((Jvm.Cond.laysFinal "SugarKitchen$Box" "SugarKitchen$Box" "weight" "I") : Cond) ∈ gT := gI 702 (by decide +kernel) rfl
theorem mw_703 : ((Jvm.Cond.soleField "SugarKitchen$Box" "weight") : Cond) ∈ gT := gI 703 (by decide +kernel) rfl
theorem mw_704 : ((Jvm.Cond.laysFinal "SugarKitchen$Box" "SugarKitchen$Box" "numbers" "[I") : Cond) ∈ gT := gI 704 (by decide +kernel) rfl
theorem mw_705 : ((Jvm.Cond.soleField "SugarKitchen$Box" "numbers") : Cond) ∈ gT := gI 705 (by decide +kernel) rfl
theorem mw_706 : ((Jvm.Cond.lays "SugarKitchen$Box" "SugarKitchen$Box" "many" "I") : Cond) ∈ gT := gI 706 (by decide +kernel) rfl
theorem mw_707 : ((Jvm.Cond.soleField "SugarKitchen$Box" "many") : Cond) ∈ gT := gI 707 (by decide +kernel) rfl
theorem mw_708 : ((Jvm.Cond.lays "SugarKitchen$Box" "SugarKitchen$Box" "lots" "J") : Cond) ∈ gT := gI 708 (by decide +kernel) rfl
theorem mw_709 : ((Jvm.Cond.soleField "SugarKitchen$Box" "lots") : Cond) ∈ gT := gI 709 (by decide +kernel) rfl
theorem mw_710 : ((Jvm.Cond.lays "SugarKitchen$Box" "SugarKitchen$Box" "warnings" "I") : Cond) ∈ gT := gI 710 (by decide +kernel) rfl
theorem mw_711 : ((Jvm.Cond.soleField "SugarKitchen$Box" "warnings") : Cond) ∈ gT := gI 711 (by decide +kernel) rfl
theorem mw_712 : ((Jvm.Cond.superclass "SugarKitchen$Box" "java/lang/Object") : Cond) ∈ gT := gI 712 (by decide +kernel) rfl
theorem mw_713 : ((Jvm.Cond.arrayClass Jvm.ClassFile.FieldType.long) : Cond) ∈ gT := gI 713 (by decide +kernel) rfl
theorem mw_714 : ((Jvm.Cond.methodLink "SugarKitchen" (288 : Nat) ({ cls := "SugarKitchen", name := "moveToBox", desc := "(ILSugarKitchen$Box;)V" } : Jvm.MethodName)) : Cond) ∈ gT := gI 714 (by decide +kernel) rfl
theorem mw_716 : ((Jvm.Cond.instanceMethod ({ cls := "SugarKitchen", name := "moveToBox", desc := "(ILSugarKitchen$Box;)V" } : Jvm.MethodName)) : Cond) ∈ gT := gI 716 (by decide +kernel) rfl
set_option maxRecDepth 100000 in
theorem mw_717 : ((Jvm.Cond.code ({ cls := "SugarKitchen", name := "moveToBox", desc := "(ILSugarKitchen$Box;)V" } : Jvm.MethodName) prog_1_method_47_code (5 : Nat) (Option.none : Option Jvm.ClassFile.FieldType)) : Cond) ∈ gT := gI 717 rfl rfl
theorem mw_718 : ((Jvm.Cond.methodLink "SugarKitchen" (346 : Nat) ({ cls := "SugarKitchen$Box", name := "add", desc := "(IJ)V" } : Jvm.MethodName)) : Cond) ∈ gT := gI 718 (by decide +kernel) rfl
theorem mw_719 : ((Jvm.Cond.instanceMethod ({ cls := "SugarKitchen$Box", name := "add", desc := "(IJ)V" } : Jvm.MethodName)) : Cond) ∈ gT := gI 719 (by decide +kernel) rfl
theorem mw_720 : ((Jvm.Cond.selects "SugarKitchen$Box" ({ cls := "SugarKitchen$Box", name := "add", desc := "(IJ)V" } : Jvm.MethodName) ({ cls := "SugarKitchen$Box", name := "add", desc := "(IJ)V" } : Jvm.MethodName)) : Cond) ∈ gT := gI 720 (by decide +kernel) rfl
set_option maxRecDepth 100000 in
theorem mw_721 : ((Jvm.Cond.code ({ cls := "SugarKitchen$Box", name := "add", desc := "(IJ)V" } : Jvm.MethodName) prog_3_method_2_code (5 : Nat) (Option.none : Option Jvm.ClassFile.FieldType)) : Cond) ∈ gT := gI 721 rfl rfl
theorem mw_722 : ((Jvm.Cond.methodLink "SugarKitchen" (293 : Nat) ({ cls := "SugarKitchen", name := "warningsOf", desc := "(J)I" } : Jvm.MethodName)) : Cond) ∈ gT := gI 722 (by decide +kernel) rfl
theorem mw_724 : ((Jvm.Cond.instanceMethod ({ cls := "SugarKitchen", name := "warningsOf", desc := "(J)I" } : Jvm.MethodName)) : Cond) ∈ gT := gI 724 (by decide +kernel) rfl
set_option maxRecDepth 100000 in
theorem mw_725 : ((Jvm.Cond.code ({ cls := "SugarKitchen", name := "warningsOf", desc := "(J)I" } : Jvm.MethodName) prog_1_method_50_code (6 : Nat) (Option.some Jvm.ClassFile.FieldType.int)) : Cond) ∈ gT := gI 725 rfl rfl
theorem mw_726 : ((Jvm.Cond.methodLink "SugarKitchenLaw" (113 : Nat) ({ cls := "SugarKitchen", name := "would", desc := "(IIII)I" } : Jvm.MethodName)) : Cond) ∈ gT := gI 726 (by decide +kernel) rfl
theorem mw_727 : ((Jvm.Cond.instanceMethod ({ cls := "SugarKitchen", name := "would", desc := "(IIII)I" } : Jvm.MethodName)) : Cond) ∈ gT := gI 727 (by decide +kernel) rfl
theorem mw_728 : ((Jvm.Cond.selects "SugarKitchen" ({ cls := "SugarKitchen", name := "would", desc := "(IIII)I" } : Jvm.MethodName) ({ cls := "SugarKitchen", name := "would", desc := "(IIII)I" } : Jvm.MethodName)) : Cond) ∈ gT := gI 728 (by decide +kernel) rfl
set_option maxRecDepth 100000 in
theorem mw_729 : ((Jvm.Cond.code ({ cls := "SugarKitchen", name := "would", desc := "(IIII)I" } : Jvm.MethodName) prog_1_method_25_code (6 : Nat) (Option.some Jvm.ClassFile.FieldType.int)) : Cond) ∈ gT := gI 729 rfl rfl
theorem mw_730 : ((Jvm.Cond.methodLink "SugarKitchen" (300 : Nat) ({ cls := "SugarKitchen", name := "countFull", desc := "(III)I" } : Jvm.MethodName)) : Cond) ∈ gT := gI 730 (by decide +kernel) rfl
theorem mw_732 : ((Jvm.Cond.instanceMethod ({ cls := "SugarKitchen", name := "countFull", desc := "(III)I" } : Jvm.MethodName)) : Cond) ∈ gT := gI 732 (by decide +kernel) rfl
set_option maxRecDepth 100000 in
theorem mw_733 : ((Jvm.Cond.code ({ cls := "SugarKitchen", name := "countFull", desc := "(III)I" } : Jvm.MethodName) prog_1_method_49_code (6 : Nat) (Option.some Jvm.ClassFile.FieldType.int)) : Cond) ∈ gT := gI 733 rfl rfl
theorem mw_734 : ((Jvm.Cond.methodLink "SugarKitchen" (358 : Nat) ({ cls := "java/lang/System", name := "arraycopy", desc := "(Ljava/lang/Object;ILjava/lang/Object;II)V" } : Jvm.MethodName)) : Cond) ∈ gT := gI 734 (by decide +kernel) rfl
theorem mw_735 : ((Jvm.Cond.methodLink "SugarKitchen" (304 : Nat) ({ cls := "SugarKitchen$Parting", name := "mostBoxes", desc := "(LSugarKitchen$Choice;II)I" } : Jvm.MethodName)) : Cond) ∈ gT := gI 735 (by decide +kernel) rfl
theorem mw_736 : ((Jvm.Cond.instanceMethod ({ cls := "SugarKitchen$Parting", name := "mostBoxes", desc := "(LSugarKitchen$Choice;II)I" } : Jvm.MethodName)) : Cond) ∈ gT := gI 736 (by decide +kernel) rfl
theorem mw_737 : ((Jvm.Cond.selects "SugarKitchen$Parting" ({ cls := "SugarKitchen$Parting", name := "mostBoxes", desc := "(LSugarKitchen$Choice;II)I" } : Jvm.MethodName) ({ cls := "SugarKitchen$Parting", name := "mostBoxes", desc := "(LSugarKitchen$Choice;II)I" } : Jvm.MethodName)) : Cond) ∈ gT := gI 737 (by decide +kernel) rfl
set_option maxRecDepth 100000 in
theorem mw_738 : ((Jvm.Cond.code ({ cls := "SugarKitchen$Parting", name := "mostBoxes", desc := "(LSugarKitchen$Choice;II)I" } : Jvm.MethodName) prog_7_method_2_code (7 : Nat) (Option.some Jvm.ClassFile.FieldType.int)) : Cond) ∈ gT := gI 738 rfl rfl
theorem mw_739 : ((Jvm.Cond.methodLink "SugarKitchen$Parting" (28 : Nat) ({ cls := "java/lang/Math", name := "min", desc := "(II)I" } : Jvm.MethodName)) : Cond) ∈ gT := gI 739 (by decide +kernel) rfl
theorem mw_740 : ((Jvm.Cond.methodLink "SugarKitchen$Parting" (35 : Nat) ({ cls := "SugarKitchen$Parting", name := "insert", desc := "(I)V" } : Jvm.MethodName)) : Cond) ∈ gT := gI 740 (by decide +kernel) rfl
theorem mw_742 : ((Jvm.Cond.instanceMethod ({ cls := "SugarKitchen$Parting", name := "insert", desc := "(I)V" } : Jvm.MethodName)) : Cond) ∈ gT := gI 742 (by decide +kernel) rfl
set_option maxRecDepth 100000 in
theorem mw_743 : ((Jvm.Cond.code ({ cls := "SugarKitchen$Parting", name := "insert", desc := "(I)V" } : Jvm.MethodName) prog_7_method_3_code (3 : Nat) (Option.none : Option Jvm.ClassFile.FieldType)) : Cond) ∈ gT := gI 743 rfl rfl
theorem mw_744 : ((Jvm.Cond.methodLink "SugarKitchen$Parting" (39 : Nat) ({ cls := "SugarKitchen$Parting", name := "forget", desc := "()V" } : Jvm.MethodName)) : Cond) ∈ gT := gI 744 (by decide +kernel) rfl
theorem mw_746 : ((Jvm.Cond.instanceMethod ({ cls := "SugarKitchen$Parting", name := "forget", desc := "()V" } : Jvm.MethodName)) : Cond) ∈ gT := gI 746 (by decide +kernel) rfl
set_option maxRecDepth 100000 in
theorem mw_747 : ((Jvm.Cond.code ({ cls := "SugarKitchen$Parting", name := "forget", desc := "()V" } : Jvm.MethodName) prog_7_method_4_code (3 : Nat) (Option.none : Option Jvm.ClassFile.FieldType)) : Cond) ∈ gT := gI 747 rfl rfl
theorem mw_748 : ((Jvm.Cond.methodLink "SugarKitchen$Parting" (42 : Nat) ({ cls := "SugarKitchen$Parting", name := "mostOf", desc := "(II)I" } : Jvm.MethodName)) : Cond) ∈ gT := gI 748 (by decide +kernel) rfl
theorem mw_750 : ((Jvm.Cond.instanceMethod ({ cls := "SugarKitchen$Parting", name := "mostOf", desc := "(II)I" } : Jvm.MethodName)) : Cond) ∈ gT := gI 750 (by decide +kernel) rfl
set_option maxRecDepth 100000 in
theorem mw_751 : ((Jvm.Cond.code ({ cls := "SugarKitchen$Parting", name := "mostOf", desc := "(II)I" } : Jvm.MethodName) prog_7_method_6_code (10 : Nat) (Option.some Jvm.ClassFile.FieldType.int)) : Cond) ∈ gT := gI 751 rfl rfl
theorem mw_752 : ((Jvm.Cond.methodLink "SugarKitchen$Parting" (49 : Nat) ({ cls := "SugarKitchen$Parting", name := "isFree", desc := "(II)Z" } : Jvm.MethodName)) : Cond) ∈ gT := gI 752 (by decide +kernel) rfl
theorem mw_754 : ((Jvm.Cond.instanceMethod ({ cls := "SugarKitchen$Parting", name := "isFree", desc := "(II)Z" } : Jvm.MethodName)) : Cond) ∈ gT := gI 754 (by decide +kernel) rfl
set_option maxRecDepth 100000 in
theorem mw_755 : ((Jvm.Cond.code ({ cls := "SugarKitchen$Parting", name := "isFree", desc := "(II)Z" } : Jvm.MethodName) prog_7_method_5_code (3 : Nat) (Option.some Jvm.ClassFile.FieldType.boolean)) : Cond) ∈ gT := gI 755 rfl rfl
theorem mw_756 : ((Jvm.Cond.methodLink "SugarKitchen$Parting" (53 : Nat) ({ cls := "SugarKitchen$Parting", name := "fillBox", desc := "(IIIII)I" } : Jvm.MethodName)) : Cond) ∈ gT := gI 756 (by decide +kernel) rfl
theorem mw_758 : ((Jvm.Cond.instanceMethod ({ cls := "SugarKitchen$Parting", name := "fillBox", desc := "(IIIII)I" } : Jvm.MethodName)) : Cond) ∈ gT := gI 758 (by decide +kernel) rfl
set_option maxRecDepth 100000 in
theorem mw_759 : ((Jvm.Cond.code ({ cls := "SugarKitchen$Parting", name := "fillBox", desc := "(IIIII)I" } : Jvm.MethodName) prog_7_method_7_code (11 : Nat) (Option.some Jvm.ClassFile.FieldType.int)) : Cond) ∈ gT := gI 759 rfl rfl
theorem mw_760 : ((Jvm.Cond.methodLink "SugarKitchen$Parting" (57 : Nat) ({ cls := "java/lang/Math", name := "max", desc := "(II)I" } : Jvm.MethodName)) : Cond) ∈ gT := gI 760 (by decide +kernel) rfl
theorem mw_761 : ((Jvm.Cond.arrayClass Jvm.ClassFile.FieldType.byte) : Cond) ∈ gT := gI 761 (by decide +kernel) rfl
theorem mw_762 : ((Jvm.Cond.methodLink "SugarKitchenLaw" (118 : Nat) ({ cls := "SugarKitchen", name := "boxOf", desc := "(II)I" } : Jvm.MethodName)) : Cond) ∈ gT := gI 762 (by decide +kernel) rfl
theorem mw_763 : ((Jvm.Cond.instanceMethod ({ cls := "SugarKitchen", name := "boxOf", desc := "(II)I" } : Jvm.MethodName)) : Cond) ∈ gT := gI 763 (by decide +kernel) rfl
theorem mw_764 : ((Jvm.Cond.selects "SugarKitchen" ({ cls := "SugarKitchen", name := "boxOf", desc := "(II)I" } : Jvm.MethodName) ({ cls := "SugarKitchen", name := "boxOf", desc := "(II)I" } : Jvm.MethodName)) : Cond) ∈ gT := gI 764 (by decide +kernel) rfl
set_option maxRecDepth 100000 in
theorem mw_765 : ((Jvm.Cond.code ({ cls := "SugarKitchen", name := "boxOf", desc := "(II)I" } : Jvm.MethodName) prog_1_method_26_code (4 : Nat) (Option.some Jvm.ClassFile.FieldType.int)) : Cond) ∈ gT := gI 765 rfl rfl
theorem mw_766 : ((Jvm.Cond.methodLink "SugarKitchen" (308 : Nat) ({ cls := "SugarKitchen", name := "findBox", desc := "(I)LSugarKitchen$Box;" } : Jvm.MethodName)) : Cond) ∈ gT := gI 766 (by decide +kernel) rfl
theorem mw_768 : ((Jvm.Cond.instanceMethod ({ cls := "SugarKitchen", name := "findBox", desc := "(I)LSugarKitchen$Box;" } : Jvm.MethodName)) : Cond) ∈ gT := gI 768 (by decide +kernel) rfl
set_option maxRecDepth 100000 in
theorem mw_769 : ((Jvm.Cond.code ({ cls := "SugarKitchen", name := "findBox", desc := "(I)LSugarKitchen$Box;" } : Jvm.MethodName) prog_1_method_44_code (2 : Nat) (Option.some (Jvm.ClassFile.FieldType.object "SugarKitchen$Box"))) : Cond) ∈ gT := gI 769 rfl rfl
theorem mw_770 : ((Jvm.Cond.methodLink "SugarKitchen" (312 : Nat) ({ cls := "SugarKitchen$Box", name := "tell", desc := "(I)I" } : Jvm.MethodName)) : Cond) ∈ gT := gI 770 (by decide +kernel) rfl
theorem mw_771 : ((Jvm.Cond.instanceMethod ({ cls := "SugarKitchen$Box", name := "tell", desc := "(I)I" } : Jvm.MethodName)) : Cond) ∈ gT := gI 771 (by decide +kernel) rfl
theorem mw_772 : ((Jvm.Cond.selects "SugarKitchen$Box" ({ cls := "SugarKitchen$Box", name := "tell", desc := "(I)I" } : Jvm.MethodName) ({ cls := "SugarKitchen$Box", name := "tell", desc := "(I)I" } : Jvm.MethodName)) : Cond) ∈ gT := gI 772 (by decide +kernel) rfl
set_option maxRecDepth 100000 in
theorem mw_773 : ((Jvm.Cond.code ({ cls := "SugarKitchen$Box", name := "tell", desc := "(I)I" } : Jvm.MethodName) prog_3_method_3_code (2 : Nat) (Option.some Jvm.ClassFile.FieldType.int)) : Cond) ∈ gT := gI 773 rfl rfl
theorem mt_774 : ((Jvm.Cond.methodLinkNest "SugarKitchen$Box" (35 : Nat) ({ cls := "SugarKitchen", name := "within", desc := "(III)Z" } : Jvm.MethodName) "SugarKitchen") : Cond) ∈ lw_tbl := List.mem_append_right _ (List.mem_of_getElem? (i := 774) (by decide +kernel))
theorem mw_775 : ((Jvm.Cond.methodLink "SugarKitchen$Box" (39 : Nat) ({ cls := "SugarKitchen$Box", name := "lotAt", desc := "(I)I" } : Jvm.MethodName)) : Cond) ∈ gT := gI 775 (by decide +kernel) rfl
theorem mw_777 : ((Jvm.Cond.instanceMethod ({ cls := "SugarKitchen$Box", name := "lotAt", desc := "(I)I" } : Jvm.MethodName)) : Cond) ∈ gT := gI 777 (by decide +kernel) rfl
set_option maxRecDepth 100000 in
theorem mw_778 : ((Jvm.Cond.code ({ cls := "SugarKitchen$Box", name := "lotAt", desc := "(I)I" } : Jvm.MethodName) prog_3_method_4_code (4 : Nat) (Option.some Jvm.ClassFile.FieldType.int)) : Cond) ∈ gT := gI 778 rfl rfl
theorem mw_779 : ((Jvm.Cond.methodLink "SugarKitchen$Box" (46 : Nat) ({ cls := "java/lang/Long", name := "bitCount", desc := "(J)I" } : Jvm.MethodName)) : Cond) ∈ gT := gI 779 (by decide +kernel) rfl
theorem mw_780 : ((Jvm.Cond.static ({ cls := "java/lang/Long", name := "bitCount", desc := "(J)I" } : Jvm.MethodName)) : Cond) ∈ gT := gI 780 (by decide +kernel) rfl
set_option maxRecDepth 100000 in
theorem mw_781 : ((Jvm.Cond.code ({ cls := "java/lang/Long", name := "bitCount", desc := "(J)I" } : Jvm.MethodName) prog_15_method_50_code (2 : Nat) (Option.some Jvm.ClassFile.FieldType.int)) : Cond) ∈ gT := gI 781 rfl rfl
theorem mw_782 : ((Jvm.Cond.constantLong "java/lang/Long" (314 : Nat) (6148914691236517205 : Int64)) : Cond) ∈ gT := gI 782 (by decide +kernel) rfl
theorem mw_783 : ((Jvm.Cond.constantLong "java/lang/Long" (316 : Nat) (3689348814741910323 : Int64)) : Cond) ∈ gT := gI 783 (by decide +kernel) rfl
theorem mw_784 : ((Jvm.Cond.constantLong "java/lang/Long" (318 : Nat) (1085102592571150095 : Int64)) : Cond) ∈ gT := gI 784 (by decide +kernel) rfl
theorem mw_785 : ((Jvm.Cond.methodLink "SugarKitchenLaw" (122 : Nat) ({ cls := "SugarKitchen", name := "wash", desc := "(III)Z" } : Jvm.MethodName)) : Cond) ∈ gT := gI 785 (by decide +kernel) rfl
theorem mw_786 : ((Jvm.Cond.instanceMethod ({ cls := "SugarKitchen", name := "wash", desc := "(III)Z" } : Jvm.MethodName)) : Cond) ∈ gT := gI 786 (by decide +kernel) rfl
theorem mw_787 : ((Jvm.Cond.selects "SugarKitchen" ({ cls := "SugarKitchen", name := "wash", desc := "(III)Z" } : Jvm.MethodName) ({ cls := "SugarKitchen", name := "wash", desc := "(III)Z" } : Jvm.MethodName)) : Cond) ∈ gT := gI 787 (by decide +kernel) rfl
set_option maxRecDepth 100000 in
theorem mw_788 : ((Jvm.Cond.code ({ cls := "SugarKitchen", name := "wash", desc := "(III)Z" } : Jvm.MethodName) prog_1_method_27_code (4 : Nat) (Option.some Jvm.ClassFile.FieldType.boolean)) : Cond) ∈ gT := gI 788 rfl rfl
theorem mw_789 : ((Jvm.Cond.methodLink "SugarKitchen" (313 : Nat) ({ cls := "SugarKitchen$Kettle", name := "setWashing", desc := "(III)V" } : Jvm.MethodName)) : Cond) ∈ gT := gI 789 (by decide +kernel) rfl
theorem mw_790 : ((Jvm.Cond.instanceMethod ({ cls := "SugarKitchen$Kettle", name := "setWashing", desc := "(III)V" } : Jvm.MethodName)) : Cond) ∈ gT := gI 790 (by decide +kernel) rfl
theorem mw_791 : ((Jvm.Cond.selects "SugarKitchen$Kettle" ({ cls := "SugarKitchen$Kettle", name := "setWashing", desc := "(III)V" } : Jvm.MethodName) ({ cls := "SugarKitchen$Kettle", name := "setWashing", desc := "(III)V" } : Jvm.MethodName)) : Cond) ∈ gT := gI 791 (by decide +kernel) rfl
set_option maxRecDepth 100000 in
theorem mw_792 : ((Jvm.Cond.code ({ cls := "SugarKitchen$Kettle", name := "setWashing", desc := "(III)V" } : Jvm.MethodName) prog_5_method_2_code (4 : Nat) (Option.none : Option Jvm.ClassFile.FieldType)) : Cond) ∈ gT := gI 792 rfl rfl
theorem mw_793 : ((Jvm.Cond.methodLink "SugarKitchenLaw" (126 : Nat) ({ cls := "SugarKitchen", name := "queue", desc := "(I)I" } : Jvm.MethodName)) : Cond) ∈ gT := gI 793 (by decide +kernel) rfl
theorem mw_794 : ((Jvm.Cond.instanceMethod ({ cls := "SugarKitchen", name := "queue", desc := "(I)I" } : Jvm.MethodName)) : Cond) ∈ gT := gI 794 (by decide +kernel) rfl
theorem mw_795 : ((Jvm.Cond.selects "SugarKitchen" ({ cls := "SugarKitchen", name := "queue", desc := "(I)I" } : Jvm.MethodName) ({ cls := "SugarKitchen", name := "queue", desc := "(I)I" } : Jvm.MethodName)) : Cond) ∈ gT := gI 795 (by decide +kernel) rfl
set_option maxRecDepth 100000 in
theorem mw_796 : ((Jvm.Cond.code ({ cls := "SugarKitchen", name := "queue", desc := "(I)I" } : Jvm.MethodName) prog_1_method_28_code (3 : Nat) (Option.some Jvm.ClassFile.FieldType.int)) : Cond) ∈ gT := gI 796 rfl rfl
theorem mw_797 : ((Jvm.Cond.methodLink "SugarKitchen" (316 : Nat) ({ cls := "SugarKitchen$Kettle", name := "empty", desc := "()V" } : Jvm.MethodName)) : Cond) ∈ gT := gI 797 (by decide +kernel) rfl
theorem mw_798 : ((Jvm.Cond.instanceMethod ({ cls := "SugarKitchen$Kettle", name := "empty", desc := "()V" } : Jvm.MethodName)) : Cond) ∈ gT := gI 798 (by decide +kernel) rfl
theorem mw_799 : ((Jvm.Cond.selects "SugarKitchen$Kettle" ({ cls := "SugarKitchen$Kettle", name := "empty", desc := "()V" } : Jvm.MethodName) ({ cls := "SugarKitchen$Kettle", name := "empty", desc := "()V" } : Jvm.MethodName)) : Cond) ∈ gT := gI 799 (by decide +kernel) rfl
set_option maxRecDepth 100000 in
theorem mw_800 : ((Jvm.Cond.code ({ cls := "SugarKitchen$Kettle", name := "empty", desc := "()V" } : Jvm.MethodName) prog_5_method_3_code (1 : Nat) (Option.none : Option Jvm.ClassFile.FieldType)) : Cond) ∈ gT := gI 800 rfl rfl
theorem mw_801 : ((Jvm.Cond.methodLink "SugarKitchen" (319 : Nat) ({ cls := "SugarKitchen$Kettle", name := "add", desc := "(II)I" } : Jvm.MethodName)) : Cond) ∈ gT := gI 801 (by decide +kernel) rfl
theorem mw_802 : ((Jvm.Cond.instanceMethod ({ cls := "SugarKitchen$Kettle", name := "add", desc := "(II)I" } : Jvm.MethodName)) : Cond) ∈ gT := gI 802 (by decide +kernel) rfl
theorem mw_803 : ((Jvm.Cond.selects "SugarKitchen$Kettle" ({ cls := "SugarKitchen$Kettle", name := "add", desc := "(II)I" } : Jvm.MethodName) ({ cls := "SugarKitchen$Kettle", name := "add", desc := "(II)I" } : Jvm.MethodName)) : Cond) ∈ gT := gI 803 (by decide +kernel) rfl
set_option maxRecDepth 100000 in
theorem mw_804 : ((Jvm.Cond.code ({ cls := "SugarKitchen$Kettle", name := "add", desc := "(II)I" } : Jvm.MethodName) prog_5_method_4_code (4 : Nat) (Option.some Jvm.ClassFile.FieldType.int)) : Cond) ∈ gT := gI 804 rfl rfl
theorem mw_805 : ((Jvm.Cond.methodLink "SugarKitchenLaw" (130 : Nat) ({ cls := "SugarKitchen", name := "order", desc := "(ZI)I" } : Jvm.MethodName)) : Cond) ∈ gT := gI 805 (by decide +kernel) rfl
theorem mw_806 : ((Jvm.Cond.instanceMethod ({ cls := "SugarKitchen", name := "order", desc := "(ZI)I" } : Jvm.MethodName)) : Cond) ∈ gT := gI 806 (by decide +kernel) rfl
theorem mw_807 : ((Jvm.Cond.selects "SugarKitchen" ({ cls := "SugarKitchen", name := "order", desc := "(ZI)I" } : Jvm.MethodName) ({ cls := "SugarKitchen", name := "order", desc := "(ZI)I" } : Jvm.MethodName)) : Cond) ∈ gT := gI 807 (by decide +kernel) rfl
set_option maxRecDepth 100000 in
theorem mw_808 : ((Jvm.Cond.code ({ cls := "SugarKitchen", name := "order", desc := "(ZI)I" } : Jvm.MethodName) prog_1_method_29_code (3 : Nat) (Option.some Jvm.ClassFile.FieldType.int)) : Cond) ∈ gT := gI 808 rfl rfl
theorem mw_809 : ((Jvm.Cond.methodLink "SugarKitchen" (322 : Nat) ({ cls := "SugarKitchen$Kettle", name := "findOrder", desc := "(Z)V" } : Jvm.MethodName)) : Cond) ∈ gT := gI 809 (by decide +kernel) rfl
theorem mw_810 : ((Jvm.Cond.instanceMethod ({ cls := "SugarKitchen$Kettle", name := "findOrder", desc := "(Z)V" } : Jvm.MethodName)) : Cond) ∈ gT := gI 810 (by decide +kernel) rfl
theorem mw_811 : ((Jvm.Cond.selects "SugarKitchen$Kettle" ({ cls := "SugarKitchen$Kettle", name := "findOrder", desc := "(Z)V" } : Jvm.MethodName) ({ cls := "SugarKitchen$Kettle", name := "findOrder", desc := "(Z)V" } : Jvm.MethodName)) : Cond) ∈ gT := gI 811 (by decide +kernel) rfl
set_option maxRecDepth 100000 in
theorem mw_812 : ((Jvm.Cond.code ({ cls := "SugarKitchen$Kettle", name := "findOrder", desc := "(Z)V" } : Jvm.MethodName) prog_5_method_5_code (3 : Nat) (Option.none : Option Jvm.ClassFile.FieldType)) : Cond) ∈ gT := gI 812 rfl rfl
theorem mw_813 : ((Jvm.Cond.methodLink "SugarKitchen$Kettle" (51 : Nat) ({ cls := "SugarKitchen$Kettle", name := "countKinds", desc := "()I" } : Jvm.MethodName)) : Cond) ∈ gT := gI 813 (by decide +kernel) rfl
theorem mw_815 : ((Jvm.Cond.instanceMethod ({ cls := "SugarKitchen$Kettle", name := "countKinds", desc := "()I" } : Jvm.MethodName)) : Cond) ∈ gT := gI 815 (by decide +kernel) rfl
set_option maxRecDepth 100000 in
theorem mw_816 : ((Jvm.Cond.code ({ cls := "SugarKitchen$Kettle", name := "countKinds", desc := "()I" } : Jvm.MethodName) prog_5_method_6_code (3 : Nat) (Option.some Jvm.ClassFile.FieldType.int)) : Cond) ∈ gT := gI 816 rfl rfl
theorem mw_817 : ((Jvm.Cond.methodLink "SugarKitchen$Kettle" (62 : Nat) ({ cls := "java/util/Arrays", name := "fill", desc := "([II)V" } : Jvm.MethodName)) : Cond) ∈ gT := gI 817 (by decide +kernel) rfl
theorem mw_818 : ((Jvm.Cond.methodLink "SugarKitchen$Kettle" (68 : Nat) ({ cls := "java/lang/Math", name := "min", desc := "(II)I" } : Jvm.MethodName)) : Cond) ∈ gT := gI 818 (by decide +kernel) rfl
theorem mw_819 : ((Jvm.Cond.methodLink "SugarKitchen$Kettle" (55 : Nat) ({ cls := "SugarKitchen$Kettle", name := "findLeast", desc := "(IZ)V" } : Jvm.MethodName)) : Cond) ∈ gT := gI 819 (by decide +kernel) rfl
theorem mw_821 : ((Jvm.Cond.instanceMethod ({ cls := "SugarKitchen$Kettle", name := "findLeast", desc := "(IZ)V" } : Jvm.MethodName)) : Cond) ∈ gT := gI 821 (by decide +kernel) rfl
set_option maxRecDepth 100000 in
theorem mw_822 : ((Jvm.Cond.code ({ cls := "SugarKitchen$Kettle", name := "findLeast", desc := "(IZ)V" } : Jvm.MethodName) prog_5_method_7_code (4 : Nat) (Option.none : Option Jvm.ClassFile.FieldType)) : Cond) ∈ gT := gI 822 rfl rfl
theorem mw_823 : ((Jvm.Cond.methodLink "SugarKitchen$Kettle" (77 : Nat) ({ cls := "SugarKitchen$Kettle", name := "countOn", desc := "()V" } : Jvm.MethodName)) : Cond) ∈ gT := gI 823 (by decide +kernel) rfl
theorem mw_825 : ((Jvm.Cond.instanceMethod ({ cls := "SugarKitchen$Kettle", name := "countOn", desc := "()V" } : Jvm.MethodName)) : Cond) ∈ gT := gI 825 (by decide +kernel) rfl
set_option maxRecDepth 100000 in
theorem mw_826 : ((Jvm.Cond.code ({ cls := "SugarKitchen$Kettle", name := "countOn", desc := "()V" } : Jvm.MethodName) prog_5_method_8_code (2 : Nat) (Option.none : Option Jvm.ClassFile.FieldType)) : Cond) ∈ gT := gI 826 rfl rfl
theorem mw_827 : ((Jvm.Cond.methodLink "SugarKitchen$Kettle" (80 : Nat) ({ cls := "SugarKitchen$Kettle", name := "findLeastOf", desc := "(IZ)V" } : Jvm.MethodName)) : Cond) ∈ gT := gI 827 (by decide +kernel) rfl
theorem mw_829 : ((Jvm.Cond.instanceMethod ({ cls := "SugarKitchen$Kettle", name := "findLeastOf", desc := "(IZ)V" } : Jvm.MethodName)) : Cond) ∈ gT := gI 829 (by decide +kernel) rfl
set_option maxRecDepth 100000 in
theorem mw_830 : ((Jvm.Cond.code ({ cls := "SugarKitchen$Kettle", name := "findLeastOf", desc := "(IZ)V" } : Jvm.MethodName) prog_5_method_9_code (8 : Nat) (Option.none : Option Jvm.ClassFile.FieldType)) : Cond) ∈ gT := gI 830 rfl rfl
theorem mw_831 : ((Jvm.Cond.constant "SugarKitchen$Kettle" (83 : Nat) (2147483647 : Int32)) : Cond) ∈ gT := gI 831 (by decide +kernel) rfl
theorem mw_832 : ((Jvm.Cond.methodLink "SugarKitchen$Kettle" (84 : Nat) ({ cls := "SugarKitchen$Kettle", name := "mayCome", desc := "(IZ)Z" } : Jvm.MethodName)) : Cond) ∈ gT := gI 832 (by decide +kernel) rfl
theorem mw_834 : ((Jvm.Cond.instanceMethod ({ cls := "SugarKitchen$Kettle", name := "mayCome", desc := "(IZ)Z" } : Jvm.MethodName)) : Cond) ∈ gT := gI 834 (by decide +kernel) rfl
set_option maxRecDepth 100000 in
theorem mw_835 : ((Jvm.Cond.code ({ cls := "SugarKitchen$Kettle", name := "mayCome", desc := "(IZ)Z" } : Jvm.MethodName) prog_5_method_11_code (3 : Nat) (Option.some Jvm.ClassFile.FieldType.boolean)) : Cond) ∈ gT := gI 835 rfl rfl
theorem mw_836 : ((Jvm.Cond.methodLink "SugarKitchen$Kettle" (91 : Nat) ({ cls := "SugarKitchen$Kettle", name := "onlyNutsWait", desc := "()Z" } : Jvm.MethodName)) : Cond) ∈ gT := gI 836 (by decide +kernel) rfl
theorem mw_838 : ((Jvm.Cond.instanceMethod ({ cls := "SugarKitchen$Kettle", name := "onlyNutsWait", desc := "()Z" } : Jvm.MethodName)) : Cond) ∈ gT := gI 838 (by decide +kernel) rfl
set_option maxRecDepth 100000 in
theorem mw_839 : ((Jvm.Cond.code ({ cls := "SugarKitchen$Kettle", name := "onlyNutsWait", desc := "()Z" } : Jvm.MethodName) prog_5_method_12_code (2 : Nat) (Option.some Jvm.ClassFile.FieldType.boolean)) : Cond) ∈ gT := gI 839 rfl rfl
theorem mw_840 : ((Jvm.Cond.methodLink "SugarKitchen$Kettle" (88 : Nat) ({ cls := "SugarKitchen$Kettle", name := "leastOnce", desc := "(II)I" } : Jvm.MethodName)) : Cond) ∈ gT := gI 840 (by decide +kernel) rfl
theorem mw_842 : ((Jvm.Cond.instanceMethod ({ cls := "SugarKitchen$Kettle", name := "leastOnce", desc := "(II)I" } : Jvm.MethodName)) : Cond) ∈ gT := gI 842 (by decide +kernel) rfl
set_option maxRecDepth 100000 in
theorem mw_843 : ((Jvm.Cond.code ({ cls := "SugarKitchen$Kettle", name := "leastOnce", desc := "(II)I" } : Jvm.MethodName) prog_5_method_10_code (4 : Nat) (Option.some Jvm.ClassFile.FieldType.int)) : Cond) ∈ gT := gI 843 rfl rfl
theorem mw_844 : ((Jvm.Cond.methodLink "SugarKitchen$Kettle" (59 : Nat) ({ cls := "SugarKitchen$Kettle", name := "followLeast", desc := "(IZ)V" } : Jvm.MethodName)) : Cond) ∈ gT := gI 844 (by decide +kernel) rfl
theorem mw_846 : ((Jvm.Cond.instanceMethod ({ cls := "SugarKitchen$Kettle", name := "followLeast", desc := "(IZ)V" } : Jvm.MethodName)) : Cond) ∈ gT := gI 846 (by decide +kernel) rfl
set_option maxRecDepth 100000 in
theorem mw_847 : ((Jvm.Cond.code ({ cls := "SugarKitchen$Kettle", name := "followLeast", desc := "(IZ)V" } : Jvm.MethodName) prog_5_method_13_code (8 : Nat) (Option.none : Option Jvm.ClassFile.FieldType)) : Cond) ∈ gT := gI 847 rfl rfl
theorem mw_848 : ((Jvm.Cond.methodLink "SugarKitchen$Kettle" (95 : Nat) ({ cls := "java/lang/System", name := "arraycopy", desc := "(Ljava/lang/Object;ILjava/lang/Object;II)V" } : Jvm.MethodName)) : Cond) ∈ gT := gI 848 (by decide +kernel) rfl
theorem mw_849 : ((Jvm.Cond.methodLink "SugarKitchen$Kettle" (101 : Nat) ({ cls := "SugarKitchen$Kettle", name := "findNext", desc := "(IIZ)I" } : Jvm.MethodName)) : Cond) ∈ gT := gI 849 (by decide +kernel) rfl
theorem mw_851 : ((Jvm.Cond.instanceMethod ({ cls := "SugarKitchen$Kettle", name := "findNext", desc := "(IIZ)I" } : Jvm.MethodName)) : Cond) ∈ gT := gI 851 (by decide +kernel) rfl
set_option maxRecDepth 100000 in
theorem mw_852 : ((Jvm.Cond.code ({ cls := "SugarKitchen$Kettle", name := "findNext", desc := "(IIZ)I" } : Jvm.MethodName) prog_5_method_14_code (8 : Nat) (Option.some Jvm.ClassFile.FieldType.int)) : Cond) ∈ gT := gI 852 rfl rfl
theorem mw_853 : ((Jvm.Cond.methodLink "SugarKitchenLaw" (135 : Nat) ({ cls := "SugarKitchen", name := "recall", desc := "(III)I" } : Jvm.MethodName)) : Cond) ∈ gT := gI 853 (by decide +kernel) rfl
theorem mw_854 : ((Jvm.Cond.instanceMethod ({ cls := "SugarKitchen", name := "recall", desc := "(III)I" } : Jvm.MethodName)) : Cond) ∈ gT := gI 854 (by decide +kernel) rfl
theorem mw_855 : ((Jvm.Cond.selects "SugarKitchen" ({ cls := "SugarKitchen", name := "recall", desc := "(III)I" } : Jvm.MethodName) ({ cls := "SugarKitchen", name := "recall", desc := "(III)I" } : Jvm.MethodName)) : Cond) ∈ gT := gI 855 (by decide +kernel) rfl
set_option maxRecDepth 100000 in
theorem mw_856 : ((Jvm.Cond.code ({ cls := "SugarKitchen", name := "recall", desc := "(III)I" } : Jvm.MethodName) prog_1_method_30_code (7 : Nat) (Option.some Jvm.ClassFile.FieldType.int)) : Cond) ∈ gT := gI 856 rfl rfl
theorem mw_857 : ((Jvm.Cond.methodLink "SugarKitchen" (333 : Nat) ({ cls := "SugarKitchen", name := "lotsIn", desc := "(II)J" } : Jvm.MethodName)) : Cond) ∈ gT := gI 857 (by decide +kernel) rfl
theorem mw_859 : ((Jvm.Cond.instanceMethod ({ cls := "SugarKitchen", name := "lotsIn", desc := "(II)J" } : Jvm.MethodName)) : Cond) ∈ gT := gI 859 (by decide +kernel) rfl
set_option maxRecDepth 100000 in
theorem mw_860 : ((Jvm.Cond.code ({ cls := "SugarKitchen", name := "lotsIn", desc := "(II)J" } : Jvm.MethodName) prog_1_method_51_code (4 : Nat) (Option.some Jvm.ClassFile.FieldType.long)) : Cond) ∈ gT := gI 860 rfl rfl
theorem mw_861 : ((Jvm.Cond.methodLink "SugarKitchenLaw" (139 : Nat) ({ cls := "SugarKitchen", name := "about", desc := "(I)I" } : Jvm.MethodName)) : Cond) ∈ gT := gI 861 (by decide +kernel) rfl
theorem mw_862 : ((Jvm.Cond.instanceMethod ({ cls := "SugarKitchen", name := "about", desc := "(I)I" } : Jvm.MethodName)) : Cond) ∈ gT := gI 862 (by decide +kernel) rfl
theorem mw_863 : ((Jvm.Cond.selects "SugarKitchen" ({ cls := "SugarKitchen", name := "about", desc := "(I)I" } : Jvm.MethodName) ({ cls := "SugarKitchen", name := "about", desc := "(I)I" } : Jvm.MethodName)) : Cond) ∈ gT := gI 863 (by decide +kernel) rfl
set_option maxRecDepth 100000 in
theorem mw_864 : ((Jvm.Cond.code ({ cls := "SugarKitchen", name := "about", desc := "(I)I" } : Jvm.MethodName) prog_1_method_31_code (2 : Nat) (Option.some Jvm.ClassFile.FieldType.int)) : Cond) ∈ gT := gI 864 rfl rfl
theorem mw_865 : ((Jvm.Cond.methodLink "SugarKitchen" (340 : Nat) ({ cls := "SugarKitchen", name := "countFit", desc := "()I" } : Jvm.MethodName)) : Cond) ∈ gT := gI 865 (by decide +kernel) rfl
theorem mw_867 : ((Jvm.Cond.instanceMethod ({ cls := "SugarKitchen", name := "countFit", desc := "()I" } : Jvm.MethodName)) : Cond) ∈ gT := gI 867 (by decide +kernel) rfl
set_option maxRecDepth 100000 in
theorem mw_868 : ((Jvm.Cond.code ({ cls := "SugarKitchen", name := "countFit", desc := "()I" } : Jvm.MethodName) prog_1_method_52_code (4 : Nat) (Option.some Jvm.ClassFile.FieldType.int)) : Cond) ∈ gT := gI 868 rfl rfl
theorem mw_869 : ((Jvm.Cond.methodLink "SugarKitchenLaw" (143 : Nat) ({ cls := "SugarKitchen", name := "left", desc := "(I)I" } : Jvm.MethodName)) : Cond) ∈ gT := gI 869 (by decide +kernel) rfl
theorem mw_870 : ((Jvm.Cond.instanceMethod ({ cls := "SugarKitchen", name := "left", desc := "(I)I" } : Jvm.MethodName)) : Cond) ∈ gT := gI 870 (by decide +kernel) rfl
theorem mw_871 : ((Jvm.Cond.selects "SugarKitchen" ({ cls := "SugarKitchen", name := "left", desc := "(I)I" } : Jvm.MethodName) ({ cls := "SugarKitchen", name := "left", desc := "(I)I" } : Jvm.MethodName)) : Cond) ∈ gT := gI 871 (by decide +kernel) rfl
set_option maxRecDepth 100000 in
theorem mw_872 : ((Jvm.Cond.code ({ cls := "SugarKitchen", name := "left", desc := "(I)I" } : Jvm.MethodName) prog_1_method_32_code (3 : Nat) (Option.some Jvm.ClassFile.FieldType.int)) : Cond) ∈ gT := gI 872 rfl rfl
theorem mw_873 : ((Jvm.Cond.classLink "SugarKitchenLaw" (10 : Nat) "SugarKitchenModel") : Cond) ∈ gT := gI 873 (by decide +kernel) rfl
theorem mw_874 : ((Jvm.Cond.instantiable "SugarKitchenModel" (56 : Nat)) : Cond) ∈ gT := gI 874 (by decide +kernel) rfl
theorem mw_875 : ((Jvm.Cond.methodLink "SugarKitchenLaw" (12 : Nat) ({ cls := "SugarKitchenModel", name := "<init>", desc := "()V" } : Jvm.MethodName)) : Cond) ∈ gT := gI 875 (by decide +kernel) rfl
theorem mw_876 : ((Jvm.Cond.instanceMethod ({ cls := "SugarKitchenModel", name := "<init>", desc := "()V" } : Jvm.MethodName)) : Cond) ∈ gT := gI 876 (by decide +kernel) rfl
set_option maxRecDepth 100000 in
theorem mw_877 : ((Jvm.Cond.code ({ cls := "SugarKitchenModel", name := "<init>", desc := "()V" } : Jvm.MethodName) prog_13_method_1_code (2 : Nat) (Option.none : Option Jvm.ClassFile.FieldType)) : Cond) ∈ gT := gI 877 rfl rfl
theorem mw_878 : ((Jvm.Cond.methodLink "SugarKitchenModel" (1 : Nat) ({ cls := "java/lang/Object", name := "<init>", desc := "()V" } : Jvm.MethodName)) : Cond) ∈ gT := gI 878 (by decide +kernel) rfl
theorem mw_879 : ((Jvm.Cond.constant "SugarKitchenModel" (136 : Nat) (348500 : Int32)) : Cond) ∈ gT := gI 879 (by decide +kernel) rfl
theorem mw_880 : ((Jvm.Cond.fieldLink "SugarKitchenModel" (161 : Nat) "SugarKitchenModel" "lots" "I") : Cond) ∈ gT := gI 880 (by decide +kernel) rfl
theorem mw_881 : ((Jvm.Cond.fieldLink "SugarKitchenModel" (153 : Nat) "SugarKitchenModel" "batches" "I") : Cond) ∈ gT := gI 881 (by decide +kernel) rfl
theorem mw_882 : ((Jvm.Cond.fieldLink "SugarKitchenModel" (203 : Nat) "SugarKitchenModel" "pieces" "I") : Cond) ∈ gT := gI 882 (by decide +kernel) rfl
theorem mw_883 : ((Jvm.Cond.fieldLink "SugarKitchenModel" (235 : Nat) "SugarKitchenModel" "boxes" "I") : Cond) ∈ gT := gI 883 (by decide +kernel) rfl
theorem mw_884 : ((Jvm.Cond.fieldLink "SugarKitchenModel" (175 : Nat) "SugarKitchenModel" "rows" "I") : Cond) ∈ gT := gI 884 (by decide +kernel) rfl
theorem mw_885 : ((Jvm.Cond.fieldLink "SugarKitchenModel" (274 : Nat) "SugarKitchenModel" "queued" "I") : Cond) ∈ gT := gI 885 (by decide +kernel) rfl
theorem mw_886 : ((Jvm.Cond.fieldLink "SugarKitchenModel" (7 : Nat) "SugarKitchenModel" "left" "[I") : Cond) ∈ gT := gI 886 (by decide +kernel) rfl
theorem mw_887 : ((Jvm.Cond.fieldLink "SugarKitchenModel" (13 : Nat) "SugarKitchenModel" "warnings" "[I") : Cond) ∈ gT := gI 887 (by decide +kernel) rfl
theorem mw_888 : ((Jvm.Cond.fieldLink "SugarKitchenModel" (16 : Nat) "SugarKitchenModel" "kind" "[I") : Cond) ∈ gT := gI 888 (by decide +kernel) rfl
theorem mw_889 : ((Jvm.Cond.fieldLink "SugarKitchenModel" (19 : Nat) "SugarKitchenModel" "mass" "[I") : Cond) ∈ gT := gI 889 (by decide +kernel) rfl
theorem mw_890 : ((Jvm.Cond.fieldLink "SugarKitchenModel" (22 : Nat) "SugarKitchenModel" "given" "[I") : Cond) ∈ gT := gI 890 (by decide +kernel) rfl
theorem mw_891 : ((Jvm.Cond.fieldLink "SugarKitchenModel" (25 : Nat) "SugarKitchenModel" "lost" "[I") : Cond) ∈ gT := gI 891 (by decide +kernel) rfl
theorem mw_892 : ((Jvm.Cond.fieldLink "SugarKitchenModel" (28 : Nat) "SugarKitchenModel" "loss" "[I") : Cond) ∈ gT := gI 892 (by decide +kernel) rfl
theorem mw_893 : ((Jvm.Cond.fieldLink "SugarKitchenModel" (31 : Nat) "SugarKitchenModel" "top" "[I") : Cond) ∈ gT := gI 893 (by decide +kernel) rfl
theorem mw_894 : ((Jvm.Cond.fieldLink "SugarKitchenModel" (34 : Nat) "SugarKitchenModel" "grained" "[I") : Cond) ∈ gT := gI 894 (by decide +kernel) rfl
theorem mw_895 : ((Jvm.Cond.fieldLink "SugarKitchenModel" (37 : Nat) "SugarKitchenModel" "missing" "[I") : Cond) ∈ gT := gI 895 (by decide +kernel) rfl
theorem mw_896 : ((Jvm.Cond.fieldLink "SugarKitchenModel" (40 : Nat) "SugarKitchenModel" "cooked" "[Z") : Cond) ∈ gT := gI 896 (by decide +kernel) rfl
theorem mw_897 : ((Jvm.Cond.fieldLink "SugarKitchenModel" (44 : Nat) "SugarKitchenModel" "vouched" "[Z") : Cond) ∈ gT := gI 897 (by decide +kernel) rfl
theorem mw_898 : ((Jvm.Cond.fieldLink "SugarKitchenModel" (47 : Nat) "SugarKitchenModel" "phase" "[I") : Cond) ∈ gT := gI 898 (by decide +kernel) rfl
theorem mw_899 : ((Jvm.Cond.fieldLink "SugarKitchenModel" (50 : Nat) "SugarKitchenModel" "count" "[I") : Cond) ∈ gT := gI 899 (by decide +kernel) rfl
theorem mw_900 : ((Jvm.Cond.fieldLink "SugarKitchenModel" (53 : Nat) "SugarKitchenModel" "cutOf" "[I") : Cond) ∈ gT := gI 900 (by decide +kernel) rfl
theorem mw_901 : ((Jvm.Cond.fieldLink "SugarKitchenModel" (56 : Nat) "SugarKitchenModel" "dippedOf" "[I") : Cond) ∈ gT := gI 901 (by decide +kernel) rfl
theorem mw_902 : ((Jvm.Cond.fieldLink "SugarKitchenModel" (59 : Nat) "SugarKitchenModel" "has" "[I") : Cond) ∈ gT := gI 902 (by decide +kernel) rfl
theorem mw_903 : ((Jvm.Cond.fieldLink "SugarKitchenModel" (62 : Nat) "SugarKitchenModel" "heatLength" "[I") : Cond) ∈ gT := gI 903 (by decide +kernel) rfl
theorem mw_904 : ((Jvm.Cond.fieldLink "SugarKitchenModel" (65 : Nat) "SugarKitchenModel" "stirLength" "[I") : Cond) ∈ gT := gI 904 (by decide +kernel) rfl
theorem mw_905 : ((Jvm.Cond.fieldLink "SugarKitchenModel" (68 : Nat) "SugarKitchenModel" "heat" "[F") : Cond) ∈ gT := gI 905 (by decide +kernel) rfl
theorem mw_906 : ((Jvm.Cond.fieldLink "SugarKitchenModel" (72 : Nat) "SugarKitchenModel" "stirred" "[Z") : Cond) ∈ gT := gI 906 (by decide +kernel) rfl
theorem mw_907 : ((Jvm.Cond.fieldLink "SugarKitchenModel" (75 : Nat) "SugarKitchenModel" "tableFrom" "[I") : Cond) ∈ gT := gI 907 (by decide +kernel) rfl
theorem mw_908 : ((Jvm.Cond.fieldLink "SugarKitchenModel" (78 : Nat) "SugarKitchenModel" "tableLoss" "[I") : Cond) ∈ gT := gI 908 (by decide +kernel) rfl
theorem mw_909 : ((Jvm.Cond.fieldLink "SugarKitchenModel" (178 : Nat) "SugarKitchenModel" "grainLow" "I") : Cond) ∈ gT := gI 909 (by decide +kernel) rfl
theorem mw_910 : ((Jvm.Cond.fieldLink "SugarKitchenModel" (81 : Nat) "SugarKitchenModel" "grainHigh" "I") : Cond) ∈ gT := gI 910 (by decide +kernel) rfl
theorem mw_911 : ((Jvm.Cond.fieldLink "SugarKitchenModel" (85 : Nat) "SugarKitchenModel" "low" "[I") : Cond) ∈ gT := gI 911 (by decide +kernel) rfl
theorem mw_912 : ((Jvm.Cond.fieldLink "SugarKitchenModel" (88 : Nat) "SugarKitchenModel" "high" "[I") : Cond) ∈ gT := gI 912 (by decide +kernel) rfl
theorem mw_913 : ((Jvm.Cond.fieldLink "SugarKitchenModel" (91 : Nat) "SugarKitchenModel" "degrees" "[I") : Cond) ∈ gT := gI 913 (by decide +kernel) rfl
theorem mw_914 : ((Jvm.Cond.fieldLink "SugarKitchenModel" (94 : Nat) "SugarKitchenModel" "washing" "[I") : Cond) ∈ gT := gI 914 (by decide +kernel) rfl
theorem mw_915 : ((Jvm.Cond.fieldLink "SugarKitchenModel" (97 : Nat) "SugarKitchenModel" "queue" "[I") : Cond) ∈ gT := gI 915 (by decide +kernel) rfl
theorem mw_916 : ((Jvm.Cond.fieldLink "SugarKitchenModel" (100 : Nat) "SugarKitchenModel" "batchOfPiece" "[I") : Cond) ∈ gT := gI 916 (by decide +kernel) rfl
theorem mw_917 : ((Jvm.Cond.fieldLink "SugarKitchenModel" (103 : Nat) "SugarKitchenModel" "weight" "[I") : Cond) ∈ gT := gI 917 (by decide +kernel) rfl
theorem mw_918 : ((Jvm.Cond.fieldLink "SugarKitchenModel" (106 : Nat) "SugarKitchenModel" "coat" "[I") : Cond) ∈ gT := gI 918 (by decide +kernel) rfl
theorem mw_919 : ((Jvm.Cond.fieldLink "SugarKitchenModel" (109 : Nat) "SugarKitchenModel" "temper" "[I") : Cond) ∈ gT := gI 919 (by decide +kernel) rfl
theorem mw_920 : ((Jvm.Cond.fieldLink "SugarKitchenModel" (112 : Nat) "SugarKitchenModel" "allowed" "[Z") : Cond) ∈ gT := gI 920 (by decide +kernel) rfl
theorem mw_921 : ((Jvm.Cond.fieldLink "SugarKitchenModel" (115 : Nat) "SugarKitchenModel" "whereIs" "[I") : Cond) ∈ gT := gI 921 (by decide +kernel) rfl
theorem mw_922 : ((Jvm.Cond.fieldLink "SugarKitchenModel" (118 : Nat) "SugarKitchenModel" "place" "[I") : Cond) ∈ gT := gI 922 (by decide +kernel) rfl
theorem mw_923 : ((Jvm.Cond.fieldLink "SugarKitchenModel" (121 : Nat) "SugarKitchenModel" "tray" "[I") : Cond) ∈ gT := gI 923 (by decide +kernel) rfl
theorem mw_924 : ((Jvm.Cond.fieldLink "SugarKitchenModel" (124 : Nat) "SugarKitchenModel" "boxWeight" "[I") : Cond) ∈ gT := gI 924 (by decide +kernel) rfl
theorem mw_925 : ((Jvm.Cond.fieldLink "SugarKitchenModel" (127 : Nat) "SugarKitchenModel" "choice" "[I") : Cond) ∈ gT := gI 925 (by decide +kernel) rfl
theorem mw_926 : ((Jvm.Cond.fieldLink "SugarKitchenModel" (130 : Nat) "SugarKitchenModel" "gone" "[Z") : Cond) ∈ gT := gI 926 (by decide +kernel) rfl
theorem mw_927 : ((Jvm.Cond.fieldLink "SugarKitchenModel" (133 : Nat) "SugarKitchenModel" "chosen" "[Z") : Cond) ∈ gT := gI 927 (by decide +kernel) rfl
theorem mw_928 : ((Jvm.Cond.fieldLink "SugarKitchenModel" (222 : Nat) "SugarKitchenModel" "choices" "I") : Cond) ∈ gT := gI 928 (by decide +kernel) rfl
theorem mw_929 : ((Jvm.Cond.fieldLink "SugarKitchenModel" (219 : Nat) "SugarKitchenModel" "listed" "I") : Cond) ∈ gT := gI 929 (by decide +kernel) rfl
theorem mw_930 : ((Jvm.Cond.fieldLink "SugarKitchenModel" (137 : Nat) "SugarKitchenModel" "reach" "[Z") : Cond) ∈ gT := gI 930 (by decide +kernel) rfl
theorem mw_931 : ((Jvm.Cond.fieldLink "SugarKitchenModel" (140 : Nat) "SugarKitchenModel" "now" "[I") : Cond) ∈ gT := gI 931 (by decide +kernel) rfl
theorem mw_932 : ((Jvm.Cond.fieldLink "SugarKitchenModel" (225 : Nat) "SugarKitchenModel" "nows" "I") : Cond) ∈ gT := gI 932 (by decide +kernel) rfl
theorem mw_933 : ((Jvm.Cond.fieldLink "SugarKitchenModel" (143 : Nat) "SugarKitchenModel" "sums" "[I") : Cond) ∈ gT := gI 933 (by decide +kernel) rfl
theorem mw_934 : ((Jvm.Cond.fieldLink "SugarKitchenModel" (146 : Nat) "SugarKitchenModel" "parts" "[B") : Cond) ∈ gT := gI 934 (by decide +kernel) rfl
theorem mw_935 : ((Jvm.Cond.fieldLink "SugarKitchenModel" (150 : Nat) "SugarKitchenModel" "rest" "[I") : Cond) ∈ gT := gI 935 (by decide +kernel) rfl
theorem mw_936 : ((Jvm.Cond.lays "SugarKitchenModel" "SugarKitchenModel" "lots" "I") : Cond) ∈ gT := gI 936 (by decide +kernel) rfl
theorem mw_937 : ((Jvm.Cond.soleField "SugarKitchenModel" "lots") : Cond) ∈ gT := gI 937 (by decide +kernel) rfl
theorem mw_938 : ((Jvm.Cond.lays "SugarKitchenModel" "SugarKitchenModel" "batches" "I") : Cond) ∈ gT := gI 938 (by decide +kernel) rfl
theorem mw_939 : ((Jvm.Cond.soleField "SugarKitchenModel" "batches") : Cond) ∈ gT := gI 939 (by decide +kernel) rfl
theorem mw_940 : ((Jvm.Cond.lays "SugarKitchenModel" "SugarKitchenModel" "pieces" "I") : Cond) ∈ gT := gI 940 (by decide +kernel) rfl
theorem mw_941 : ((Jvm.Cond.soleField "SugarKitchenModel" "pieces") : Cond) ∈ gT := gI 941 (by decide +kernel) rfl
theorem mw_942 : ((Jvm.Cond.lays "SugarKitchenModel" "SugarKitchenModel" "boxes" "I") : Cond) ∈ gT := gI 942 (by decide +kernel) rfl
theorem mw_943 : ((Jvm.Cond.soleField "SugarKitchenModel" "boxes") : Cond) ∈ gT := gI 943 (by decide +kernel) rfl
theorem mw_944 : ((Jvm.Cond.lays "SugarKitchenModel" "SugarKitchenModel" "rows" "I") : Cond) ∈ gT := gI 944 (by decide +kernel) rfl
theorem mw_945 : ((Jvm.Cond.soleField "SugarKitchenModel" "rows") : Cond) ∈ gT := gI 945 (by decide +kernel) rfl
theorem mw_946 : ((Jvm.Cond.lays "SugarKitchenModel" "SugarKitchenModel" "queued" "I") : Cond) ∈ gT := gI 946 (by decide +kernel) rfl
theorem mw_947 : ((Jvm.Cond.soleField "SugarKitchenModel" "queued") : Cond) ∈ gT := gI 947 (by decide +kernel) rfl
theorem mw_948 : ((Jvm.Cond.laysFinal "SugarKitchenModel" "SugarKitchenModel" "left" "[I") : Cond) ∈ gT := gI 948 (by decide +kernel) rfl
theorem mw_949 : ((Jvm.Cond.soleField "SugarKitchenModel" "left") : Cond) ∈ gT := gI 949 (by decide +kernel) rfl
theorem mw_950 : ((Jvm.Cond.laysFinal "SugarKitchenModel" "SugarKitchenModel" "warnings" "[I") : Cond) ∈ gT := gI 950 (by decide +kernel) rfl
theorem mw_951 : ((Jvm.Cond.soleField "SugarKitchenModel" "warnings") : Cond) ∈ gT := gI 951 (by decide +kernel) rfl
theorem mw_952 : ((Jvm.Cond.laysFinal "SugarKitchenModel" "SugarKitchenModel" "kind" "[I") : Cond) ∈ gT := gI 952 (by decide +kernel) rfl
theorem mw_953 : ((Jvm.Cond.soleField "SugarKitchenModel" "kind") : Cond) ∈ gT := gI 953 (by decide +kernel) rfl
theorem mw_954 : ((Jvm.Cond.laysFinal "SugarKitchenModel" "SugarKitchenModel" "mass" "[I") : Cond) ∈ gT := gI 954 (by decide +kernel) rfl
theorem mw_955 : ((Jvm.Cond.soleField "SugarKitchenModel" "mass") : Cond) ∈ gT := gI 955 (by decide +kernel) rfl
theorem mw_956 : ((Jvm.Cond.laysFinal "SugarKitchenModel" "SugarKitchenModel" "given" "[I") : Cond) ∈ gT := gI 956 (by decide +kernel) rfl
theorem mw_957 : ((Jvm.Cond.soleField "SugarKitchenModel" "given") : Cond) ∈ gT := gI 957 (by decide +kernel) rfl
theorem mw_958 : ((Jvm.Cond.laysFinal "SugarKitchenModel" "SugarKitchenModel" "lost" "[I") : Cond) ∈ gT := gI 958 (by decide +kernel) rfl
theorem mw_959 : ((Jvm.Cond.soleField "SugarKitchenModel" "lost") : Cond) ∈ gT := gI 959 (by decide +kernel) rfl
theorem mw_960 : ((Jvm.Cond.laysFinal "SugarKitchenModel" "SugarKitchenModel" "loss" "[I") : Cond) ∈ gT := gI 960 (by decide +kernel) rfl
theorem mw_961 : ((Jvm.Cond.soleField "SugarKitchenModel" "loss") : Cond) ∈ gT := gI 961 (by decide +kernel) rfl
theorem mw_962 : ((Jvm.Cond.laysFinal "SugarKitchenModel" "SugarKitchenModel" "top" "[I") : Cond) ∈ gT := gI 962 (by decide +kernel) rfl
theorem mw_963 : ((Jvm.Cond.soleField "SugarKitchenModel" "top") : Cond) ∈ gT := gI 963 (by decide +kernel) rfl
theorem mw_964 : ((Jvm.Cond.laysFinal "SugarKitchenModel" "SugarKitchenModel" "grained" "[I") : Cond) ∈ gT := gI 964 (by decide +kernel) rfl
theorem mw_965 : ((Jvm.Cond.soleField "SugarKitchenModel" "grained") : Cond) ∈ gT := gI 965 (by decide +kernel) rfl
theorem mw_966 : ((Jvm.Cond.laysFinal "SugarKitchenModel" "SugarKitchenModel" "missing" "[I") : Cond) ∈ gT := gI 966 (by decide +kernel) rfl
theorem mw_967 : ((Jvm.Cond.soleField "SugarKitchenModel" "missing") : Cond) ∈ gT := gI 967 (by decide +kernel) rfl
theorem mw_968 : ((Jvm.Cond.laysFinal "SugarKitchenModel" "SugarKitchenModel" "cooked" "[Z") : Cond) ∈ gT := gI 968 (by decide +kernel) rfl
theorem mw_969 : ((Jvm.Cond.soleField "SugarKitchenModel" "cooked") : Cond) ∈ gT := gI 969 (by decide +kernel) rfl
theorem mw_970 : ((Jvm.Cond.laysFinal "SugarKitchenModel" "SugarKitchenModel" "vouched" "[Z") : Cond) ∈ gT := gI 970 (by decide +kernel) rfl
theorem mw_971 : ((Jvm.Cond.soleField "SugarKitchenModel" "vouched") : Cond) ∈ gT := gI 971 (by decide +kernel) rfl
theorem mw_972 : ((Jvm.Cond.laysFinal "SugarKitchenModel" "SugarKitchenModel" "phase" "[I") : Cond) ∈ gT := gI 972 (by decide +kernel) rfl
theorem mw_973 : ((Jvm.Cond.soleField "SugarKitchenModel" "phase") : Cond) ∈ gT := gI 973 (by decide +kernel) rfl
theorem mw_974 : ((Jvm.Cond.laysFinal "SugarKitchenModel" "SugarKitchenModel" "count" "[I") : Cond) ∈ gT := gI 974 (by decide +kernel) rfl
theorem mw_975 : ((Jvm.Cond.soleField "SugarKitchenModel" "count") : Cond) ∈ gT := gI 975 (by decide +kernel) rfl
theorem mw_976 : ((Jvm.Cond.laysFinal "SugarKitchenModel" "SugarKitchenModel" "cutOf" "[I") : Cond) ∈ gT := gI 976 (by decide +kernel) rfl
theorem mw_977 : ((Jvm.Cond.soleField "SugarKitchenModel" "cutOf") : Cond) ∈ gT := gI 977 (by decide +kernel) rfl
theorem mw_978 : ((Jvm.Cond.laysFinal "SugarKitchenModel" "SugarKitchenModel" "dippedOf" "[I") : Cond) ∈ gT := gI 978 (by decide +kernel) rfl
theorem mw_979 : ((Jvm.Cond.soleField "SugarKitchenModel" "dippedOf") : Cond) ∈ gT := gI 979 (by decide +kernel) rfl
theorem mw_980 : ((Jvm.Cond.laysFinal "SugarKitchenModel" "SugarKitchenModel" "has" "[I") : Cond) ∈ gT := gI 980 (by decide +kernel) rfl
theorem mw_981 : ((Jvm.Cond.soleField "SugarKitchenModel" "has") : Cond) ∈ gT := gI 981 (by decide +kernel) rfl
theorem mw_982 : ((Jvm.Cond.laysFinal "SugarKitchenModel" "SugarKitchenModel" "heatLength" "[I") : Cond) ∈ gT := gI 982 (by decide +kernel) rfl
theorem mw_983 : ((Jvm.Cond.soleField "SugarKitchenModel" "heatLength") : Cond) ∈ gT := gI 983 (by decide +kernel) rfl
theorem mw_984 : ((Jvm.Cond.laysFinal "SugarKitchenModel" "SugarKitchenModel" "stirLength" "[I") : Cond) ∈ gT := gI 984 (by decide +kernel) rfl
theorem mw_985 : ((Jvm.Cond.soleField "SugarKitchenModel" "stirLength") : Cond) ∈ gT := gI 985 (by decide +kernel) rfl
theorem mw_986 : ((Jvm.Cond.laysFinal "SugarKitchenModel" "SugarKitchenModel" "heat" "[F") : Cond) ∈ gT := gI 986 (by decide +kernel) rfl
theorem mw_987 : ((Jvm.Cond.soleField "SugarKitchenModel" "heat") : Cond) ∈ gT := gI 987 (by decide +kernel) rfl
theorem mw_988 : ((Jvm.Cond.laysFinal "SugarKitchenModel" "SugarKitchenModel" "stirred" "[Z") : Cond) ∈ gT := gI 988 (by decide +kernel) rfl
theorem mw_989 : ((Jvm.Cond.soleField "SugarKitchenModel" "stirred") : Cond) ∈ gT := gI 989 (by decide +kernel) rfl
theorem mw_990 : ((Jvm.Cond.laysFinal "SugarKitchenModel" "SugarKitchenModel" "tableFrom" "[I") : Cond) ∈ gT := gI 990 (by decide +kernel) rfl
theorem mw_991 : ((Jvm.Cond.soleField "SugarKitchenModel" "tableFrom") : Cond) ∈ gT := gI 991 (by decide +kernel) rfl
theorem mw_992 : ((Jvm.Cond.laysFinal "SugarKitchenModel" "SugarKitchenModel" "tableLoss" "[I") : Cond) ∈ gT := gI 992 (by decide +kernel) rfl
theorem mw_993 : ((Jvm.Cond.soleField "SugarKitchenModel" "tableLoss") : Cond) ∈ gT := gI 993 (by decide +kernel) rfl
theorem mw_994 : ((Jvm.Cond.lays "SugarKitchenModel" "SugarKitchenModel" "grainLow" "I") : Cond) ∈ gT := gI 994 (by decide +kernel) rfl
theorem mw_995 : ((Jvm.Cond.soleField "SugarKitchenModel" "grainLow") : Cond) ∈ gT := gI 995 (by decide +kernel) rfl
theorem mw_996 : ((Jvm.Cond.lays "SugarKitchenModel" "SugarKitchenModel" "grainHigh" "I") : Cond) ∈ gT := gI 996 (by decide +kernel) rfl
theorem mw_997 : ((Jvm.Cond.soleField "SugarKitchenModel" "grainHigh") : Cond) ∈ gT := gI 997 (by decide +kernel) rfl
theorem mw_998 : ((Jvm.Cond.laysFinal "SugarKitchenModel" "SugarKitchenModel" "low" "[I") : Cond) ∈ gT := gI 998 (by decide +kernel) rfl
theorem mw_999 : ((Jvm.Cond.soleField "SugarKitchenModel" "low") : Cond) ∈ gT := gI 999 (by decide +kernel) rfl
theorem mw_1000 : ((Jvm.Cond.laysFinal "SugarKitchenModel" "SugarKitchenModel" "high" "[I") : Cond) ∈ gT := gI 1000 (by decide +kernel) rfl
theorem mw_1001 : ((Jvm.Cond.soleField "SugarKitchenModel" "high") : Cond) ∈ gT := gI 1001 (by decide +kernel) rfl
theorem mw_1002 : ((Jvm.Cond.laysFinal "SugarKitchenModel" "SugarKitchenModel" "degrees" "[I") : Cond) ∈ gT := gI 1002 (by decide +kernel) rfl
theorem mw_1003 : ((Jvm.Cond.soleField "SugarKitchenModel" "degrees") : Cond) ∈ gT := gI 1003 (by decide +kernel) rfl
theorem mw_1004 : ((Jvm.Cond.laysFinal "SugarKitchenModel" "SugarKitchenModel" "washing" "[I") : Cond) ∈ gT := gI 1004 (by decide +kernel) rfl
theorem mw_1005 : ((Jvm.Cond.soleField "SugarKitchenModel" "washing") : Cond) ∈ gT := gI 1005 (by decide +kernel) rfl
theorem mw_1006 : ((Jvm.Cond.laysFinal "SugarKitchenModel" "SugarKitchenModel" "queue" "[I") : Cond) ∈ gT := gI 1006 (by decide +kernel) rfl
theorem mw_1007 : ((Jvm.Cond.soleField "SugarKitchenModel" "queue") : Cond) ∈ gT := gI 1007 (by decide +kernel) rfl
theorem mw_1008 : ((Jvm.Cond.laysFinal "SugarKitchenModel" "SugarKitchenModel" "batchOfPiece" "[I") : Cond) ∈ gT := gI 1008 (by decide +kernel) rfl
theorem mw_1009 : ((Jvm.Cond.soleField "SugarKitchenModel" "batchOfPiece") : Cond) ∈ gT := gI 1009 (by decide +kernel) rfl
theorem mw_1010 : ((Jvm.Cond.laysFinal "SugarKitchenModel" "SugarKitchenModel" "weight" "[I") : Cond) ∈ gT := gI 1010 (by decide +kernel) rfl
theorem mw_1011 : ((Jvm.Cond.soleField "SugarKitchenModel" "weight") : Cond) ∈ gT := gI 1011 (by decide +kernel) rfl
theorem mw_1012 : ((Jvm.Cond.laysFinal "SugarKitchenModel" "SugarKitchenModel" "coat" "[I") : Cond) ∈ gT := gI 1012 (by decide +kernel) rfl
theorem mw_1013 : ((Jvm.Cond.soleField "SugarKitchenModel" "coat") : Cond) ∈ gT := gI 1013 (by decide +kernel) rfl
theorem mw_1014 : ((Jvm.Cond.laysFinal "SugarKitchenModel" "SugarKitchenModel" "temper" "[I") : Cond) ∈ gT := gI 1014 (by decide +kernel) rfl
theorem mw_1015 : ((Jvm.Cond.soleField "SugarKitchenModel" "temper") : Cond) ∈ gT := gI 1015 (by decide +kernel) rfl
theorem mw_1016 : ((Jvm.Cond.laysFinal "SugarKitchenModel" "SugarKitchenModel" "allowed" "[Z") : Cond) ∈ gT := gI 1016 (by decide +kernel) rfl
theorem mw_1017 : ((Jvm.Cond.soleField "SugarKitchenModel" "allowed") : Cond) ∈ gT := gI 1017 (by decide +kernel) rfl
theorem mw_1018 : ((Jvm.Cond.laysFinal "SugarKitchenModel" "SugarKitchenModel" "whereIs" "[I") : Cond) ∈ gT := gI 1018 (by decide +kernel) rfl
theorem mw_1019 : ((Jvm.Cond.soleField "SugarKitchenModel" "whereIs") : Cond) ∈ gT := gI 1019 (by decide +kernel) rfl
theorem mw_1020 : ((Jvm.Cond.laysFinal "SugarKitchenModel" "SugarKitchenModel" "place" "[I") : Cond) ∈ gT := gI 1020 (by decide +kernel) rfl
theorem mw_1021 : ((Jvm.Cond.soleField "SugarKitchenModel" "place") : Cond) ∈ gT := gI 1021 (by decide +kernel) rfl
theorem mw_1022 : ((Jvm.Cond.laysFinal "SugarKitchenModel" "SugarKitchenModel" "tray" "[I") : Cond) ∈ gT := gI 1022 (by decide +kernel) rfl
theorem mw_1023 : ((Jvm.Cond.soleField "SugarKitchenModel" "tray") : Cond) ∈ gT := gI 1023 (by decide +kernel) rfl
theorem mw_1024 : ((Jvm.Cond.laysFinal "SugarKitchenModel" "SugarKitchenModel" "boxWeight" "[I") : Cond) ∈ gT := gI 1024 (by decide +kernel) rfl
theorem mw_1025 : ((Jvm.Cond.soleField "SugarKitchenModel" "boxWeight") : Cond) ∈ gT := gI 1025 (by decide +kernel) rfl
theorem mw_1026 : ((Jvm.Cond.laysFinal "SugarKitchenModel" "SugarKitchenModel" "choice" "[I") : Cond) ∈ gT := gI 1026 (by decide +kernel) rfl
theorem mw_1027 : ((Jvm.Cond.soleField "SugarKitchenModel" "choice") : Cond) ∈ gT := gI 1027 (by decide +kernel) rfl
theorem mw_1028 : ((Jvm.Cond.laysFinal "SugarKitchenModel" "SugarKitchenModel" "gone" "[Z") : Cond) ∈ gT := gI 1028 (by decide +kernel) rfl
theorem mw_1029 : ((Jvm.Cond.soleField "SugarKitchenModel" "gone") : Cond) ∈ gT := gI 1029 (by decide +kernel) rfl
theorem mw_1030 : ((Jvm.Cond.laysFinal "SugarKitchenModel" "SugarKitchenModel" "chosen" "[Z") : Cond) ∈ gT := gI 1030 (by decide +kernel) rfl
theorem mw_1031 : ((Jvm.Cond.soleField "SugarKitchenModel" "chosen") : Cond) ∈ gT := gI 1031 (by decide +kernel) rfl
theorem mw_1032 : ((Jvm.Cond.lays "SugarKitchenModel" "SugarKitchenModel" "choices" "I") : Cond) ∈ gT := gI 1032 (by decide +kernel) rfl
theorem mw_1033 : ((Jvm.Cond.soleField "SugarKitchenModel" "choices") : Cond) ∈ gT := gI 1033 (by decide +kernel) rfl
theorem mw_1034 : ((Jvm.Cond.lays "SugarKitchenModel" "SugarKitchenModel" "listed" "I") : Cond) ∈ gT := gI 1034 (by decide +kernel) rfl
theorem mw_1035 : ((Jvm.Cond.soleField "SugarKitchenModel" "listed") : Cond) ∈ gT := gI 1035 (by decide +kernel) rfl
theorem mw_1036 : ((Jvm.Cond.laysFinal "SugarKitchenModel" "SugarKitchenModel" "reach" "[Z") : Cond) ∈ gT := gI 1036 (by decide +kernel) rfl
theorem mw_1037 : ((Jvm.Cond.soleField "SugarKitchenModel" "reach") : Cond) ∈ gT := gI 1037 (by decide +kernel) rfl
theorem mw_1038 : ((Jvm.Cond.laysFinal "SugarKitchenModel" "SugarKitchenModel" "now" "[I") : Cond) ∈ gT := gI 1038 (by decide +kernel) rfl
theorem mw_1039 : ((Jvm.Cond.soleField "SugarKitchenModel" "now") : Cond) ∈ gT := gI 1039 (by decide +kernel) rfl
theorem mw_1040 : ((Jvm.Cond.lays "SugarKitchenModel" "SugarKitchenModel" "nows" "I") : Cond) ∈ gT := gI 1040 (by decide +kernel) rfl
theorem mw_1041 : ((Jvm.Cond.soleField "SugarKitchenModel" "nows") : Cond) ∈ gT := gI 1041 (by decide +kernel) rfl
theorem mw_1042 : ((Jvm.Cond.laysFinal "SugarKitchenModel" "SugarKitchenModel" "sums" "[I") : Cond) ∈ gT := gI 1042 (by decide +kernel) rfl
theorem mw_1043 : ((Jvm.Cond.soleField "SugarKitchenModel" "sums") : Cond) ∈ gT := gI 1043 (by decide +kernel) rfl
theorem mw_1044 : ((Jvm.Cond.laysFinal "SugarKitchenModel" "SugarKitchenModel" "parts" "[B") : Cond) ∈ gT := gI 1044 (by decide +kernel) rfl
theorem mw_1045 : ((Jvm.Cond.soleField "SugarKitchenModel" "parts") : Cond) ∈ gT := gI 1045 (by decide +kernel) rfl
theorem mw_1046 : ((Jvm.Cond.laysFinal "SugarKitchenModel" "SugarKitchenModel" "rest" "[I") : Cond) ∈ gT := gI 1046 (by decide +kernel) rfl
theorem mw_1047 : ((Jvm.Cond.soleField "SugarKitchenModel" "rest") : Cond) ∈ gT := gI 1047 (by decide +kernel) rfl
theorem mw_1048 : ((Jvm.Cond.superclass "SugarKitchenModel" "java/lang/Object") : Cond) ∈ gT := gI 1048 (by decide +kernel) rfl
theorem mw_1049 : ((Jvm.Cond.arrayClass Jvm.ClassFile.FieldType.float) : Cond) ∈ gT := gI 1049 (by decide +kernel) rfl
theorem mw_1050 : ((Jvm.Cond.methodLink "SugarKitchenLaw" (17 : Nat) ({ cls := "SugarKitchenModel", name := "lot", desc := "(II)I" } : Jvm.MethodName)) : Cond) ∈ gT := gI 1050 (by decide +kernel) rfl
theorem mw_1051 : ((Jvm.Cond.instanceMethod ({ cls := "SugarKitchenModel", name := "lot", desc := "(II)I" } : Jvm.MethodName)) : Cond) ∈ gT := gI 1051 (by decide +kernel) rfl
theorem mw_1052 : ((Jvm.Cond.selects "SugarKitchenModel" ({ cls := "SugarKitchenModel", name := "lot", desc := "(II)I" } : Jvm.MethodName) ({ cls := "SugarKitchenModel", name := "lot", desc := "(II)I" } : Jvm.MethodName)) : Cond) ∈ gT := gI 1052 (by decide +kernel) rfl
set_option maxRecDepth 100000 in
theorem mw_1053 : ((Jvm.Cond.code ({ cls := "SugarKitchenModel", name := "lot", desc := "(II)I" } : Jvm.MethodName) prog_13_method_4_code (3 : Nat) (Option.some Jvm.ClassFile.FieldType.int)) : Cond) ∈ gT := gI 1053 rfl rfl
theorem mw_1054 : ((Jvm.Cond.constant "SugarKitchenModel" (160 : Nat) (1000000 : Int32)) : Cond) ∈ gT := gI 1054 (by decide +kernel) rfl
theorem mw_1055 : ((Jvm.Cond.methodLink "SugarKitchenModel" (156 : Nat) ({ cls := "SugarKitchenModel", name := "isIn", desc := "(III)Z" } : Jvm.MethodName)) : Cond) ∈ gT := gI 1055 (by decide +kernel) rfl
theorem mw_1056 : ((Jvm.Cond.static ({ cls := "SugarKitchenModel", name := "isIn", desc := "(III)Z" } : Jvm.MethodName)) : Cond) ∈ gT := gI 1056 (by decide +kernel) rfl
set_option maxRecDepth 100000 in
theorem mw_1057 : ((Jvm.Cond.code ({ cls := "SugarKitchenModel", name := "isIn", desc := "(III)Z" } : Jvm.MethodName) prog_13_method_2_code (3 : Nat) (Option.some Jvm.ClassFile.FieldType.boolean)) : Cond) ∈ gT := gI 1057 rfl rfl
theorem mw_1058 : ((Jvm.Cond.methodLink "SugarKitchenLaw" (22 : Nat) ({ cls := "SugarKitchenModel", name := "batch", desc := "(I)I" } : Jvm.MethodName)) : Cond) ∈ gT := gI 1058 (by decide +kernel) rfl
theorem mw_1059 : ((Jvm.Cond.instanceMethod ({ cls := "SugarKitchenModel", name := "batch", desc := "(I)I" } : Jvm.MethodName)) : Cond) ∈ gT := gI 1059 (by decide +kernel) rfl
theorem mw_1060 : ((Jvm.Cond.selects "SugarKitchenModel" ({ cls := "SugarKitchenModel", name := "batch", desc := "(I)I" } : Jvm.MethodName) ({ cls := "SugarKitchenModel", name := "batch", desc := "(I)I" } : Jvm.MethodName)) : Cond) ∈ gT := gI 1060 (by decide +kernel) rfl
set_option maxRecDepth 100000 in
theorem mw_1061 : ((Jvm.Cond.code ({ cls := "SugarKitchenModel", name := "batch", desc := "(I)I" } : Jvm.MethodName) prog_13_method_5_code (2 : Nat) (Option.some Jvm.ClassFile.FieldType.int)) : Cond) ∈ gT := gI 1061 rfl rfl
theorem mw_1062 : ((Jvm.Cond.constant "SugarKitchenModel" (164 : Nat) (-1000001 : Int32)) : Cond) ∈ gT := gI 1062 (by decide +kernel) rfl
theorem mw_1063 : ((Jvm.Cond.methodLink "SugarKitchenLaw" (27 : Nat) ({ cls := "SugarKitchenModel", name := "put", desc := "(III)I" } : Jvm.MethodName)) : Cond) ∈ gT := gI 1063 (by decide +kernel) rfl
theorem mw_1064 : ((Jvm.Cond.instanceMethod ({ cls := "SugarKitchenModel", name := "put", desc := "(III)I" } : Jvm.MethodName)) : Cond) ∈ gT := gI 1064 (by decide +kernel) rfl
theorem mw_1065 : ((Jvm.Cond.selects "SugarKitchenModel" ({ cls := "SugarKitchenModel", name := "put", desc := "(III)I" } : Jvm.MethodName) ({ cls := "SugarKitchenModel", name := "put", desc := "(III)I" } : Jvm.MethodName)) : Cond) ∈ gT := gI 1065 (by decide +kernel) rfl
set_option maxRecDepth 100000 in
theorem mw_1066 : ((Jvm.Cond.code ({ cls := "SugarKitchenModel", name := "put", desc := "(III)I" } : Jvm.MethodName) prog_13_method_6_code (4 : Nat) (Option.some Jvm.ClassFile.FieldType.int)) : Cond) ∈ gT := gI 1066 rfl rfl
theorem mw_1067 : ((Jvm.Cond.methodLink "SugarKitchenModel" (165 : Nat) ({ cls := "SugarKitchenModel", name := "isBatch", desc := "(I)Z" } : Jvm.MethodName)) : Cond) ∈ gT := gI 1067 (by decide +kernel) rfl
theorem mw_1069 : ((Jvm.Cond.instanceMethod ({ cls := "SugarKitchenModel", name := "isBatch", desc := "(I)Z" } : Jvm.MethodName)) : Cond) ∈ gT := gI 1069 (by decide +kernel) rfl
set_option maxRecDepth 100000 in
theorem mw_1070 : ((Jvm.Cond.code ({ cls := "SugarKitchenModel", name := "isBatch", desc := "(I)Z" } : Jvm.MethodName) prog_13_method_3_code (2 : Nat) (Option.some Jvm.ClassFile.FieldType.boolean)) : Cond) ∈ gT := gI 1070 rfl rfl
theorem mw_1071 : ((Jvm.Cond.methodLink "SugarKitchenLaw" (32 : Nat) ({ cls := "SugarKitchenModel", name := "row", desc := "(III)Z" } : Jvm.MethodName)) : Cond) ∈ gT := gI 1071 (by decide +kernel) rfl
theorem mw_1072 : ((Jvm.Cond.instanceMethod ({ cls := "SugarKitchenModel", name := "row", desc := "(III)Z" } : Jvm.MethodName)) : Cond) ∈ gT := gI 1072 (by decide +kernel) rfl
theorem mw_1073 : ((Jvm.Cond.selects "SugarKitchenModel" ({ cls := "SugarKitchenModel", name := "row", desc := "(III)Z" } : Jvm.MethodName) ({ cls := "SugarKitchenModel", name := "row", desc := "(III)Z" } : Jvm.MethodName)) : Cond) ∈ gT := gI 1073 (by decide +kernel) rfl
set_option maxRecDepth 100000 in
theorem mw_1074 : ((Jvm.Cond.code ({ cls := "SugarKitchenModel", name := "row", desc := "(III)Z" } : Jvm.MethodName) prog_13_method_7_code (5 : Nat) (Option.some Jvm.ClassFile.FieldType.boolean)) : Cond) ∈ gT := gI 1074 rfl rfl
theorem mw_1075 : ((Jvm.Cond.methodLink "SugarKitchenLaw" (36 : Nat) ({ cls := "SugarKitchenModel", name := "tick", desc := "(III)Z" } : Jvm.MethodName)) : Cond) ∈ gT := gI 1075 (by decide +kernel) rfl
theorem mw_1076 : ((Jvm.Cond.instanceMethod ({ cls := "SugarKitchenModel", name := "tick", desc := "(III)Z" } : Jvm.MethodName)) : Cond) ∈ gT := gI 1076 (by decide +kernel) rfl
theorem mw_1077 : ((Jvm.Cond.selects "SugarKitchenModel" ({ cls := "SugarKitchenModel", name := "tick", desc := "(III)Z" } : Jvm.MethodName) ({ cls := "SugarKitchenModel", name := "tick", desc := "(III)Z" } : Jvm.MethodName)) : Cond) ∈ gT := gI 1077 (by decide +kernel) rfl
set_option maxRecDepth 100000 in
theorem mw_1078 : ((Jvm.Cond.code ({ cls := "SugarKitchenModel", name := "tick", desc := "(III)Z" } : Jvm.MethodName) prog_13_method_8_code (4 : Nat) (Option.some Jvm.ClassFile.FieldType.boolean)) : Cond) ∈ gT := gI 1078 rfl rfl
theorem mw_1079 : ((Jvm.Cond.methodLink "SugarKitchenModel" (169 : Nat) ({ cls := "java/lang/Float", name := "intBitsToFloat", desc := "(I)F" } : Jvm.MethodName)) : Cond) ∈ gT := gI 1079 (by decide +kernel) rfl
theorem mw_1080 : ((Jvm.Cond.static ({ cls := "java/lang/Float", name := "intBitsToFloat", desc := "(I)F" } : Jvm.MethodName)) : Cond) ∈ gT := gI 1080 (by decide +kernel) rfl
theorem mw_1081 : ((Jvm.Cond.native ({ cls := "java/lang/Float", name := "intBitsToFloat", desc := "(I)F" } : Jvm.MethodName)) : Cond) ∈ gT := gI 1081 (by decide +kernel) rfl
theorem mw_1082 : ((Jvm.Cond.methodLink "SugarKitchenLaw" (41 : Nat) ({ cls := "SugarKitchenModel", name := "stir", desc := "(IIZ)Z" } : Jvm.MethodName)) : Cond) ∈ gT := gI 1082 (by decide +kernel) rfl
theorem mw_1083 : ((Jvm.Cond.instanceMethod ({ cls := "SugarKitchenModel", name := "stir", desc := "(IIZ)Z" } : Jvm.MethodName)) : Cond) ∈ gT := gI 1083 (by decide +kernel) rfl
theorem mw_1084 : ((Jvm.Cond.selects "SugarKitchenModel" ({ cls := "SugarKitchenModel", name := "stir", desc := "(IIZ)Z" } : Jvm.MethodName) ({ cls := "SugarKitchenModel", name := "stir", desc := "(IIZ)Z" } : Jvm.MethodName)) : Cond) ∈ gT := gI 1084 (by decide +kernel) rfl
set_option maxRecDepth 100000 in
theorem mw_1085 : ((Jvm.Cond.code ({ cls := "SugarKitchenModel", name := "stir", desc := "(IIZ)Z" } : Jvm.MethodName) prog_13_method_9_code (4 : Nat) (Option.some Jvm.ClassFile.FieldType.boolean)) : Cond) ∈ gT := gI 1085 rfl rfl
theorem mw_1086 : ((Jvm.Cond.methodLink "SugarKitchenLaw" (45 : Nat) ({ cls := "SugarKitchenModel", name := "table", desc := "(II)I" } : Jvm.MethodName)) : Cond) ∈ gT := gI 1086 (by decide +kernel) rfl
theorem mw_1087 : ((Jvm.Cond.instanceMethod ({ cls := "SugarKitchenModel", name := "table", desc := "(II)I" } : Jvm.MethodName)) : Cond) ∈ gT := gI 1087 (by decide +kernel) rfl
theorem mw_1088 : ((Jvm.Cond.selects "SugarKitchenModel" ({ cls := "SugarKitchenModel", name := "table", desc := "(II)I" } : Jvm.MethodName) ({ cls := "SugarKitchenModel", name := "table", desc := "(II)I" } : Jvm.MethodName)) : Cond) ∈ gT := gI 1088 (by decide +kernel) rfl
set_option maxRecDepth 100000 in
theorem mw_1089 : ((Jvm.Cond.code ({ cls := "SugarKitchenModel", name := "table", desc := "(II)I" } : Jvm.MethodName) prog_13_method_10_code (3 : Nat) (Option.some Jvm.ClassFile.FieldType.int)) : Cond) ∈ gT := gI 1089 rfl rfl
theorem mw_1090 : ((Jvm.Cond.methodLink "SugarKitchenLaw" (50 : Nat) ({ cls := "SugarKitchenModel", name := "grain", desc := "(II)Z" } : Jvm.MethodName)) : Cond) ∈ gT := gI 1090 (by decide +kernel) rfl
theorem mw_1091 : ((Jvm.Cond.instanceMethod ({ cls := "SugarKitchenModel", name := "grain", desc := "(II)Z" } : Jvm.MethodName)) : Cond) ∈ gT := gI 1091 (by decide +kernel) rfl
theorem mw_1092 : ((Jvm.Cond.selects "SugarKitchenModel" ({ cls := "SugarKitchenModel", name := "grain", desc := "(II)Z" } : Jvm.MethodName) ({ cls := "SugarKitchenModel", name := "grain", desc := "(II)Z" } : Jvm.MethodName)) : Cond) ∈ gT := gI 1092 (by decide +kernel) rfl
set_option maxRecDepth 100000 in
theorem mw_1093 : ((Jvm.Cond.code ({ cls := "SugarKitchenModel", name := "grain", desc := "(II)Z" } : Jvm.MethodName) prog_13_method_11_code (3 : Nat) (Option.some Jvm.ClassFile.FieldType.boolean)) : Cond) ∈ gT := gI 1093 rfl rfl
theorem mw_1094 : ((Jvm.Cond.methodLink "SugarKitchenLaw" (54 : Nat) ({ cls := "SugarKitchenModel", name := "bounds", desc := "(III)Z" } : Jvm.MethodName)) : Cond) ∈ gT := gI 1094 (by decide +kernel) rfl
theorem mw_1095 : ((Jvm.Cond.instanceMethod ({ cls := "SugarKitchenModel", name := "bounds", desc := "(III)Z" } : Jvm.MethodName)) : Cond) ∈ gT := gI 1095 (by decide +kernel) rfl
theorem mw_1096 : ((Jvm.Cond.selects "SugarKitchenModel" ({ cls := "SugarKitchenModel", name := "bounds", desc := "(III)Z" } : Jvm.MethodName) ({ cls := "SugarKitchenModel", name := "bounds", desc := "(III)Z" } : Jvm.MethodName)) : Cond) ∈ gT := gI 1096 (by decide +kernel) rfl
set_option maxRecDepth 100000 in
theorem mw_1097 : ((Jvm.Cond.code ({ cls := "SugarKitchenModel", name := "bounds", desc := "(III)Z" } : Jvm.MethodName) prog_13_method_12_code (4 : Nat) (Option.some Jvm.ClassFile.FieldType.boolean)) : Cond) ∈ gT := gI 1097 rfl rfl
theorem mw_1098 : ((Jvm.Cond.methodLink "SugarKitchenLaw" (58 : Nat) ({ cls := "SugarKitchenModel", name := "cook", desc := "(II)I" } : Jvm.MethodName)) : Cond) ∈ gT := gI 1098 (by decide +kernel) rfl
theorem mw_1099 : ((Jvm.Cond.instanceMethod ({ cls := "SugarKitchenModel", name := "cook", desc := "(II)I" } : Jvm.MethodName)) : Cond) ∈ gT := gI 1099 (by decide +kernel) rfl
theorem mw_1100 : ((Jvm.Cond.selects "SugarKitchenModel" ({ cls := "SugarKitchenModel", name := "cook", desc := "(II)I" } : Jvm.MethodName) ({ cls := "SugarKitchenModel", name := "cook", desc := "(II)I" } : Jvm.MethodName)) : Cond) ∈ gT := gI 1100 (by decide +kernel) rfl
set_option maxRecDepth 100000 in
theorem mw_1101 : ((Jvm.Cond.code ({ cls := "SugarKitchenModel", name := "cook", desc := "(II)I" } : Jvm.MethodName) prog_13_method_16_code (7 : Nat) (Option.some Jvm.ClassFile.FieldType.int)) : Cond) ∈ gT := gI 1101 rfl rfl
theorem mw_1102 : ((Jvm.Cond.methodLink "SugarKitchenModel" (182 : Nat) ({ cls := "SugarKitchenModel", name := "isRead", desc := "(II)Z" } : Jvm.MethodName)) : Cond) ∈ gT := gI 1102 (by decide +kernel) rfl
theorem mw_1104 : ((Jvm.Cond.instanceMethod ({ cls := "SugarKitchenModel", name := "isRead", desc := "(II)Z" } : Jvm.MethodName)) : Cond) ∈ gT := gI 1104 (by decide +kernel) rfl
set_option maxRecDepth 100000 in
theorem mw_1105 : ((Jvm.Cond.code ({ cls := "SugarKitchenModel", name := "isRead", desc := "(II)Z" } : Jvm.MethodName) prog_13_method_13_code (4 : Nat) (Option.some Jvm.ClassFile.FieldType.boolean)) : Cond) ∈ gT := gI 1105 rfl rfl
theorem mw_1106 : ((Jvm.Cond.methodLink "SugarKitchenModel" (186 : Nat) ({ cls := "SugarKitchenModel", name := "degree", desc := "(II)I" } : Jvm.MethodName)) : Cond) ∈ gT := gI 1106 (by decide +kernel) rfl
theorem mw_1108 : ((Jvm.Cond.instanceMethod ({ cls := "SugarKitchenModel", name := "degree", desc := "(II)I" } : Jvm.MethodName)) : Cond) ∈ gT := gI 1108 (by decide +kernel) rfl
set_option maxRecDepth 100000 in
theorem mw_1109 : ((Jvm.Cond.code ({ cls := "SugarKitchenModel", name := "degree", desc := "(II)I" } : Jvm.MethodName) prog_13_method_14_code (3 : Nat) (Option.some Jvm.ClassFile.FieldType.int)) : Cond) ∈ gT := gI 1109 rfl rfl
theorem mw_1110 : ((Jvm.Cond.constantFloat "SugarKitchenModel" (181 : Nat) (1092616192 : UInt32)) : Cond) ∈ gT := gI 1110 (by decide +kernel) rfl
theorem mw_1111 : ((Jvm.Cond.methodLink "SugarKitchenModel" (190 : Nat) ({ cls := "SugarKitchenModel", name := "lossOf", desc := "(IZ)I" } : Jvm.MethodName)) : Cond) ∈ gT := gI 1111 (by decide +kernel) rfl
theorem mw_1113 : ((Jvm.Cond.instanceMethod ({ cls := "SugarKitchenModel", name := "lossOf", desc := "(IZ)I" } : Jvm.MethodName)) : Cond) ∈ gT := gI 1113 (by decide +kernel) rfl
set_option maxRecDepth 100000 in
theorem mw_1114 : ((Jvm.Cond.code ({ cls := "SugarKitchenModel", name := "lossOf", desc := "(IZ)I" } : Jvm.MethodName) prog_13_method_15_code (5 : Nat) (Option.some Jvm.ClassFile.FieldType.int)) : Cond) ∈ gT := gI 1114 rfl rfl
theorem mw_1115 : ((Jvm.Cond.constantLong "SugarKitchenModel" (194 : Nat) (1000 : Int64)) : Cond) ∈ gT := gI 1115 (by decide +kernel) rfl
theorem mw_1116 : ((Jvm.Cond.methodLink "SugarKitchenLaw" (63 : Nat) ({ cls := "SugarKitchenModel", name := "vouch", desc := "(I)Z" } : Jvm.MethodName)) : Cond) ∈ gT := gI 1116 (by decide +kernel) rfl
theorem mw_1117 : ((Jvm.Cond.instanceMethod ({ cls := "SugarKitchenModel", name := "vouch", desc := "(I)Z" } : Jvm.MethodName)) : Cond) ∈ gT := gI 1117 (by decide +kernel) rfl
theorem mw_1118 : ((Jvm.Cond.selects "SugarKitchenModel" ({ cls := "SugarKitchenModel", name := "vouch", desc := "(I)Z" } : Jvm.MethodName) ({ cls := "SugarKitchenModel", name := "vouch", desc := "(I)Z" } : Jvm.MethodName)) : Cond) ∈ gT := gI 1118 (by decide +kernel) rfl
set_option maxRecDepth 100000 in
theorem mw_1119 : ((Jvm.Cond.code ({ cls := "SugarKitchenModel", name := "vouch", desc := "(I)Z" } : Jvm.MethodName) prog_13_method_17_code (2 : Nat) (Option.some Jvm.ClassFile.FieldType.boolean)) : Cond) ∈ gT := gI 1119 rfl rfl
theorem mw_1120 : ((Jvm.Cond.methodLink "SugarKitchenLaw" (67 : Nat) ({ cls := "SugarKitchenModel", name := "why", desc := "(I)I" } : Jvm.MethodName)) : Cond) ∈ gT := gI 1120 (by decide +kernel) rfl
theorem mw_1121 : ((Jvm.Cond.instanceMethod ({ cls := "SugarKitchenModel", name := "why", desc := "(I)I" } : Jvm.MethodName)) : Cond) ∈ gT := gI 1121 (by decide +kernel) rfl
theorem mw_1122 : ((Jvm.Cond.selects "SugarKitchenModel" ({ cls := "SugarKitchenModel", name := "why", desc := "(I)I" } : Jvm.MethodName) ({ cls := "SugarKitchenModel", name := "why", desc := "(I)I" } : Jvm.MethodName)) : Cond) ∈ gT := gI 1122 (by decide +kernel) rfl
set_option maxRecDepth 100000 in
theorem mw_1123 : ((Jvm.Cond.code ({ cls := "SugarKitchenModel", name := "why", desc := "(I)I" } : Jvm.MethodName) prog_13_method_18_code (4 : Nat) (Option.some Jvm.ClassFile.FieldType.int)) : Cond) ∈ gT := gI 1123 rfl rfl
theorem mw_1124 : ((Jvm.Cond.methodLink "SugarKitchenLaw" (71 : Nat) ({ cls := "SugarKitchenModel", name := "batchOf", desc := "(II)I" } : Jvm.MethodName)) : Cond) ∈ gT := gI 1124 (by decide +kernel) rfl
theorem mw_1125 : ((Jvm.Cond.instanceMethod ({ cls := "SugarKitchenModel", name := "batchOf", desc := "(II)I" } : Jvm.MethodName)) : Cond) ∈ gT := gI 1125 (by decide +kernel) rfl
theorem mw_1126 : ((Jvm.Cond.selects "SugarKitchenModel" ({ cls := "SugarKitchenModel", name := "batchOf", desc := "(II)I" } : Jvm.MethodName) ({ cls := "SugarKitchenModel", name := "batchOf", desc := "(II)I" } : Jvm.MethodName)) : Cond) ∈ gT := gI 1126 (by decide +kernel) rfl
set_option maxRecDepth 100000 in
theorem mw_1127 : ((Jvm.Cond.code ({ cls := "SugarKitchenModel", name := "batchOf", desc := "(II)I" } : Jvm.MethodName) prog_13_method_20_code (3 : Nat) (Option.some Jvm.ClassFile.FieldType.int)) : Cond) ∈ gT := gI 1127 rfl rfl
theorem mw_1128 : ((Jvm.Cond.methodLink "SugarKitchenLaw" (76 : Nat) ({ cls := "SugarKitchenModel", name := "temper", desc := "(IIIIII)Z" } : Jvm.MethodName)) : Cond) ∈ gT := gI 1128 (by decide +kernel) rfl
theorem mw_1129 : ((Jvm.Cond.instanceMethod ({ cls := "SugarKitchenModel", name := "temper", desc := "(IIIIII)Z" } : Jvm.MethodName)) : Cond) ∈ gT := gI 1129 (by decide +kernel) rfl
theorem mw_1130 : ((Jvm.Cond.selects "SugarKitchenModel" ({ cls := "SugarKitchenModel", name := "temper", desc := "(IIIIII)Z" } : Jvm.MethodName) ({ cls := "SugarKitchenModel", name := "temper", desc := "(IIIIII)Z" } : Jvm.MethodName)) : Cond) ∈ gT := gI 1130 (by decide +kernel) rfl
set_option maxRecDepth 100000 in
theorem mw_1131 : ((Jvm.Cond.code ({ cls := "SugarKitchenModel", name := "temper", desc := "(IIIIII)Z" } : Jvm.MethodName) prog_13_method_21_code (8 : Nat) (Option.some Jvm.ClassFile.FieldType.boolean)) : Cond) ∈ gT := gI 1131 rfl rfl
theorem mw_1132 : ((Jvm.Cond.methodLink "SugarKitchenLaw" (80 : Nat) ({ cls := "SugarKitchenModel", name := "heat", desc := "(II)I" } : Jvm.MethodName)) : Cond) ∈ gT := gI 1132 (by decide +kernel) rfl
theorem mw_1133 : ((Jvm.Cond.instanceMethod ({ cls := "SugarKitchenModel", name := "heat", desc := "(II)I" } : Jvm.MethodName)) : Cond) ∈ gT := gI 1133 (by decide +kernel) rfl
theorem mw_1134 : ((Jvm.Cond.selects "SugarKitchenModel" ({ cls := "SugarKitchenModel", name := "heat", desc := "(II)I" } : Jvm.MethodName) ({ cls := "SugarKitchenModel", name := "heat", desc := "(II)I" } : Jvm.MethodName)) : Cond) ∈ gT := gI 1134 (by decide +kernel) rfl
set_option maxRecDepth 100000 in
theorem mw_1135 : ((Jvm.Cond.code ({ cls := "SugarKitchenModel", name := "heat", desc := "(II)I" } : Jvm.MethodName) prog_13_method_22_code (5 : Nat) (Option.some Jvm.ClassFile.FieldType.int)) : Cond) ∈ gT := gI 1135 rfl rfl
theorem mw_1136 : ((Jvm.Cond.methodLink "SugarKitchenLaw" (84 : Nat) ({ cls := "SugarKitchenModel", name := "cut", desc := "(III)I" } : Jvm.MethodName)) : Cond) ∈ gT := gI 1136 (by decide +kernel) rfl
theorem mw_1137 : ((Jvm.Cond.instanceMethod ({ cls := "SugarKitchenModel", name := "cut", desc := "(III)I" } : Jvm.MethodName)) : Cond) ∈ gT := gI 1137 (by decide +kernel) rfl
theorem mw_1138 : ((Jvm.Cond.selects "SugarKitchenModel" ({ cls := "SugarKitchenModel", name := "cut", desc := "(III)I" } : Jvm.MethodName) ({ cls := "SugarKitchenModel", name := "cut", desc := "(III)I" } : Jvm.MethodName)) : Cond) ∈ gT := gI 1138 (by decide +kernel) rfl
set_option maxRecDepth 100000 in
theorem mw_1139 : ((Jvm.Cond.code ({ cls := "SugarKitchenModel", name := "cut", desc := "(III)I" } : Jvm.MethodName) prog_13_method_23_code (5 : Nat) (Option.some Jvm.ClassFile.FieldType.int)) : Cond) ∈ gT := gI 1139 rfl rfl
theorem mw_1140 : ((Jvm.Cond.methodLink "SugarKitchenModel" (200 : Nat) ({ cls := "SugarKitchenModel", name := "isGood", desc := "(I)Z" } : Jvm.MethodName)) : Cond) ∈ gT := gI 1140 (by decide +kernel) rfl
theorem mw_1142 : ((Jvm.Cond.instanceMethod ({ cls := "SugarKitchenModel", name := "isGood", desc := "(I)Z" } : Jvm.MethodName)) : Cond) ∈ gT := gI 1142 (by decide +kernel) rfl
set_option maxRecDepth 100000 in
theorem mw_1143 : ((Jvm.Cond.code ({ cls := "SugarKitchenModel", name := "isGood", desc := "(I)Z" } : Jvm.MethodName) prog_13_method_19_code (2 : Nat) (Option.some Jvm.ClassFile.FieldType.boolean)) : Cond) ∈ gT := gI 1143 rfl rfl
theorem mw_1144 : ((Jvm.Cond.methodLink "SugarKitchenModel" (196 : Nat) ({ cls := "SugarKitchenModel", name := "why", desc := "(I)I" } : Jvm.MethodName)) : Cond) ∈ gT := gI 1144 (by decide +kernel) rfl
theorem mw_1145 : ((Jvm.Cond.methodLink "SugarKitchenLaw" (88 : Nat) ({ cls := "SugarKitchenModel", name := "dip", desc := "(III)I" } : Jvm.MethodName)) : Cond) ∈ gT := gI 1145 (by decide +kernel) rfl
theorem mw_1146 : ((Jvm.Cond.instanceMethod ({ cls := "SugarKitchenModel", name := "dip", desc := "(III)I" } : Jvm.MethodName)) : Cond) ∈ gT := gI 1146 (by decide +kernel) rfl
theorem mw_1147 : ((Jvm.Cond.selects "SugarKitchenModel" ({ cls := "SugarKitchenModel", name := "dip", desc := "(III)I" } : Jvm.MethodName) ({ cls := "SugarKitchenModel", name := "dip", desc := "(III)I" } : Jvm.MethodName)) : Cond) ∈ gT := gI 1147 (by decide +kernel) rfl
set_option maxRecDepth 100000 in
theorem mw_1148 : ((Jvm.Cond.code ({ cls := "SugarKitchenModel", name := "dip", desc := "(III)I" } : Jvm.MethodName) prog_13_method_25_code (4 : Nat) (Option.some Jvm.ClassFile.FieldType.int)) : Cond) ∈ gT := gI 1148 rfl rfl
theorem mw_1149 : ((Jvm.Cond.methodLink "SugarKitchenModel" (206 : Nat) ({ cls := "SugarKitchenModel", name := "isOut", desc := "(I)Z" } : Jvm.MethodName)) : Cond) ∈ gT := gI 1149 (by decide +kernel) rfl
theorem mw_1151 : ((Jvm.Cond.instanceMethod ({ cls := "SugarKitchenModel", name := "isOut", desc := "(I)Z" } : Jvm.MethodName)) : Cond) ∈ gT := gI 1151 (by decide +kernel) rfl
set_option maxRecDepth 100000 in
theorem mw_1152 : ((Jvm.Cond.code ({ cls := "SugarKitchenModel", name := "isOut", desc := "(I)Z" } : Jvm.MethodName) prog_13_method_24_code (2 : Nat) (Option.some Jvm.ClassFile.FieldType.boolean)) : Cond) ∈ gT := gI 1152 rfl rfl
theorem mw_1153 : ((Jvm.Cond.methodLink "SugarKitchenLaw" (92 : Nat) ({ cls := "SugarKitchenModel", name := "place", desc := "(III)Z" } : Jvm.MethodName)) : Cond) ∈ gT := gI 1153 (by decide +kernel) rfl
theorem mw_1154 : ((Jvm.Cond.instanceMethod ({ cls := "SugarKitchenModel", name := "place", desc := "(III)Z" } : Jvm.MethodName)) : Cond) ∈ gT := gI 1154 (by decide +kernel) rfl
theorem mw_1155 : ((Jvm.Cond.selects "SugarKitchenModel" ({ cls := "SugarKitchenModel", name := "place", desc := "(III)Z" } : Jvm.MethodName) ({ cls := "SugarKitchenModel", name := "place", desc := "(III)Z" } : Jvm.MethodName)) : Cond) ∈ gT := gI 1155 (by decide +kernel) rfl
set_option maxRecDepth 100000 in
theorem mw_1156 : ((Jvm.Cond.code ({ cls := "SugarKitchenModel", name := "place", desc := "(III)Z" } : Jvm.MethodName) prog_13_method_27_code (4 : Nat) (Option.some Jvm.ClassFile.FieldType.boolean)) : Cond) ∈ gT := gI 1156 rfl rfl
theorem mw_1157 : ((Jvm.Cond.methodLink "SugarKitchenModel" (209 : Nat) ({ cls := "SugarKitchenModel", name := "leave", desc := "(I)V" } : Jvm.MethodName)) : Cond) ∈ gT := gI 1157 (by decide +kernel) rfl
theorem mw_1159 : ((Jvm.Cond.instanceMethod ({ cls := "SugarKitchenModel", name := "leave", desc := "(I)V" } : Jvm.MethodName)) : Cond) ∈ gT := gI 1159 (by decide +kernel) rfl
set_option maxRecDepth 100000 in
theorem mw_1160 : ((Jvm.Cond.code ({ cls := "SugarKitchenModel", name := "leave", desc := "(I)V" } : Jvm.MethodName) prog_13_method_26_code (2 : Nat) (Option.none : Option Jvm.ClassFile.FieldType)) : Cond) ∈ gT := gI 1160 rfl rfl
theorem mw_1161 : ((Jvm.Cond.methodLink "SugarKitchenLaw" (96 : Nat) ({ cls := "SugarKitchenModel", name := "take", desc := "(I)Z" } : Jvm.MethodName)) : Cond) ∈ gT := gI 1161 (by decide +kernel) rfl
theorem mw_1162 : ((Jvm.Cond.instanceMethod ({ cls := "SugarKitchenModel", name := "take", desc := "(I)Z" } : Jvm.MethodName)) : Cond) ∈ gT := gI 1162 (by decide +kernel) rfl
theorem mw_1163 : ((Jvm.Cond.selects "SugarKitchenModel" ({ cls := "SugarKitchenModel", name := "take", desc := "(I)Z" } : Jvm.MethodName) ({ cls := "SugarKitchenModel", name := "take", desc := "(I)Z" } : Jvm.MethodName)) : Cond) ∈ gT := gI 1163 (by decide +kernel) rfl
set_option maxRecDepth 100000 in
theorem mw_1164 : ((Jvm.Cond.code ({ cls := "SugarKitchenModel", name := "take", desc := "(I)Z" } : Jvm.MethodName) prog_13_method_28_code (2 : Nat) (Option.some Jvm.ClassFile.FieldType.boolean)) : Cond) ∈ gT := gI 1164 rfl rfl
theorem mw_1165 : ((Jvm.Cond.methodLink "SugarKitchenLaw" (100 : Nat) ({ cls := "SugarKitchenModel", name := "allow", desc := "(I)Z" } : Jvm.MethodName)) : Cond) ∈ gT := gI 1165 (by decide +kernel) rfl
theorem mw_1166 : ((Jvm.Cond.instanceMethod ({ cls := "SugarKitchenModel", name := "allow", desc := "(I)Z" } : Jvm.MethodName)) : Cond) ∈ gT := gI 1166 (by decide +kernel) rfl
theorem mw_1167 : ((Jvm.Cond.selects "SugarKitchenModel" ({ cls := "SugarKitchenModel", name := "allow", desc := "(I)Z" } : Jvm.MethodName) ({ cls := "SugarKitchenModel", name := "allow", desc := "(I)Z" } : Jvm.MethodName)) : Cond) ∈ gT := gI 1167 (by decide +kernel) rfl
set_option maxRecDepth 100000 in
theorem mw_1168 : ((Jvm.Cond.code ({ cls := "SugarKitchenModel", name := "allow", desc := "(I)Z" } : Jvm.MethodName) prog_13_method_29_code (2 : Nat) (Option.some Jvm.ClassFile.FieldType.boolean)) : Cond) ∈ gT := gI 1168 rfl rfl
theorem mw_1169 : ((Jvm.Cond.methodLink "SugarKitchenLaw" (104 : Nat) ({ cls := "SugarKitchenModel", name := "pieceOf", desc := "(II)I" } : Jvm.MethodName)) : Cond) ∈ gT := gI 1169 (by decide +kernel) rfl
theorem mw_1170 : ((Jvm.Cond.instanceMethod ({ cls := "SugarKitchenModel", name := "pieceOf", desc := "(II)I" } : Jvm.MethodName)) : Cond) ∈ gT := gI 1170 (by decide +kernel) rfl
theorem mw_1171 : ((Jvm.Cond.selects "SugarKitchenModel" ({ cls := "SugarKitchenModel", name := "pieceOf", desc := "(II)I" } : Jvm.MethodName) ({ cls := "SugarKitchenModel", name := "pieceOf", desc := "(II)I" } : Jvm.MethodName)) : Cond) ∈ gT := gI 1171 (by decide +kernel) rfl
set_option maxRecDepth 100000 in
theorem mw_1172 : ((Jvm.Cond.code ({ cls := "SugarKitchenModel", name := "pieceOf", desc := "(II)I" } : Jvm.MethodName) prog_13_method_32_code (3 : Nat) (Option.some Jvm.ClassFile.FieldType.int)) : Cond) ∈ gT := gI 1172 rfl rfl
theorem mw_1173 : ((Jvm.Cond.methodLink "SugarKitchenModel" (213 : Nat) ({ cls := "SugarKitchenModel", name := "sort", desc := "(I)I" } : Jvm.MethodName)) : Cond) ∈ gT := gI 1173 (by decide +kernel) rfl
theorem mw_1175 : ((Jvm.Cond.instanceMethod ({ cls := "SugarKitchenModel", name := "sort", desc := "(I)I" } : Jvm.MethodName)) : Cond) ∈ gT := gI 1175 (by decide +kernel) rfl
set_option maxRecDepth 100000 in
theorem mw_1176 : ((Jvm.Cond.code ({ cls := "SugarKitchenModel", name := "sort", desc := "(I)I" } : Jvm.MethodName) prog_13_method_30_code (2 : Nat) (Option.some Jvm.ClassFile.FieldType.int)) : Cond) ∈ gT := gI 1176 rfl rfl
theorem mw_1177 : ((Jvm.Cond.methodLink "SugarKitchenModel" (216 : Nat) ({ cls := "SugarKitchenModel", name := "isFit", desc := "(I)Z" } : Jvm.MethodName)) : Cond) ∈ gT := gI 1177 (by decide +kernel) rfl
theorem mw_1179 : ((Jvm.Cond.instanceMethod ({ cls := "SugarKitchenModel", name := "isFit", desc := "(I)Z" } : Jvm.MethodName)) : Cond) ∈ gT := gI 1179 (by decide +kernel) rfl
set_option maxRecDepth 100000 in
theorem mw_1180 : ((Jvm.Cond.code ({ cls := "SugarKitchenModel", name := "isFit", desc := "(I)Z" } : Jvm.MethodName) prog_13_method_31_code (2 : Nat) (Option.some Jvm.ClassFile.FieldType.boolean)) : Cond) ∈ gT := gI 1180 rfl rfl
theorem mw_1181 : ((Jvm.Cond.methodLink "SugarKitchenLaw" (108 : Nat) ({ cls := "SugarKitchenModel", name := "at", desc := "(II)I" } : Jvm.MethodName)) : Cond) ∈ gT := gI 1181 (by decide +kernel) rfl
theorem mw_1182 : ((Jvm.Cond.instanceMethod ({ cls := "SugarKitchenModel", name := "at", desc := "(II)I" } : Jvm.MethodName)) : Cond) ∈ gT := gI 1182 (by decide +kernel) rfl
theorem mw_1183 : ((Jvm.Cond.selects "SugarKitchenModel" ({ cls := "SugarKitchenModel", name := "at", desc := "(II)I" } : Jvm.MethodName) ({ cls := "SugarKitchenModel", name := "at", desc := "(II)I" } : Jvm.MethodName)) : Cond) ∈ gT := gI 1183 (by decide +kernel) rfl
set_option maxRecDepth 100000 in
theorem mw_1184 : ((Jvm.Cond.code ({ cls := "SugarKitchenModel", name := "at", desc := "(II)I" } : Jvm.MethodName) prog_13_method_33_code (3 : Nat) (Option.some Jvm.ClassFile.FieldType.int)) : Cond) ∈ gT := gI 1184 rfl rfl
theorem mw_1185 : ((Jvm.Cond.methodLink "SugarKitchenLaw" (112 : Nat) ({ cls := "SugarKitchenModel", name := "pack", desc := "(III)I" } : Jvm.MethodName)) : Cond) ∈ gT := gI 1185 (by decide +kernel) rfl
theorem mw_1186 : ((Jvm.Cond.instanceMethod ({ cls := "SugarKitchenModel", name := "pack", desc := "(III)I" } : Jvm.MethodName)) : Cond) ∈ gT := gI 1186 (by decide +kernel) rfl
theorem mw_1187 : ((Jvm.Cond.selects "SugarKitchenModel" ({ cls := "SugarKitchenModel", name := "pack", desc := "(III)I" } : Jvm.MethodName) ({ cls := "SugarKitchenModel", name := "pack", desc := "(III)I" } : Jvm.MethodName)) : Cond) ∈ gT := gI 1187 (by decide +kernel) rfl
set_option maxRecDepth 100000 in
theorem mw_1188 : ((Jvm.Cond.code ({ cls := "SugarKitchenModel", name := "pack", desc := "(III)I" } : Jvm.MethodName) prog_13_method_40_code (7 : Nat) (Option.some Jvm.ClassFile.FieldType.int)) : Cond) ∈ gT := gI 1188 rfl rfl
theorem mw_1189 : ((Jvm.Cond.methodLink "SugarKitchenModel" (232 : Nat) ({ cls := "SugarKitchenModel", name := "areNumbers", desc := "(III)Z" } : Jvm.MethodName)) : Cond) ∈ gT := gI 1189 (by decide +kernel) rfl
theorem mw_1190 : ((Jvm.Cond.static ({ cls := "SugarKitchenModel", name := "areNumbers", desc := "(III)Z" } : Jvm.MethodName)) : Cond) ∈ gT := gI 1190 (by decide +kernel) rfl
set_option maxRecDepth 100000 in
theorem mw_1191 : ((Jvm.Cond.code ({ cls := "SugarKitchenModel", name := "areNumbers", desc := "(III)Z" } : Jvm.MethodName) prog_13_method_39_code (3 : Nat) (Option.some Jvm.ClassFile.FieldType.boolean)) : Cond) ∈ gT := gI 1191 rfl rfl
theorem mw_1192 : ((Jvm.Cond.methodLink "SugarKitchenModel" (238 : Nat) ({ cls := "SugarKitchenModel", name := "list", desc := "(I)V" } : Jvm.MethodName)) : Cond) ∈ gT := gI 1192 (by decide +kernel) rfl
theorem mw_1194 : ((Jvm.Cond.instanceMethod ({ cls := "SugarKitchenModel", name := "list", desc := "(I)V" } : Jvm.MethodName)) : Cond) ∈ gT := gI 1194 (by decide +kernel) rfl
set_option maxRecDepth 100000 in
theorem mw_1195 : ((Jvm.Cond.code ({ cls := "SugarKitchenModel", name := "list", desc := "(I)V" } : Jvm.MethodName) prog_13_method_34_code (4 : Nat) (Option.none : Option Jvm.ClassFile.FieldType)) : Cond) ∈ gT := gI 1195 rfl rfl
theorem mw_1196 : ((Jvm.Cond.methodLink "SugarKitchenModel" (241 : Nat) ({ cls := "SugarKitchenModel", name := "gather", desc := "()V" } : Jvm.MethodName)) : Cond) ∈ gT := gI 1196 (by decide +kernel) rfl
theorem mw_1198 : ((Jvm.Cond.instanceMethod ({ cls := "SugarKitchenModel", name := "gather", desc := "()V" } : Jvm.MethodName)) : Cond) ∈ gT := gI 1198 (by decide +kernel) rfl
set_option maxRecDepth 100000 in
theorem mw_1199 : ((Jvm.Cond.code ({ cls := "SugarKitchenModel", name := "gather", desc := "()V" } : Jvm.MethodName) prog_13_method_35_code (2 : Nat) (Option.none : Option Jvm.ClassFile.FieldType)) : Cond) ∈ gT := gI 1199 rfl rfl
theorem mw_1200 : ((Jvm.Cond.methodLink "SugarKitchenModel" (244 : Nat) ({ cls := "SugarKitchenModel", name := "leastSum", desc := "(II)I" } : Jvm.MethodName)) : Cond) ∈ gT := gI 1200 (by decide +kernel) rfl
theorem mw_1202 : ((Jvm.Cond.instanceMethod ({ cls := "SugarKitchenModel", name := "leastSum", desc := "(II)I" } : Jvm.MethodName)) : Cond) ∈ gT := gI 1202 (by decide +kernel) rfl
set_option maxRecDepth 100000 in
theorem mw_1203 : ((Jvm.Cond.code ({ cls := "SugarKitchenModel", name := "leastSum", desc := "(II)I" } : Jvm.MethodName) prog_13_method_36_code (8 : Nat) (Option.some Jvm.ClassFile.FieldType.int)) : Cond) ∈ gT := gI 1203 rfl rfl
theorem mw_1204 : ((Jvm.Cond.methodLink "SugarKitchenModel" (228 : Nat) ({ cls := "SugarKitchenModel", name := "reaches8500", desc := "()Z" } : Jvm.MethodName)) : Cond) ∈ gT := gI 1204 (by decide +kernel) rfl
theorem mw_1206 : ((Jvm.Cond.instanceMethod ({ cls := "SugarKitchenModel", name := "reaches8500", desc := "()Z" } : Jvm.MethodName)) : Cond) ∈ gT := gI 1206 (by decide +kernel) rfl
set_option maxRecDepth 100000 in
theorem mw_1207 : ((Jvm.Cond.code ({ cls := "SugarKitchenModel", name := "reaches8500", desc := "()Z" } : Jvm.MethodName) prog_13_method_37_code (3 : Nat) (Option.some Jvm.ClassFile.FieldType.boolean)) : Cond) ∈ gT := gI 1207 rfl rfl
theorem mw_1208 : ((Jvm.Cond.methodLink "SugarKitchenModel" (247 : Nat) ({ cls := "SugarKitchenModel", name := "choose", desc := "(I)I" } : Jvm.MethodName)) : Cond) ∈ gT := gI 1208 (by decide +kernel) rfl
theorem mw_1210 : ((Jvm.Cond.instanceMethod ({ cls := "SugarKitchenModel", name := "choose", desc := "(I)I" } : Jvm.MethodName)) : Cond) ∈ gT := gI 1210 (by decide +kernel) rfl
set_option maxRecDepth 100000 in
theorem mw_1211 : ((Jvm.Cond.code ({ cls := "SugarKitchenModel", name := "choose", desc := "(I)I" } : Jvm.MethodName) prog_13_method_38_code (6 : Nat) (Option.some Jvm.ClassFile.FieldType.int)) : Cond) ∈ gT := gI 1211 rfl rfl
theorem mw_1212 : ((Jvm.Cond.methodLink "SugarKitchenLaw" (117 : Nat) ({ cls := "SugarKitchenModel", name := "would", desc := "(IIII)I" } : Jvm.MethodName)) : Cond) ∈ gT := gI 1212 (by decide +kernel) rfl
theorem mw_1213 : ((Jvm.Cond.instanceMethod ({ cls := "SugarKitchenModel", name := "would", desc := "(IIII)I" } : Jvm.MethodName)) : Cond) ∈ gT := gI 1213 (by decide +kernel) rfl
theorem mw_1214 : ((Jvm.Cond.selects "SugarKitchenModel" ({ cls := "SugarKitchenModel", name := "would", desc := "(IIII)I" } : Jvm.MethodName) ({ cls := "SugarKitchenModel", name := "would", desc := "(IIII)I" } : Jvm.MethodName)) : Cond) ∈ gT := gI 1214 (by decide +kernel) rfl
set_option maxRecDepth 100000 in
theorem mw_1215 : ((Jvm.Cond.code ({ cls := "SugarKitchenModel", name := "would", desc := "(IIII)I" } : Jvm.MethodName) prog_13_method_43_code (6 : Nat) (Option.some Jvm.ClassFile.FieldType.int)) : Cond) ∈ gT := gI 1215 rfl rfl
theorem mw_1216 : ((Jvm.Cond.methodLink "SugarKitchenModel" (250 : Nat) ({ cls := "SugarKitchenModel", name := "most", desc := "(II)I" } : Jvm.MethodName)) : Cond) ∈ gT := gI 1216 (by decide +kernel) rfl
theorem mw_1218 : ((Jvm.Cond.instanceMethod ({ cls := "SugarKitchenModel", name := "most", desc := "(II)I" } : Jvm.MethodName)) : Cond) ∈ gT := gI 1218 (by decide +kernel) rfl
set_option maxRecDepth 100000 in
theorem mw_1219 : ((Jvm.Cond.code ({ cls := "SugarKitchenModel", name := "most", desc := "(II)I" } : Jvm.MethodName) prog_13_method_42_code (9 : Nat) (Option.some Jvm.ClassFile.FieldType.int)) : Cond) ∈ gT := gI 1219 rfl rfl
theorem mw_1220 : ((Jvm.Cond.methodLink "SugarKitchenModel" (253 : Nat) ({ cls := "SugarKitchenModel", name := "full", desc := "(II)I" } : Jvm.MethodName)) : Cond) ∈ gT := gI 1220 (by decide +kernel) rfl
theorem mw_1222 : ((Jvm.Cond.instanceMethod ({ cls := "SugarKitchenModel", name := "full", desc := "(II)I" } : Jvm.MethodName)) : Cond) ∈ gT := gI 1222 (by decide +kernel) rfl
set_option maxRecDepth 100000 in
theorem mw_1223 : ((Jvm.Cond.code ({ cls := "SugarKitchenModel", name := "full", desc := "(II)I" } : Jvm.MethodName) prog_13_method_41_code (7 : Nat) (Option.some Jvm.ClassFile.FieldType.int)) : Cond) ∈ gT := gI 1223 rfl rfl
theorem mw_1224 : ((Jvm.Cond.methodLink "SugarKitchenLaw" (121 : Nat) ({ cls := "SugarKitchenModel", name := "boxOf", desc := "(II)I" } : Jvm.MethodName)) : Cond) ∈ gT := gI 1224 (by decide +kernel) rfl
theorem mw_1225 : ((Jvm.Cond.instanceMethod ({ cls := "SugarKitchenModel", name := "boxOf", desc := "(II)I" } : Jvm.MethodName)) : Cond) ∈ gT := gI 1225 (by decide +kernel) rfl
theorem mw_1226 : ((Jvm.Cond.selects "SugarKitchenModel" ({ cls := "SugarKitchenModel", name := "boxOf", desc := "(II)I" } : Jvm.MethodName) ({ cls := "SugarKitchenModel", name := "boxOf", desc := "(II)I" } : Jvm.MethodName)) : Cond) ∈ gT := gI 1226 (by decide +kernel) rfl
set_option maxRecDepth 100000 in
theorem mw_1227 : ((Jvm.Cond.code ({ cls := "SugarKitchenModel", name := "boxOf", desc := "(II)I" } : Jvm.MethodName) prog_13_method_50_code (8 : Nat) (Option.some Jvm.ClassFile.FieldType.int)) : Cond) ∈ gT := gI 1227 rfl rfl
theorem mw_1228 : ((Jvm.Cond.methodLink "SugarKitchenModel" (259 : Nat) ({ cls := "SugarKitchenModel", name := "isInBox", desc := "(II)Z" } : Jvm.MethodName)) : Cond) ∈ gT := gI 1228 (by decide +kernel) rfl
theorem mw_1230 : ((Jvm.Cond.instanceMethod ({ cls := "SugarKitchenModel", name := "isInBox", desc := "(II)Z" } : Jvm.MethodName)) : Cond) ∈ gT := gI 1230 (by decide +kernel) rfl
set_option maxRecDepth 100000 in
theorem mw_1231 : ((Jvm.Cond.code ({ cls := "SugarKitchenModel", name := "isInBox", desc := "(II)Z" } : Jvm.MethodName) prog_13_method_44_code (3 : Nat) (Option.some Jvm.ClassFile.FieldType.boolean)) : Cond) ∈ gT := gI 1231 rfl rfl
theorem mw_1232 : ((Jvm.Cond.methodLink "SugarKitchenModel" (265 : Nat) ({ cls := "SugarKitchenModel", name := "boxHas", desc := "(II)Z" } : Jvm.MethodName)) : Cond) ∈ gT := gI 1232 (by decide +kernel) rfl
theorem mw_1234 : ((Jvm.Cond.instanceMethod ({ cls := "SugarKitchenModel", name := "boxHas", desc := "(II)Z" } : Jvm.MethodName)) : Cond) ∈ gT := gI 1234 (by decide +kernel) rfl
set_option maxRecDepth 100000 in
theorem mw_1235 : ((Jvm.Cond.code ({ cls := "SugarKitchenModel", name := "boxHas", desc := "(II)Z" } : Jvm.MethodName) prog_13_method_47_code (4 : Nat) (Option.some Jvm.ClassFile.FieldType.boolean)) : Cond) ∈ gT := gI 1235 rfl rfl
theorem mw_1236 : ((Jvm.Cond.methodLink "SugarKitchenModel" (262 : Nat) ({ cls := "SugarKitchenModel", name := "pieceHas", desc := "(II)Z" } : Jvm.MethodName)) : Cond) ∈ gT := gI 1236 (by decide +kernel) rfl
theorem mw_1238 : ((Jvm.Cond.instanceMethod ({ cls := "SugarKitchenModel", name := "pieceHas", desc := "(II)Z" } : Jvm.MethodName)) : Cond) ∈ gT := gI 1238 (by decide +kernel) rfl
set_option maxRecDepth 100000 in
theorem mw_1239 : ((Jvm.Cond.code ({ cls := "SugarKitchenModel", name := "pieceHas", desc := "(II)Z" } : Jvm.MethodName) prog_13_method_46_code (3 : Nat) (Option.some Jvm.ClassFile.FieldType.boolean)) : Cond) ∈ gT := gI 1239 rfl rfl
theorem mw_1240 : ((Jvm.Cond.methodLink "SugarKitchenModel" (256 : Nat) ({ cls := "SugarKitchenModel", name := "hasLot", desc := "(II)Z" } : Jvm.MethodName)) : Cond) ∈ gT := gI 1240 (by decide +kernel) rfl
theorem mw_1242 : ((Jvm.Cond.instanceMethod ({ cls := "SugarKitchenModel", name := "hasLot", desc := "(II)Z" } : Jvm.MethodName)) : Cond) ∈ gT := gI 1242 (by decide +kernel) rfl
set_option maxRecDepth 100000 in
theorem mw_1243 : ((Jvm.Cond.code ({ cls := "SugarKitchenModel", name := "hasLot", desc := "(II)Z" } : Jvm.MethodName) prog_13_method_45_code (3 : Nat) (Option.some Jvm.ClassFile.FieldType.boolean)) : Cond) ∈ gT := gI 1243 rfl rfl
theorem mw_1244 : ((Jvm.Cond.methodLink "SugarKitchenModel" (268 : Nat) ({ cls := "SugarKitchenModel", name := "lotInBox", desc := "(II)I" } : Jvm.MethodName)) : Cond) ∈ gT := gI 1244 (by decide +kernel) rfl
theorem mw_1246 : ((Jvm.Cond.instanceMethod ({ cls := "SugarKitchenModel", name := "lotInBox", desc := "(II)I" } : Jvm.MethodName)) : Cond) ∈ gT := gI 1246 (by decide +kernel) rfl
set_option maxRecDepth 100000 in
theorem mw_1247 : ((Jvm.Cond.code ({ cls := "SugarKitchenModel", name := "lotInBox", desc := "(II)I" } : Jvm.MethodName) prog_13_method_49_code (5 : Nat) (Option.some Jvm.ClassFile.FieldType.int)) : Cond) ∈ gT := gI 1247 rfl rfl
theorem mw_1248 : ((Jvm.Cond.methodLink "SugarKitchenModel" (271 : Nat) ({ cls := "SugarKitchenModel", name := "pieceInBox", desc := "(II)I" } : Jvm.MethodName)) : Cond) ∈ gT := gI 1248 (by decide +kernel) rfl
theorem mw_1250 : ((Jvm.Cond.instanceMethod ({ cls := "SugarKitchenModel", name := "pieceInBox", desc := "(II)I" } : Jvm.MethodName)) : Cond) ∈ gT := gI 1250 (by decide +kernel) rfl
set_option maxRecDepth 100000 in
theorem mw_1251 : ((Jvm.Cond.code ({ cls := "SugarKitchenModel", name := "pieceInBox", desc := "(II)I" } : Jvm.MethodName) prog_13_method_48_code (5 : Nat) (Option.some Jvm.ClassFile.FieldType.int)) : Cond) ∈ gT := gI 1251 rfl rfl
theorem mw_1252 : ((Jvm.Cond.methodLink "SugarKitchenLaw" (125 : Nat) ({ cls := "SugarKitchenModel", name := "wash", desc := "(III)Z" } : Jvm.MethodName)) : Cond) ∈ gT := gI 1252 (by decide +kernel) rfl
theorem mw_1253 : ((Jvm.Cond.instanceMethod ({ cls := "SugarKitchenModel", name := "wash", desc := "(III)Z" } : Jvm.MethodName)) : Cond) ∈ gT := gI 1253 (by decide +kernel) rfl
theorem mw_1254 : ((Jvm.Cond.selects "SugarKitchenModel" ({ cls := "SugarKitchenModel", name := "wash", desc := "(III)Z" } : Jvm.MethodName) ({ cls := "SugarKitchenModel", name := "wash", desc := "(III)Z" } : Jvm.MethodName)) : Cond) ∈ gT := gI 1254 (by decide +kernel) rfl
set_option maxRecDepth 100000 in
theorem mw_1255 : ((Jvm.Cond.code ({ cls := "SugarKitchenModel", name := "wash", desc := "(III)Z" } : Jvm.MethodName) prog_13_method_51_code (4 : Nat) (Option.some Jvm.ClassFile.FieldType.boolean)) : Cond) ∈ gT := gI 1255 rfl rfl
theorem mw_1256 : ((Jvm.Cond.methodLink "SugarKitchenLaw" (129 : Nat) ({ cls := "SugarKitchenModel", name := "queue", desc := "(I)I" } : Jvm.MethodName)) : Cond) ∈ gT := gI 1256 (by decide +kernel) rfl
theorem mw_1257 : ((Jvm.Cond.instanceMethod ({ cls := "SugarKitchenModel", name := "queue", desc := "(I)I" } : Jvm.MethodName)) : Cond) ∈ gT := gI 1257 (by decide +kernel) rfl
theorem mw_1258 : ((Jvm.Cond.selects "SugarKitchenModel" ({ cls := "SugarKitchenModel", name := "queue", desc := "(I)I" } : Jvm.MethodName) ({ cls := "SugarKitchenModel", name := "queue", desc := "(I)I" } : Jvm.MethodName)) : Cond) ∈ gT := gI 1258 (by decide +kernel) rfl
set_option maxRecDepth 100000 in
theorem mw_1259 : ((Jvm.Cond.code ({ cls := "SugarKitchenModel", name := "queue", desc := "(I)I" } : Jvm.MethodName) prog_13_method_52_code (3 : Nat) (Option.some Jvm.ClassFile.FieldType.int)) : Cond) ∈ gT := gI 1259 rfl rfl
theorem mw_1260 : ((Jvm.Cond.methodLink "SugarKitchenLaw" (134 : Nat) ({ cls := "SugarKitchenModel", name := "order", desc := "(ZI)I" } : Jvm.MethodName)) : Cond) ∈ gT := gI 1260 (by decide +kernel) rfl
theorem mw_1261 : ((Jvm.Cond.instanceMethod ({ cls := "SugarKitchenModel", name := "order", desc := "(ZI)I" } : Jvm.MethodName)) : Cond) ∈ gT := gI 1261 (by decide +kernel) rfl
theorem mw_1262 : ((Jvm.Cond.selects "SugarKitchenModel" ({ cls := "SugarKitchenModel", name := "order", desc := "(ZI)I" } : Jvm.MethodName) ({ cls := "SugarKitchenModel", name := "order", desc := "(ZI)I" } : Jvm.MethodName)) : Cond) ∈ gT := gI 1262 (by decide +kernel) rfl
set_option maxRecDepth 100000 in
theorem mw_1263 : ((Jvm.Cond.code ({ cls := "SugarKitchenModel", name := "order", desc := "(ZI)I" } : Jvm.MethodName) prog_13_method_58_code (11 : Nat) (Option.some Jvm.ClassFile.FieldType.int)) : Cond) ∈ gT := gI 1263 rfl rfl
theorem mw_1264 : ((Jvm.Cond.methodLink "SugarKitchenModel" (291 : Nat) ({ cls := "SugarKitchenModel", name := "reckon", desc := "(Z)V" } : Jvm.MethodName)) : Cond) ∈ gT := gI 1264 (by decide +kernel) rfl
theorem mw_1266 : ((Jvm.Cond.instanceMethod ({ cls := "SugarKitchenModel", name := "reckon", desc := "(Z)V" } : Jvm.MethodName)) : Cond) ∈ gT := gI 1266 (by decide +kernel) rfl
set_option maxRecDepth 100000 in
theorem mw_1267 : ((Jvm.Cond.code ({ cls := "SugarKitchenModel", name := "reckon", desc := "(Z)V" } : Jvm.MethodName) prog_13_method_57_code (8 : Nat) (Option.none : Option Jvm.ClassFile.FieldType)) : Cond) ∈ gT := gI 1267 rfl rfl
theorem mw_1268 : ((Jvm.Cond.constant "SugarKitchenModel" (280 : Nat) (100000000 : Int32)) : Cond) ∈ gT := gI 1268 (by decide +kernel) rfl
theorem mw_1269 : ((Jvm.Cond.methodLink "SugarKitchenModel" (281 : Nat) ({ cls := "SugarKitchenModel", name := "mayCome", desc := "(IIZ)Z" } : Jvm.MethodName)) : Cond) ∈ gT := gI 1269 (by decide +kernel) rfl
theorem mw_1271 : ((Jvm.Cond.instanceMethod ({ cls := "SugarKitchenModel", name := "mayCome", desc := "(IIZ)Z" } : Jvm.MethodName)) : Cond) ∈ gT := gI 1271 (by decide +kernel) rfl
set_option maxRecDepth 100000 in
theorem mw_1272 : ((Jvm.Cond.code ({ cls := "SugarKitchenModel", name := "mayCome", desc := "(IIZ)Z" } : Jvm.MethodName) prog_13_method_54_code (5 : Nat) (Option.some Jvm.ClassFile.FieldType.boolean)) : Cond) ∈ gT := gI 1272 rfl rfl
theorem mw_1273 : ((Jvm.Cond.methodLink "SugarKitchenModel" (277 : Nat) ({ cls := "SugarKitchenModel", name := "isNut", desc := "(I)Z" } : Jvm.MethodName)) : Cond) ∈ gT := gI 1273 (by decide +kernel) rfl
theorem mw_1275 : ((Jvm.Cond.instanceMethod ({ cls := "SugarKitchenModel", name := "isNut", desc := "(I)Z" } : Jvm.MethodName)) : Cond) ∈ gT := gI 1275 (by decide +kernel) rfl
set_option maxRecDepth 100000 in
theorem mw_1276 : ((Jvm.Cond.code ({ cls := "SugarKitchenModel", name := "isNut", desc := "(I)Z" } : Jvm.MethodName) prog_13_method_53_code (2 : Nat) (Option.some Jvm.ClassFile.FieldType.boolean)) : Cond) ∈ gT := gI 1276 rfl rfl
theorem mw_1277 : ((Jvm.Cond.methodLink "SugarKitchenModel" (285 : Nat) ({ cls := "SugarKitchenModel", name := "minutes", desc := "(II)I" } : Jvm.MethodName)) : Cond) ∈ gT := gI 1277 (by decide +kernel) rfl
theorem mw_1279 : ((Jvm.Cond.instanceMethod ({ cls := "SugarKitchenModel", name := "minutes", desc := "(II)I" } : Jvm.MethodName)) : Cond) ∈ gT := gI 1279 (by decide +kernel) rfl
set_option maxRecDepth 100000 in
theorem mw_1280 : ((Jvm.Cond.code ({ cls := "SugarKitchenModel", name := "minutes", desc := "(II)I" } : Jvm.MethodName) prog_13_method_55_code (3 : Nat) (Option.some Jvm.ClassFile.FieldType.int)) : Cond) ∈ gT := gI 1280 rfl rfl
theorem mw_1281 : ((Jvm.Cond.methodLink "SugarKitchenModel" (288 : Nat) ({ cls := "SugarKitchenModel", name := "restOf", desc := "(II)I" } : Jvm.MethodName)) : Cond) ∈ gT := gI 1281 (by decide +kernel) rfl
theorem mw_1283 : ((Jvm.Cond.instanceMethod ({ cls := "SugarKitchenModel", name := "restOf", desc := "(II)I" } : Jvm.MethodName)) : Cond) ∈ gT := gI 1283 (by decide +kernel) rfl
set_option maxRecDepth 100000 in
theorem mw_1284 : ((Jvm.Cond.code ({ cls := "SugarKitchenModel", name := "restOf", desc := "(II)I" } : Jvm.MethodName) prog_13_method_56_code (3 : Nat) (Option.some Jvm.ClassFile.FieldType.int)) : Cond) ∈ gT := gI 1284 rfl rfl
theorem mw_1285 : ((Jvm.Cond.methodLink "SugarKitchenLaw" (138 : Nat) ({ cls := "SugarKitchenModel", name := "recall", desc := "(III)I" } : Jvm.MethodName)) : Cond) ∈ gT := gI 1285 (by decide +kernel) rfl
theorem mw_1286 : ((Jvm.Cond.instanceMethod ({ cls := "SugarKitchenModel", name := "recall", desc := "(III)I" } : Jvm.MethodName)) : Cond) ∈ gT := gI 1286 (by decide +kernel) rfl
theorem mw_1287 : ((Jvm.Cond.selects "SugarKitchenModel" ({ cls := "SugarKitchenModel", name := "recall", desc := "(III)I" } : Jvm.MethodName) ({ cls := "SugarKitchenModel", name := "recall", desc := "(III)I" } : Jvm.MethodName)) : Cond) ∈ gT := gI 1287 (by decide +kernel) rfl
set_option maxRecDepth 100000 in
theorem mw_1288 : ((Jvm.Cond.code ({ cls := "SugarKitchenModel", name := "recall", desc := "(III)I" } : Jvm.MethodName) prog_13_method_60_code (7 : Nat) (Option.some Jvm.ClassFile.FieldType.int)) : Cond) ∈ gT := gI 1288 rfl rfl
theorem mw_1289 : ((Jvm.Cond.methodLink "SugarKitchenModel" (295 : Nat) ({ cls := "SugarKitchenModel", name := "hasSome", desc := "(III)Z" } : Jvm.MethodName)) : Cond) ∈ gT := gI 1289 (by decide +kernel) rfl
theorem mw_1291 : ((Jvm.Cond.instanceMethod ({ cls := "SugarKitchenModel", name := "hasSome", desc := "(III)Z" } : Jvm.MethodName)) : Cond) ∈ gT := gI 1291 (by decide +kernel) rfl
set_option maxRecDepth 100000 in
theorem mw_1292 : ((Jvm.Cond.code ({ cls := "SugarKitchenModel", name := "hasSome", desc := "(III)Z" } : Jvm.MethodName) prog_13_method_59_code (4 : Nat) (Option.some Jvm.ClassFile.FieldType.boolean)) : Cond) ∈ gT := gI 1292 rfl rfl
theorem mw_1293 : ((Jvm.Cond.methodLink "SugarKitchenLaw" (142 : Nat) ({ cls := "SugarKitchenModel", name := "about", desc := "(I)I" } : Jvm.MethodName)) : Cond) ∈ gT := gI 1293 (by decide +kernel) rfl
theorem mw_1294 : ((Jvm.Cond.instanceMethod ({ cls := "SugarKitchenModel", name := "about", desc := "(I)I" } : Jvm.MethodName)) : Cond) ∈ gT := gI 1294 (by decide +kernel) rfl
theorem mw_1295 : ((Jvm.Cond.selects "SugarKitchenModel" ({ cls := "SugarKitchenModel", name := "about", desc := "(I)I" } : Jvm.MethodName) ({ cls := "SugarKitchenModel", name := "about", desc := "(I)I" } : Jvm.MethodName)) : Cond) ∈ gT := gI 1295 (by decide +kernel) rfl
set_option maxRecDepth 100000 in
theorem mw_1296 : ((Jvm.Cond.code ({ cls := "SugarKitchenModel", name := "about", desc := "(I)I" } : Jvm.MethodName) prog_13_method_61_code (4 : Nat) (Option.some Jvm.ClassFile.FieldType.int)) : Cond) ∈ gT := gI 1296 rfl rfl
theorem mw_1297 : ((Jvm.Cond.methodLink "SugarKitchenLaw" (146 : Nat) ({ cls := "SugarKitchenModel", name := "left", desc := "(I)I" } : Jvm.MethodName)) : Cond) ∈ gT := gI 1297 (by decide +kernel) rfl
theorem mw_1298 : ((Jvm.Cond.instanceMethod ({ cls := "SugarKitchenModel", name := "left", desc := "(I)I" } : Jvm.MethodName)) : Cond) ∈ gT := gI 1298 (by decide +kernel) rfl
theorem mw_1299 : ((Jvm.Cond.selects "SugarKitchenModel" ({ cls := "SugarKitchenModel", name := "left", desc := "(I)I" } : Jvm.MethodName) ({ cls := "SugarKitchenModel", name := "left", desc := "(I)I" } : Jvm.MethodName)) : Cond) ∈ gT := gI 1299 (by decide +kernel) rfl
set_option maxRecDepth 100000 in
theorem mw_1300 : ((Jvm.Cond.code ({ cls := "SugarKitchenModel", name := "left", desc := "(I)I" } : Jvm.MethodName) prog_13_method_62_code (2 : Nat) (Option.some Jvm.ClassFile.FieldType.int)) : Cond) ∈ gT := gI 1300 rfl rfl
theorem mp_0 : (Jvm.Cond.selects "SugarKitchen" ({ cls := "SugarKitchen", name := "findRaw", desc := "(I)LSugarKitchen$Batch;" } : Jvm.MethodName) ({ cls := "SugarKitchen", name := "findRaw", desc := "(I)LSugarKitchen$Batch;" } : Jvm.MethodName) : Cond) ∈ gT := gP 0 (by decide +kernel) rfl
theorem mp_1 : (Jvm.Cond.selects "SugarKitchen" ({ cls := "SugarKitchen", name := "findBatch", desc := "(I)LSugarKitchen$Batch;" } : Jvm.MethodName) ({ cls := "SugarKitchen", name := "findBatch", desc := "(I)LSugarKitchen$Batch;" } : Jvm.MethodName) : Cond) ∈ gT := gP 1 (by decide +kernel) rfl
theorem mp_2 : (Jvm.Cond.selects "SugarKitchen" ({ cls := "SugarKitchen", name := "findLot", desc := "(I)LSugarKitchen$Lot;" } : Jvm.MethodName) ({ cls := "SugarKitchen", name := "findLot", desc := "(I)LSugarKitchen$Lot;" } : Jvm.MethodName) : Cond) ∈ gT := gP 2 (by decide +kernel) rfl
theorem mp_3 : (Jvm.Cond.selects "SugarKitchen$Batch" ({ cls := "SugarKitchen$Batch", name := "findTop", desc := "(I)I" } : Jvm.MethodName) ({ cls := "SugarKitchen$Batch", name := "findTop", desc := "(I)I" } : Jvm.MethodName) : Cond) ∈ gT := gP 3 (by decide +kernel) rfl
theorem mp_4 : (Jvm.Cond.selects "SugarKitchen$Batch" ({ cls := "SugarKitchen$Batch", name := "findGrained", desc := "(IILSugarKitchen$Rules;)I" } : Jvm.MethodName) ({ cls := "SugarKitchen$Batch", name := "findGrained", desc := "(IILSugarKitchen$Rules;)I" } : Jvm.MethodName) : Cond) ∈ gT := gP 4 (by decide +kernel) rfl
theorem mp_5 : (Jvm.Cond.selects "SugarKitchen" ({ cls := "SugarKitchen", name := "restartCoats", desc := "()V" } : Jvm.MethodName) ({ cls := "SugarKitchen", name := "restartCoats", desc := "()V" } : Jvm.MethodName) : Cond) ∈ gT := gP 5 (by decide +kernel) rfl
theorem mp_6 : (Jvm.Cond.selects "SugarKitchen$Tempering" ({ cls := "SugarKitchen$Tempering", name := "isSpoilt", desc := "(II)Z" } : Jvm.MethodName) ({ cls := "SugarKitchen$Tempering", name := "isSpoilt", desc := "(II)Z" } : Jvm.MethodName) : Cond) ∈ gT := gP 6 (by decide +kernel) rfl
theorem mp_7 : (Jvm.Cond.selects "SugarKitchen$Tempering" ({ cls := "SugarKitchen$Tempering", name := "counts", desc := "(II)Z" } : Jvm.MethodName) ({ cls := "SugarKitchen$Tempering", name := "counts", desc := "(II)Z" } : Jvm.MethodName) : Cond) ∈ gT := gP 7 (by decide +kernel) rfl
theorem mp_8 : (Jvm.Cond.selects "SugarKitchen" ({ cls := "SugarKitchen", name := "findGood", desc := "(I)LSugarKitchen$Batch;" } : Jvm.MethodName) ({ cls := "SugarKitchen", name := "findGood", desc := "(I)LSugarKitchen$Batch;" } : Jvm.MethodName) : Cond) ∈ gT := gP 8 (by decide +kernel) rfl
theorem mp_9 : (Jvm.Cond.selects "SugarKitchen" ({ cls := "SugarKitchen", name := "findUnboxed", desc := "(I)LSugarKitchen$Piece;" } : Jvm.MethodName) ({ cls := "SugarKitchen", name := "findUnboxed", desc := "(I)LSugarKitchen$Piece;" } : Jvm.MethodName) : Cond) ∈ gT := gP 9 (by decide +kernel) rfl
theorem mp_10 : (Jvm.Cond.selects "SugarKitchen" ({ cls := "SugarKitchen", name := "findPiece", desc := "(I)LSugarKitchen$Piece;" } : Jvm.MethodName) ({ cls := "SugarKitchen", name := "findPiece", desc := "(I)LSugarKitchen$Piece;" } : Jvm.MethodName) : Cond) ∈ gT := gP 10 (by decide +kernel) rfl
theorem mp_11 : (Jvm.Cond.selects "SugarKitchen" ({ cls := "SugarKitchen", name := "liftFromTray", desc := "(LSugarKitchen$Piece;)V" } : Jvm.MethodName) ({ cls := "SugarKitchen", name := "liftFromTray", desc := "(LSugarKitchen$Piece;)V" } : Jvm.MethodName) : Cond) ∈ gT := gP 11 (by decide +kernel) rfl
theorem mp_12 : (Jvm.Cond.selects "SugarKitchen" ({ cls := "SugarKitchen", name := "gather", desc := "([II)V" } : Jvm.MethodName) ({ cls := "SugarKitchen", name := "gather", desc := "([II)V" } : Jvm.MethodName) : Cond) ∈ gT := gP 12 (by decide +kernel) rfl
theorem mp_13 : (Jvm.Cond.selects "SugarKitchen$Choice" ({ cls := "SugarKitchen$Choice", name := "total", desc := "()I" } : Jvm.MethodName) ({ cls := "SugarKitchen$Choice", name := "total", desc := "()I" } : Jvm.MethodName) : Cond) ∈ gT := gP 13 (by decide +kernel) rfl
theorem mp_14 : (Jvm.Cond.selects "SugarKitchen$Choice" ({ cls := "SugarKitchen$Choice", name := "sumUp", desc := "(I)V" } : Jvm.MethodName) ({ cls := "SugarKitchen$Choice", name := "sumUp", desc := "(I)V" } : Jvm.MethodName) : Cond) ∈ gT := gP 14 (by decide +kernel) rfl
theorem mp_15 : (Jvm.Cond.selects "SugarKitchen$Choice" ({ cls := "SugarKitchen$Choice", name := "addPiece", desc := "(II)V" } : Jvm.MethodName) ({ cls := "SugarKitchen$Choice", name := "addPiece", desc := "(II)V" } : Jvm.MethodName) : Cond) ∈ gT := gP 15 (by decide +kernel) rfl
theorem mp_16 : (Jvm.Cond.selects "SugarKitchen$Choice" ({ cls := "SugarKitchen$Choice", name := "canWeigh", desc := "(II)Z" } : Jvm.MethodName) ({ cls := "SugarKitchen$Choice", name := "canWeigh", desc := "(II)Z" } : Jvm.MethodName) : Cond) ∈ gT := gP 16 (by decide +kernel) rfl
theorem mp_17 : (Jvm.Cond.selects "SugarKitchen$Choice" ({ cls := "SugarKitchen$Choice", name := "markFirst", desc := "(I)V" } : Jvm.MethodName) ({ cls := "SugarKitchen$Choice", name := "markFirst", desc := "(I)V" } : Jvm.MethodName) : Cond) ∈ gT := gP 17 (by decide +kernel) rfl
theorem mp_18 : (Jvm.Cond.selects "SugarKitchen" ({ cls := "SugarKitchen", name := "moveToBox", desc := "(ILSugarKitchen$Box;)V" } : Jvm.MethodName) ({ cls := "SugarKitchen", name := "moveToBox", desc := "(ILSugarKitchen$Box;)V" } : Jvm.MethodName) : Cond) ∈ gT := gP 18 (by decide +kernel) rfl
theorem mp_19 : (Jvm.Cond.selects "SugarKitchen" ({ cls := "SugarKitchen", name := "warningsOf", desc := "(J)I" } : Jvm.MethodName) ({ cls := "SugarKitchen", name := "warningsOf", desc := "(J)I" } : Jvm.MethodName) : Cond) ∈ gT := gP 19 (by decide +kernel) rfl
theorem mp_20 : (Jvm.Cond.selects "SugarKitchen" ({ cls := "SugarKitchen", name := "countFull", desc := "(III)I" } : Jvm.MethodName) ({ cls := "SugarKitchen", name := "countFull", desc := "(III)I" } : Jvm.MethodName) : Cond) ∈ gT := gP 20 (by decide +kernel) rfl
theorem mp_21 : (Jvm.Cond.selects "SugarKitchen$Parting" ({ cls := "SugarKitchen$Parting", name := "insert", desc := "(I)V" } : Jvm.MethodName) ({ cls := "SugarKitchen$Parting", name := "insert", desc := "(I)V" } : Jvm.MethodName) : Cond) ∈ gT := gP 21 (by decide +kernel) rfl
theorem mp_22 : (Jvm.Cond.selects "SugarKitchen$Parting" ({ cls := "SugarKitchen$Parting", name := "forget", desc := "()V" } : Jvm.MethodName) ({ cls := "SugarKitchen$Parting", name := "forget", desc := "()V" } : Jvm.MethodName) : Cond) ∈ gT := gP 22 (by decide +kernel) rfl
theorem mp_23 : (Jvm.Cond.selects "SugarKitchen$Parting" ({ cls := "SugarKitchen$Parting", name := "mostOf", desc := "(II)I" } : Jvm.MethodName) ({ cls := "SugarKitchen$Parting", name := "mostOf", desc := "(II)I" } : Jvm.MethodName) : Cond) ∈ gT := gP 23 (by decide +kernel) rfl
theorem mp_24 : (Jvm.Cond.selects "SugarKitchen$Parting" ({ cls := "SugarKitchen$Parting", name := "isFree", desc := "(II)Z" } : Jvm.MethodName) ({ cls := "SugarKitchen$Parting", name := "isFree", desc := "(II)Z" } : Jvm.MethodName) : Cond) ∈ gT := gP 24 (by decide +kernel) rfl
theorem mp_25 : (Jvm.Cond.selects "SugarKitchen$Parting" ({ cls := "SugarKitchen$Parting", name := "fillBox", desc := "(IIIII)I" } : Jvm.MethodName) ({ cls := "SugarKitchen$Parting", name := "fillBox", desc := "(IIIII)I" } : Jvm.MethodName) : Cond) ∈ gT := gP 25 (by decide +kernel) rfl
theorem mp_26 : (Jvm.Cond.selects "SugarKitchen" ({ cls := "SugarKitchen", name := "findBox", desc := "(I)LSugarKitchen$Box;" } : Jvm.MethodName) ({ cls := "SugarKitchen", name := "findBox", desc := "(I)LSugarKitchen$Box;" } : Jvm.MethodName) : Cond) ∈ gT := gP 26 (by decide +kernel) rfl
theorem mp_27 : (Jvm.Cond.selects "SugarKitchen$Box" ({ cls := "SugarKitchen$Box", name := "lotAt", desc := "(I)I" } : Jvm.MethodName) ({ cls := "SugarKitchen$Box", name := "lotAt", desc := "(I)I" } : Jvm.MethodName) : Cond) ∈ gT := gP 27 (by decide +kernel) rfl
theorem mp_28 : (Jvm.Cond.selects "SugarKitchen$Kettle" ({ cls := "SugarKitchen$Kettle", name := "countKinds", desc := "()I" } : Jvm.MethodName) ({ cls := "SugarKitchen$Kettle", name := "countKinds", desc := "()I" } : Jvm.MethodName) : Cond) ∈ gT := gP 28 (by decide +kernel) rfl
theorem mp_29 : (Jvm.Cond.selects "SugarKitchen$Kettle" ({ cls := "SugarKitchen$Kettle", name := "findLeast", desc := "(IZ)V" } : Jvm.MethodName) ({ cls := "SugarKitchen$Kettle", name := "findLeast", desc := "(IZ)V" } : Jvm.MethodName) : Cond) ∈ gT := gP 29 (by decide +kernel) rfl
theorem mp_30 : (Jvm.Cond.selects "SugarKitchen$Kettle" ({ cls := "SugarKitchen$Kettle", name := "countOn", desc := "()V" } : Jvm.MethodName) ({ cls := "SugarKitchen$Kettle", name := "countOn", desc := "()V" } : Jvm.MethodName) : Cond) ∈ gT := gP 30 (by decide +kernel) rfl
theorem mp_31 : (Jvm.Cond.selects "SugarKitchen$Kettle" ({ cls := "SugarKitchen$Kettle", name := "findLeastOf", desc := "(IZ)V" } : Jvm.MethodName) ({ cls := "SugarKitchen$Kettle", name := "findLeastOf", desc := "(IZ)V" } : Jvm.MethodName) : Cond) ∈ gT := gP 31 (by decide +kernel) rfl
theorem mp_32 : (Jvm.Cond.selects "SugarKitchen$Kettle" ({ cls := "SugarKitchen$Kettle", name := "mayCome", desc := "(IZ)Z" } : Jvm.MethodName) ({ cls := "SugarKitchen$Kettle", name := "mayCome", desc := "(IZ)Z" } : Jvm.MethodName) : Cond) ∈ gT := gP 32 (by decide +kernel) rfl
theorem mp_33 : (Jvm.Cond.selects "SugarKitchen$Kettle" ({ cls := "SugarKitchen$Kettle", name := "onlyNutsWait", desc := "()Z" } : Jvm.MethodName) ({ cls := "SugarKitchen$Kettle", name := "onlyNutsWait", desc := "()Z" } : Jvm.MethodName) : Cond) ∈ gT := gP 33 (by decide +kernel) rfl
theorem mp_34 : (Jvm.Cond.selects "SugarKitchen$Kettle" ({ cls := "SugarKitchen$Kettle", name := "leastOnce", desc := "(II)I" } : Jvm.MethodName) ({ cls := "SugarKitchen$Kettle", name := "leastOnce", desc := "(II)I" } : Jvm.MethodName) : Cond) ∈ gT := gP 34 (by decide +kernel) rfl
theorem mp_35 : (Jvm.Cond.selects "SugarKitchen$Kettle" ({ cls := "SugarKitchen$Kettle", name := "followLeast", desc := "(IZ)V" } : Jvm.MethodName) ({ cls := "SugarKitchen$Kettle", name := "followLeast", desc := "(IZ)V" } : Jvm.MethodName) : Cond) ∈ gT := gP 35 (by decide +kernel) rfl
theorem mp_36 : (Jvm.Cond.selects "SugarKitchen$Kettle" ({ cls := "SugarKitchen$Kettle", name := "findNext", desc := "(IIZ)I" } : Jvm.MethodName) ({ cls := "SugarKitchen$Kettle", name := "findNext", desc := "(IIZ)I" } : Jvm.MethodName) : Cond) ∈ gT := gP 36 (by decide +kernel) rfl
theorem mp_37 : (Jvm.Cond.selects "SugarKitchen" ({ cls := "SugarKitchen", name := "lotsIn", desc := "(II)J" } : Jvm.MethodName) ({ cls := "SugarKitchen", name := "lotsIn", desc := "(II)J" } : Jvm.MethodName) : Cond) ∈ gT := gP 37 (by decide +kernel) rfl
theorem mp_38 : (Jvm.Cond.selects "SugarKitchen" ({ cls := "SugarKitchen", name := "countFit", desc := "()I" } : Jvm.MethodName) ({ cls := "SugarKitchen", name := "countFit", desc := "()I" } : Jvm.MethodName) : Cond) ∈ gT := gP 38 (by decide +kernel) rfl
theorem mp_39 : (Jvm.Cond.selects "SugarKitchenModel" ({ cls := "SugarKitchenModel", name := "isBatch", desc := "(I)Z" } : Jvm.MethodName) ({ cls := "SugarKitchenModel", name := "isBatch", desc := "(I)Z" } : Jvm.MethodName) : Cond) ∈ gT := gP 39 (by decide +kernel) rfl
theorem mp_40 : (Jvm.Cond.selects "SugarKitchenModel" ({ cls := "SugarKitchenModel", name := "isRead", desc := "(II)Z" } : Jvm.MethodName) ({ cls := "SugarKitchenModel", name := "isRead", desc := "(II)Z" } : Jvm.MethodName) : Cond) ∈ gT := gP 40 (by decide +kernel) rfl
theorem mp_41 : (Jvm.Cond.selects "SugarKitchenModel" ({ cls := "SugarKitchenModel", name := "degree", desc := "(II)I" } : Jvm.MethodName) ({ cls := "SugarKitchenModel", name := "degree", desc := "(II)I" } : Jvm.MethodName) : Cond) ∈ gT := gP 41 (by decide +kernel) rfl
theorem mp_42 : (Jvm.Cond.selects "SugarKitchenModel" ({ cls := "SugarKitchenModel", name := "lossOf", desc := "(IZ)I" } : Jvm.MethodName) ({ cls := "SugarKitchenModel", name := "lossOf", desc := "(IZ)I" } : Jvm.MethodName) : Cond) ∈ gT := gP 42 (by decide +kernel) rfl
theorem mp_43 : (Jvm.Cond.selects "SugarKitchenModel" ({ cls := "SugarKitchenModel", name := "isGood", desc := "(I)Z" } : Jvm.MethodName) ({ cls := "SugarKitchenModel", name := "isGood", desc := "(I)Z" } : Jvm.MethodName) : Cond) ∈ gT := gP 43 (by decide +kernel) rfl
theorem mp_44 : (Jvm.Cond.selects "SugarKitchenModel" ({ cls := "SugarKitchenModel", name := "isOut", desc := "(I)Z" } : Jvm.MethodName) ({ cls := "SugarKitchenModel", name := "isOut", desc := "(I)Z" } : Jvm.MethodName) : Cond) ∈ gT := gP 44 (by decide +kernel) rfl
theorem mp_45 : (Jvm.Cond.selects "SugarKitchenModel" ({ cls := "SugarKitchenModel", name := "leave", desc := "(I)V" } : Jvm.MethodName) ({ cls := "SugarKitchenModel", name := "leave", desc := "(I)V" } : Jvm.MethodName) : Cond) ∈ gT := gP 45 (by decide +kernel) rfl
theorem mp_46 : (Jvm.Cond.selects "SugarKitchenModel" ({ cls := "SugarKitchenModel", name := "sort", desc := "(I)I" } : Jvm.MethodName) ({ cls := "SugarKitchenModel", name := "sort", desc := "(I)I" } : Jvm.MethodName) : Cond) ∈ gT := gP 46 (by decide +kernel) rfl
theorem mp_47 : (Jvm.Cond.selects "SugarKitchenModel" ({ cls := "SugarKitchenModel", name := "isFit", desc := "(I)Z" } : Jvm.MethodName) ({ cls := "SugarKitchenModel", name := "isFit", desc := "(I)Z" } : Jvm.MethodName) : Cond) ∈ gT := gP 47 (by decide +kernel) rfl
theorem mp_48 : (Jvm.Cond.selects "SugarKitchenModel" ({ cls := "SugarKitchenModel", name := "list", desc := "(I)V" } : Jvm.MethodName) ({ cls := "SugarKitchenModel", name := "list", desc := "(I)V" } : Jvm.MethodName) : Cond) ∈ gT := gP 48 (by decide +kernel) rfl
theorem mp_49 : (Jvm.Cond.selects "SugarKitchenModel" ({ cls := "SugarKitchenModel", name := "gather", desc := "()V" } : Jvm.MethodName) ({ cls := "SugarKitchenModel", name := "gather", desc := "()V" } : Jvm.MethodName) : Cond) ∈ gT := gP 49 (by decide +kernel) rfl
theorem mp_50 : (Jvm.Cond.selects "SugarKitchenModel" ({ cls := "SugarKitchenModel", name := "leastSum", desc := "(II)I" } : Jvm.MethodName) ({ cls := "SugarKitchenModel", name := "leastSum", desc := "(II)I" } : Jvm.MethodName) : Cond) ∈ gT := gP 50 (by decide +kernel) rfl
theorem mp_51 : (Jvm.Cond.selects "SugarKitchenModel" ({ cls := "SugarKitchenModel", name := "reaches8500", desc := "()Z" } : Jvm.MethodName) ({ cls := "SugarKitchenModel", name := "reaches8500", desc := "()Z" } : Jvm.MethodName) : Cond) ∈ gT := gP 51 (by decide +kernel) rfl
theorem mp_52 : (Jvm.Cond.selects "SugarKitchenModel" ({ cls := "SugarKitchenModel", name := "choose", desc := "(I)I" } : Jvm.MethodName) ({ cls := "SugarKitchenModel", name := "choose", desc := "(I)I" } : Jvm.MethodName) : Cond) ∈ gT := gP 52 (by decide +kernel) rfl
theorem mp_53 : (Jvm.Cond.selects "SugarKitchenModel" ({ cls := "SugarKitchenModel", name := "most", desc := "(II)I" } : Jvm.MethodName) ({ cls := "SugarKitchenModel", name := "most", desc := "(II)I" } : Jvm.MethodName) : Cond) ∈ gT := gP 53 (by decide +kernel) rfl
theorem mp_54 : (Jvm.Cond.selects "SugarKitchenModel" ({ cls := "SugarKitchenModel", name := "full", desc := "(II)I" } : Jvm.MethodName) ({ cls := "SugarKitchenModel", name := "full", desc := "(II)I" } : Jvm.MethodName) : Cond) ∈ gT := gP 54 (by decide +kernel) rfl
theorem mp_55 : (Jvm.Cond.selects "SugarKitchenModel" ({ cls := "SugarKitchenModel", name := "isInBox", desc := "(II)Z" } : Jvm.MethodName) ({ cls := "SugarKitchenModel", name := "isInBox", desc := "(II)Z" } : Jvm.MethodName) : Cond) ∈ gT := gP 55 (by decide +kernel) rfl
theorem mp_56 : (Jvm.Cond.selects "SugarKitchenModel" ({ cls := "SugarKitchenModel", name := "boxHas", desc := "(II)Z" } : Jvm.MethodName) ({ cls := "SugarKitchenModel", name := "boxHas", desc := "(II)Z" } : Jvm.MethodName) : Cond) ∈ gT := gP 56 (by decide +kernel) rfl
theorem mp_57 : (Jvm.Cond.selects "SugarKitchenModel" ({ cls := "SugarKitchenModel", name := "pieceHas", desc := "(II)Z" } : Jvm.MethodName) ({ cls := "SugarKitchenModel", name := "pieceHas", desc := "(II)Z" } : Jvm.MethodName) : Cond) ∈ gT := gP 57 (by decide +kernel) rfl
theorem mp_58 : (Jvm.Cond.selects "SugarKitchenModel" ({ cls := "SugarKitchenModel", name := "hasLot", desc := "(II)Z" } : Jvm.MethodName) ({ cls := "SugarKitchenModel", name := "hasLot", desc := "(II)Z" } : Jvm.MethodName) : Cond) ∈ gT := gP 58 (by decide +kernel) rfl
theorem mp_59 : (Jvm.Cond.selects "SugarKitchenModel" ({ cls := "SugarKitchenModel", name := "lotInBox", desc := "(II)I" } : Jvm.MethodName) ({ cls := "SugarKitchenModel", name := "lotInBox", desc := "(II)I" } : Jvm.MethodName) : Cond) ∈ gT := gP 59 (by decide +kernel) rfl
theorem mp_60 : (Jvm.Cond.selects "SugarKitchenModel" ({ cls := "SugarKitchenModel", name := "pieceInBox", desc := "(II)I" } : Jvm.MethodName) ({ cls := "SugarKitchenModel", name := "pieceInBox", desc := "(II)I" } : Jvm.MethodName) : Cond) ∈ gT := gP 60 (by decide +kernel) rfl
theorem mp_61 : (Jvm.Cond.selects "SugarKitchenModel" ({ cls := "SugarKitchenModel", name := "reckon", desc := "(Z)V" } : Jvm.MethodName) ({ cls := "SugarKitchenModel", name := "reckon", desc := "(Z)V" } : Jvm.MethodName) : Cond) ∈ gT := gP 61 (by decide +kernel) rfl
theorem mp_62 : (Jvm.Cond.selects "SugarKitchenModel" ({ cls := "SugarKitchenModel", name := "mayCome", desc := "(IIZ)Z" } : Jvm.MethodName) ({ cls := "SugarKitchenModel", name := "mayCome", desc := "(IIZ)Z" } : Jvm.MethodName) : Cond) ∈ gT := gP 62 (by decide +kernel) rfl
theorem mp_63 : (Jvm.Cond.selects "SugarKitchenModel" ({ cls := "SugarKitchenModel", name := "isNut", desc := "(I)Z" } : Jvm.MethodName) ({ cls := "SugarKitchenModel", name := "isNut", desc := "(I)Z" } : Jvm.MethodName) : Cond) ∈ gT := gP 63 (by decide +kernel) rfl
theorem mp_64 : (Jvm.Cond.selects "SugarKitchenModel" ({ cls := "SugarKitchenModel", name := "minutes", desc := "(II)I" } : Jvm.MethodName) ({ cls := "SugarKitchenModel", name := "minutes", desc := "(II)I" } : Jvm.MethodName) : Cond) ∈ gT := gP 64 (by decide +kernel) rfl
theorem mp_65 : (Jvm.Cond.selects "SugarKitchenModel" ({ cls := "SugarKitchenModel", name := "restOf", desc := "(II)I" } : Jvm.MethodName) ({ cls := "SugarKitchenModel", name := "restOf", desc := "(II)I" } : Jvm.MethodName) : Cond) ∈ gT := gP 65 (by decide +kernel) rfl
theorem mp_66 : (Jvm.Cond.selects "SugarKitchenModel" ({ cls := "SugarKitchenModel", name := "hasSome", desc := "(III)Z" } : Jvm.MethodName) ({ cls := "SugarKitchenModel", name := "hasSome", desc := "(III)Z" } : Jvm.MethodName) : Cond) ∈ gT := gP 66 (by decide +kernel) rfl
