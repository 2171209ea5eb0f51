theorem mw_655 : ((Jvm.Cond.selects "SugarKitchen$Choice" ({ cls := "SugarKitchen$Choice", name := "choose", desc := "(II)I" } : Jvm.MethodName) ({ cls := "SugarKitchen$Choice", name := "choose", desc := "(II)I" } : Jvm.MethodName)) : Cond) ∈ gT := gI3 175 (by decide +kernel) rfl
set_option maxRecDepth 100000 in
theorem mw_656 : ((Jvm.Cond.code ({ cls := "SugarKitchen$Choice", name := "choose", desc := "(II)I" } : Jvm.MethodName) prog_4_method_3_code (5 : Nat) (Option.some Jvm.ClassFile.FieldType.int)) : Cond) ∈ gT := gI3 176 rfl rfl
theorem mw_657 : ((Jvm.Cond.methodLink "SugarKitchen$Choice" (26 : Nat) ({ cls := "SugarKitchen$Choice", name := "total", desc := "()I" } : Jvm.MethodName)) : Cond) ∈ gT := gI3 177 (by decide +kernel) rfl
theorem mw_659 : ((Jvm.Cond.instanceMethod ({ cls := "SugarKitchen$Choice", name := "total", desc := "()I" } : Jvm.MethodName)) : Cond) ∈ gT := gI3 179 (by decide +kernel) rfl
set_option maxRecDepth 100000 in
theorem mw_660 : ((Jvm.Cond.code ({ cls := "SugarKitchen$Choice", name := "total", desc := "()I" } : Jvm.MethodName) prog_4_method_5_code (3 : Nat) (Option.some Jvm.ClassFile.FieldType.int)) : Cond) ∈ gT := gI3 180 rfl rfl
theorem mw_661 : ((Jvm.Cond.methodLink "SugarKitchen$Choice" (30 : Nat) ({ cls := "java/lang/Math", name := "min", desc := "(II)I" } : Jvm.MethodName)) : Cond) ∈ gT := gI3 181 (by decide +kernel) rfl
theorem mw_662 : ((Jvm.Cond.methodLink "SugarKitchen$Choice" (36 : Nat) ({ cls := "SugarKitchen$Choice", name := "sumUp", desc := "(I)V" } : Jvm.MethodName)) : Cond) ∈ gT := gI3 182 (by decide +kernel) rfl
theorem mw_664 : ((Jvm.Cond.instanceMethod ({ cls := "SugarKitchen$Choice", name := "sumUp", desc := "(I)V" } : Jvm.MethodName)) : Cond) ∈ gT := gI3 184 (by decide +kernel) rfl
set_option maxRecDepth 100000 in
theorem mw_665 : ((Jvm.Cond.code ({ cls := "SugarKitchen$Choice", name := "sumUp", desc := "(I)V" } : Jvm.MethodName) prog_4_method_6_code (4 : Nat) (Option.none : Option Jvm.ClassFile.FieldType)) : Cond) ∈ gT := gI3 185 rfl rfl
theorem mw_666 : ((Jvm.Cond.methodLink "SugarKitchen$Choice" (57 : Nat) ({ cls := "SugarKitchen$Choice", name := "addPiece", desc := "(II)V" } : Jvm.MethodName)) : Cond) ∈ gT := gI3 186 (by decide +kernel) rfl
theorem mw_668 : ((Jvm.Cond.instanceMethod ({ cls := "SugarKitchen$Choice", name := "addPiece", desc := "(II)V" } : Jvm.MethodName)) : Cond) ∈ gT := gI3 188 (by decide +kernel) rfl
set_option maxRecDepth 100000 in
theorem mw_669 : ((Jvm.Cond.code ({ cls := "SugarKitchen$Choice", name := "addPiece", desc := "(II)V" } : Jvm.MethodName) prog_4_method_7_code (11 : Nat) (Option.none : Option Jvm.ClassFile.FieldType)) : Cond) ∈ gT := gI3 189 rfl rfl
theorem mw_670 : ((Jvm.Cond.methodLink "SugarKitchen$Choice" (61 : Nat) ({ cls := "java/lang/System", name := "arraycopy", desc := "(Ljava/lang/Object;ILjava/lang/Object;II)V" } : Jvm.MethodName)) : Cond) ∈ gT := gI3 190 (by decide +kernel) rfl
theorem mw_671 : ((Jvm.Cond.static ({ cls := "java/lang/System", name := "arraycopy", desc := "(Ljava/lang/Object;ILjava/lang/Object;II)V" } : Jvm.MethodName)) : Cond) ∈ gT := gI3 191 (by decide +kernel) rfl
theorem mw_672 : ((Jvm.Cond.native ({ cls := "java/lang/System", name := "arraycopy", desc := "(Ljava/lang/Object;ILjava/lang/Object;II)V" } : Jvm.MethodName)) : Cond) ∈ gT := gI3 192 (by decide +kernel) rfl
theorem mw_673 : ((Jvm.Cond.methodLink "SugarKitchen$Choice" (40 : Nat) ({ cls := "java/lang/Math", name := "max", desc := "(II)I" } : Jvm.MethodName)) : Cond) ∈ gT := gI3 193 (by decide +kernel) rfl
theorem mw_674 : ((Jvm.Cond.methodLink "SugarKitchen$Choice" (43 : Nat) ({ cls := "SugarKitchen$Choice", name := "canWeigh", desc := "(II)Z" } : Jvm.MethodName)) : Cond) ∈ gT := gI3 194 (by decide +kernel) rfl
theorem mw_676 : ((Jvm.Cond.instanceMethod ({ cls := "SugarKitchen$Choice", name := "canWeigh", desc := "(II)Z" } : Jvm.MethodName)) : Cond) ∈ gT := gI3 196 (by decide +kernel) rfl
set_option maxRecDepth 100000 in
theorem mw_677 : ((Jvm.Cond.code ({ cls := "SugarKitchen$Choice", name := "canWeigh", desc := "(II)Z" } : Jvm.MethodName) prog_4_method_8_code (3 : Nat) (Option.some Jvm.ClassFile.FieldType.boolean)) : Cond) ∈ gT := gI3 197 rfl rfl
theorem mw_678 : ((Jvm.Cond.methodLink "SugarKitchen$Choice" (47 : Nat) ({ cls := "SugarKitchen$Choice", name := "markFirst", desc := "(I)V" } : Jvm.MethodName)) : Cond) ∈ gT := gI3 198 (by decide +kernel) rfl
theorem mw_680 : ((Jvm.Cond.instanceMethod ({ cls := "SugarKitchen$Choice", name := "markFirst", desc := "(I)V" } : Jvm.MethodName)) : Cond) ∈ gT := gI3 200 (by decide +kernel) rfl
set_option maxRecDepth 100000 in
theorem mw_681 : ((Jvm.Cond.code ({ cls := "SugarKitchen$Choice", name := "markFirst", desc := "(I)V" } : Jvm.MethodName) prog_4_method_9_code (4 : Nat) (Option.none : Option Jvm.ClassFile.FieldType)) : Cond) ∈ gT := gI3 201 rfl rfl
theorem mw_682 : ((Jvm.Cond.instantiable "SugarKitchen$Box" (6 : Nat)) : Cond) ∈ gT := gI3 202 (by decide +kernel) rfl
theorem mw_683 : ((Jvm.Cond.methodLink "SugarKitchen" (272 : Nat) ({ cls := "SugarKitchen$Choice", name := "countChosen", desc := "()I" } : Jvm.MethodName)) : Cond) ∈ gT := gI3 203 (by decide +kernel) rfl
theorem mw_684 : ((Jvm.Cond.instanceMethod ({ cls := "SugarKitchen$Choice", name := "countChosen", desc := "()I" } : Jvm.MethodName)) : Cond) ∈ gT := gI3 204 (by decide +kernel) rfl
theorem mw_685 : ((Jvm.Cond.selects "SugarKitchen$Choice" ({ cls := "SugarKitchen$Choice", name := "countChosen", desc := "()I" } : Jvm.MethodName) ({ cls := "SugarKitchen$Choice", name := "countChosen", desc := "()I" } : Jvm.MethodName)) : Cond) ∈ gT := gI3 205 (by decide +kernel) rfl
set_option maxRecDepth 100000 in
theorem mw_686 : ((Jvm.Cond.code ({ cls := "SugarKitchen$Choice", name := "countChosen", desc := "()I" } : Jvm.MethodName) prog_4_method_4_code (3 : Nat) (Option.some Jvm.ClassFile.FieldType.int)) : Cond) ∈ gT := gI3 206 rfl rfl
theorem mw_687 : ((Jvm.Cond.methodLink "SugarKitchen" (276 : Nat) ({ cls := "SugarKitchen$Box", name := "<init>", desc := "(III)V" } : Jvm.MethodName)) : Cond) ∈ gT := gI3 207 (by decide +kernel) rfl
theorem mw_688 : ((Jvm.Cond.instanceMethod ({ cls := "SugarKitchen$Box", name := "<init>", desc := "(III)V" } : Jvm.MethodName)) : Cond) ∈ gT := gI3 208 (by decide +kernel) rfl
set_option maxRecDepth 100000 in
theorem mw_689 : ((Jvm.Cond.code ({ cls := "SugarKitchen$Box", name := "<init>", desc := "(III)V" } : Jvm.MethodName) prog_3_method_1_code (4 : Nat) (Option.none : Option Jvm.ClassFile.FieldType)) : Cond) ∈ gT := gI3 209 rfl rfl
theorem mw_690 : ((Jvm.Cond.methodLink "SugarKitchen$Box" (3 : Nat) ({ cls := "java/lang/Object", name := "<init>", desc := "()V" } : Jvm.MethodName)) : Cond) ∈ gT := gI3 210 (by decide +kernel) rfl
theorem mw_691 : ((Jvm.Cond.methodLink "SugarKitchen$Box" (18 : Nat) ({ cls := "java/lang/Math", name := "max", desc := "(II)I" } : Jvm.MethodName)) : Cond) ∈ gT := gI3 211 (by decide +kernel) rfl
theorem mw_692 : ((Jvm.Cond.fieldLink "SugarKitchen$Box" (9 : Nat) "SugarKitchen$Box" "told" "I") : Cond) ∈ gT := gI3 212 (by decide +kernel) rfl
theorem mw_693 : ((Jvm.Cond.fieldLink "SugarKitchen$Box" (15 : Nat) "SugarKitchen$Box" "weight" "I") : Cond) ∈ gT := gI3 213 (by decide +kernel) rfl
theorem mw_694 : ((Jvm.Cond.fieldLink "SugarKitchen$Box" (24 : Nat) "SugarKitchen$Box" "numbers" "[I") : Cond) ∈ gT := gI3 214 (by decide +kernel) rfl
theorem mw_695 : ((Jvm.Cond.fieldLink "SugarKitchen$Box" (28 : Nat) "SugarKitchen$Box" "many" "I") : Cond) ∈ gT := gI3 215 (by decide +kernel) rfl
theorem mw_696 : ((Jvm.Cond.fieldLink "SugarKitchen$Box" (31 : Nat) "SugarKitchen$Box" "lots" "J") : Cond) ∈ gT := gI3 216 (by decide +kernel) rfl
theorem mw_697 : ((Jvm.Cond.fieldLink "SugarKitchen" (292 : Nat) "SugarKitchen$Box" "lots" "J") : Cond) ∈ gT := gI3 217 (by decide +kernel) rfl
theorem mw_698 : ((Jvm.Cond.fieldLink "SugarKitchen$Box" (43 : Nat) "SugarKitchen$Box" "warnings" "I") : Cond) ∈ gT := gI3 218 (by decide +kernel) rfl
theorem mw_699 : ((Jvm.Cond.fieldLink "SugarKitchen" (297 : Nat) "SugarKitchen$Box" "warnings" "I") : Cond) ∈ gT := gI3 219 (by decide +kernel) rfl
theorem mw_700 : ((Jvm.Cond.laysFinal "SugarKitchen$Box" "SugarKitchen$Box" "told" "I") : Cond) ∈ gT := gI3 220 (by decide +kernel) rfl
theorem mw_701 : ((Jvm.Cond.soleField "SugarKitchen$Box" "told") : Cond) ∈ gT := gI3 221 (by decide +kernel) rfl
theorem mw_702 : ((Jvm.Cond.laysFinal "SugarKitchen$Box" "SugarKitchen$Box" "weight" "I") : Cond) ∈ gT := gI3 222 (by decide +kernel) rfl
theorem mw_703 : ((Jvm.Cond.soleField "SugarKitchen$Box" "weight") : Cond) ∈ gT := gI3 223 (by decide +kernel) rfl
theorem mw_704 : ((Jvm.Cond.laysFinal "SugarKitchen$Box" "SugarKitchen$Box" "numbers" "[I") : Cond) ∈ gT := gI3 224 (by decide +kernel) rfl
theorem mw_705 : ((Jvm.Cond.soleField "SugarKitchen$Box" "numbers") : Cond) ∈ gT := gI3 225 (by decide +kernel) rfl
theorem mw_706 : ((Jvm.Cond.lays "SugarKitchen$Box" "SugarKitchen$Box" "many" "I") : Cond) ∈ gT := gI3 226 (by decide +kernel) rfl
theorem mw_707 : ((Jvm.Cond.soleField "SugarKitchen$Box" "many") : Cond) ∈ gT := gI3 227 (by decide +kernel) rfl
theorem mw_708 : ((Jvm.Cond.lays "SugarKitchen$Box" "SugarKitchen$Box" "lots" "J") : Cond) ∈ gT := gI3 228 (by decide +kernel) rfl
theorem mw_709 : ((Jvm.Cond.soleField "SugarKitchen$Box" "lots") : Cond) ∈ gT := gI3 229 (by decide +kernel) rfl
theorem mw_710 : ((Jvm.Cond.lays "SugarKitchen$Box" "SugarKitchen$Box" "warnings" "I") : Cond) ∈ gT := gI3 230 (by decide +kernel) rfl
theorem mw_711 : ((Jvm.Cond.soleField "SugarKitchen$Box" "warnings") : Cond) ∈ gT := gI3 231 (by decide +kernel) rfl
theorem mw_712 : ((Jvm.Cond.superclass "SugarKitchen$Box" "java/lang/Object") : Cond) ∈ gT := gI3 232 (by decide +kernel) rfl
theorem mw_713 : ((Jvm.Cond.arrayClass Jvm.ClassFile.FieldType.long) : Cond) ∈ gT := gI3 233 (by decide +kernel) rfl
theorem mw_714 : ((Jvm.Cond.methodLink "SugarKitchen" (288 : Nat) ({ cls := "SugarKitchen", name := "moveToBox", desc := "(ILSugarKitchen$Box;)V" } : Jvm.MethodName)) : Cond) ∈ gT := gI3 234 (by decide +kernel) rfl
theorem mw_716 : ((Jvm.Cond.instanceMethod ({ cls := "SugarKitchen", name := "moveToBox", desc := "(ILSugarKitchen$Box;)V" } : Jvm.MethodName)) : Cond) ∈ gT := gI3 236 (by decide +kernel) rfl
set_option maxRecDepth 100000 in
theorem mw_717 : ((Jvm.Cond.code ({ cls := "SugarKitchen", name := "moveToBox", desc := "(ILSugarKitchen$Box;)V" } : Jvm.MethodName) prog_1_method_47_code (5 : Nat) (Option.none : Option Jvm.ClassFile.FieldType)) : Cond) ∈ gT := gI3 237 rfl rfl
theorem mw_718 : ((Jvm.Cond.methodLink "SugarKitchen" (346 : Nat) ({ cls := "SugarKitchen$Box", name := "add", desc := "(IJ)V" } : Jvm.MethodName)) : Cond) ∈ gT := gI3 238 (by decide +kernel) rfl
theorem mw_719 : ((Jvm.Cond.instanceMethod ({ cls := "SugarKitchen$Box", name := "add", desc := "(IJ)V" } : Jvm.MethodName)) : Cond) ∈ gT := gI3 239 (by decide +kernel) rfl
theorem mw_720 : ((Jvm.Cond.selects "SugarKitchen$Box" ({ cls := "SugarKitchen$Box", name := "add", desc := "(IJ)V" } : Jvm.MethodName) ({ cls := "SugarKitchen$Box", name := "add", desc := "(IJ)V" } : Jvm.MethodName)) : Cond) ∈ gT := gI4 0 (by decide +kernel) rfl
set_option maxRecDepth 100000 in
theorem mw_721 : ((Jvm.Cond.code ({ cls := "SugarKitchen$Box", name := "add", desc := "(IJ)V" } : Jvm.MethodName) prog_3_method_2_code (5 : Nat) (Option.none : Option Jvm.ClassFile.FieldType)) : Cond) ∈ gT := gI4 1 rfl rfl
theorem mw_722 : ((Jvm.Cond.methodLink "SugarKitchen" (293 : Nat) ({ cls := "SugarKitchen", name := "warningsOf", desc := "(J)I" } : Jvm.MethodName)) : Cond) ∈ gT := gI4 2 (by decide +kernel) rfl
theorem mw_724 : ((Jvm.Cond.instanceMethod ({ cls := "SugarKitchen", name := "warningsOf", desc := "(J)I" } : Jvm.MethodName)) : Cond) ∈ gT := gI4 4 (by decide +kernel) rfl
set_option maxRecDepth 100000 in
theorem mw_725 : ((Jvm.Cond.code ({ cls := "SugarKitchen", name := "warningsOf", desc := "(J)I" } : Jvm.MethodName) prog_1_method_50_code (6 : Nat) (Option.some Jvm.ClassFile.FieldType.int)) : Cond) ∈ gT := gI4 5 rfl rfl
theorem mw_726 : ((Jvm.Cond.methodLink "SugarKitchenLaw" (113 : Nat) ({ cls := "SugarKitchen", name := "would", desc := "(IIII)I" } : Jvm.MethodName)) : Cond) ∈ gT := gI4 6 (by decide +kernel) rfl
theorem mw_727 : ((Jvm.Cond.instanceMethod ({ cls := "SugarKitchen", name := "would", desc := "(IIII)I" } : Jvm.MethodName)) : Cond) ∈ gT := gI4 7 (by decide +kernel) rfl
theorem mw_728 : ((Jvm.Cond.selects "SugarKitchen" ({ cls := "SugarKitchen", name := "would", desc := "(IIII)I" } : Jvm.MethodName) ({ cls := "SugarKitchen", name := "would", desc := "(IIII)I" } : Jvm.MethodName)) : Cond) ∈ gT := gI4 8 (by decide +kernel) rfl
set_option maxRecDepth 100000 in
theorem mw_729 : ((Jvm.Cond.code ({ cls := "SugarKitchen", name := "would", desc := "(IIII)I" } : Jvm.MethodName) prog_1_method_25_code (6 : Nat) (Option.some Jvm.ClassFile.FieldType.int)) : Cond) ∈ gT := gI4 9 rfl rfl
theorem mw_730 : ((Jvm.Cond.methodLink "SugarKitchen" (300 : Nat) ({ cls := "SugarKitchen", name := "countFull", desc := "(III)I" } : Jvm.MethodName)) : Cond) ∈ gT := gI4 10 (by decide +kernel) rfl
theorem mw_732 : ((Jvm.Cond.instanceMethod ({ cls := "SugarKitchen", name := "countFull", desc := "(III)I" } : Jvm.MethodName)) : Cond) ∈ gT := gI4 12 (by decide +kernel) rfl
set_option maxRecDepth 100000 in
theorem mw_733 : ((Jvm.Cond.code ({ cls := "SugarKitchen", name := "countFull", desc := "(III)I" } : Jvm.MethodName) prog_1_method_49_code (6 : Nat) (Option.some Jvm.ClassFile.FieldType.int)) : Cond) ∈ gT := gI4 13 rfl rfl
theorem mw_734 : ((Jvm.Cond.methodLink "SugarKitchen" (358 : Nat) ({ cls := "java/lang/System", name := "arraycopy", desc := "(Ljava/lang/Object;ILjava/lang/Object;II)V" } : Jvm.MethodName)) : Cond) ∈ gT := gI4 14 (by decide +kernel) rfl
theorem mw_735 : ((Jvm.Cond.methodLink "SugarKitchen" (304 : Nat) ({ cls := "SugarKitchen$Parting", name := "mostBoxes", desc := "(LSugarKitchen$Choice;II)I" } : Jvm.MethodName)) : Cond) ∈ gT := gI4 15 (by decide +kernel) rfl
theorem mw_736 : ((Jvm.Cond.instanceMethod ({ cls := "SugarKitchen$Parting", name := "mostBoxes", desc := "(LSugarKitchen$Choice;II)I" } : Jvm.MethodName)) : Cond) ∈ gT := gI4 16 (by decide +kernel) rfl
theorem mw_737 : ((Jvm.Cond.selects "SugarKitchen$Parting" ({ cls := "SugarKitchen$Parting", name := "mostBoxes", desc := "(LSugarKitchen$Choice;II)I" } : Jvm.MethodName) ({ cls := "SugarKitchen$Parting", name := "mostBoxes", desc := "(LSugarKitchen$Choice;II)I" } : Jvm.MethodName)) : Cond) ∈ gT := gI4 17 (by decide +kernel) rfl
set_option maxRecDepth 100000 in
theorem mw_738 : ((Jvm.Cond.code ({ cls := "SugarKitchen$Parting", name := "mostBoxes", desc := "(LSugarKitchen$Choice;II)I" } : Jvm.MethodName) prog_7_method_2_code (7 : Nat) (Option.some Jvm.ClassFile.FieldType.int)) : Cond) ∈ gT := gI4 18 rfl rfl
theorem mw_739 : ((Jvm.Cond.methodLink "SugarKitchen$Parting" (28 : Nat) ({ cls := "java/lang/Math", name := "min", desc := "(II)I" } : Jvm.MethodName)) : Cond) ∈ gT := gI4 19 (by decide +kernel) rfl
theorem mw_740 : ((Jvm.Cond.methodLink "SugarKitchen$Parting" (35 : Nat) ({ cls := "SugarKitchen$Parting", name := "insert", desc := "(I)V" } : Jvm.MethodName)) : Cond) ∈ gT := gI4 20 (by decide +kernel) rfl
theorem mw_742 : ((Jvm.Cond.instanceMethod ({ cls := "SugarKitchen$Parting", name := "insert", desc := "(I)V" } : Jvm.MethodName)) : Cond) ∈ gT := gI4 22 (by decide +kernel) rfl
set_option maxRecDepth 100000 in
theorem mw_743 : ((Jvm.Cond.code ({ cls := "SugarKitchen$Parting", name := "insert", desc := "(I)V" } : Jvm.MethodName) prog_7_method_3_code (3 : Nat) (Option.none : Option Jvm.ClassFile.FieldType)) : Cond) ∈ gT := gI4 23 rfl rfl
theorem mw_744 : ((Jvm.Cond.methodLink "SugarKitchen$Parting" (39 : Nat) ({ cls := "SugarKitchen$Parting", name := "forget", desc := "()V" } : Jvm.MethodName)) : Cond) ∈ gT := gI4 24 (by decide +kernel) rfl
theorem mw_746 : ((Jvm.Cond.instanceMethod ({ cls := "SugarKitchen$Parting", name := "forget", desc := "()V" } : Jvm.MethodName)) : Cond) ∈ gT := gI4 26 (by decide +kernel) rfl
set_option maxRecDepth 100000 in
theorem mw_747 : ((Jvm.Cond.code ({ cls := "SugarKitchen$Parting", name := "forget", desc := "()V" } : Jvm.MethodName) prog_7_method_4_code (3 : Nat) (Option.none : Option Jvm.ClassFile.FieldType)) : Cond) ∈ gT := gI4 27 rfl rfl
theorem mw_748 : ((Jvm.Cond.methodLink "SugarKitchen$Parting" (42 : Nat) ({ cls := "SugarKitchen$Parting", name := "mostOf", desc := "(II)I" } : Jvm.MethodName)) : Cond) ∈ gT := gI4 28 (by decide +kernel) rfl
theorem mw_750 : ((Jvm.Cond.instanceMethod ({ cls := "SugarKitchen$Parting", name := "mostOf", desc := "(II)I" } : Jvm.MethodName)) : Cond) ∈ gT := gI4 30 (by decide +kernel) rfl
set_option maxRecDepth 100000 in
theorem mw_751 : ((Jvm.Cond.code ({ cls := "SugarKitchen$Parting", name := "mostOf", desc := "(II)I" } : Jvm.MethodName) prog_7_method_6_code (10 : Nat) (Option.some Jvm.ClassFile.FieldType.int)) : Cond) ∈ gT := gI4 31 rfl rfl
theorem mw_752 : ((Jvm.Cond.methodLink "SugarKitchen$Parting" (49 : Nat) ({ cls := "SugarKitchen$Parting", name := "isFree", desc := "(II)Z" } : Jvm.MethodName)) : Cond) ∈ gT := gI4 32 (by decide +kernel) rfl
theorem mw_754 : ((Jvm.Cond.instanceMethod ({ cls := "SugarKitchen$Parting", name := "isFree", desc := "(II)Z" } : Jvm.MethodName)) : Cond) ∈ gT := gI4 34 (by decide +kernel) rfl
set_option maxRecDepth 100000 in
theorem mw_755 : ((Jvm.Cond.code ({ cls := "SugarKitchen$Parting", name := "isFree", desc := "(II)Z" } : Jvm.MethodName) prog_7_method_5_code (3 : Nat) (Option.some Jvm.ClassFile.FieldType.boolean)) : Cond) ∈ gT := gI4 35 rfl rfl
theorem mw_756 : ((Jvm.Cond.methodLink "SugarKitchen$Parting" (53 : Nat) ({ cls := "SugarKitchen$Parting", name := "fillBox", desc := "(IIIII)I" } : Jvm.MethodName)) : Cond) ∈ gT := gI4 36 (by decide +kernel) rfl
theorem mw_758 : ((Jvm.Cond.instanceMethod ({ cls := "SugarKitchen$Parting", name := "fillBox", desc := "(IIIII)I" } : Jvm.MethodName)) : Cond) ∈ gT := gI4 38 (by decide +kernel) rfl
set_option maxRecDepth 100000 in
theorem mw_759 : ((Jvm.Cond.code ({ cls := "SugarKitchen$Parting", name := "fillBox", desc := "(IIIII)I" } : Jvm.MethodName) prog_7_method_7_code (11 : Nat) (Option.some Jvm.ClassFile.FieldType.int)) : Cond) ∈ gT := gI4 39 rfl rfl
theorem mw_760 : ((Jvm.Cond.methodLink "SugarKitchen$Parting" (57 : Nat) ({ cls := "java/lang/Math", name := "max", desc := "(II)I" } : Jvm.MethodName)) : Cond) ∈ gT := gI4 40 (by decide +kernel) rfl
theorem mw_761 : ((Jvm.Cond.arrayClass Jvm.ClassFile.FieldType.byte) : Cond) ∈ gT := gI4 41 (by decide +kernel) rfl
theorem mw_762 : ((Jvm.Cond.methodLink "SugarKitchenLaw" (118 : Nat) ({ cls := "SugarKitchen", name := "boxOf", desc := "(II)I" } : Jvm.MethodName)) : Cond) ∈ gT := gI4 42 (by decide +kernel) rfl
theorem mw_763 : ((Jvm.Cond.instanceMethod ({ cls := "SugarKitchen", name := "boxOf", desc := "(II)I" } : Jvm.MethodName)) : Cond) ∈ gT := gI4 43 (by decide +kernel) rfl
theorem mw_764 : ((Jvm.Cond.selects "SugarKitchen" ({ cls := "SugarKitchen", name := "boxOf", desc := "(II)I" } : Jvm.MethodName) ({ cls := "SugarKitchen", name := "boxOf", desc := "(II)I" } : Jvm.MethodName)) : Cond) ∈ gT := gI4 44 (by decide +kernel) rfl
set_option maxRecDepth 100000 in
theorem mw_765 : ((Jvm.Cond.code ({ cls := "SugarKitchen", name := "boxOf", desc := "(II)I" } : Jvm.MethodName) prog_1_method_26_code (4 : Nat) (Option.some Jvm.ClassFile.FieldType.int)) : Cond) ∈ gT := gI4 45 rfl rfl
theorem mw_766 : ((Jvm.Cond.methodLink "SugarKitchen" (308 : Nat) ({ cls := "SugarKitchen", name := "findBox", desc := "(I)LSugarKitchen$Box;" } : Jvm.MethodName)) : Cond) ∈ gT := gI4 46 (by decide +kernel) rfl
theorem mw_768 : ((Jvm.Cond.instanceMethod ({ cls := "SugarKitchen", name := "findBox", desc := "(I)LSugarKitchen$Box;" } : Jvm.MethodName)) : Cond) ∈ gT := gI4 48 (by decide +kernel) rfl
set_option maxRecDepth 100000 in
theorem mw_769 : ((Jvm.Cond.code ({ cls := "SugarKitchen", name := "findBox", desc := "(I)LSugarKitchen$Box;" } : Jvm.MethodName) prog_1_method_44_code (2 : Nat) (Option.some (Jvm.ClassFile.FieldType.object "SugarKitchen$Box"))) : Cond) ∈ gT := gI4 49 rfl rfl
theorem mw_770 : ((Jvm.Cond.methodLink "SugarKitchen" (312 : Nat) ({ cls := "SugarKitchen$Box", name := "tell", desc := "(I)I" } : Jvm.MethodName)) : Cond) ∈ gT := gI4 50 (by decide +kernel) rfl
theorem mw_771 : ((Jvm.Cond.instanceMethod ({ cls := "SugarKitchen$Box", name := "tell", desc := "(I)I" } : Jvm.MethodName)) : Cond) ∈ gT := gI4 51 (by decide +kernel) rfl
theorem mw_772 : ((Jvm.Cond.selects "SugarKitchen$Box" ({ cls := "SugarKitchen$Box", name := "tell", desc := "(I)I" } : Jvm.MethodName) ({ cls := "SugarKitchen$Box", name := "tell", desc := "(I)I" } : Jvm.MethodName)) : Cond) ∈ gT := gI4 52 (by decide +kernel) rfl
set_option maxRecDepth 100000 in
theorem mw_773 : ((Jvm.Cond.code ({ cls := "SugarKitchen$Box", name := "tell", desc := "(I)I" } : Jvm.MethodName) prog_3_method_3_code (2 : Nat) (Option.some Jvm.ClassFile.FieldType.int)) : Cond) ∈ gT := gI4 53 rfl rfl
theorem mt_774 : ((Jvm.Cond.methodLinkNest "SugarKitchen$Box" (35 : Nat) ({ cls := "SugarKitchen", name := "within", desc := "(III)Z" } : Jvm.MethodName) "SugarKitchen") : Cond) ∈ lw_tbl := gC4 54 (by decide +kernel)
theorem mw_775 : ((Jvm.Cond.methodLink "SugarKitchen$Box" (39 : Nat) ({ cls := "SugarKitchen$Box", name := "lotAt", desc := "(I)I" } : Jvm.MethodName)) : Cond) ∈ gT := gI4 55 (by decide +kernel) rfl
theorem mw_777 : ((Jvm.Cond.instanceMethod ({ cls := "SugarKitchen$Box", name := "lotAt", desc := "(I)I" } : Jvm.MethodName)) : Cond) ∈ gT := gI4 57 (by decide +kernel) rfl
set_option maxRecDepth 100000 in
theorem mw_778 : ((Jvm.Cond.code ({ cls := "SugarKitchen$Box", name := "lotAt", desc := "(I)I" } : Jvm.MethodName) prog_3_method_4_code (4 : Nat) (Option.some Jvm.ClassFile.FieldType.int)) : Cond) ∈ gT := gI4 58 rfl rfl
theorem mw_779 : ((Jvm.Cond.methodLink "SugarKitchen$Box" (46 : Nat) ({ cls := "java/lang/Long", name := "bitCount", desc := "(J)I" } : Jvm.MethodName)) : Cond) ∈ gT := gI4 59 (by decide +kernel) rfl
theorem mw_780 : ((Jvm.Cond.static ({ cls := "java/lang/Long", name := "bitCount", desc := "(J)I" } : Jvm.MethodName)) : Cond) ∈ gT := gI4 60 (by decide +kernel) rfl
set_option maxRecDepth 100000 in
theorem mw_781 : ((Jvm.Cond.code ({ cls := "java/lang/Long", name := "bitCount", desc := "(J)I" } : Jvm.MethodName) prog_15_method_50_code (2 : Nat) (Option.some Jvm.ClassFile.FieldType.int)) : Cond) ∈ gT := gI4 61 rfl rfl
theorem mw_782 : ((Jvm.Cond.constantLong "java/lang/Long" (314 : Nat) (6148914691236517205 : Int64)) : Cond) ∈ gT := gI4 62 (by decide +kernel) rfl
theorem mw_783 : ((Jvm.Cond.constantLong "java/lang/Long" (316 : Nat) (3689348814741910323 : Int64)) : Cond) ∈ gT := gI4 63 (by decide +kernel) rfl
theorem mw_784 : ((Jvm.Cond.constantLong "java/lang/Long" (318 : Nat) (1085102592571150095 : Int64)) : Cond) ∈ gT := gI4 64 (by decide +kernel) rfl
theorem mw_785 : ((Jvm.Cond.methodLink "SugarKitchenLaw" (122 : Nat) ({ cls := "SugarKitchen", name := "wash", desc := "(III)Z" } : Jvm.MethodName)) : Cond) ∈ gT := gI4 65 (by decide +kernel) rfl
theorem mw_786 : ((Jvm.Cond.instanceMethod ({ cls := "SugarKitchen", name := "wash", desc := "(III)Z" } : Jvm.MethodName)) : Cond) ∈ gT := gI4 66 (by decide +kernel) rfl
theorem mw_787 : ((Jvm.Cond.selects "SugarKitchen" ({ cls := "SugarKitchen", name := "wash", desc := "(III)Z" } : Jvm.MethodName) ({ cls := "SugarKitchen", name := "wash", desc := "(III)Z" } : Jvm.MethodName)) : Cond) ∈ gT := gI4 67 (by decide +kernel) rfl
set_option maxRecDepth 100000 in
theorem mw_788 : ((Jvm.Cond.code ({ cls := "SugarKitchen", name := "wash", desc := "(III)Z" } : Jvm.MethodName) prog_1_method_27_code (4 : Nat) (Option.some Jvm.ClassFile.FieldType.boolean)) : Cond) ∈ gT := gI4 68 rfl rfl
theorem mw_789 : ((Jvm.Cond.methodLink "SugarKitchen" (313 : Nat) ({ cls := "SugarKitchen$Kettle", name := "setWashing", desc := "(III)V" } : Jvm.MethodName)) : Cond) ∈ gT := gI4 69 (by decide +kernel) rfl
theorem mw_790 : ((Jvm.Cond.instanceMethod ({ cls := "SugarKitchen$Kettle", name := "setWashing", desc := "(III)V" } : Jvm.MethodName)) : Cond) ∈ gT := gI4 70 (by decide +kernel) rfl
theorem mw_791 : ((Jvm.Cond.selects "SugarKitchen$Kettle" ({ cls := "SugarKitchen$Kettle", name := "setWashing", desc := "(III)V" } : Jvm.MethodName) ({ cls := "SugarKitchen$Kettle", name := "setWashing", desc := "(III)V" } : Jvm.MethodName)) : Cond) ∈ gT := gI4 71 (by decide +kernel) rfl
set_option maxRecDepth 100000 in
theorem mw_792 : ((Jvm.Cond.code ({ cls := "SugarKitchen$Kettle", name := "setWashing", desc := "(III)V" } : Jvm.MethodName) prog_5_method_2_code (4 : Nat) (Option.none : Option Jvm.ClassFile.FieldType)) : Cond) ∈ gT := gI4 72 rfl rfl
theorem mw_793 : ((Jvm.Cond.methodLink "SugarKitchenLaw" (126 : Nat) ({ cls := "SugarKitchen", name := "queue", desc := "(I)I" } : Jvm.MethodName)) : Cond) ∈ gT := gI4 73 (by decide +kernel) rfl
theorem mw_794 : ((Jvm.Cond.instanceMethod ({ cls := "SugarKitchen", name := "queue", desc := "(I)I" } : Jvm.MethodName)) : Cond) ∈ gT := gI4 74 (by decide +kernel) rfl
theorem mw_795 : ((Jvm.Cond.selects "SugarKitchen" ({ cls := "SugarKitchen", name := "queue", desc := "(I)I" } : Jvm.MethodName) ({ cls := "SugarKitchen", name := "queue", desc := "(I)I" } : Jvm.MethodName)) : Cond) ∈ gT := gI4 75 (by decide +kernel) rfl
set_option maxRecDepth 100000 in
theorem mw_796 : ((Jvm.Cond.code ({ cls := "SugarKitchen", name := "queue", desc := "(I)I" } : Jvm.MethodName) prog_1_method_28_code (3 : Nat) (Option.some Jvm.ClassFile.FieldType.int)) : Cond) ∈ gT := gI4 76 rfl rfl
theorem mw_797 : ((Jvm.Cond.methodLink "SugarKitchen" (316 : Nat) ({ cls := "SugarKitchen$Kettle", name := "empty", desc := "()V" } : Jvm.MethodName)) : Cond) ∈ gT := gI4 77 (by decide +kernel) rfl
theorem mw_798 : ((Jvm.Cond.instanceMethod ({ cls := "SugarKitchen$Kettle", name := "empty", desc := "()V" } : Jvm.MethodName)) : Cond) ∈ gT := gI4 78 (by decide +kernel) rfl
theorem mw_799 : ((Jvm.Cond.selects "SugarKitchen$Kettle" ({ cls := "SugarKitchen$Kettle", name := "empty", desc := "()V" } : Jvm.MethodName) ({ cls := "SugarKitchen$Kettle", name := "empty", desc := "()V" } : Jvm.MethodName)) : Cond) ∈ gT := gI4 79 (by decide +kernel) rfl
set_option maxRecDepth 100000 in
theorem mw_800 : ((Jvm.Cond.code ({ cls := "SugarKitchen$Kettle", name := "empty", desc := "()V" } : Jvm.MethodName) prog_5_method_3_code (1 : Nat) (Option.none : Option Jvm.ClassFile.FieldType)) : Cond) ∈ gT := gI4 80 rfl rfl
theorem mw_801 : ((Jvm.Cond.methodLink "SugarKitchen" (319 : Nat) ({ cls := "SugarKitchen$Kettle", name := "add", desc := "(II)I" } : Jvm.MethodName)) : Cond) ∈ gT := gI4 81 (by decide +kernel) rfl
theorem mw_802 : ((Jvm.Cond.instanceMethod ({ cls := "SugarKitchen$Kettle", name := "add", desc := "(II)I" } : Jvm.MethodName)) : Cond) ∈ gT := gI4 82 (by decide +kernel) rfl
theorem mw_803 : ((Jvm.Cond.selects "SugarKitchen$Kettle" ({ cls := "SugarKitchen$Kettle", name := "add", desc := "(II)I" } : Jvm.MethodName) ({ cls := "SugarKitchen$Kettle", name := "add", desc := "(II)I" } : Jvm.MethodName)) : Cond) ∈ gT := gI4 83 (by decide +kernel) rfl
set_option maxRecDepth 100000 in
theorem mw_804 : ((Jvm.Cond.code ({ cls := "SugarKitchen$Kettle", name := "add", desc := "(II)I" } : Jvm.MethodName) prog_5_method_4_code (4 : Nat) (Option.some Jvm.ClassFile.FieldType.int)) : Cond) ∈ gT := gI4 84 rfl rfl
theorem mw_805 : ((Jvm.Cond.methodLink "SugarKitchenLaw" (130 : Nat) ({ cls := "SugarKitchen", name := "order", desc := "(ZI)I" } : Jvm.MethodName)) : Cond) ∈ gT := gI4 85 (by decide +kernel) rfl
theorem mw_806 : ((Jvm.Cond.instanceMethod ({ cls := "SugarKitchen", name := "order", desc := "(ZI)I" } : Jvm.MethodName)) : Cond) ∈ gT := gI4 86 (by decide +kernel) rfl
theorem mw_807 : ((Jvm.Cond.selects "SugarKitchen" ({ cls := "SugarKitchen", name := "order", desc := "(ZI)I" } : Jvm.MethodName) ({ cls := "SugarKitchen", name := "order", desc := "(ZI)I" } : Jvm.MethodName)) : Cond) ∈ gT := gI4 87 (by decide +kernel) rfl
set_option maxRecDepth 100000 in
theorem mw_808 : ((Jvm.Cond.code ({ cls := "SugarKitchen", name := "order", desc := "(ZI)I" } : Jvm.MethodName) prog_1_method_29_code (3 : Nat) (Option.some Jvm.ClassFile.FieldType.int)) : Cond) ∈ gT := gI4 88 rfl rfl
theorem mw_809 : ((Jvm.Cond.methodLink "SugarKitchen" (322 : Nat) ({ cls := "SugarKitchen$Kettle", name := "findOrder", desc := "(Z)V" } : Jvm.MethodName)) : Cond) ∈ gT := gI4 89 (by decide +kernel) rfl
theorem mw_810 : ((Jvm.Cond.instanceMethod ({ cls := "SugarKitchen$Kettle", name := "findOrder", desc := "(Z)V" } : Jvm.MethodName)) : Cond) ∈ gT := gI4 90 (by decide +kernel) rfl
theorem mw_811 : ((Jvm.Cond.selects "SugarKitchen$Kettle" ({ cls := "SugarKitchen$Kettle", name := "findOrder", desc := "(Z)V" } : Jvm.MethodName) ({ cls := "SugarKitchen$Kettle", name := "findOrder", desc := "(Z)V" } : Jvm.MethodName)) : Cond) ∈ gT := gI4 91 (by decide +kernel) rfl
set_option maxRecDepth 100000 in
theorem mw_812 : ((Jvm.Cond.code ({ cls := "SugarKitchen$Kettle", name := "findOrder", desc := "(Z)V" } : Jvm.MethodName) prog_5_method_5_code (3 : Nat) (Option.none : Option Jvm.ClassFile.FieldType)) : Cond) ∈ gT := gI4 92 rfl rfl
theorem mw_813 : ((Jvm.Cond.methodLink "SugarKitchen$Kettle" (51 : Nat) ({ cls := "SugarKitchen$Kettle", name := "countKinds", desc := "()I" } : Jvm.MethodName)) : Cond) ∈ gT := gI4 93 (by decide +kernel) rfl
theorem mw_815 : ((Jvm.Cond.instanceMethod ({ cls := "SugarKitchen$Kettle", name := "countKinds", desc := "()I" } : Jvm.MethodName)) : Cond) ∈ gT := gI4 95 (by decide +kernel) rfl
set_option maxRecDepth 100000 in
theorem mw_816 : ((Jvm.Cond.code ({ cls := "SugarKitchen$Kettle", name := "countKinds", desc := "()I" } : Jvm.MethodName) prog_5_method_6_code (3 : Nat) (Option.some Jvm.ClassFile.FieldType.int)) : Cond) ∈ gT := gI4 96 rfl rfl
theorem mw_817 : ((Jvm.Cond.methodLink "SugarKitchen$Kettle" (62 : Nat) ({ cls := "java/util/Arrays", name := "fill", desc := "([II)V" } : Jvm.MethodName)) : Cond) ∈ gT := gI4 97 (by decide +kernel) rfl
theorem mw_818 : ((Jvm.Cond.methodLink "SugarKitchen$Kettle" (68 : Nat) ({ cls := "java/lang/Math", name := "min", desc := "(II)I" } : Jvm.MethodName)) : Cond) ∈ gT := gI4 98 (by decide +kernel) rfl
theorem mw_819 : ((Jvm.Cond.methodLink "SugarKitchen$Kettle" (55 : Nat) ({ cls := "SugarKitchen$Kettle", name := "findLeast", desc := "(IZ)V" } : Jvm.MethodName)) : Cond) ∈ gT := gI4 99 (by decide +kernel) rfl
theorem mw_821 : ((Jvm.Cond.instanceMethod ({ cls := "SugarKitchen$Kettle", name := "findLeast", desc := "(IZ)V" } : Jvm.MethodName)) : Cond) ∈ gT := gI4 101 (by decide +kernel) rfl
set_option maxRecDepth 100000 in
theorem mw_822 : ((Jvm.Cond.code ({ cls := "SugarKitchen$Kettle", name := "findLeast", desc := "(IZ)V" } : Jvm.MethodName) prog_5_method_7_code (4 : Nat) (Option.none : Option Jvm.ClassFile.FieldType)) : Cond) ∈ gT := gI4 102 rfl rfl
theorem mw_823 : ((Jvm.Cond.methodLink "SugarKitchen$Kettle" (77 : Nat) ({ cls := "SugarKitchen$Kettle", name := "countOn", desc := "()V" } : Jvm.MethodName)) : Cond) ∈ gT := gI4 103 (by decide +kernel) rfl
theorem mw_825 : ((Jvm.Cond.instanceMethod ({ cls := "SugarKitchen$Kettle", name := "countOn", desc := "()V" } : Jvm.MethodName)) : Cond) ∈ gT := gI4 105 (by decide +kernel) rfl
set_option maxRecDepth 100000 in
theorem mw_826 : ((Jvm.Cond.code ({ cls := "SugarKitchen$Kettle", name := "countOn", desc := "()V" } : Jvm.MethodName) prog_5_method_8_code (2 : Nat) (Option.none : Option Jvm.ClassFile.FieldType)) : Cond) ∈ gT := gI4 106 rfl rfl
theorem mw_827 : ((Jvm.Cond.methodLink "SugarKitchen$Kettle" (80 : Nat) ({ cls := "SugarKitchen$Kettle", name := "findLeastOf", desc := "(IZ)V" } : Jvm.MethodName)) : Cond) ∈ gT := gI4 107 (by decide +kernel) rfl
theorem mw_829 : ((Jvm.Cond.instanceMethod ({ cls := "SugarKitchen$Kettle", name := "findLeastOf", desc := "(IZ)V" } : Jvm.MethodName)) : Cond) ∈ gT := gI4 109 (by decide +kernel) rfl
set_option maxRecDepth 100000 in
theorem mw_830 : ((Jvm.Cond.code ({ cls := "SugarKitchen$Kettle", name := "findLeastOf", desc := "(IZ)V" } : Jvm.MethodName) prog_5_method_9_code (8 : Nat) (Option.none : Option Jvm.ClassFile.FieldType)) : Cond) ∈ gT := gI4 110 rfl rfl
theorem mw_831 : ((Jvm.Cond.constant "SugarKitchen$Kettle" (83 : Nat) (2147483647 : Int32)) : Cond) ∈ gT := gI4 111 (by decide +kernel) rfl
theorem mw_832 : ((Jvm.Cond.methodLink "SugarKitchen$Kettle" (84 : Nat) ({ cls := "SugarKitchen$Kettle", name := "mayCome", desc := "(IZ)Z" } : Jvm.MethodName)) : Cond) ∈ gT := gI4 112 (by decide +kernel) rfl
theorem mw_834 : ((Jvm.Cond.instanceMethod ({ cls := "SugarKitchen$Kettle", name := "mayCome", desc := "(IZ)Z" } : Jvm.MethodName)) : Cond) ∈ gT := gI4 114 (by decide +kernel) rfl
set_option maxRecDepth 100000 in
theorem mw_835 : ((Jvm.Cond.code ({ cls := "SugarKitchen$Kettle", name := "mayCome", desc := "(IZ)Z" } : Jvm.MethodName) prog_5_method_11_code (3 : Nat) (Option.some Jvm.ClassFile.FieldType.boolean)) : Cond) ∈ gT := gI4 115 rfl rfl
theorem mw_836 : ((Jvm.Cond.methodLink "SugarKitchen$Kettle" (91 : Nat) ({ cls := "SugarKitchen$Kettle", name := "onlyNutsWait", desc := "()Z" } : Jvm.MethodName)) : Cond) ∈ gT := gI4 116 (by decide +kernel) rfl
theorem mw_838 : ((Jvm.Cond.instanceMethod ({ cls := "SugarKitchen$Kettle", name := "onlyNutsWait", desc := "()Z" } : Jvm.MethodName)) : Cond) ∈ gT := gI4 118 (by decide +kernel) rfl
set_option maxRecDepth 100000 in
theorem mw_839 : ((Jvm.Cond.code ({ cls := "SugarKitchen$Kettle", name := "onlyNutsWait", desc := "()Z" } : Jvm.MethodName) prog_5_method_12_code (2 : Nat) (Option.some Jvm.ClassFile.FieldType.boolean)) : Cond) ∈ gT := gI4 119 rfl rfl
theorem mw_840 : ((Jvm.Cond.methodLink "SugarKitchen$Kettle" (88 : Nat) ({ cls := "SugarKitchen$Kettle", name := "leastOnce", desc := "(II)I" } : Jvm.MethodName)) : Cond) ∈ gT := gI4 120 (by decide +kernel) rfl
theorem mw_842 : ((Jvm.Cond.instanceMethod ({ cls := "SugarKitchen$Kettle", name := "leastOnce", desc := "(II)I" } : Jvm.MethodName)) : Cond) ∈ gT := gI4 122 (by decide +kernel) rfl
set_option maxRecDepth 100000 in
theorem mw_843 : ((Jvm.Cond.code ({ cls := "SugarKitchen$Kettle", name := "leastOnce", desc := "(II)I" } : Jvm.MethodName) prog_5_method_10_code (4 : Nat) (Option.some Jvm.ClassFile.FieldType.int)) : Cond) ∈ gT := gI4 123 rfl rfl
theorem mw_844 : ((Jvm.Cond.methodLink "SugarKitchen$Kettle" (59 : Nat) ({ cls := "SugarKitchen$Kettle", name := "followLeast", desc := "(IZ)V" } : Jvm.MethodName)) : Cond) ∈ gT := gI4 124 (by decide +kernel) rfl
theorem mw_846 : ((Jvm.Cond.instanceMethod ({ cls := "SugarKitchen$Kettle", name := "followLeast", desc := "(IZ)V" } : Jvm.MethodName)) : Cond) ∈ gT := gI4 126 (by decide +kernel) rfl
set_option maxRecDepth 100000 in
theorem mw_847 : ((Jvm.Cond.code ({ cls := "SugarKitchen$Kettle", name := "followLeast", desc := "(IZ)V" } : Jvm.MethodName) prog_5_method_13_code (8 : Nat) (Option.none : Option Jvm.ClassFile.FieldType)) : Cond) ∈ gT := gI4 127 rfl rfl
theorem mw_848 : ((Jvm.Cond.methodLink "SugarKitchen$Kettle" (95 : Nat) ({ cls := "java/lang/System", name := "arraycopy", desc := "(Ljava/lang/Object;ILjava/lang/Object;II)V" } : Jvm.MethodName)) : Cond) ∈ gT := gI4 128 (by decide +kernel) rfl
theorem mw_849 : ((Jvm.Cond.methodLink "SugarKitchen$Kettle" (101 : Nat) ({ cls := "SugarKitchen$Kettle", name := "findNext", desc := "(IIZ)I" } : Jvm.MethodName)) : Cond) ∈ gT := gI4 129 (by decide +kernel) rfl
theorem mw_851 : ((Jvm.Cond.instanceMethod ({ cls := "SugarKitchen$Kettle", name := "findNext", desc := "(IIZ)I" } : Jvm.MethodName)) : Cond) ∈ gT := gI4 131 (by decide +kernel) rfl
set_option maxRecDepth 100000 in
theorem mw_852 : ((Jvm.Cond.code ({ cls := "SugarKitchen$Kettle", name := "findNext", desc := "(IIZ)I" } : Jvm.MethodName) prog_5_method_14_code (8 : Nat) (Option.some Jvm.ClassFile.FieldType.int)) : Cond) ∈ gT := gI4 132 rfl rfl
theorem mw_853 : ((Jvm.Cond.methodLink "SugarKitchenLaw" (135 : Nat) ({ cls := "SugarKitchen", name := "recall", desc := "(III)I" } : Jvm.MethodName)) : Cond) ∈ gT := gI4 133 (by decide +kernel) rfl
theorem mw_854 : ((Jvm.Cond.instanceMethod ({ cls := "SugarKitchen", name := "recall", desc := "(III)I" } : Jvm.MethodName)) : Cond) ∈ gT := gI4 134 (by decide +kernel) rfl
theorem mw_855 : ((Jvm.Cond.selects "SugarKitchen" ({ cls := "SugarKitchen", name := "recall", desc := "(III)I" } : Jvm.MethodName) ({ cls := "SugarKitchen", name := "recall", desc := "(III)I" } : Jvm.MethodName)) : Cond) ∈ gT := gI4 135 (by decide +kernel) rfl
set_option maxRecDepth 100000 in
theorem mw_856 : ((Jvm.Cond.code ({ cls := "SugarKitchen", name := "recall", desc := "(III)I" } : Jvm.MethodName) prog_1_method_30_code (7 : Nat) (Option.some Jvm.ClassFile.FieldType.int)) : Cond) ∈ gT := gI4 136 rfl rfl
theorem mw_857 : ((Jvm.Cond.methodLink "SugarKitchen" (333 : Nat) ({ cls := "SugarKitchen", name := "lotsIn", desc := "(II)J" } : Jvm.MethodName)) : Cond) ∈ gT := gI4 137 (by decide +kernel) rfl
theorem mw_859 : ((Jvm.Cond.instanceMethod ({ cls := "SugarKitchen", name := "lotsIn", desc := "(II)J" } : Jvm.MethodName)) : Cond) ∈ gT := gI4 139 (by decide +kernel) rfl
set_option maxRecDepth 100000 in
theorem mw_860 : ((Jvm.Cond.code ({ cls := "SugarKitchen", name := "lotsIn", desc := "(II)J" } : Jvm.MethodName) prog_1_method_51_code (4 : Nat) (Option.some Jvm.ClassFile.FieldType.long)) : Cond) ∈ gT := gI4 140 rfl rfl
theorem mw_861 : ((Jvm.Cond.methodLink "SugarKitchenLaw" (139 : Nat) ({ cls := "SugarKitchen", name := "about", desc := "(I)I" } : Jvm.MethodName)) : Cond) ∈ gT := gI4 141 (by decide +kernel) rfl
theorem mw_862 : ((Jvm.Cond.instanceMethod ({ cls := "SugarKitchen", name := "about", desc := "(I)I" } : Jvm.MethodName)) : Cond) ∈ gT := gI4 142 (by decide +kernel) rfl
theorem mw_863 : ((Jvm.Cond.selects "SugarKitchen" ({ cls := "SugarKitchen", name := "about", desc := "(I)I" } : Jvm.MethodName) ({ cls := "SugarKitchen", name := "about", desc := "(I)I" } : Jvm.MethodName)) : Cond) ∈ gT := gI4 143 (by decide +kernel) rfl
set_option maxRecDepth 100000 in
theorem mw_864 : ((Jvm.Cond.code ({ cls := "SugarKitchen", name := "about", desc := "(I)I" } : Jvm.MethodName) prog_1_method_31_code (2 : Nat) (Option.some Jvm.ClassFile.FieldType.int)) : Cond) ∈ gT := gI4 144 rfl rfl
theorem mw_865 : ((Jvm.Cond.methodLink "SugarKitchen" (340 : Nat) ({ cls := "SugarKitchen", name := "countFit", desc := "()I" } : Jvm.MethodName)) : Cond) ∈ gT := gI4 145 (by decide +kernel) rfl
theorem mw_867 : ((Jvm.Cond.instanceMethod ({ cls := "SugarKitchen", name := "countFit", desc := "()I" } : Jvm.MethodName)) : Cond) ∈ gT := gI4 147 (by decide +kernel) rfl
set_option maxRecDepth 100000 in
theorem mw_868 : ((Jvm.Cond.code ({ cls := "SugarKitchen", name := "countFit", desc := "()I" } : Jvm.MethodName) prog_1_method_52_code (4 : Nat) (Option.some Jvm.ClassFile.FieldType.int)) : Cond) ∈ gT := gI4 148 rfl rfl
theorem mw_869 : ((Jvm.Cond.methodLink "SugarKitchenLaw" (143 : Nat) ({ cls := "SugarKitchen", name := "left", desc := "(I)I" } : Jvm.MethodName)) : Cond) ∈ gT := gI4 149 (by decide +kernel) rfl
theorem mw_870 : ((Jvm.Cond.instanceMethod ({ cls := "SugarKitchen", name := "left", desc := "(I)I" } : Jvm.MethodName)) : Cond) ∈ gT := gI4 150 (by decide +kernel) rfl
theorem mw_871 : ((Jvm.Cond.selects "SugarKitchen" ({ cls := "SugarKitchen", name := "left", desc := "(I)I" } : Jvm.MethodName) ({ cls := "SugarKitchen", name := "left", desc := "(I)I" } : Jvm.MethodName)) : Cond) ∈ gT := gI4 151 (by decide +kernel) rfl
set_option maxRecDepth 100000 in
theorem mw_872 : ((Jvm.Cond.code ({ cls := "SugarKitchen", name := "left", desc := "(I)I" } : Jvm.MethodName) prog_1_method_32_code (3 : Nat) (Option.some Jvm.ClassFile.FieldType.int)) : Cond) ∈ gT := gI4 152 rfl rfl
theorem mw_873 : ((Jvm.Cond.classLink "SugarKitchenLaw" (10 : Nat) "SugarKitchenModel") : Cond) ∈ gT := gI4 153 (by decide +kernel) rfl
theorem mw_874 : ((Jvm.Cond.instantiable "SugarKitchenModel" (56 : Nat)) : Cond) ∈ gT := gI4 154 (by decide +kernel) rfl
theorem mw_875 : ((Jvm.Cond.methodLink "SugarKitchenLaw" (12 : Nat) ({ cls := "SugarKitchenModel", name := "<init>", desc := "()V" } : Jvm.MethodName)) : Cond) ∈ gT := gI4 155 (by decide +kernel) rfl
theorem mw_876 : ((Jvm.Cond.instanceMethod ({ cls := "SugarKitchenModel", name := "<init>", desc := "()V" } : Jvm.MethodName)) : Cond) ∈ gT := gI4 156 (by decide +kernel) rfl
set_option maxRecDepth 100000 in
theorem mw_877 : ((Jvm.Cond.code ({ cls := "SugarKitchenModel", name := "<init>", desc := "()V" } : Jvm.MethodName) prog_13_method_1_code (2 : Nat) (Option.none : Option Jvm.ClassFile.FieldType)) : Cond) ∈ gT := gI4 157 rfl rfl
theorem mw_878 : ((Jvm.Cond.methodLink "SugarKitchenModel" (1 : Nat) ({ cls := "java/lang/Object", name := "<init>", desc := "()V" } : Jvm.MethodName)) : Cond) ∈ gT := gI4 158 (by decide +kernel) rfl
theorem mw_879 : ((Jvm.Cond.constant "SugarKitchenModel" (136 : Nat) (348500 : Int32)) : Cond) ∈ gT := gI4 159 (by decide +kernel) rfl
theorem mw_880 : ((Jvm.Cond.fieldLink "SugarKitchenModel" (161 : Nat) "SugarKitchenModel" "lots" "I") : Cond) ∈ gT := gI4 160 (by decide +kernel) rfl
theorem mw_881 : ((Jvm.Cond.fieldLink "SugarKitchenModel" (153 : Nat) "SugarKitchenModel" "batches" "I") : Cond) ∈ gT := gI4 161 (by decide +kernel) rfl
theorem mw_882 : ((Jvm.Cond.fieldLink "SugarKitchenModel" (203 : Nat) "SugarKitchenModel" "pieces" "I") : Cond) ∈ gT := gI4 162 (by decide +kernel) rfl
theorem mw_883 : ((Jvm.Cond.fieldLink "SugarKitchenModel" (235 : Nat) "SugarKitchenModel" "boxes" "I") : Cond) ∈ gT := gI4 163 (by decide +kernel) rfl
theorem mw_884 : ((Jvm.Cond.fieldLink "SugarKitchenModel" (175 : Nat) "SugarKitchenModel" "rows" "I") : Cond) ∈ gT := gI4 164 (by decide +kernel) rfl
theorem mw_885 : ((Jvm.Cond.fieldLink "SugarKitchenModel" (274 : Nat) "SugarKitchenModel" "queued" "I") : Cond) ∈ gT := gI4 165 (by decide +kernel) rfl
theorem mw_886 : ((Jvm.Cond.fieldLink "SugarKitchenModel" (7 : Nat) "SugarKitchenModel" "left" "[I") : Cond) ∈ gT := gI4 166 (by decide +kernel) rfl
theorem mw_887 : ((Jvm.Cond.fieldLink "SugarKitchenModel" (13 : Nat) "SugarKitchenModel" "warnings" "[I") : Cond) ∈ gT := gI4 167 (by decide +kernel) rfl
theorem mw_888 : ((Jvm.Cond.fieldLink "SugarKitchenModel" (16 : Nat) "SugarKitchenModel" "kind" "[I") : Cond) ∈ gT := gI4 168 (by decide +kernel) rfl
theorem mw_889 : ((Jvm.Cond.fieldLink "SugarKitchenModel" (19 : Nat) "SugarKitchenModel" "mass" "[I") : Cond) ∈ gT := gI4 169 (by decide +kernel) rfl
theorem mw_890 : ((Jvm.Cond.fieldLink "SugarKitchenModel" (22 : Nat) "SugarKitchenModel" "given" "[I") : Cond) ∈ gT := gI4 170 (by decide +kernel) rfl
theorem mw_891 : ((Jvm.Cond.fieldLink "SugarKitchenModel" (25 : Nat) "SugarKitchenModel" "lost" "[I") : Cond) ∈ gT := gI4 171 (by decide +kernel) rfl
theorem mw_892 : ((Jvm.Cond.fieldLink "SugarKitchenModel" (28 : Nat) "SugarKitchenModel" "loss" "[I") : Cond) ∈ gT := gI4 172 (by decide +kernel) rfl
theorem mw_893 : ((Jvm.Cond.fieldLink "SugarKitchenModel" (31 : Nat) "SugarKitchenModel" "top" "[I") : Cond) ∈ gT := gI4 173 (by decide +kernel) rfl
theorem mw_894 : ((Jvm.Cond.fieldLink "SugarKitchenModel" (34 : Nat) "SugarKitchenModel" "grained" "[I") : Cond) ∈ gT := gI4 174 (by decide +kernel) rfl
theorem mw_895 : ((Jvm.Cond.fieldLink "SugarKitchenModel" (37 : Nat) "SugarKitchenModel" "missing" "[I") : Cond) ∈ gT := gI4 175 (by decide +kernel) rfl
theorem mw_896 : ((Jvm.Cond.fieldLink "SugarKitchenModel" (40 : Nat) "SugarKitchenModel" "cooked" "[Z") : Cond) ∈ gT := gI4 176 (by decide +kernel) rfl
theorem mw_897 : ((Jvm.Cond.fieldLink "SugarKitchenModel" (44 : Nat) "SugarKitchenModel" "vouched" "[Z") : Cond) ∈ gT := gI4 177 (by decide +kernel) rfl
theorem mw_898 : ((Jvm.Cond.fieldLink "SugarKitchenModel" (47 : Nat) "SugarKitchenModel" "phase" "[I") : Cond) ∈ gT := gI4 178 (by decide +kernel) rfl
theorem mw_899 : ((Jvm.Cond.fieldLink "SugarKitchenModel" (50 : Nat) "SugarKitchenModel" "count" "[I") : Cond) ∈ gT := gI4 179 (by decide +kernel) rfl
theorem mw_900 : ((Jvm.Cond.fieldLink "SugarKitchenModel" (53 : Nat) "SugarKitchenModel" "cutOf" "[I") : Cond) ∈ gT := gI4 180 (by decide +kernel) rfl
theorem mw_901 : ((Jvm.Cond.fieldLink "SugarKitchenModel" (56 : Nat) "SugarKitchenModel" "dippedOf" "[I") : Cond) ∈ gT := gI4 181 (by decide +kernel) rfl
theorem mw_902 : ((Jvm.Cond.fieldLink "SugarKitchenModel" (59 : Nat) "SugarKitchenModel" "has" "[I") : Cond) ∈ gT := gI4 182 (by decide +kernel) rfl
theorem mw_903 : ((Jvm.Cond.fieldLink "SugarKitchenModel" (62 : Nat) "SugarKitchenModel" "heatLength" "[I") : Cond) ∈ gT := gI4 183 (by decide +kernel) rfl
theorem mw_904 : ((Jvm.Cond.fieldLink "SugarKitchenModel" (65 : Nat) "SugarKitchenModel" "stirLength" "[I") : Cond) ∈ gT := gI4 184 (by decide +kernel) rfl
theorem mw_905 : ((Jvm.Cond.fieldLink "SugarKitchenModel" (68 : Nat) "SugarKitchenModel" "heat" "[F") : Cond) ∈ gT := gI4 185 (by decide +kernel) rfl
theorem mw_906 : ((Jvm.Cond.fieldLink "SugarKitchenModel" (72 : Nat) "SugarKitchenModel" "stirred" "[Z") : Cond) ∈ gT := gI4 186 (by decide +kernel) rfl
theorem mw_907 : ((Jvm.Cond.fieldLink "SugarKitchenModel" (75 : Nat) "SugarKitchenModel" "tableFrom" "[I") : Cond) ∈ gT := gI4 187 (by decide +kernel) rfl
theorem mw_908 : ((Jvm.Cond.fieldLink "SugarKitchenModel" (78 : Nat) "SugarKitchenModel" "tableLoss" "[I") : Cond) ∈ gT := gI4 188 (by decide +kernel) rfl
theorem mw_909 : ((Jvm.Cond.fieldLink "SugarKitchenModel" (178 : Nat) "SugarKitchenModel" "grainLow" "I") : Cond) ∈ gT := gI4 189 (by decide +kernel) rfl
theorem mw_910 : ((Jvm.Cond.fieldLink "SugarKitchenModel" (81 : Nat) "SugarKitchenModel" "grainHigh" "I") : Cond) ∈ gT := gI4 190 (by decide +kernel) rfl
theorem mw_911 : ((Jvm.Cond.fieldLink "SugarKitchenModel" (85 : Nat) "SugarKitchenModel" "low" "[I") : Cond) ∈ gT := gI4 191 (by decide +kernel) rfl
theorem mw_912 : ((Jvm.Cond.fieldLink "SugarKitchenModel" (88 : Nat) "SugarKitchenModel" "high" "[I") : Cond) ∈ gT := gI4 192 (by decide +kernel) rfl
theorem mw_913 : ((Jvm.Cond.fieldLink "SugarKitchenModel" (91 : Nat) "SugarKitchenModel" "degrees" "[I") : Cond) ∈ gT := gI4 193 (by decide +kernel) rfl
theorem mw_914 : ((Jvm.Cond.fieldLink "SugarKitchenModel" (94 : Nat) "SugarKitchenModel" "washing" "[I") : Cond) ∈ gT := gI4 194 (by decide +kernel) rfl
theorem mw_915 : ((Jvm.Cond.fieldLink "SugarKitchenModel" (97 : Nat) "SugarKitchenModel" "queue" "[I") : Cond) ∈ gT := gI4 195 (by decide +kernel) rfl
theorem mw_916 : ((Jvm.Cond.fieldLink "SugarKitchenModel" (100 : Nat) "SugarKitchenModel" "batchOfPiece" "[I") : Cond) ∈ gT := gI4 196 (by decide +kernel) rfl
theorem mw_917 : ((Jvm.Cond.fieldLink "SugarKitchenModel" (103 : Nat) "SugarKitchenModel" "weight" "[I") : Cond) ∈ gT := gI4 197 (by decide +kernel) rfl
theorem mw_918 : ((Jvm.Cond.fieldLink "SugarKitchenModel" (106 : Nat) "SugarKitchenModel" "coat" "[I") : Cond) ∈ gT := gI4 198 (by decide +kernel) rfl
theorem mw_919 : ((Jvm.Cond.fieldLink "SugarKitchenModel" (109 : Nat) "SugarKitchenModel" "temper" "[I") : Cond) ∈ gT := gI4 199 (by decide +kernel) rfl
theorem mw_920 : ((Jvm.Cond.fieldLink "SugarKitchenModel" (112 : Nat) "SugarKitchenModel" "allowed" "[Z") : Cond) ∈ gT := gI4 200 (by decide +kernel) rfl
theorem mw_921 : ((Jvm.Cond.fieldLink "SugarKitchenModel" (115 : Nat) "SugarKitchenModel" "whereIs" "[I") : Cond) ∈ gT := gI4 201 (by decide +kernel) rfl
theorem mw_922 : ((Jvm.Cond.fieldLink "SugarKitchenModel" (118 : Nat) "SugarKitchenModel" "place" "[I") : Cond) ∈ gT := gI4 202 (by decide +kernel) rfl
theorem mw_923 : ((Jvm.Cond.fieldLink "SugarKitchenModel" (121 : Nat) "SugarKitchenModel" "tray" "[I") : Cond) ∈ gT := gI4 203 (by decide +kernel) rfl
theorem mw_924 : ((Jvm.Cond.fieldLink "SugarKitchenModel" (124 : Nat) "SugarKitchenModel" "boxWeight" "[I") : Cond) ∈ gT := gI4 204 (by decide +kernel) rfl
theorem mw_925 : ((Jvm.Cond.fieldLink "SugarKitchenModel" (127 : Nat) "SugarKitchenModel" "choice" "[I") : Cond) ∈ gT := gI4 205 (by decide +kernel) rfl
theorem mw_926 : ((Jvm.Cond.fieldLink "SugarKitchenModel" (130 : Nat) "SugarKitchenModel" "gone" "[Z") : Cond) ∈ gT := gI4 206 (by decide +kernel) rfl
theorem mw_927 : ((Jvm.Cond.fieldLink "SugarKitchenModel" (133 : Nat) "SugarKitchenModel" "chosen" "[Z") : Cond) ∈ gT := gI4 207 (by decide +kernel) rfl
theorem mw_928 : ((Jvm.Cond.fieldLink "SugarKitchenModel" (222 : Nat) "SugarKitchenModel" "choices" "I") : Cond) ∈ gT := gI4 208 (by decide +kernel) rfl
theorem mw_929 : ((Jvm.Cond.fieldLink "SugarKitchenModel" (219 : Nat) "SugarKitchenModel" "listed" "I") : Cond) ∈ gT := gI4 209 (by decide +kernel) rfl
theorem mw_930 : ((Jvm.Cond.fieldLink "SugarKitchenModel" (137 : Nat) "SugarKitchenModel" "reach" "[Z") : Cond) ∈ gT := gI4 210 (by decide +kernel) rfl
theorem mw_931 : ((Jvm.Cond.fieldLink "SugarKitchenModel" (140 : Nat) "SugarKitchenModel" "now" "[I") : Cond) ∈ gT := gI4 211 (by decide +kernel) rfl
theorem mw_932 : ((Jvm.Cond.fieldLink "SugarKitchenModel" (225 : Nat) "SugarKitchenModel" "nows" "I") : Cond) ∈ gT := gI4 212 (by decide +kernel) rfl
theorem mw_933 : ((Jvm.Cond.fieldLink "SugarKitchenModel" (143 : Nat) "SugarKitchenModel" "sums" "[I") : Cond) ∈ gT := gI4 213 (by decide +kernel) rfl
theorem mw_934 : ((Jvm.Cond.fieldLink "SugarKitchenModel" (146 : Nat) "SugarKitchenModel" "parts" "[B") : Cond) ∈ gT := gI4 214 (by decide +kernel) rfl
theorem mw_935 : ((Jvm.Cond.fieldLink "SugarKitchenModel" (150 : Nat) "SugarKitchenModel" "rest" "[I") : Cond) ∈ gT := gI4 215 (by decide +kernel) rfl
theorem mw_936 : ((Jvm.Cond.lays "SugarKitchenModel" "SugarKitchenModel" "lots" "I") : Cond) ∈ gT := gI4 216 (by decide +kernel) rfl
theorem mw_937 : ((Jvm.Cond.soleField "SugarKitchenModel" "lots") : Cond) ∈ gT := gI4 217 (by decide +kernel) rfl
theorem mw_938 : ((Jvm.Cond.lays "SugarKitchenModel" "SugarKitchenModel" "batches" "I") : Cond) ∈ gT := gI4 218 (by decide +kernel) rfl
theorem mw_939 : ((Jvm.Cond.soleField "SugarKitchenModel" "batches") : Cond) ∈ gT := gI4 219 (by decide +kernel) rfl
theorem mw_940 : ((Jvm.Cond.lays "SugarKitchenModel" "SugarKitchenModel" "pieces" "I") : Cond) ∈ gT := gI4 220 (by decide +kernel) rfl
theorem mw_941 : ((Jvm.Cond.soleField "SugarKitchenModel" "pieces") : Cond) ∈ gT := gI4 221 (by decide +kernel) rfl
theorem mw_942 : ((Jvm.Cond.lays "SugarKitchenModel" "SugarKitchenModel" "boxes" "I") : Cond) ∈ gT := gI4 222 (by decide +kernel) rfl
theorem mw_943 : ((Jvm.Cond.soleField "SugarKitchenModel" "boxes") : Cond) ∈ gT := gI4 223 (by decide +kernel) rfl
theorem mw_944 : ((Jvm.Cond.lays "SugarKitchenModel" "SugarKitchenModel" "rows" "I") : Cond) ∈ gT := gI4 224 (by decide +kernel) rfl
theorem mw_945 : ((Jvm.Cond.soleField "SugarKitchenModel" "rows") : Cond) ∈ gT := gI4 225 (by decide +kernel) rfl
theorem mw_946 : ((Jvm.Cond.lays "SugarKitchenModel" "SugarKitchenModel" "queued" "I") : Cond) ∈ gT := gI4 226 (by decide +kernel) rfl
theorem mw_947 : ((Jvm.Cond.soleField "SugarKitchenModel" "queued") : Cond) ∈ gT := gI4 227 (by decide +kernel) rfl
theorem mw_948 : ((Jvm.Cond.laysFinal "SugarKitchenModel" "SugarKitchenModel" "left" "[I") : Cond) ∈ gT := gI4 228 (by decide +kernel) rfl
theorem mw_949 : ((Jvm.Cond.soleField "SugarKitchenModel" "left") : Cond) ∈ gT := gI4 229 (by decide +kernel) rfl
theorem mw_950 : ((Jvm.Cond.laysFinal "SugarKitchenModel" "SugarKitchenModel" "warnings" "[I") : Cond) ∈ gT := gI4 230 (by decide +kernel) rfl
theorem mw_951 : ((Jvm.Cond.soleField "SugarKitchenModel" "warnings") : Cond) ∈ gT := gI4 231 (by decide +kernel) rfl
theorem mw_952 : ((Jvm.Cond.laysFinal "SugarKitchenModel" "SugarKitchenModel" "kind" "[I") : Cond) ∈ gT := gI4 232 (by decide +kernel) rfl
theorem mw_953 : ((Jvm.Cond.soleField "SugarKitchenModel" "kind") : Cond) ∈ gT := gI4 233 (by decide +kernel) rfl
theorem mw_954 : ((Jvm.Cond.laysFinal "SugarKitchenModel" "SugarKitchenModel" "mass" "[I") : Cond) ∈ gT := gI4 234 (by decide +kernel) rfl
theorem mw_955 : ((Jvm.Cond.soleField "SugarKitchenModel" "mass") : Cond) ∈ gT := gI4 235 (by decide +kernel) rfl
theorem mw_956 : ((Jvm.Cond.laysFinal "SugarKitchenModel" "SugarKitchenModel" "given" "[I") : Cond) ∈ gT := gI4 236 (by decide +kernel) rfl
theorem mw_957 : ((Jvm.Cond.soleField "SugarKitchenModel" "given") : Cond) ∈ gT := gI4 237 (by decide +kernel) rfl
theorem mw_958 : ((Jvm.Cond.laysFinal "SugarKitchenModel" "SugarKitchenModel" "lost" "[I") : Cond) ∈ gT := gI4 238 (by decide +kernel) rfl
theorem mw_959 : ((Jvm.Cond.soleField "SugarKitchenModel" "lost") : Cond) ∈ gT := gI4 239 (by decide +kernel) rfl
theorem mw_960 : ((Jvm.Cond.laysFinal "SugarKitchenModel" "SugarKitchenModel" "loss" "[I") : Cond) ∈ gT := gI5 0 (by decide +kernel) rfl
theorem mw_961 : ((Jvm.Cond.soleField "SugarKitchenModel" "loss") : Cond) ∈ gT := gI5 1 (by decide +kernel) rfl
theorem mw_962 : ((Jvm.Cond.laysFinal "SugarKitchenModel" "SugarKitchenModel" "top" "[I") : Cond) ∈ gT := gI5 2 (by decide +kernel) rfl
theorem mw_963 : ((Jvm.Cond.soleField "SugarKitchenModel" "top") : Cond) ∈ gT := gI5 3 (by decide +kernel) rfl
theorem mw_964 : ((Jvm.Cond.laysFinal "SugarKitchenModel" "SugarKitchenModel" "grained" "[I") : Cond) ∈ gT := gI5 4 (by decide +kernel) rfl
theorem mw_965 : ((Jvm.Cond.soleField "SugarKitchenModel" "grained") : Cond) ∈ gT := gI5 5 (by decide +kernel) rfl
theorem mw_966 : ((Jvm.Cond.laysFinal "SugarKitchenModel" "SugarKitchenModel" "missing" "[I") : Cond) ∈ gT := gI5 6 (by decide +kernel) rfl
theorem mw_967 : ((Jvm.Cond.soleField "SugarKitchenModel" "missing") : Cond) ∈ gT := gI5 7 (by decide +kernel) rfl
theorem mw_968 : ((Jvm.Cond.laysFinal "SugarKitchenModel" "SugarKitchenModel" "cooked" "[Z") : Cond) ∈ gT := gI5 8 (by decide +kernel) rfl
theorem mw_969 : ((Jvm.Cond.soleField "SugarKitchenModel" "cooked") : Cond) ∈ gT := gI5 9 (by decide +kernel) rfl
theorem mw_970 : ((Jvm.Cond.laysFinal "SugarKitchenModel" "SugarKitchenModel" "vouched" "[Z") : Cond) ∈ gT := gI5 10 (by decide +kernel) rfl
theorem mw_971 : ((Jvm.Cond.soleField "SugarKitchenModel" "vouched") : Cond) ∈ gT := gI5 11 (by decide +kernel) rfl
theorem mw_972 : ((Jvm.Cond.laysFinal "SugarKitchenModel" "SugarKitchenModel" "phase" "[I") : Cond) ∈ gT := gI5 12 (by decide +kernel) rfl
theorem mw_973 : ((Jvm.Cond.soleField "SugarKitchenModel" "phase") : Cond) ∈ gT := gI5 13 (by decide +kernel) rfl
theorem mw_974 : ((Jvm.Cond.laysFinal "SugarKitchenModel" "SugarKitchenModel" "count" "[I") : Cond) ∈ gT := gI5 14 (by decide +kernel) rfl
theorem mw_975 : ((Jvm.Cond.soleField "SugarKitchenModel" "count") : Cond) ∈ gT := gI5 15 (by decide +kernel) rfl
theorem mw_976 : ((Jvm.Cond.laysFinal "SugarKitchenModel" "SugarKitchenModel" "cutOf" "[I") : Cond) ∈ gT := gI5 16 (by decide +kernel) rfl
theorem mw_977 : ((Jvm.Cond.soleField "SugarKitchenModel" "cutOf") : Cond) ∈ gT := gI5 17 (by decide +kernel) rfl
theorem mw_978 : ((Jvm.Cond.laysFinal "SugarKitchenModel" "SugarKitchenModel" "dippedOf" "[I") : Cond) ∈ gT := gI5 18 (by decide +kernel) rfl
theorem mw_979 : ((Jvm.Cond.soleField "SugarKitchenModel" "dippedOf") : Cond) ∈ gT := gI5 19 (by decide +kernel) rfl
theorem mw_980 : ((Jvm.Cond.laysFinal "SugarKitchenModel" "SugarKitchenModel" "has" "[I") : Cond) ∈ gT := gI5 20 (by decide +kernel) rfl
theorem mw_981 : ((Jvm.Cond.soleField "SugarKitchenModel" "has") : Cond) ∈ gT := gI5 21 (by decide +kernel) rfl
theorem mw_982 : ((Jvm.Cond.laysFinal "SugarKitchenModel" "SugarKitchenModel" "heatLength" "[I") : Cond) ∈ gT := gI5 22 (by decide +kernel) rfl
theorem mw_983 : ((Jvm.Cond.soleField "SugarKitchenModel" "heatLength") : Cond) ∈ gT := gI5 23 (by decide +kernel) rfl
theorem mw_984 : ((Jvm.Cond.laysFinal "SugarKitchenModel" "SugarKitchenModel" "stirLength" "[I") : Cond) ∈ gT := gI5 24 (by decide +kernel) rfl
theorem mw_985 : ((Jvm.Cond.soleField "SugarKitchenModel" "stirLength") : Cond) ∈ gT := gI5 25 (by decide +kernel) rfl
theorem mw_986 : ((Jvm.Cond.laysFinal "SugarKitchenModel" "SugarKitchenModel" "heat" "[F") : Cond) ∈ gT := gI5 26 (by decide +kernel) rfl
theorem mw_987 : ((Jvm.Cond.soleField "SugarKitchenModel" "heat") : Cond) ∈ gT := gI5 27 (by decide +kernel) rfl
theorem mw_988 : ((Jvm.Cond.laysFinal "SugarKitchenModel" "SugarKitchenModel" "stirred" "[Z") : Cond) ∈ gT := gI5 28 (by decide +kernel) rfl
theorem mw_989 : ((Jvm.Cond.soleField "SugarKitchenModel" "stirred") : Cond) ∈ gT := gI5 29 (by decide +kernel) rfl
theorem mw_990 : ((Jvm.Cond.laysFinal "SugarKitchenModel" "SugarKitchenModel" "tableFrom" "[I") : Cond) ∈ gT := gI5 30 (by decide +kernel) rfl
theorem mw_991 : ((Jvm.Cond.soleField "SugarKitchenModel" "tableFrom") : Cond) ∈ gT := gI5 31 (by decide +kernel) rfl
theorem mw_992 : ((Jvm.Cond.laysFinal "SugarKitchenModel" "SugarKitchenModel" "tableLoss" "[I") : Cond) ∈ gT := gI5 32 (by decide +kernel) rfl
theorem mw_993 : ((Jvm.Cond.soleField "SugarKitchenModel" "tableLoss") : Cond) ∈ gT := gI5 33 (by decide +kernel) rfl
theorem mw_994 : ((Jvm.Cond.lays "SugarKitchenModel" "SugarKitchenModel" "grainLow" "I") : Cond) ∈ gT := gI5 34 (by decide +kernel) rfl
theorem mw_995 : ((Jvm.Cond.soleField "SugarKitchenModel" "grainLow") : Cond) ∈ gT := gI5 35 (by decide +kernel) rfl
theorem mw_996 : ((Jvm.Cond.lays "SugarKitchenModel" "SugarKitchenModel" "grainHigh" "I") : Cond) ∈ gT := gI5 36 (by decide +kernel) rfl
theorem mw_997 : ((Jvm.Cond.soleField "SugarKitchenModel" "grainHigh") : Cond) ∈ gT := gI5 37 (by decide +kernel) rfl
theorem mw_998 : ((Jvm.Cond.laysFinal "SugarKitchenModel" "SugarKitchenModel" "low" "[I") : Cond) ∈ gT := gI5 38 (by decide +kernel) rfl
theorem mw_999 : ((Jvm.Cond.soleField "SugarKitchenModel" "low") : Cond) ∈ gT := gI5 39 (by decide +kernel) rfl
theorem mw_1000 : ((Jvm.Cond.laysFinal "SugarKitchenModel" "SugarKitchenModel" "high" "[I") : Cond) ∈ gT := gI5 40 (by decide +kernel) rfl
theorem mw_1001 : ((Jvm.Cond.soleField "SugarKitchenModel" "high") : Cond) ∈ gT := gI5 41 (by decide +kernel) rfl
theorem mw_1002 : ((Jvm.Cond.laysFinal "SugarKitchenModel" "SugarKitchenModel" "degrees" "[I") : Cond) ∈ gT := gI5 42 (by decide +kernel) rfl
theorem mw_1003 : ((Jvm.Cond.soleField "SugarKitchenModel" "degrees") : Cond) ∈ gT := gI5 43 (by decide +kernel) rfl
theorem mw_1004 : ((Jvm.Cond.laysFinal "SugarKitchenModel" "SugarKitchenModel" "washing" "[I") : Cond) ∈ gT := gI5 44 (by decide +kernel) rfl
theorem mw_1005 : ((Jvm.Cond.soleField "SugarKitchenModel" "washing") : Cond) ∈ gT := gI5 45 (by decide +kernel) rfl
theorem mw_1006 : ((Jvm.Cond.laysFinal "SugarKitchenModel" "SugarKitchenModel" "queue" "[I") : Cond) ∈ gT := gI5 46 (by decide +kernel) rfl
theorem mw_1007 : ((Jvm.Cond.soleField "SugarKitchenModel" "queue") : Cond) ∈ gT := gI5 47 (by decide +kernel) rfl
theorem mw_1008 : ((Jvm.Cond.laysFinal "SugarKitchenModel" "SugarKitchenModel" "batchOfPiece" "[I") : Cond) ∈ gT := gI5 48 (by decide +kernel) rfl
theorem mw_1009 : ((Jvm.Cond.soleField "SugarKitchenModel" "batchOfPiece") : Cond) ∈ gT := gI5 49 (by decide +kernel) rfl
theorem mw_1010 : ((Jvm.Cond.laysFinal "SugarKitchenModel" "SugarKitchenModel" "weight" "[I") : Cond) ∈ gT := gI5 50 (by decide +kernel) rfl
theorem mw_1011 : ((Jvm.Cond.soleField "SugarKitchenModel" "weight") : Cond) ∈ gT := gI5 51 (by decide +kernel) rfl
theorem mw_1012 : ((Jvm.Cond.laysFinal "SugarKitchenModel" "SugarKitchenModel" "coat" "[I") : Cond) ∈ gT := gI5 52 (by decide +kernel) rfl
theorem mw_1013 : ((Jvm.Cond.soleField "SugarKitchenModel" "coat") : Cond) ∈ gT := gI5 53 (by decide +kernel) rfl
theorem mw_1014 : ((Jvm.Cond.laysFinal "SugarKitchenModel" "SugarKitchenModel" "temper" "[I") : Cond) ∈ gT := gI5 54 (by decide +kernel) rfl
theorem mw_1015 : ((Jvm.Cond.soleField "SugarKitchenModel" "temper") : Cond) ∈ gT := gI5 55 (by decide +kernel) rfl
theorem mw_1016 : ((Jvm.Cond.laysFinal "SugarKitchenModel" "SugarKitchenModel" "allowed" "[Z") : Cond) ∈ gT := gI5 56 (by decide +kernel) rfl
theorem mw_1017 : ((Jvm.Cond.soleField "SugarKitchenModel" "allowed") : Cond) ∈ gT := gI5 57 (by decide +kernel) rfl
theorem mw_1018 : ((Jvm.Cond.laysFinal "SugarKitchenModel" "SugarKitchenModel" "whereIs" "[I") : Cond) ∈ gT := gI5 58 (by decide +kernel) rfl
theorem mw_1019 : ((Jvm.Cond.soleField "SugarKitchenModel" "whereIs") : Cond) ∈ gT := gI5 59 (by decide +kernel) rfl
theorem mw_1020 : ((Jvm.Cond.laysFinal "SugarKitchenModel" "SugarKitchenModel" "place" "[I") : Cond) ∈ gT := gI5 60 (by decide +kernel) rfl
theorem mw_1021 : ((Jvm.Cond.soleField "SugarKitchenModel" "place") : Cond) ∈ gT := gI5 61 (by decide +kernel) rfl
theorem mw_1022 : ((Jvm.Cond.laysFinal "SugarKitchenModel" "SugarKitchenModel" "tray" "[I") : Cond) ∈ gT := gI5 62 (by decide +kernel) rfl
theorem mw_1023 : ((Jvm.Cond.soleField "SugarKitchenModel" "tray") : Cond) ∈ gT := gI5 63 (by decide +kernel) rfl
theorem mw_1024 : ((Jvm.Cond.laysFinal "SugarKitchenModel" "SugarKitchenModel" "boxWeight" "[I") : Cond) ∈ gT := gI5 64 (by decide +kernel) rfl
theorem mw_1025 : ((Jvm.Cond.soleField "SugarKitchenModel" "boxWeight") : Cond) ∈ gT := gI5 65 (by decide +kernel) rfl
theorem mw_1026 : ((Jvm.Cond.laysFinal "SugarKitchenModel" "SugarKitchenModel" "choice" "[I") : Cond) ∈ gT := gI5 66 (by decide +kernel) rfl
theorem mw_1027 : ((Jvm.Cond.soleField "SugarKitchenModel" "choice") : Cond) ∈ gT := gI5 67 (by decide +kernel) rfl
theorem mw_1028 : ((Jvm.Cond.laysFinal "SugarKitchenModel" "SugarKitchenModel" "gone" "[Z") : Cond) ∈ gT := gI5 68 (by decide +kernel) rfl
theorem mw_1029 : ((Jvm.Cond.soleField "SugarKitchenModel" "gone") : Cond) ∈ gT := gI5 69 (by decide +kernel) rfl
theorem mw_1030 : ((Jvm.Cond.laysFinal "SugarKitchenModel" "SugarKitchenModel" "chosen" "[Z") : Cond) ∈ gT := gI5 70 (by decide +kernel) rfl
theorem mw_1031 : ((Jvm.Cond.soleField "SugarKitchenModel" "chosen") : Cond) ∈ gT := gI5 71 (by decide +kernel) rfl
theorem mw_1032 : ((Jvm.Cond.lays "SugarKitchenModel" "SugarKitchenModel" "choices" "I") : Cond) ∈ gT := gI5 72 (by decide +kernel) rfl
theorem mw_1033 : ((Jvm.Cond.soleField "SugarKitchenModel" "choices") : Cond) ∈ gT := gI5 73 (by decide +kernel) rfl
theorem mw_1034 : ((Jvm.Cond.lays "SugarKitchenModel" "SugarKitchenModel" "listed" "I") : Cond) ∈ gT := gI5 74 (by decide +kernel) rfl
theorem mw_1035 : ((Jvm.Cond.soleField "SugarKitchenModel" "listed") : Cond) ∈ gT := gI5 75 (by decide +kernel) rfl
theorem mw_1036 : ((Jvm.Cond.laysFinal "SugarKitchenModel" "SugarKitchenModel" "reach" "[Z") : Cond) ∈ gT := gI5 76 (by decide +kernel) rfl
theorem mw_1037 : ((Jvm.Cond.soleField "SugarKitchenModel" "reach") : Cond) ∈ gT := gI5 77 (by decide +kernel) rfl
theorem mw_1038 : ((Jvm.Cond.laysFinal "SugarKitchenModel" "SugarKitchenModel" "now" "[I") : Cond) ∈ gT := gI5 78 (by decide +kernel) rfl
theorem mw_1039 : ((Jvm.Cond.soleField "SugarKitchenModel" "now") : Cond) ∈ gT := gI5 79 (by decide +kernel) rfl
theorem mw_1040 : ((Jvm.Cond.lays "SugarKitchenModel" "SugarKitchenModel" "nows" "I") : Cond) ∈ gT := gI5 80 (by decide +kernel) rfl
theorem mw_1041 : ((Jvm.Cond.soleField "SugarKitchenModel" "nows") : Cond) ∈ gT := gI5 81 (by decide +kernel) rfl
theorem mw_1042 : ((Jvm.Cond.laysFinal "SugarKitchenModel" "SugarKitchenModel" "sums" "[I") : Cond) ∈ gT := gI5 82 (by decide +kernel) rfl
theorem mw_1043 : ((Jvm.Cond.soleField "SugarKitchenModel" "sums") : Cond) ∈ gT := gI5 83 (by decide +kernel) rfl
theorem mw_1044 : ((Jvm.Cond.laysFinal "SugarKitchenModel" "SugarKitchenModel" "parts" "[B") : Cond) ∈ gT := gI5 84 (by decide +kernel) rfl
theorem mw_1045 : ((Jvm.Cond.soleField "SugarKitchenModel" "parts") : Cond) ∈ gT := gI5 85 (by decide +kernel) rfl
theorem mw_1046 : ((Jvm.Cond.laysFinal "SugarKitchenModel" "SugarKitchenModel" "rest" "[I") : Cond) ∈ gT := gI5 86 (by decide +kernel) rfl
theorem mw_1047 : ((Jvm.Cond.soleField "SugarKitchenModel" "rest") : Cond) ∈ gT := gI5 87 (by decide +kernel) rfl
theorem mw_1048 : ((Jvm.Cond.superclass "SugarKitchenModel" "java/lang/Object") : Cond) ∈ gT := gI5 88 (by decide +kernel) rfl
theorem mw_1049 : ((Jvm.Cond.arrayClass Jvm.ClassFile.FieldType.float) : Cond) ∈ gT := gI5 89 (by decide +kernel) rfl
theorem mw_1050 : ((Jvm.Cond.methodLink "SugarKitchenLaw" (17 : Nat) ({ cls := "SugarKitchenModel", name := "lot", desc := "(II)I" } : Jvm.MethodName)) : Cond) ∈ gT := gI5 90 (by decide +kernel) rfl
theorem mw_1051 : ((Jvm.Cond.instanceMethod ({ cls := "SugarKitchenModel", name := "lot", desc := "(II)I" } : Jvm.MethodName)) : Cond) ∈ gT := gI5 91 (by decide +kernel) rfl
theorem mw_1052 : ((Jvm.Cond.selects "SugarKitchenModel" ({ cls := "SugarKitchenModel", name := "lot", desc := "(II)I" } : Jvm.MethodName) ({ cls := "SugarKitchenModel", name := "lot", desc := "(II)I" } : Jvm.MethodName)) : Cond) ∈ gT := gI5 92 (by decide +kernel) rfl
set_option maxRecDepth 100000 in
theorem mw_1053 : ((Jvm.Cond.code ({ cls := "SugarKitchenModel", name := "lot", desc := "(II)I" } : Jvm.MethodName) prog_13_method_4_code (3 : Nat) (Option.some Jvm.ClassFile.FieldType.int)) : Cond) ∈ gT := gI5 93 rfl rfl
theorem mw_1054 : ((Jvm.Cond.constant "SugarKitchenModel" (160 : Nat) (1000000 : Int32)) : Cond) ∈ gT := gI5 94 (by decide +kernel) rfl
theorem mw_1055 : ((Jvm.Cond.methodLink "SugarKitchenModel" (156 : Nat) ({ cls := "SugarKitchenModel", name := "isIn", desc := "(III)Z" } : Jvm.MethodName)) : Cond) ∈ gT := gI5 95 (by decide +kernel) rfl
theorem mw_1056 : ((Jvm.Cond.static ({ cls := "SugarKitchenModel", name := "isIn", desc := "(III)Z" } : Jvm.MethodName)) : Cond) ∈ gT := gI5 96 (by decide +kernel) rfl
set_option maxRecDepth 100000 in
theorem mw_1057 : ((Jvm.Cond.code ({ cls := "SugarKitchenModel", name := "isIn", desc := "(III)Z" } : Jvm.MethodName) prog_13_method_2_code (3 : Nat) (Option.some Jvm.ClassFile.FieldType.boolean)) : Cond) ∈ gT := gI5 97 rfl rfl
theorem mw_1058 : ((Jvm.Cond.methodLink "SugarKitchenLaw" (22 : Nat) ({ cls := "SugarKitchenModel", name := "batch", desc := "(I)I" } : Jvm.MethodName)) : Cond) ∈ gT := gI5 98 (by decide +kernel) rfl
theorem mw_1059 : ((Jvm.Cond.instanceMethod ({ cls := "SugarKitchenModel", name := "batch", desc := "(I)I" } : Jvm.MethodName)) : Cond) ∈ gT := gI5 99 (by decide +kernel) rfl
theorem mw_1060 : ((Jvm.Cond.selects "SugarKitchenModel" ({ cls := "SugarKitchenModel", name := "batch", desc := "(I)I" } : Jvm.MethodName) ({ cls := "SugarKitchenModel", name := "batch", desc := "(I)I" } : Jvm.MethodName)) : Cond) ∈ gT := gI5 100 (by decide +kernel) rfl
set_option maxRecDepth 100000 in
theorem mw_1061 : ((Jvm.Cond.code ({ cls := "SugarKitchenModel", name := "batch", desc := "(I)I" } : Jvm.MethodName) prog_13_method_5_code (2 : Nat) (Option.some Jvm.ClassFile.FieldType.int)) : Cond) ∈ gT := gI5 101 rfl rfl
theorem mw_1062 : ((Jvm.Cond.constant "SugarKitchenModel" (164 : Nat) (-1000001 : Int32)) : Cond) ∈ gT := gI5 102 (by decide +kernel) rfl
theorem mw_1063 : ((Jvm.Cond.methodLink "SugarKitchenLaw" (27 : Nat) ({ cls := "SugarKitchenModel", name := "put", desc := "(III)I" } : Jvm.MethodName)) : Cond) ∈ gT := gI5 103 (by decide +kernel) rfl
theorem mw_1064 : ((Jvm.Cond.instanceMethod ({ cls := "SugarKitchenModel", name := "put", desc := "(III)I" } : Jvm.MethodName)) : Cond) ∈ gT := gI5 104 (by decide +kernel) rfl
theorem mw_1065 : ((Jvm.Cond.selects "SugarKitchenModel" ({ cls := "SugarKitchenModel", name := "put", desc := "(III)I" } : Jvm.MethodName) ({ cls := "SugarKitchenModel", name := "put", desc := "(III)I" } : Jvm.MethodName)) : Cond) ∈ gT := gI5 105 (by decide +kernel) rfl
set_option maxRecDepth 100000 in
theorem mw_1066 : ((Jvm.Cond.code ({ cls := "SugarKitchenModel", name := "put", desc := "(III)I" } : Jvm.MethodName) prog_13_method_6_code (4 : Nat) (Option.some Jvm.ClassFile.FieldType.int)) : Cond) ∈ gT := gI5 106 rfl rfl
theorem mw_1067 : ((Jvm.Cond.methodLink "SugarKitchenModel" (165 : Nat) ({ cls := "SugarKitchenModel", name := "isBatch", desc := "(I)Z" } : Jvm.MethodName)) : Cond) ∈ gT := gI5 107 (by decide +kernel) rfl
theorem mw_1069 : ((Jvm.Cond.instanceMethod ({ cls := "SugarKitchenModel", name := "isBatch", desc := "(I)Z" } : Jvm.MethodName)) : Cond) ∈ gT := gI5 109 (by decide +kernel) rfl
set_option maxRecDepth 100000 in
theorem mw_1070 : ((Jvm.Cond.code ({ cls := "SugarKitchenModel", name := "isBatch", desc := "(I)Z" } : Jvm.MethodName) prog_13_method_3_code (2 : Nat) (Option.some Jvm.ClassFile.FieldType.boolean)) : Cond) ∈ gT := gI5 110 rfl rfl
theorem mw_1071 : ((Jvm.Cond.methodLink "SugarKitchenLaw" (32 : Nat) ({ cls := "SugarKitchenModel", name := "row", desc := "(III)Z" } : Jvm.MethodName)) : Cond) ∈ gT := gI5 111 (by decide +kernel) rfl
theorem mw_1072 : ((Jvm.Cond.instanceMethod ({ cls := "SugarKitchenModel", name := "row", desc := "(III)Z" } : Jvm.MethodName)) : Cond) ∈ gT := gI5 112 (by decide +kernel) rfl
theorem mw_1073 : ((Jvm.Cond.selects "SugarKitchenModel" ({ cls := "SugarKitchenModel", name := "row", desc := "(III)Z" } : Jvm.MethodName) ({ cls := "SugarKitchenModel", name := "row", desc := "(III)Z" } : Jvm.MethodName)) : Cond) ∈ gT := gI5 113 (by decide +kernel) rfl
set_option maxRecDepth 100000 in
theorem mw_1074 : ((Jvm.Cond.code ({ cls := "SugarKitchenModel", name := "row", desc := "(III)Z" } : Jvm.MethodName) prog_13_method_7_code (5 : Nat) (Option.some Jvm.ClassFile.FieldType.boolean)) : Cond) ∈ gT := gI5 114 rfl rfl
theorem mw_1075 : ((Jvm.Cond.methodLink "SugarKitchenLaw" (36 : Nat) ({ cls := "SugarKitchenModel", name := "tick", desc := "(III)Z" } : Jvm.MethodName)) : Cond) ∈ gT := gI5 115 (by decide +kernel) rfl
theorem mw_1076 : ((Jvm.Cond.instanceMethod ({ cls := "SugarKitchenModel", name := "tick", desc := "(III)Z" } : Jvm.MethodName)) : Cond) ∈ gT := gI5 116 (by decide +kernel) rfl
theorem mw_1077 : ((Jvm.Cond.selects "SugarKitchenModel" ({ cls := "SugarKitchenModel", name := "tick", desc := "(III)Z" } : Jvm.MethodName) ({ cls := "SugarKitchenModel", name := "tick", desc := "(III)Z" } : Jvm.MethodName)) : Cond) ∈ gT := gI5 117 (by decide +kernel) rfl
set_option maxRecDepth 100000 in
theorem mw_1078 : ((Jvm.Cond.code ({ cls := "SugarKitchenModel", name := "tick", desc := "(III)Z" } : Jvm.MethodName) prog_13_method_8_code (4 : Nat) (Option.some Jvm.ClassFile.FieldType.boolean)) : Cond) ∈ gT := gI5 118 rfl rfl
theorem mw_1079 : ((Jvm.Cond.methodLink "SugarKitchenModel" (169 : Nat) ({ cls := "java/lang/Float", name := "intBitsToFloat", desc := "(I)F" } : Jvm.MethodName)) : Cond) ∈ gT := gI5 119 (by decide +kernel) rfl
theorem mw_1080 : ((Jvm.Cond.static ({ cls := "java/lang/Float", name := "intBitsToFloat", desc := "(I)F" } : Jvm.MethodName)) : Cond) ∈ gT := gI5 120 (by decide +kernel) rfl
theorem mw_1081 : ((Jvm.Cond.native ({ cls := "java/lang/Float", name := "intBitsToFloat", desc := "(I)F" } : Jvm.MethodName)) : Cond) ∈ gT := gI5 121 (by decide +kernel) rfl
theorem mw_1082 : ((Jvm.Cond.methodLink "SugarKitchenLaw" (41 : Nat) ({ cls := "SugarKitchenModel", name := "stir", desc := "(IIZ)Z" } : Jvm.MethodName)) : Cond) ∈ gT := gI5 122 (by decide +kernel) rfl
theorem mw_1083 : ((Jvm.Cond.instanceMethod ({ cls := "SugarKitchenModel", name := "stir", desc := "(IIZ)Z" } : Jvm.MethodName)) : Cond) ∈ gT := gI5 123 (by decide +kernel) rfl
theorem mw_1084 : ((Jvm.Cond.selects "SugarKitchenModel" ({ cls := "SugarKitchenModel", name := "stir", desc := "(IIZ)Z" } : Jvm.MethodName) ({ cls := "SugarKitchenModel", name := "stir", desc := "(IIZ)Z" } : Jvm.MethodName)) : Cond) ∈ gT := gI5 124 (by decide +kernel) rfl
set_option maxRecDepth 100000 in
theorem mw_1085 : ((Jvm.Cond.code ({ cls := "SugarKitchenModel", name := "stir", desc := "(IIZ)Z" } : Jvm.MethodName) prog_13_method_9_code (4 : Nat) (Option.some Jvm.ClassFile.FieldType.boolean)) : Cond) ∈ gT := gI5 125 rfl rfl
theorem mw_1086 : ((Jvm.Cond.methodLink "SugarKitchenLaw" (45 : Nat) ({ cls := "SugarKitchenModel", name := "table", desc := "(II)I" } : Jvm.MethodName)) : Cond) ∈ gT := gI5 126 (by decide +kernel) rfl
theorem mw_1087 : ((Jvm.Cond.instanceMethod ({ cls := "SugarKitchenModel", name := "table", desc := "(II)I" } : Jvm.MethodName)) : Cond) ∈ gT := gI5 127 (by decide +kernel) rfl
theorem mw_1088 : ((Jvm.Cond.selects "SugarKitchenModel" ({ cls := "SugarKitchenModel", name := "table", desc := "(II)I" } : Jvm.MethodName) ({ cls := "SugarKitchenModel", name := "table", desc := "(II)I" } : Jvm.MethodName)) : Cond) ∈ gT := gI5 128 (by decide +kernel) rfl
set_option maxRecDepth 100000 in
theorem mw_1089 : ((Jvm.Cond.code ({ cls := "SugarKitchenModel", name := "table", desc := "(II)I" } : Jvm.MethodName) prog_13_method_10_code (3 : Nat) (Option.some Jvm.ClassFile.FieldType.int)) : Cond) ∈ gT := gI5 129 rfl rfl
theorem mw_1090 : ((Jvm.Cond.methodLink "SugarKitchenLaw" (50 : Nat) ({ cls := "SugarKitchenModel", name := "grain", desc := "(II)Z" } : Jvm.MethodName)) : Cond) ∈ gT := gI5 130 (by decide +kernel) rfl
theorem mw_1091 : ((Jvm.Cond.instanceMethod ({ cls := "SugarKitchenModel", name := "grain", desc := "(II)Z" } : Jvm.MethodName)) : Cond) ∈ gT := gI5 131 (by decide +kernel) rfl
theorem mw_1092 : ((Jvm.Cond.selects "SugarKitchenModel" ({ cls := "SugarKitchenModel", name := "grain", desc := "(II)Z" } : Jvm.MethodName) ({ cls := "SugarKitchenModel", name := "grain", desc := "(II)Z" } : Jvm.MethodName)) : Cond) ∈ gT := gI5 132 (by decide +kernel) rfl
set_option maxRecDepth 100000 in
theorem mw_1093 : ((Jvm.Cond.code ({ cls := "SugarKitchenModel", name := "grain", desc := "(II)Z" } : Jvm.MethodName) prog_13_method_11_code (3 : Nat) (Option.some Jvm.ClassFile.FieldType.boolean)) : Cond) ∈ gT := gI5 133 rfl rfl
theorem mw_1094 : ((Jvm.Cond.methodLink "SugarKitchenLaw" (54 : Nat) ({ cls := "SugarKitchenModel", name := "bounds", desc := "(III)Z" } : Jvm.MethodName)) : Cond) ∈ gT := gI5 134 (by decide +kernel) rfl
theorem mw_1095 : ((Jvm.Cond.instanceMethod ({ cls := "SugarKitchenModel", name := "bounds", desc := "(III)Z" } : Jvm.MethodName)) : Cond) ∈ gT := gI5 135 (by decide +kernel) rfl
theorem mw_1096 : ((Jvm.Cond.selects "SugarKitchenModel" ({ cls := "SugarKitchenModel", name := "bounds", desc := "(III)Z" } : Jvm.MethodName) ({ cls := "SugarKitchenModel", name := "bounds", desc := "(III)Z" } : Jvm.MethodName)) : Cond) ∈ gT := gI5 136 (by decide +kernel) rfl
set_option maxRecDepth 100000 in
theorem mw_1097 : ((Jvm.Cond.code ({ cls := "SugarKitchenModel", name := "bounds", desc := "(III)Z" } : Jvm.MethodName) prog_13_method_12_code (4 : Nat) (Option.some Jvm.ClassFile.FieldType.boolean)) : Cond) ∈ gT := gI5 137 rfl rfl
theorem mw_1098 : ((Jvm.Cond.methodLink "SugarKitchenLaw" (58 : Nat) ({ cls := "SugarKitchenModel", name := "cook", desc := "(II)I" } : Jvm.MethodName)) : Cond) ∈ gT := gI5 138 (by decide +kernel) rfl
theorem mw_1099 : ((Jvm.Cond.instanceMethod ({ cls := "SugarKitchenModel", name := "cook", desc := "(II)I" } : Jvm.MethodName)) : Cond) ∈ gT := gI5 139 (by decide +kernel) rfl
theorem mw_1100 : ((Jvm.Cond.selects "SugarKitchenModel" ({ cls := "SugarKitchenModel", name := "cook", desc := "(II)I" } : Jvm.MethodName) ({ cls := "SugarKitchenModel", name := "cook", desc := "(II)I" } : Jvm.MethodName)) : Cond) ∈ gT := gI5 140 (by decide +kernel) rfl
set_option maxRecDepth 100000 in
theorem mw_1101 : ((Jvm.Cond.code ({ cls := "SugarKitchenModel", name := "cook", desc := "(II)I" } : Jvm.MethodName) prog_13_method_16_code (7 : Nat) (Option.some Jvm.ClassFile.FieldType.int)) : Cond) ∈ gT := gI5 141 rfl rfl
theorem mw_1102 : ((Jvm.Cond.methodLink "SugarKitchenModel" (182 : Nat) ({ cls := "SugarKitchenModel", name := "isRead", desc := "(II)Z" } : Jvm.MethodName)) : Cond) ∈ gT := gI5 142 (by decide +kernel) rfl
theorem mw_1104 : ((Jvm.Cond.instanceMethod ({ cls := "SugarKitchenModel", name := "isRead", desc := "(II)Z" } : Jvm.MethodName)) : Cond) ∈ gT := gI5 144 (by decide +kernel) rfl
set_option maxRecDepth 100000 in
theorem mw_1105 : ((Jvm.Cond.code ({ cls := "SugarKitchenModel", name := "isRead", desc := "(II)Z" } : Jvm.MethodName) prog_13_method_13_code (4 : Nat) (Option.some Jvm.ClassFile.FieldType.boolean)) : Cond) ∈ gT := gI5 145 rfl rfl
theorem mw_1106 : ((Jvm.Cond.methodLink "SugarKitchenModel" (186 : Nat) ({ cls := "SugarKitchenModel", name := "degree", desc := "(II)I" } : Jvm.MethodName)) : Cond) ∈ gT := gI5 146 (by decide +kernel) rfl
theorem mw_1108 : ((Jvm.Cond.instanceMethod ({ cls := "SugarKitchenModel", name := "degree", desc := "(II)I" } : Jvm.MethodName)) : Cond) ∈ gT := gI5 148 (by decide +kernel) rfl
set_option maxRecDepth 100000 in
theorem mw_1109 : ((Jvm.Cond.code ({ cls := "SugarKitchenModel", name := "degree", desc := "(II)I" } : Jvm.MethodName) prog_13_method_14_code (3 : Nat) (Option.some Jvm.ClassFile.FieldType.int)) : Cond) ∈ gT := gI5 149 rfl rfl
theorem mw_1110 : ((Jvm.Cond.constantFloat "SugarKitchenModel" (181 : Nat) (1092616192 : UInt32)) : Cond) ∈ gT := gI5 150 (by decide +kernel) rfl
theorem mw_1111 : ((Jvm.Cond.methodLink "SugarKitchenModel" (190 : Nat) ({ cls := "SugarKitchenModel", name := "lossOf", desc := "(IZ)I" } : Jvm.MethodName)) : Cond) ∈ gT := gI5 151 (by decide +kernel) rfl
theorem mw_1113 : ((Jvm.Cond.instanceMethod ({ cls := "SugarKitchenModel", name := "lossOf", desc := "(IZ)I" } : Jvm.MethodName)) : Cond) ∈ gT := gI5 153 (by decide +kernel) rfl
set_option maxRecDepth 100000 in
theorem mw_1114 : ((Jvm.Cond.code ({ cls := "SugarKitchenModel", name := "lossOf", desc := "(IZ)I" } : Jvm.MethodName) prog_13_method_15_code (5 : Nat) (Option.some Jvm.ClassFile.FieldType.int)) : Cond) ∈ gT := gI5 154 rfl rfl
theorem mw_1115 : ((Jvm.Cond.constantLong "SugarKitchenModel" (194 : Nat) (1000 : Int64)) : Cond) ∈ gT := gI5 155 (by decide +kernel) rfl
theorem mw_1116 : ((Jvm.Cond.methodLink "SugarKitchenLaw" (63 : Nat) ({ cls := "SugarKitchenModel", name := "vouch", desc := "(I)Z" } : Jvm.MethodName)) : Cond) ∈ gT := gI5 156 (by decide +kernel) rfl
theorem mw_1117 : ((Jvm.Cond.instanceMethod ({ cls := "SugarKitchenModel", name := "vouch", desc := "(I)Z" } : Jvm.MethodName)) : Cond) ∈ gT := gI5 157 (by decide +kernel) rfl
theorem mw_1118 : ((Jvm.Cond.selects "SugarKitchenModel" ({ cls := "SugarKitchenModel", name := "vouch", desc := "(I)Z" } : Jvm.MethodName) ({ cls := "SugarKitchenModel", name := "vouch", desc := "(I)Z" } : Jvm.MethodName)) : Cond) ∈ gT := gI5 158 (by decide +kernel) rfl
set_option maxRecDepth 100000 in
theorem mw_1119 : ((Jvm.Cond.code ({ cls := "SugarKitchenModel", name := "vouch", desc := "(I)Z" } : Jvm.MethodName) prog_13_method_17_code (2 : Nat) (Option.some Jvm.ClassFile.FieldType.boolean)) : Cond) ∈ gT := gI5 159 rfl rfl
theorem mw_1120 : ((Jvm.Cond.methodLink "SugarKitchenLaw" (67 : Nat) ({ cls := "SugarKitchenModel", name := "why", desc := "(I)I" } : Jvm.MethodName)) : Cond) ∈ gT := gI5 160 (by decide +kernel) rfl
theorem mw_1121 : ((Jvm.Cond.instanceMethod ({ cls := "SugarKitchenModel", name := "why", desc := "(I)I" } : Jvm.MethodName)) : Cond) ∈ gT := gI5 161 (by decide +kernel) rfl
theorem mw_1122 : ((Jvm.Cond.selects "SugarKitchenModel" ({ cls := "SugarKitchenModel", name := "why", desc := "(I)I" } : Jvm.MethodName) ({ cls := "SugarKitchenModel", name := "why", desc := "(I)I" } : Jvm.MethodName)) : Cond) ∈ gT := gI5 162 (by decide +kernel) rfl
set_option maxRecDepth 100000 in
theorem mw_1123 : ((Jvm.Cond.code ({ cls := "SugarKitchenModel", name := "why", desc := "(I)I" } : Jvm.MethodName) prog_13_method_18_code (4 : Nat) (Option.some Jvm.ClassFile.FieldType.int)) : Cond) ∈ gT := gI5 163 rfl rfl
theorem mw_1124 : ((Jvm.Cond.methodLink "SugarKitchenLaw" (71 : Nat) ({ cls := "SugarKitchenModel", name := "batchOf", desc := "(II)I" } : Jvm.MethodName)) : Cond) ∈ gT := gI5 164 (by decide +kernel) rfl
theorem mw_1125 : ((Jvm.Cond.instanceMethod ({ cls := "SugarKitchenModel", name := "batchOf", desc := "(II)I" } : Jvm.MethodName)) : Cond) ∈ gT := gI5 165 (by decide +kernel) rfl
theorem mw_1126 : ((Jvm.Cond.selects "SugarKitchenModel" ({ cls := "SugarKitchenModel", name := "batchOf", desc := "(II)I" } : Jvm.MethodName) ({ cls := "SugarKitchenModel", name := "batchOf", desc := "(II)I" } : Jvm.MethodName)) : Cond) ∈ gT := gI5 166 (by decide +kernel) rfl
set_option maxRecDepth 100000 in
theorem mw_1127 : ((Jvm.Cond.code ({ cls := "SugarKitchenModel", name := "batchOf", desc := "(II)I" } : Jvm.MethodName) prog_13_method_20_code (3 : Nat) (Option.some Jvm.ClassFile.FieldType.int)) : Cond) ∈ gT := gI5 167 rfl rfl
theorem mw_1128 : ((Jvm.Cond.methodLink "SugarKitchenLaw" (76 : Nat) ({ cls := "SugarKitchenModel", name := "temper", desc := "(IIIIII)Z" } : Jvm.MethodName)) : Cond) ∈ gT := gI5 168 (by decide +kernel) rfl
theorem mw_1129 : ((Jvm.Cond.instanceMethod ({ cls := "SugarKitchenModel", name := "temper", desc := "(IIIIII)Z" } : Jvm.MethodName)) : Cond) ∈ gT := gI5 169 (by decide +kernel) rfl
theorem mw_1130 : ((Jvm.Cond.selects "SugarKitchenModel" ({ cls := "SugarKitchenModel", name := "temper", desc := "(IIIIII)Z" } : Jvm.MethodName) ({ cls := "SugarKitchenModel", name := "temper", desc := "(IIIIII)Z" } : Jvm.MethodName)) : Cond) ∈ gT := gI5 170 (by decide +kernel) rfl
set_option maxRecDepth 100000 in
theorem mw_1131 : ((Jvm.Cond.code ({ cls := "SugarKitchenModel", name := "temper", desc := "(IIIIII)Z" } : Jvm.MethodName) prog_13_method_21_code (8 : Nat) (Option.some Jvm.ClassFile.FieldType.boolean)) : Cond) ∈ gT := gI5 171 rfl rfl
theorem mw_1132 : ((Jvm.Cond.methodLink "SugarKitchenLaw" (80 : Nat) ({ cls := "SugarKitchenModel", name := "heat", desc := "(II)I" } : Jvm.MethodName)) : Cond) ∈ gT := gI5 172 (by decide +kernel) rfl
theorem mw_1133 : ((Jvm.Cond.instanceMethod ({ cls := "SugarKitchenModel", name := "heat", desc := "(II)I" } : Jvm.MethodName)) : Cond) ∈ gT := gI5 173 (by decide +kernel) rfl
theorem mw_1134 : ((Jvm.Cond.selects "SugarKitchenModel" ({ cls := "SugarKitchenModel", name := "heat", desc := "(II)I" } : Jvm.MethodName) ({ cls := "SugarKitchenModel", name := "heat", desc := "(II)I" } : Jvm.MethodName)) : Cond) ∈ gT := gI5 174 (by decide +kernel) rfl
set_option maxRecDepth 100000 in
theorem mw_1135 : ((Jvm.Cond.code ({ cls := "SugarKitchenModel", name := "heat", desc := "(II)I" } : Jvm.MethodName) prog_13_method_22_code (5 : Nat) (Option.some Jvm.ClassFile.FieldType.int)) : Cond) ∈ gT := gI5 175 rfl rfl
theorem mw_1136 : ((Jvm.Cond.methodLink "SugarKitchenLaw" (84 : Nat) ({ cls := "SugarKitchenModel", name := "cut", desc := "(III)I" } : Jvm.MethodName)) : Cond) ∈ gT := gI5 176 (by decide +kernel) rfl
theorem mw_1137 : ((Jvm.Cond.instanceMethod ({ cls := "SugarKitchenModel", name := "cut", desc := "(III)I" } : Jvm.MethodName)) : Cond) ∈ gT := gI5 177 (by decide +kernel) rfl
theorem mw_1138 : ((Jvm.Cond.selects "SugarKitchenModel" ({ cls := "SugarKitchenModel", name := "cut", desc := "(III)I" } : Jvm.MethodName) ({ cls := "SugarKitchenModel", name := "cut", desc := "(III)I" } : Jvm.MethodName)) : Cond) ∈ gT := gI5 178 (by decide +kernel) rfl
set_option maxRecDepth 100000 in
theorem mw_1139 : ((Jvm.Cond.code ({ cls := "SugarKitchenModel", name := "cut", desc := "(III)I" } : Jvm.MethodName) prog_13_method_23_code (5 : Nat) (Option.some Jvm.ClassFile.FieldType.int)) : Cond) ∈ gT := gI5 179 rfl rfl
theorem mw_1140 : ((Jvm.Cond.methodLink "SugarKitchenModel" (200 : Nat) ({ cls := "SugarKitchenModel", name := "isGood", desc := "(I)Z" } : Jvm.MethodName)) : Cond) ∈ gT := gI5 180 (by decide +kernel) rfl
theorem mw_1142 : ((Jvm.Cond.instanceMethod ({ cls := "SugarKitchenModel", name := "isGood", desc := "(I)Z" } : Jvm.MethodName)) : Cond) ∈ gT := gI5 182 (by decide +kernel) rfl
set_option maxRecDepth 100000 in
theorem mw_1143 : ((Jvm.Cond.code ({ cls := "SugarKitchenModel", name := "isGood", desc := "(I)Z" } : Jvm.MethodName) prog_13_method_19_code (2 : Nat) (Option.some Jvm.ClassFile.FieldType.boolean)) : Cond) ∈ gT := gI5 183 rfl rfl
theorem mw_1144 : ((Jvm.Cond.methodLink "SugarKitchenModel" (196 : Nat) ({ cls := "SugarKitchenModel", name := "why", desc := "(I)I" } : Jvm.MethodName)) : Cond) ∈ gT := gI5 184 (by decide +kernel) rfl
theorem mw_1145 : ((Jvm.Cond.methodLink "SugarKitchenLaw" (88 : Nat) ({ cls := "SugarKitchenModel", name := "dip", desc := "(III)I" } : Jvm.MethodName)) : Cond) ∈ gT := gI5 185 (by decide +kernel) rfl
theorem mw_1146 : ((Jvm.Cond.instanceMethod ({ cls := "SugarKitchenModel", name := "dip", desc := "(III)I" } : Jvm.MethodName)) : Cond) ∈ gT := gI5 186 (by decide +kernel) rfl
theorem mw_1147 : ((Jvm.Cond.selects "SugarKitchenModel" ({ cls := "SugarKitchenModel", name := "dip", desc := "(III)I" } : Jvm.MethodName) ({ cls := "SugarKitchenModel", name := "dip", desc := "(III)I" } : Jvm.MethodName)) : Cond) ∈ gT := gI5 187 (by decide +kernel) rfl
set_option maxRecDepth 100000 in
theorem mw_1148 : ((Jvm.Cond.code ({ cls := "SugarKitchenModel", name := "dip", desc := "(III)I" } : Jvm.MethodName) prog_13_method_25_code (4 : Nat) (Option.some Jvm.ClassFile.FieldType.int)) : Cond) ∈ gT := gI5 188 rfl rfl
theorem mw_1149 : ((Jvm.Cond.methodLink "SugarKitchenModel" (206 : Nat) ({ cls := "SugarKitchenModel", name := "isOut", desc := "(I)Z" } : Jvm.MethodName)) : Cond) ∈ gT := gI5 189 (by decide +kernel) rfl
theorem mw_1151 : ((Jvm.Cond.instanceMethod ({ cls := "SugarKitchenModel", name := "isOut", desc := "(I)Z" } : Jvm.MethodName)) : Cond) ∈ gT := gI5 191 (by decide +kernel) rfl
set_option maxRecDepth 100000 in
theorem mw_1152 : ((Jvm.Cond.code ({ cls := "SugarKitchenModel", name := "isOut", desc := "(I)Z" } : Jvm.MethodName) prog_13_method_24_code (2 : Nat) (Option.some Jvm.ClassFile.FieldType.boolean)) : Cond) ∈ gT := gI5 192 rfl rfl
theorem mw_1153 : ((Jvm.Cond.methodLink "SugarKitchenLaw" (92 : Nat) ({ cls := "SugarKitchenModel", name := "place", desc := "(III)Z" } : Jvm.MethodName)) : Cond) ∈ gT := gI5 193 (by decide +kernel) rfl
theorem mw_1154 : ((Jvm.Cond.instanceMethod ({ cls := "SugarKitchenModel", name := "place", desc := "(III)Z" } : Jvm.MethodName)) : Cond) ∈ gT := gI5 194 (by decide +kernel) rfl
theorem mw_1155 : ((Jvm.Cond.selects "SugarKitchenModel" ({ cls := "SugarKitchenModel", name := "place", desc := "(III)Z" } : Jvm.MethodName) ({ cls := "SugarKitchenModel", name := "place", desc := "(III)Z" } : Jvm.MethodName)) : Cond) ∈ gT := gI5 195 (by decide +kernel) rfl
set_option maxRecDepth 100000 in
theorem mw_1156 : ((Jvm.Cond.code ({ cls := "SugarKitchenModel", name := "place", desc := "(III)Z" } : Jvm.MethodName) prog_13_method_27_code (4 : Nat) (Option.some Jvm.ClassFile.FieldType.boolean)) : Cond) ∈ gT := gI5 196 rfl rfl
theorem mw_1157 : ((Jvm.Cond.methodLink "SugarKitchenModel" (209 : Nat) ({ cls := "SugarKitchenModel", name := "leave", desc := "(I)V" } : Jvm.MethodName)) : Cond) ∈ gT := gI5 197 (by decide +kernel) rfl
theorem mw_1159 : ((Jvm.Cond.instanceMethod ({ cls := "SugarKitchenModel", name := "leave", desc := "(I)V" } : Jvm.MethodName)) : Cond) ∈ gT := gI5 199 (by decide +kernel) rfl
set_option maxRecDepth 100000 in
theorem mw_1160 : ((Jvm.Cond.code ({ cls := "SugarKitchenModel", name := "leave", desc := "(I)V" } : Jvm.MethodName) prog_13_method_26_code (2 : Nat) (Option.none : Option Jvm.ClassFile.FieldType)) : Cond) ∈ gT := gI5 200 rfl rfl
theorem mw_1161 : ((Jvm.Cond.methodLink "SugarKitchenLaw" (96 : Nat) ({ cls := "SugarKitchenModel", name := "take", desc := "(I)Z" } : Jvm.MethodName)) : Cond) ∈ gT := gI5 201 (by decide +kernel) rfl
theorem mw_1162 : ((Jvm.Cond.instanceMethod ({ cls := "SugarKitchenModel", name := "take", desc := "(I)Z" } : Jvm.MethodName)) : Cond) ∈ gT := gI5 202 (by decide +kernel) rfl
theorem mw_1163 : ((Jvm.Cond.selects "SugarKitchenModel" ({ cls := "SugarKitchenModel", name := "take", desc := "(I)Z" } : Jvm.MethodName) ({ cls := "SugarKitchenModel", name := "take", desc := "(I)Z" } : Jvm.MethodName)) : Cond) ∈ gT := gI5 203 (by decide +kernel) rfl
set_option maxRecDepth 100000 in
theorem mw_1164 : ((Jvm.Cond.code ({ cls := "SugarKitchenModel", name := "take", desc := "(I)Z" } : Jvm.MethodName) prog_13_method_28_code (2 : Nat) (Option.some Jvm.ClassFile.FieldType.boolean)) : Cond) ∈ gT := gI5 204 rfl rfl
theorem mw_1165 : ((Jvm.Cond.methodLink "SugarKitchenLaw" (100 : Nat) ({ cls := "SugarKitchenModel", name := "allow", desc := "(I)Z" } : Jvm.MethodName)) : Cond) ∈ gT := gI5 205 (by decide +kernel) rfl
theorem mw_1166 : ((Jvm.Cond.instanceMethod ({ cls := "SugarKitchenModel", name := "allow", desc := "(I)Z" } : Jvm.MethodName)) : Cond) ∈ gT := gI5 206 (by decide +kernel) rfl
theorem mw_1167 : ((Jvm.Cond.selects "SugarKitchenModel" ({ cls := "SugarKitchenModel", name := "allow", desc := "(I)Z" } : Jvm.MethodName) ({ cls := "SugarKitchenModel", name := "allow", desc := "(I)Z" } : Jvm.MethodName)) : Cond) ∈ gT := gI5 207 (by decide +kernel) rfl
set_option maxRecDepth 100000 in
theorem mw_1168 : ((Jvm.Cond.code ({ cls := "SugarKitchenModel", name := "allow", desc := "(I)Z" } : Jvm.MethodName) prog_13_method_29_code (2 : Nat) (Option.some Jvm.ClassFile.FieldType.boolean)) : Cond) ∈ gT := gI5 208 rfl rfl
theorem mw_1169 : ((Jvm.Cond.methodLink "SugarKitchenLaw" (104 : Nat) ({ cls := "SugarKitchenModel", name := "pieceOf", desc := "(II)I" } : Jvm.MethodName)) : Cond) ∈ gT := gI5 209 (by decide +kernel) rfl
theorem mw_1170 : ((Jvm.Cond.instanceMethod ({ cls := "SugarKitchenModel", name := "pieceOf", desc := "(II)I" } : Jvm.MethodName)) : Cond) ∈ gT := gI5 210 (by decide +kernel) rfl
theorem mw_1171 : ((Jvm.Cond.selects "SugarKitchenModel" ({ cls := "SugarKitchenModel", name := "pieceOf", desc := "(II)I" } : Jvm.MethodName) ({ cls := "SugarKitchenModel", name := "pieceOf", desc := "(II)I" } : Jvm.MethodName)) : Cond) ∈ gT := gI5 211 (by decide +kernel) rfl
set_option maxRecDepth 100000 in
theorem mw_1172 : ((Jvm.Cond.code ({ cls := "SugarKitchenModel", name := "pieceOf", desc := "(II)I" } : Jvm.MethodName) prog_13_method_32_code (3 : Nat) (Option.some Jvm.ClassFile.FieldType.int)) : Cond) ∈ gT := gI5 212 rfl rfl
theorem mw_1173 : ((Jvm.Cond.methodLink "SugarKitchenModel" (213 : Nat) ({ cls := "SugarKitchenModel", name := "sort", desc := "(I)I" } : Jvm.MethodName)) : Cond) ∈ gT := gI5 213 (by decide +kernel) rfl
theorem mw_1175 : ((Jvm.Cond.instanceMethod ({ cls := "SugarKitchenModel", name := "sort", desc := "(I)I" } : Jvm.MethodName)) : Cond) ∈ gT := gI5 215 (by decide +kernel) rfl
set_option maxRecDepth 100000 in
theorem mw_1176 : ((Jvm.Cond.code ({ cls := "SugarKitchenModel", name := "sort", desc := "(I)I" } : Jvm.MethodName) prog_13_method_30_code (2 : Nat) (Option.some Jvm.ClassFile.FieldType.int)) : Cond) ∈ gT := gI5 216 rfl rfl
theorem mw_1177 : ((Jvm.Cond.methodLink "SugarKitchenModel" (216 : Nat) ({ cls := "SugarKitchenModel", name := "isFit", desc := "(I)Z" } : Jvm.MethodName)) : Cond) ∈ gT := gI5 217 (by decide +kernel) rfl
theorem mw_1179 : ((Jvm.Cond.instanceMethod ({ cls := "SugarKitchenModel", name := "isFit", desc := "(I)Z" } : Jvm.MethodName)) : Cond) ∈ gT := gI5 219 (by decide +kernel) rfl
set_option maxRecDepth 100000 in
theorem mw_1180 : ((Jvm.Cond.code ({ cls := "SugarKitchenModel", name := "isFit", desc := "(I)Z" } : Jvm.MethodName) prog_13_method_31_code (2 : Nat) (Option.some Jvm.ClassFile.FieldType.boolean)) : Cond) ∈ gT := gI5 220 rfl rfl
theorem mw_1181 : ((Jvm.Cond.methodLink "SugarKitchenLaw" (108 : Nat) ({ cls := "SugarKitchenModel", name := "at", desc := "(II)I" } : Jvm.MethodName)) : Cond) ∈ gT := gI5 221 (by decide +kernel) rfl
theorem mw_1182 : ((Jvm.Cond.instanceMethod ({ cls := "SugarKitchenModel", name := "at", desc := "(II)I" } : Jvm.MethodName)) : Cond) ∈ gT := gI5 222 (by decide +kernel) rfl
theorem mw_1183 : ((Jvm.Cond.selects "SugarKitchenModel" ({ cls := "SugarKitchenModel", name := "at", desc := "(II)I" } : Jvm.MethodName) ({ cls := "SugarKitchenModel", name := "at", desc := "(II)I" } : Jvm.MethodName)) : Cond) ∈ gT := gI5 223 (by decide +kernel) rfl
set_option maxRecDepth 100000 in
theorem mw_1184 : ((Jvm.Cond.code ({ cls := "SugarKitchenModel", name := "at", desc := "(II)I" } : Jvm.MethodName) prog_13_method_33_code (3 : Nat) (Option.some Jvm.ClassFile.FieldType.int)) : Cond) ∈ gT := gI5 224 rfl rfl
theorem mw_1185 : ((Jvm.Cond.methodLink "SugarKitchenLaw" (112 : Nat) ({ cls := "SugarKitchenModel", name := "pack", desc := "(III)I" } : Jvm.MethodName)) : Cond) ∈ gT := gI5 225 (by decide +kernel) rfl
theorem mw_1186 : ((Jvm.Cond.instanceMethod ({ cls := "SugarKitchenModel", name := "pack", desc := "(III)I" } : Jvm.MethodName)) : Cond) ∈ gT := gI5 226 (by decide +kernel) rfl
theorem mw_1187 : ((Jvm.Cond.selects "SugarKitchenModel" ({ cls := "SugarKitchenModel", name := "pack", desc := "(III)I" } : Jvm.MethodName) ({ cls := "SugarKitchenModel", name := "pack", desc := "(III)I" } : Jvm.MethodName)) : Cond) ∈ gT := gI5 227 (by decide +kernel) rfl
set_option maxRecDepth 100000 in
theorem mw_1188 : ((Jvm.Cond.code ({ cls := "SugarKitchenModel", name := "pack", desc := "(III)I" } : Jvm.MethodName) prog_13_method_40_code (7 : Nat) (Option.some Jvm.ClassFile.FieldType.int)) : Cond) ∈ gT := gI5 228 rfl rfl
theorem mw_1189 : ((Jvm.Cond.methodLink "SugarKitchenModel" (232 : Nat) ({ cls := "SugarKitchenModel", name := "areNumbers", desc := "(III)Z" } : Jvm.MethodName)) : Cond) ∈ gT := gI5 229 (by decide +kernel) rfl
theorem mw_1190 : ((Jvm.Cond.static ({ cls := "SugarKitchenModel", name := "areNumbers", desc := "(III)Z" } : Jvm.MethodName)) : Cond) ∈ gT := gI5 230 (by decide +kernel) rfl
set_option maxRecDepth 100000 in
theorem mw_1191 : ((Jvm.Cond.code ({ cls := "SugarKitchenModel", name := "areNumbers", desc := "(III)Z" } : Jvm.MethodName) prog_13_method_39_code (3 : Nat) (Option.some Jvm.ClassFile.FieldType.boolean)) : Cond) ∈ gT := gI5 231 rfl rfl
theorem mw_1192 : ((Jvm.Cond.methodLink "SugarKitchenModel" (238 : Nat) ({ cls := "SugarKitchenModel", name := "list", desc := "(I)V" } : Jvm.MethodName)) : Cond) ∈ gT := gI5 232 (by decide +kernel) rfl
theorem mw_1194 : ((Jvm.Cond.instanceMethod ({ cls := "SugarKitchenModel", name := "list", desc := "(I)V" } : Jvm.MethodName)) : Cond) ∈ gT := gI5 234 (by decide +kernel) rfl
set_option maxRecDepth 100000 in
theorem mw_1195 : ((Jvm.Cond.code ({ cls := "SugarKitchenModel", name := "list", desc := "(I)V" } : Jvm.MethodName) prog_13_method_34_code (4 : Nat) (Option.none : Option Jvm.ClassFile.FieldType)) : Cond) ∈ gT := gI5 235 rfl rfl
theorem mw_1196 : ((Jvm.Cond.methodLink "SugarKitchenModel" (241 : Nat) ({ cls := "SugarKitchenModel", name := "gather", desc := "()V" } : Jvm.MethodName)) : Cond) ∈ gT := gI5 236 (by decide +kernel) rfl
theorem mw_1198 : ((Jvm.Cond.instanceMethod ({ cls := "SugarKitchenModel", name := "gather", desc := "()V" } : Jvm.MethodName)) : Cond) ∈ gT := gI5 238 (by decide +kernel) rfl
set_option maxRecDepth 100000 in
theorem mw_1199 : ((Jvm.Cond.code ({ cls := "SugarKitchenModel", name := "gather", desc := "()V" } : Jvm.MethodName) prog_13_method_35_code (2 : Nat) (Option.none : Option Jvm.ClassFile.FieldType)) : Cond) ∈ gT := gI5 239 rfl rfl
theorem mw_1200 : ((Jvm.Cond.methodLink "SugarKitchenModel" (244 : Nat) ({ cls := "SugarKitchenModel", name := "leastSum", desc := "(II)I" } : Jvm.MethodName)) : Cond) ∈ gT := gI6 0 (by decide +kernel) rfl
theorem mw_1202 : ((Jvm.Cond.instanceMethod ({ cls := "SugarKitchenModel", name := "leastSum", desc := "(II)I" } : Jvm.MethodName)) : Cond) ∈ gT := gI6 2 (by decide +kernel) rfl
set_option maxRecDepth 100000 in
theorem mw_1203 : ((Jvm.Cond.code ({ cls := "SugarKitchenModel", name := "leastSum", desc := "(II)I" } : Jvm.MethodName) prog_13_method_36_code (8 : Nat) (Option.some Jvm.ClassFile.FieldType.int)) : Cond) ∈ gT := gI6 3 rfl rfl
theorem mw_1204 : ((Jvm.Cond.methodLink "SugarKitchenModel" (228 : Nat) ({ cls := "SugarKitchenModel", name := "reaches8500", desc := "()Z" } : Jvm.MethodName)) : Cond) ∈ gT := gI6 4 (by decide +kernel) rfl
theorem mw_1206 : ((Jvm.Cond.instanceMethod ({ cls := "SugarKitchenModel", name := "reaches8500", desc := "()Z" } : Jvm.MethodName)) : Cond) ∈ gT := gI6 6 (by decide +kernel) rfl
set_option maxRecDepth 100000 in
theorem mw_1207 : ((Jvm.Cond.code ({ cls := "SugarKitchenModel", name := "reaches8500", desc := "()Z" } : Jvm.MethodName) prog_13_method_37_code (3 : Nat) (Option.some Jvm.ClassFile.FieldType.boolean)) : Cond) ∈ gT := gI6 7 rfl rfl
theorem mw_1208 : ((Jvm.Cond.methodLink "SugarKitchenModel" (247 : Nat) ({ cls := "SugarKitchenModel", name := "choose", desc := "(I)I" } : Jvm.MethodName)) : Cond) ∈ gT := gI6 8 (by decide +kernel) rfl
theorem mw_1210 : ((Jvm.Cond.instanceMethod ({ cls := "SugarKitchenModel", name := "choose", desc := "(I)I" } : Jvm.MethodName)) : Cond) ∈ gT := gI6 10 (by decide +kernel) rfl
set_option maxRecDepth 100000 in
theorem mw_1211 : ((Jvm.Cond.code ({ cls := "SugarKitchenModel", name := "choose", desc := "(I)I" } : Jvm.MethodName) prog_13_method_38_code (6 : Nat) (Option.some Jvm.ClassFile.FieldType.int)) : Cond) ∈ gT := gI6 11 rfl rfl
theorem mw_1212 : ((Jvm.Cond.methodLink "SugarKitchenLaw" (117 : Nat) ({ cls := "SugarKitchenModel", name := "would", desc := "(IIII)I" } : Jvm.MethodName)) : Cond) ∈ gT := gI6 12 (by decide +kernel) rfl
theorem mw_1213 : ((Jvm.Cond.instanceMethod ({ cls := "SugarKitchenModel", name := "would", desc := "(IIII)I" } : Jvm.MethodName)) : Cond) ∈ gT := gI6 13 (by decide +kernel) rfl
theorem mw_1214 : ((Jvm.Cond.selects "SugarKitchenModel" ({ cls := "SugarKitchenModel", name := "would", desc := "(IIII)I" } : Jvm.MethodName) ({ cls := "SugarKitchenModel", name := "would", desc := "(IIII)I" } : Jvm.MethodName)) : Cond) ∈ gT := gI6 14 (by decide +kernel) rfl
set_option maxRecDepth 100000 in
theorem mw_1215 : ((Jvm.Cond.code ({ cls := "SugarKitchenModel", name := "would", desc := "(IIII)I" } : Jvm.MethodName) prog_13_method_43_code (6 : Nat) (Option.some Jvm.ClassFile.FieldType.int)) : Cond) ∈ gT := gI6 15 rfl rfl
theorem mw_1216 : ((Jvm.Cond.methodLink "SugarKitchenModel" (250 : Nat) ({ cls := "SugarKitchenModel", name := "most", desc := "(II)I" } : Jvm.MethodName)) : Cond) ∈ gT := gI6 16 (by decide +kernel) rfl
theorem mw_1218 : ((Jvm.Cond.instanceMethod ({ cls := "SugarKitchenModel", name := "most", desc := "(II)I" } : Jvm.MethodName)) : Cond) ∈ gT := gI6 18 (by decide +kernel) rfl
set_option maxRecDepth 100000 in
theorem mw_1219 : ((Jvm.Cond.code ({ cls := "SugarKitchenModel", name := "most", desc := "(II)I" } : Jvm.MethodName) prog_13_method_42_code (9 : Nat) (Option.some Jvm.ClassFile.FieldType.int)) : Cond) ∈ gT := gI6 19 rfl rfl
theorem mw_1220 : ((Jvm.Cond.methodLink "SugarKitchenModel" (253 : Nat) ({ cls := "SugarKitchenModel", name := "full", desc := "(II)I" } : Jvm.MethodName)) : Cond) ∈ gT := gI6 20 (by decide +kernel) rfl
theorem mw_1222 : ((Jvm.Cond.instanceMethod ({ cls := "SugarKitchenModel", name := "full", desc := "(II)I" } : Jvm.MethodName)) : Cond) ∈ gT := gI6 22 (by decide +kernel) rfl
set_option maxRecDepth 100000 in
theorem mw_1223 : ((Jvm.Cond.code ({ cls := "SugarKitchenModel", name := "full", desc := "(II)I" } : Jvm.MethodName) prog_13_method_41_code (7 : Nat) (Option.some Jvm.ClassFile.FieldType.int)) : Cond) ∈ gT := gI6 23 rfl rfl
theorem mw_1224 : ((Jvm.Cond.methodLink "SugarKitchenLaw" (121 : Nat) ({ cls := "SugarKitchenModel", name := "boxOf", desc := "(II)I" } : Jvm.MethodName)) : Cond) ∈ gT := gI6 24 (by decide +kernel) rfl
theorem mw_1225 : ((Jvm.Cond.instanceMethod ({ cls := "SugarKitchenModel", name := "boxOf", desc := "(II)I" } : Jvm.MethodName)) : Cond) ∈ gT := gI6 25 (by decide +kernel) rfl
theorem mw_1226 : ((Jvm.Cond.selects "SugarKitchenModel" ({ cls := "SugarKitchenModel", name := "boxOf", desc := "(II)I" } : Jvm.MethodName) ({ cls := "SugarKitchenModel", name := "boxOf", desc := "(II)I" } : Jvm.MethodName)) : Cond) ∈ gT := gI6 26 (by decide +kernel) rfl
set_option maxRecDepth 100000 in
theorem mw_1227 : ((Jvm.Cond.code ({ cls := "SugarKitchenModel", name := "boxOf", desc := "(II)I" } : Jvm.MethodName) prog_13_method_50_code (8 : Nat) (Option.some Jvm.ClassFile.FieldType.int)) : Cond) ∈ gT := gI6 27 rfl rfl
theorem mw_1228 : ((Jvm.Cond.methodLink "SugarKitchenModel" (259 : Nat) ({ cls := "SugarKitchenModel", name := "isInBox", desc := "(II)Z" } : Jvm.MethodName)) : Cond) ∈ gT := gI6 28 (by decide +kernel) rfl
theorem mw_1230 : ((Jvm.Cond.instanceMethod ({ cls := "SugarKitchenModel", name := "isInBox", desc := "(II)Z" } : Jvm.MethodName)) : Cond) ∈ gT := gI6 30 (by decide +kernel) rfl
set_option maxRecDepth 100000 in
theorem mw_1231 : ((Jvm.Cond.code ({ cls := "SugarKitchenModel", name := "isInBox", desc := "(II)Z" } : Jvm.MethodName) prog_13_method_44_code (3 : Nat) (Option.some Jvm.ClassFile.FieldType.boolean)) : Cond) ∈ gT := gI6 31 rfl rfl
theorem mw_1232 : ((Jvm.Cond.methodLink "SugarKitchenModel" (265 : Nat) ({ cls := "SugarKitchenModel", name := "boxHas", desc := "(II)Z" } : Jvm.MethodName)) : Cond) ∈ gT := gI6 32 (by decide +kernel) rfl
theorem mw_1234 : ((Jvm.Cond.instanceMethod ({ cls := "SugarKitchenModel", name := "boxHas", desc := "(II)Z" } : Jvm.MethodName)) : Cond) ∈ gT := gI6 34 (by decide +kernel) rfl
set_option maxRecDepth 100000 in
theorem mw_1235 : ((Jvm.Cond.code ({ cls := "SugarKitchenModel", name := "boxHas", desc := "(II)Z" } : Jvm.MethodName) prog_13_method_47_code (4 : Nat) (Option.some Jvm.ClassFile.FieldType.boolean)) : Cond) ∈ gT := gI6 35 rfl rfl
theorem mw_1236 : ((Jvm.Cond.methodLink "SugarKitchenModel" (262 : Nat) ({ cls := "SugarKitchenModel", name := "pieceHas", desc := "(II)Z" } : Jvm.MethodName)) : Cond) ∈ gT := gI6 36 (by decide +kernel) rfl
theorem mw_1238 : ((Jvm.Cond.instanceMethod ({ cls := "SugarKitchenModel", name := "pieceHas", desc := "(II)Z" } : Jvm.MethodName)) : Cond) ∈ gT := gI6 38 (by decide +kernel) rfl
set_option maxRecDepth 100000 in
theorem mw_1239 : ((Jvm.Cond.code ({ cls := "SugarKitchenModel", name := "pieceHas", desc := "(II)Z" } : Jvm.MethodName) prog_13_method_46_code (3 : Nat) (Option.some Jvm.ClassFile.FieldType.boolean)) : Cond) ∈ gT := gI6 39 rfl rfl
theorem mw_1240 : ((Jvm.Cond.methodLink "SugarKitchenModel" (256 : Nat) ({ cls := "SugarKitchenModel", name := "hasLot", desc := "(II)Z" } : Jvm.MethodName)) : Cond) ∈ gT := gI6 40 (by decide +kernel) rfl
theorem mw_1242 : ((Jvm.Cond.instanceMethod ({ cls := "SugarKitchenModel", name := "hasLot", desc := "(II)Z" } : Jvm.MethodName)) : Cond) ∈ gT := gI6 42 (by decide +kernel) rfl
set_option maxRecDepth 100000 in
theorem mw_1243 : ((Jvm.Cond.code ({ cls := "SugarKitchenModel", name := "hasLot", desc := "(II)Z" } : Jvm.MethodName) prog_13_method_45_code (3 : Nat) (Option.some Jvm.ClassFile.FieldType.boolean)) : Cond) ∈ gT := gI6 43 rfl rfl
theorem mw_1244 : ((Jvm.Cond.methodLink "SugarKitchenModel" (268 : Nat) ({ cls := "SugarKitchenModel", name := "lotInBox", desc := "(II)I" } : Jvm.MethodName)) : Cond) ∈ gT := gI6 44 (by decide +kernel) rfl
theorem mw_1246 : ((Jvm.Cond.instanceMethod ({ cls := "SugarKitchenModel", name := "lotInBox", desc := "(II)I" } : Jvm.MethodName)) : Cond) ∈ gT := gI6 46 (by decide +kernel) rfl
set_option maxRecDepth 100000 in
theorem mw_1247 : ((Jvm.Cond.code ({ cls := "SugarKitchenModel", name := "lotInBox", desc := "(II)I" } : Jvm.MethodName) prog_13_method_49_code (5 : Nat) (Option.some Jvm.ClassFile.FieldType.int)) : Cond) ∈ gT := gI6 47 rfl rfl
theorem mw_1248 : ((Jvm.Cond.methodLink "SugarKitchenModel" (271 : Nat) ({ cls := "SugarKitchenModel", name := "pieceInBox", desc := "(II)I" } : Jvm.MethodName)) : Cond) ∈ gT := gI6 48 (by decide +kernel) rfl
theorem mw_1250 : ((Jvm.Cond.instanceMethod ({ cls := "SugarKitchenModel", name := "pieceInBox", desc := "(II)I" } : Jvm.MethodName)) : Cond) ∈ gT := gI6 50 (by decide +kernel) rfl
set_option maxRecDepth 100000 in
theorem mw_1251 : ((Jvm.Cond.code ({ cls := "SugarKitchenModel", name := "pieceInBox", desc := "(II)I" } : Jvm.MethodName) prog_13_method_48_code (5 : Nat) (Option.some Jvm.ClassFile.FieldType.int)) : Cond) ∈ gT := gI6 51 rfl rfl
theorem mw_1252 : ((Jvm.Cond.methodLink "SugarKitchenLaw" (125 : Nat) ({ cls := "SugarKitchenModel", name := "wash", desc := "(III)Z" } : Jvm.MethodName)) : Cond) ∈ gT := gI6 52 (by decide +kernel) rfl
theorem mw_1253 : ((Jvm.Cond.instanceMethod ({ cls := "SugarKitchenModel", name := "wash", desc := "(III)Z" } : Jvm.MethodName)) : Cond) ∈ gT := gI6 53 (by decide +kernel) rfl
theorem mw_1254 : ((Jvm.Cond.selects "SugarKitchenModel" ({ cls := "SugarKitchenModel", name := "wash", desc := "(III)Z" } : Jvm.MethodName) ({ cls := "SugarKitchenModel", name := "wash", desc := "(III)Z" } : Jvm.MethodName)) : Cond) ∈ gT := gI6 54 (by decide +kernel) rfl
set_option maxRecDepth 100000 in
theorem mw_1255 : ((Jvm.Cond.code ({ cls := "SugarKitchenModel", name := "wash", desc := "(III)Z" } : Jvm.MethodName) prog_13_method_51_code (4 : Nat) (Option.some Jvm.ClassFile.FieldType.boolean)) : Cond) ∈ gT := gI6 55 rfl rfl
theorem mw_1256 : ((Jvm.Cond.methodLink "SugarKitchenLaw" (129 : Nat) ({ cls := "SugarKitchenModel", name := "queue", desc := "(I)I" } : Jvm.MethodName)) : Cond) ∈ gT := gI6 56 (by decide +kernel) rfl
theorem mw_1257 : ((Jvm.Cond.instanceMethod ({ cls := "SugarKitchenModel", name := "queue", desc := "(I)I" } : Jvm.MethodName)) : Cond) ∈ gT := gI6 57 (by decide +kernel) rfl
theorem mw_1258 : ((Jvm.Cond.selects "SugarKitchenModel" ({ cls := "SugarKitchenModel", name := "queue", desc := "(I)I" } : Jvm.MethodName) ({ cls := "SugarKitchenModel", name := "queue", desc := "(I)I" } : Jvm.MethodName)) : Cond) ∈ gT := gI6 58 (by decide +kernel) rfl
set_option maxRecDepth 100000 in
theorem mw_1259 : ((Jvm.Cond.code ({ cls := "SugarKitchenModel", name := "queue", desc := "(I)I" } : Jvm.MethodName) prog_13_method_52_code (3 : Nat) (Option.some Jvm.ClassFile.FieldType.int)) : Cond) ∈ gT := gI6 59 rfl rfl
theorem mw_1260 : ((Jvm.Cond.methodLink "SugarKitchenLaw" (134 : Nat) ({ cls := "SugarKitchenModel", name := "order", desc := "(ZI)I" } : Jvm.MethodName)) : Cond) ∈ gT := gI6 60 (by decide +kernel) rfl
theorem mw_1261 : ((Jvm.Cond.instanceMethod ({ cls := "SugarKitchenModel", name := "order", desc := "(ZI)I" } : Jvm.MethodName)) : Cond) ∈ gT := gI6 61 (by decide +kernel) rfl
theorem mw_1262 : ((Jvm.Cond.selects "SugarKitchenModel" ({ cls := "SugarKitchenModel", name := "order", desc := "(ZI)I" } : Jvm.MethodName) ({ cls := "SugarKitchenModel", name := "order", desc := "(ZI)I" } : Jvm.MethodName)) : Cond) ∈ gT := gI6 62 (by decide +kernel) rfl
set_option maxRecDepth 100000 in
theorem mw_1263 : ((Jvm.Cond.code ({ cls := "SugarKitchenModel", name := "order", desc := "(ZI)I" } : Jvm.MethodName) prog_13_method_58_code (11 : Nat) (Option.some Jvm.ClassFile.FieldType.int)) : Cond) ∈ gT := gI6 63 rfl rfl
theorem mw_1264 : ((Jvm.Cond.methodLink "SugarKitchenModel" (291 : Nat) ({ cls := "SugarKitchenModel", name := "reckon", desc := "(Z)V" } : Jvm.MethodName)) : Cond) ∈ gT := gI6 64 (by decide +kernel) rfl
theorem mw_1266 : ((Jvm.Cond.instanceMethod ({ cls := "SugarKitchenModel", name := "reckon", desc := "(Z)V" } : Jvm.MethodName)) : Cond) ∈ gT := gI6 66 (by decide +kernel) rfl
set_option maxRecDepth 100000 in
theorem mw_1267 : ((Jvm.Cond.code ({ cls := "SugarKitchenModel", name := "reckon", desc := "(Z)V" } : Jvm.MethodName) prog_13_method_57_code (8 : Nat) (Option.none : Option Jvm.ClassFile.FieldType)) : Cond) ∈ gT := gI6 67 rfl rfl
theorem mw_1268 : ((Jvm.Cond.constant "SugarKitchenModel" (280 : Nat) (100000000 : Int32)) : Cond) ∈ gT := gI6 68 (by decide +kernel) rfl
theorem mw_1269 : ((Jvm.Cond.methodLink "SugarKitchenModel" (281 : Nat) ({ cls := "SugarKitchenModel", name := "mayCome", desc := "(IIZ)Z" } : Jvm.MethodName)) : Cond) ∈ gT := gI6 69 (by decide +kernel) rfl
theorem mw_1271 : ((Jvm.Cond.instanceMethod ({ cls := "SugarKitchenModel", name := "mayCome", desc := "(IIZ)Z" } : Jvm.MethodName)) : Cond) ∈ gT := gI6 71 (by decide +kernel) rfl
set_option maxRecDepth 100000 in
theorem mw_1272 : ((Jvm.Cond.code ({ cls := "SugarKitchenModel", name := "mayCome", desc := "(IIZ)Z" } : Jvm.MethodName) prog_13_method_54_code (5 : Nat) (Option.some Jvm.ClassFile.FieldType.boolean)) : Cond) ∈ gT := gI6 72 rfl rfl
theorem mw_1273 : ((Jvm.Cond.methodLink "SugarKitchenModel" (277 : Nat) ({ cls := "SugarKitchenModel", name := "isNut", desc := "(I)Z" } : Jvm.MethodName)) : Cond) ∈ gT := gI6 73 (by decide +kernel) rfl
theorem mw_1275 : ((Jvm.Cond.instanceMethod ({ cls := "SugarKitchenModel", name := "isNut", desc := "(I)Z" } : Jvm.MethodName)) : Cond) ∈ gT := gI6 75 (by decide +kernel) rfl
set_option maxRecDepth 100000 in
theorem mw_1276 : ((Jvm.Cond.code ({ cls := "SugarKitchenModel", name := "isNut", desc := "(I)Z" } : Jvm.MethodName) prog_13_method_53_code (2 : Nat) (Option.some Jvm.ClassFile.FieldType.boolean)) : Cond) ∈ gT := gI6 76 rfl rfl
theorem mw_1277 : ((Jvm.Cond.methodLink "SugarKitchenModel" (285 : Nat) ({ cls := "SugarKitchenModel", name := "minutes", desc := "(II)I" } : Jvm.MethodName)) : Cond) ∈ gT := gI6 77 (by decide +kernel) rfl
theorem mw_1279 : ((Jvm.Cond.instanceMethod ({ cls := "SugarKitchenModel", name := "minutes", desc := "(II)I" } : Jvm.MethodName)) : Cond) ∈ gT := gI6 79 (by decide +kernel) rfl
set_option maxRecDepth 100000 in
theorem mw_1280 : ((Jvm.Cond.code ({ cls := "SugarKitchenModel", name := "minutes", desc := "(II)I" } : Jvm.MethodName) prog_13_method_55_code (3 : Nat) (Option.some Jvm.ClassFile.FieldType.int)) : Cond) ∈ gT := gI6 80 rfl rfl
theorem mw_1281 : ((Jvm.Cond.methodLink "SugarKitchenModel" (288 : Nat) ({ cls := "SugarKitchenModel", name := "restOf", desc := "(II)I" } : Jvm.MethodName)) : Cond) ∈ gT := gI6 81 (by decide +kernel) rfl
theorem mw_1283 : ((Jvm.Cond.instanceMethod ({ cls := "SugarKitchenModel", name := "restOf", desc := "(II)I" } : Jvm.MethodName)) : Cond) ∈ gT := gI6 83 (by decide +kernel) rfl
set_option maxRecDepth 100000 in
theorem mw_1284 : ((Jvm.Cond.code ({ cls := "SugarKitchenModel", name := "restOf", desc := "(II)I" } : Jvm.MethodName) prog_13_method_56_code (3 : Nat) (Option.some Jvm.ClassFile.FieldType.int)) : Cond) ∈ gT := gI6 84 rfl rfl
theorem mw_1285 : ((Jvm.Cond.methodLink "SugarKitchenLaw" (138 : Nat) ({ cls := "SugarKitchenModel", name := "recall", desc := "(III)I" } : Jvm.MethodName)) : Cond) ∈ gT := gI6 85 (by decide +kernel) rfl
theorem mw_1286 : ((Jvm.Cond.instanceMethod ({ cls := "SugarKitchenModel", name := "recall", desc := "(III)I" } : Jvm.MethodName)) : Cond) ∈ gT := gI6 86 (by decide +kernel) rfl
theorem mw_1287 : ((Jvm.Cond.selects "SugarKitchenModel" ({ cls := "SugarKitchenModel", name := "recall", desc := "(III)I" } : Jvm.MethodName) ({ cls := "SugarKitchenModel", name := "recall", desc := "(III)I" } : Jvm.MethodName)) : Cond) ∈ gT := gI6 87 (by decide +kernel) rfl
set_option maxRecDepth 100000 in
theorem mw_1288 : ((Jvm.Cond.code ({ cls := "SugarKitchenModel", name := "recall", desc := "(III)I" } : Jvm.MethodName) prog_13_method_60_code (7 : Nat) (Option.some Jvm.ClassFile.FieldType.int)) : Cond) ∈ gT := gI6 88 rfl rfl
theorem mw_1289 : ((Jvm.Cond.methodLink "SugarKitchenModel" (295 : Nat) ({ cls := "SugarKitchenModel", name := "hasSome", desc := "(III)Z" } : Jvm.MethodName)) : Cond) ∈ gT := gI6 89 (by decide +kernel) rfl
theorem mw_1291 : ((Jvm.Cond.instanceMethod ({ cls := "SugarKitchenModel", name := "hasSome", desc := "(III)Z" } : Jvm.MethodName)) : Cond) ∈ gT := gI6 91 (by decide +kernel) rfl
set_option maxRecDepth 100000 in
theorem mw_1292 : ((Jvm.Cond.code ({ cls := "SugarKitchenModel", name := "hasSome", desc := "(III)Z" } : Jvm.MethodName) prog_13_method_59_code (4 : Nat) (Option.some Jvm.ClassFile.FieldType.boolean)) : Cond) ∈ gT := gI6 92 rfl rfl
theorem mw_1293 : ((Jvm.Cond.methodLink "SugarKitchenLaw" (142 : Nat) ({ cls := "SugarKitchenModel", name := "about", desc := "(I)I" } : Jvm.MethodName)) : Cond) ∈ gT := gI6 93 (by decide +kernel) rfl
theorem mw_1294 : ((Jvm.Cond.instanceMethod ({ cls := "SugarKitchenModel", name := "about", desc := "(I)I" } : Jvm.MethodName)) : Cond) ∈ gT := gI6 94 (by decide +kernel) rfl
theorem mw_1295 : ((Jvm.Cond.selects "SugarKitchenModel" ({ cls := "SugarKitchenModel", name := "about", desc := "(I)I" } : Jvm.MethodName) ({ cls := "SugarKitchenModel", name := "about", desc := "(I)I" } : Jvm.MethodName)) : Cond) ∈ gT := gI6 95 (by decide +kernel) rfl
set_option maxRecDepth 100000 in
theorem mw_1296 : ((Jvm.Cond.code ({ cls := "SugarKitchenModel", name := "about", desc := "(I)I" } : Jvm.MethodName) prog_13_method_61_code (4 : Nat) (Option.some Jvm.ClassFile.FieldType.int)) : Cond) ∈ gT := gI6 96 rfl rfl
theorem mw_1297 : ((Jvm.Cond.methodLink "SugarKitchenLaw" (146 : Nat) ({ cls := "SugarKitchenModel", name := "left", desc := "(I)I" } : Jvm.MethodName)) : Cond) ∈ gT := gI6 97 (by decide +kernel) rfl
theorem mw_1298 : ((Jvm.Cond.instanceMethod ({ cls := "SugarKitchenModel", name := "left", desc := "(I)I" } : Jvm.MethodName)) : Cond) ∈ gT := gI6 98 (by decide +kernel) rfl
theorem mw_1299 : ((Jvm.Cond.selects "SugarKitchenModel" ({ cls := "SugarKitchenModel", name := "left", desc := "(I)I" } : Jvm.MethodName) ({ cls := "SugarKitchenModel", name := "left", desc := "(I)I" } : Jvm.MethodName)) : Cond) ∈ gT := gI6 99 (by decide +kernel) rfl
set_option maxRecDepth 100000 in
theorem mw_1300 : ((Jvm.Cond.code ({ cls := "SugarKitchenModel", name := "left", desc := "(I)I" } : Jvm.MethodName) prog_13_method_62_code (2 : Nat) (Option.some Jvm.ClassFile.FieldType.int)) : Cond) ∈ gT := gI6 100 rfl rfl
theorem mp_0 : (Jvm.Cond.selects "SugarKitchen" ({ cls := "SugarKitchen", name := "findRaw", desc := "(I)LSugarKitchen$Batch;" } : Jvm.MethodName) ({ cls := "SugarKitchen", name := "findRaw", desc := "(I)LSugarKitchen$Batch;" } : Jvm.MethodName) : Cond) ∈ gT := gP 0 (by decide +kernel) rfl
theorem mp_1 : (Jvm.Cond.selects "SugarKitchen" ({ cls := "SugarKitchen", name := "findBatch", desc := "(I)LSugarKitchen$Batch;" } : Jvm.MethodName) ({ cls := "SugarKitchen", name := "findBatch", desc := "(I)LSugarKitchen$Batch;" } : Jvm.MethodName) : Cond) ∈ gT := gP 1 (by decide +kernel) rfl
theorem mp_2 : (Jvm.Cond.selects "SugarKitchen" ({ cls := "SugarKitchen", name := "findLot", desc := "(I)LSugarKitchen$Lot;" } : Jvm.MethodName) ({ cls := "SugarKitchen", name := "findLot", desc := "(I)LSugarKitchen$Lot;" } : Jvm.MethodName) : Cond) ∈ gT := gP 2 (by decide +kernel) rfl
theorem mp_3 : (Jvm.Cond.selects "SugarKitchen$Batch" ({ cls := "SugarKitchen$Batch", name := "findTop", desc := "(I)I" } : Jvm.MethodName) ({ cls := "SugarKitchen$Batch", name := "findTop", desc := "(I)I" } : Jvm.MethodName) : Cond) ∈ gT := gP 3 (by decide +kernel) rfl
theorem mp_4 : (Jvm.Cond.selects "SugarKitchen$Batch" ({ cls := "SugarKitchen$Batch", name := "findGrained", desc := "(IILSugarKitchen$Rules;)I" } : Jvm.MethodName) ({ cls := "SugarKitchen$Batch", name := "findGrained", desc := "(IILSugarKitchen$Rules;)I" } : Jvm.MethodName) : Cond) ∈ gT := gP 4 (by decide +kernel) rfl
theorem mp_5 : (Jvm.Cond.selects "SugarKitchen" ({ cls := "SugarKitchen", name := "restartCoats", desc := "()V" } : Jvm.MethodName) ({ cls := "SugarKitchen", name := "restartCoats", desc := "()V" } : Jvm.MethodName) : Cond) ∈ gT := gP 5 (by decide +kernel) rfl
theorem mp_6 : (Jvm.Cond.selects "SugarKitchen$Tempering" ({ cls := "SugarKitchen$Tempering", name := "isSpoilt", desc := "(II)Z" } : Jvm.MethodName) ({ cls := "SugarKitchen$Tempering", name := "isSpoilt", desc := "(II)Z" } : Jvm.MethodName) : Cond) ∈ gT := gP 6 (by decide +kernel) rfl
theorem mp_7 : (Jvm.Cond.selects "SugarKitchen$Tempering" ({ cls := "SugarKitchen$Tempering", name := "counts", desc := "(II)Z" } : Jvm.MethodName) ({ cls := "SugarKitchen$Tempering", name := "counts", desc := "(II)Z" } : Jvm.MethodName) : Cond) ∈ gT := gP 7 (by decide +kernel) rfl
theorem mp_8 : (Jvm.Cond.selects "SugarKitchen" ({ cls := "SugarKitchen", name := "findGood", desc := "(I)LSugarKitchen$Batch;" } : Jvm.MethodName) ({ cls := "SugarKitchen", name := "findGood", desc := "(I)LSugarKitchen$Batch;" } : Jvm.MethodName) : Cond) ∈ gT := gP 8 (by decide +kernel) rfl
theorem mp_9 : (Jvm.Cond.selects "SugarKitchen" ({ cls := "SugarKitchen", name := "findUnboxed", desc := "(I)LSugarKitchen$Piece;" } : Jvm.MethodName) ({ cls := "SugarKitchen", name := "findUnboxed", desc := "(I)LSugarKitchen$Piece;" } : Jvm.MethodName) : Cond) ∈ gT := gP 9 (by decide +kernel) rfl
theorem mp_10 : (Jvm.Cond.selects "SugarKitchen" ({ cls := "SugarKitchen", name := "findPiece", desc := "(I)LSugarKitchen$Piece;" } : Jvm.MethodName) ({ cls := "SugarKitchen", name := "findPiece", desc := "(I)LSugarKitchen$Piece;" } : Jvm.MethodName) : Cond) ∈ gT := gP 10 (by decide +kernel) rfl
theorem mp_11 : (Jvm.Cond.selects "SugarKitchen" ({ cls := "SugarKitchen", name := "liftFromTray", desc := "(LSugarKitchen$Piece;)V" } : Jvm.MethodName) ({ cls := "SugarKitchen", name := "liftFromTray", desc := "(LSugarKitchen$Piece;)V" } : Jvm.MethodName) : Cond) ∈ gT := gP 11 (by decide +kernel) rfl
theorem mp_12 : (Jvm.Cond.selects "SugarKitchen" ({ cls := "SugarKitchen", name := "gather", desc := "([II)V" } : Jvm.MethodName) ({ cls := "SugarKitchen", name := "gather", desc := "([II)V" } : Jvm.MethodName) : Cond) ∈ gT := gP 12 (by decide +kernel) rfl
theorem mp_13 : (Jvm.Cond.selects "SugarKitchen$Choice" ({ cls := "SugarKitchen$Choice", name := "total", desc := "()I" } : Jvm.MethodName) ({ cls := "SugarKitchen$Choice", name := "total", desc := "()I" } : Jvm.MethodName) : Cond) ∈ gT := gP 13 (by decide +kernel) rfl
theorem mp_14 : (Jvm.Cond.selects "SugarKitchen$Choice" ({ cls := "SugarKitchen$Choice", name := "sumUp", desc := "(I)V" } : Jvm.MethodName) ({ cls := "SugarKitchen$Choice", name := "sumUp", desc := "(I)V" } : Jvm.MethodName) : Cond) ∈ gT := gP 14 (by decide +kernel) rfl
theorem mp_15 : (Jvm.Cond.selects "SugarKitchen$Choice" ({ cls := "SugarKitchen$Choice", name := "addPiece", desc := "(II)V" } : Jvm.MethodName) ({ cls := "SugarKitchen$Choice", name := "addPiece", desc := "(II)V" } : Jvm.MethodName) : Cond) ∈ gT := gP 15 (by decide +kernel) rfl
theorem mp_16 : (Jvm.Cond.selects "SugarKitchen$Choice" ({ cls := "SugarKitchen$Choice", name := "canWeigh", desc := "(II)Z" } : Jvm.MethodName) ({ cls := "SugarKitchen$Choice", name := "canWeigh", desc := "(II)Z" } : Jvm.MethodName) : Cond) ∈ gT := gP 16 (by decide +kernel) rfl
theorem mp_17 : (Jvm.Cond.selects "SugarKitchen$Choice" ({ cls := "SugarKitchen$Choice", name := "markFirst", desc := "(I)V" } : Jvm.MethodName) ({ cls := "SugarKitchen$Choice", name := "markFirst", desc := "(I)V" } : Jvm.MethodName) : Cond) ∈ gT := gP 17 (by decide +kernel) rfl
theorem mp_18 : (Jvm.Cond.selects "SugarKitchen" ({ cls := "SugarKitchen", name := "moveToBox", desc := "(ILSugarKitchen$Box;)V" } : Jvm.MethodName) ({ cls := "SugarKitchen", name := "moveToBox", desc := "(ILSugarKitchen$Box;)V" } : Jvm.MethodName) : Cond) ∈ gT := gP 18 (by decide +kernel) rfl
theorem mp_19 : (Jvm.Cond.selects "SugarKitchen" ({ cls := "SugarKitchen", name := "warningsOf", desc := "(J)I" } : Jvm.MethodName) ({ cls := "SugarKitchen", name := "warningsOf", desc := "(J)I" } : Jvm.MethodName) : Cond) ∈ gT := gP 19 (by decide +kernel) rfl
theorem mp_20 : (Jvm.Cond.selects "SugarKitchen" ({ cls := "SugarKitchen", name := "countFull", desc := "(III)I" } : Jvm.MethodName) ({ cls := "SugarKitchen", name := "countFull", desc := "(III)I" } : Jvm.MethodName) : Cond) ∈ gT := gP 20 (by decide +kernel) rfl
theorem mp_21 : (Jvm.Cond.selects "SugarKitchen$Parting" ({ cls := "SugarKitchen$Parting", name := "insert", desc := "(I)V" } : Jvm.MethodName) ({ cls := "SugarKitchen$Parting", name := "insert", desc := "(I)V" } : Jvm.MethodName) : Cond) ∈ gT := gP 21 (by decide +kernel) rfl
theorem mp_22 : (Jvm.Cond.selects "SugarKitchen$Parting" ({ cls := "SugarKitchen$Parting", name := "forget", desc := "()V" } : Jvm.MethodName) ({ cls := "SugarKitchen$Parting", name := "forget", desc := "()V" } : Jvm.MethodName) : Cond) ∈ gT := gP 22 (by decide +kernel) rfl
theorem mp_23 : (Jvm.Cond.selects "SugarKitchen$Parting" ({ cls := "SugarKitchen$Parting", name := "mostOf", desc := "(II)I" } : Jvm.MethodName) ({ cls := "SugarKitchen$Parting", name := "mostOf", desc := "(II)I" } : Jvm.MethodName) : Cond) ∈ gT := gP 23 (by decide +kernel) rfl
theorem mp_24 : (Jvm.Cond.selects "SugarKitchen$Parting" ({ cls := "SugarKitchen$Parting", name := "isFree", desc := "(II)Z" } : Jvm.MethodName) ({ cls := "SugarKitchen$Parting", name := "isFree", desc := "(II)Z" } : Jvm.MethodName) : Cond) ∈ gT := gP 24 (by decide +kernel) rfl
theorem mp_25 : (Jvm.Cond.selects "SugarKitchen$Parting" ({ cls := "SugarKitchen$Parting", name := "fillBox", desc := "(IIIII)I" } : Jvm.MethodName) ({ cls := "SugarKitchen$Parting", name := "fillBox", desc := "(IIIII)I" } : Jvm.MethodName) : Cond) ∈ gT := gP 25 (by decide +kernel) rfl
theorem mp_26 : (Jvm.Cond.selects "SugarKitchen" ({ cls := "SugarKitchen", name := "findBox", desc := "(I)LSugarKitchen$Box;" } : Jvm.MethodName) ({ cls := "SugarKitchen", name := "findBox", desc := "(I)LSugarKitchen$Box;" } : Jvm.MethodName) : Cond) ∈ gT := gP 26 (by decide +kernel) rfl
theorem mp_27 : (Jvm.Cond.selects "SugarKitchen$Box" ({ cls := "SugarKitchen$Box", name := "lotAt", desc := "(I)I" } : Jvm.MethodName) ({ cls := "SugarKitchen$Box", name := "lotAt", desc := "(I)I" } : Jvm.MethodName) : Cond) ∈ gT := gP 27 (by decide +kernel) rfl
theorem mp_28 : (Jvm.Cond.selects "SugarKitchen$Kettle" ({ cls := "SugarKitchen$Kettle", name := "countKinds", desc := "()I" } : Jvm.MethodName) ({ cls := "SugarKitchen$Kettle", name := "countKinds", desc := "()I" } : Jvm.MethodName) : Cond) ∈ gT := gP 28 (by decide +kernel) rfl
theorem mp_29 : (Jvm.Cond.selects "SugarKitchen$Kettle" ({ cls := "SugarKitchen$Kettle", name := "findLeast", desc := "(IZ)V" } : Jvm.MethodName) ({ cls := "SugarKitchen$Kettle", name := "findLeast", desc := "(IZ)V" } : Jvm.MethodName) : Cond) ∈ gT := gP 29 (by decide +kernel) rfl
theorem mp_30 : (Jvm.Cond.selects "SugarKitchen$Kettle" ({ cls := "SugarKitchen$Kettle", name := "countOn", desc := "()V" } : Jvm.MethodName) ({ cls := "SugarKitchen$Kettle", name := "countOn", desc := "()V" } : Jvm.MethodName) : Cond) ∈ gT := gP 30 (by decide +kernel) rfl
theorem mp_31 : (Jvm.Cond.selects "SugarKitchen$Kettle" ({ cls := "SugarKitchen$Kettle", name := "findLeastOf", desc := "(IZ)V" } : Jvm.MethodName) ({ cls := "SugarKitchen$Kettle", name := "findLeastOf", desc := "(IZ)V" } : Jvm.MethodName) : Cond) ∈ gT := gP 31 (by decide +kernel) rfl
theorem mp_32 : (Jvm.Cond.selects "SugarKitchen$Kettle" ({ cls := "SugarKitchen$Kettle", name := "mayCome", desc := "(IZ)Z" } : Jvm.MethodName) ({ cls := "SugarKitchen$Kettle", name := "mayCome", desc := "(IZ)Z" } : Jvm.MethodName) : Cond) ∈ gT := gP 32 (by decide +kernel) rfl
theorem mp_33 : (Jvm.Cond.selects "SugarKitchen$Kettle" ({ cls := "SugarKitchen$Kettle", name := "onlyNutsWait", desc := "()Z" } : Jvm.MethodName) ({ cls := "SugarKitchen$Kettle", name := "onlyNutsWait", desc := "()Z" } : Jvm.MethodName) : Cond) ∈ gT := gP 33 (by decide +kernel) rfl
theorem mp_34 : (Jvm.Cond.selects "SugarKitchen$Kettle" ({ cls := "SugarKitchen$Kettle", name := "leastOnce", desc := "(II)I" } : Jvm.MethodName) ({ cls := "SugarKitchen$Kettle", name := "leastOnce", desc := "(II)I" } : Jvm.MethodName) : Cond) ∈ gT := gP 34 (by decide +kernel) rfl
theorem mp_35 : (Jvm.Cond.selects "SugarKitchen$Kettle" ({ cls := "SugarKitchen$Kettle", name := "followLeast", desc := "(IZ)V" } : Jvm.MethodName) ({ cls := "SugarKitchen$Kettle", name := "followLeast", desc := "(IZ)V" } : Jvm.MethodName) : Cond) ∈ gT := gP 35 (by decide +kernel) rfl
theorem mp_36 : (Jvm.Cond.selects "SugarKitchen$Kettle" ({ cls := "SugarKitchen$Kettle", name := "findNext", desc := "(IIZ)I" } : Jvm.MethodName) ({ cls := "SugarKitchen$Kettle", name := "findNext", desc := "(IIZ)I" } : Jvm.MethodName) : Cond) ∈ gT := gP 36 (by decide +kernel) rfl
theorem mp_37 : (Jvm.Cond.selects "SugarKitchen" ({ cls := "SugarKitchen", name := "lotsIn", desc := "(II)J" } : Jvm.MethodName) ({ cls := "SugarKitchen", name := "lotsIn", desc := "(II)J" } : Jvm.MethodName) : Cond) ∈ gT := gP 37 (by decide +kernel) rfl
theorem mp_38 : (Jvm.Cond.selects "SugarKitchen" ({ cls := "SugarKitchen", name := "countFit", desc := "()I" } : Jvm.MethodName) ({ cls := "SugarKitchen", name := "countFit", desc := "()I" } : Jvm.MethodName) : Cond) ∈ gT := gP 38 (by decide +kernel) rfl
theorem mp_39 : (Jvm.Cond.selects "SugarKitchenModel" ({ cls := "SugarKitchenModel", name := "isBatch", desc := "(I)Z" } : Jvm.MethodName) ({ cls := "SugarKitchenModel", name := "isBatch", desc := "(I)Z" } : Jvm.MethodName) : Cond) ∈ gT := gP 39 (by decide +kernel) rfl
theorem mp_40 : (Jvm.Cond.selects "SugarKitchenModel" ({ cls := "SugarKitchenModel", name := "isRead", desc := "(II)Z" } : Jvm.MethodName) ({ cls := "SugarKitchenModel", name := "isRead", desc := "(II)Z" } : Jvm.MethodName) : Cond) ∈ gT := gP 40 (by decide +kernel) rfl
theorem mp_41 : (Jvm.Cond.selects "SugarKitchenModel" ({ cls := "SugarKitchenModel", name := "degree", desc := "(II)I" } : Jvm.MethodName) ({ cls := "SugarKitchenModel", name := "degree", desc := "(II)I" } : Jvm.MethodName) : Cond) ∈ gT := gP 41 (by decide +kernel) rfl
theorem mp_42 : (Jvm.Cond.selects "SugarKitchenModel" ({ cls := "SugarKitchenModel", name := "lossOf", desc := "(IZ)I" } : Jvm.MethodName) ({ cls := "SugarKitchenModel", name := "lossOf", desc := "(IZ)I" } : Jvm.MethodName) : Cond) ∈ gT := gP 42 (by decide +kernel) rfl
theorem mp_43 : (Jvm.Cond.selects "SugarKitchenModel" ({ cls := "SugarKitchenModel", name := "isGood", desc := "(I)Z" } : Jvm.MethodName) ({ cls := "SugarKitchenModel", name := "isGood", desc := "(I)Z" } : Jvm.MethodName) : Cond) ∈ gT := gP 43 (by decide +kernel) rfl
theorem mp_44 : (Jvm.Cond.selects "SugarKitchenModel" ({ cls := "SugarKitchenModel", name := "isOut", desc := "(I)Z" } : Jvm.MethodName) ({ cls := "SugarKitchenModel", name := "isOut", desc := "(I)Z" } : Jvm.MethodName) : Cond) ∈ gT := gP 44 (by decide +kernel) rfl
theorem mp_45 : (Jvm.Cond.selects "SugarKitchenModel" ({ cls := "SugarKitchenModel", name := "leave", desc := "(I)V" } : Jvm.MethodName) ({ cls := "SugarKitchenModel", name := "leave", desc := "(I)V" } : Jvm.MethodName) : Cond) ∈ gT := gP 45 (by decide +kernel) rfl
theorem mp_46 : (Jvm.Cond.selects "SugarKitchenModel" ({ cls := "SugarKitchenModel", name := "sort", desc := "(I)I" } : Jvm.MethodName) ({ cls := "SugarKitchenModel", name := "sort", desc := "(I)I" } : Jvm.MethodName) : Cond) ∈ gT := gP 46 (by decide +kernel) rfl
theorem mp_47 : (Jvm.Cond.selects "SugarKitchenModel" ({ cls := "SugarKitchenModel", name := "isFit", desc := "(I)Z" } : Jvm.MethodName) ({ cls := "SugarKitchenModel", name := "isFit", desc := "(I)Z" } : Jvm.MethodName) : Cond) ∈ gT := gP 47 (by decide +kernel) rfl
theorem mp_48 : (Jvm.Cond.selects "SugarKitchenModel" ({ cls := "SugarKitchenModel", name := "list", desc := "(I)V" } : Jvm.MethodName) ({ cls := "SugarKitchenModel", name := "list", desc := "(I)V" } : Jvm.MethodName) : Cond) ∈ gT := gP 48 (by decide +kernel) rfl
theorem mp_49 : (Jvm.Cond.selects "SugarKitchenModel" ({ cls := "SugarKitchenModel", name := "gather", desc := "()V" } : Jvm.MethodName) ({ cls := "SugarKitchenModel", name := "gather", desc := "()V" } : Jvm.MethodName) : Cond) ∈ gT := gP 49 (by decide +kernel) rfl
theorem mp_50 : (Jvm.Cond.selects "SugarKitchenModel" ({ cls := "SugarKitchenModel", name := "leastSum", desc := "(II)I" } : Jvm.MethodName) ({ cls := "SugarKitchenModel", name := "leastSum", desc := "(II)I" } : Jvm.MethodName) : Cond) ∈ gT := gP 50 (by decide +kernel) rfl
theorem mp_51 : (Jvm.Cond.selects "SugarKitchenModel" ({ cls := "SugarKitchenModel", name := "reaches8500", desc := "()Z" } : Jvm.MethodName) ({ cls := "SugarKitchenModel", name := "reaches8500", desc := "()Z" } : Jvm.MethodName) : Cond) ∈ gT := gP 51 (by decide +kernel) rfl
theorem mp_52 : (Jvm.Cond.selects "SugarKitchenModel" ({ cls := "SugarKitchenModel", name := "choose", desc := "(I)I" } : Jvm.MethodName) ({ cls := "SugarKitchenModel", name := "choose", desc := "(I)I" } : Jvm.MethodName) : Cond) ∈ gT := gP 52 (by decide +kernel) rfl
theorem mp_53 : (Jvm.Cond.selects "SugarKitchenModel" ({ cls := "SugarKitchenModel", name := "most", desc := "(II)I" } : Jvm.MethodName) ({ cls := "SugarKitchenModel", name := "most", desc := "(II)I" } : Jvm.MethodName) : Cond) ∈ gT := gP 53 (by decide +kernel) rfl
theorem mp_54 : (Jvm.Cond.selects "SugarKitchenModel" ({ cls := "SugarKitchenModel", name := "full", desc := "(II)I" } : Jvm.MethodName) ({ cls := "SugarKitchenModel", name := "full", desc := "(II)I" } : Jvm.MethodName) : Cond) ∈ gT := gP 54 (by decide +kernel) rfl
theorem mp_55 : (Jvm.Cond.selects "SugarKitchenModel" ({ cls := "SugarKitchenModel", name := "isInBox", desc := "(II)Z" } : Jvm.MethodName) ({ cls := "SugarKitchenModel", name := "isInBox", desc := "(II)Z" } : Jvm.MethodName) : Cond) ∈ gT := gP 55 (by decide +kernel) rfl
theorem mp_56 : (Jvm.Cond.selects "SugarKitchenModel" ({ cls := "SugarKitchenModel", name := "boxHas", desc := "(II)Z" } : Jvm.MethodName) ({ cls := "SugarKitchenModel", name := "boxHas", desc := "(II)Z" } : Jvm.MethodName) : Cond) ∈ gT := gP 56 (by decide +kernel) rfl
theorem mp_57 : (Jvm.Cond.selects "SugarKitchenModel" ({ cls := "SugarKitchenModel", name := "pieceHas", desc := "(II)Z" } : Jvm.MethodName) ({ cls := "SugarKitchenModel", name := "pieceHas", desc := "(II)Z" } : Jvm.MethodName) : Cond) ∈ gT := gP 57 (by decide +kernel) rfl
theorem mp_58 : (Jvm.Cond.selects "SugarKitchenModel" ({ cls := "SugarKitchenModel", name := "hasLot", desc := "(II)Z" } : Jvm.MethodName) ({ cls := "SugarKitchenModel", name := "hasLot", desc := "(II)Z" } : Jvm.MethodName) : Cond) ∈ gT := gP 58 (by decide +kernel) rfl
theorem mp_59 : (Jvm.Cond.selects "SugarKitchenModel" ({ cls := "SugarKitchenModel", name := "lotInBox", desc := "(II)I" } : Jvm.MethodName) ({ cls := "SugarKitchenModel", name := "lotInBox", desc := "(II)I" } : Jvm.MethodName) : Cond) ∈ gT := gP 59 (by decide +kernel) rfl
theorem mp_60 : (Jvm.Cond.selects "SugarKitchenModel" ({ cls := "SugarKitchenModel", name := "pieceInBox", desc := "(II)I" } : Jvm.MethodName) ({ cls := "SugarKitchenModel", name := "pieceInBox", desc := "(II)I" } : Jvm.MethodName) : Cond) ∈ gT := gP 60 (by decide +kernel) rfl
theorem mp_61 : (Jvm.Cond.selects "SugarKitchenModel" ({ cls := "SugarKitchenModel", name := "reckon", desc := "(Z)V" } : Jvm.MethodName) ({ cls := "SugarKitchenModel", name := "reckon", desc := "(Z)V" } : Jvm.MethodName) : Cond) ∈ gT := gP 61 (by decide +kernel) rfl
theorem mp_62 : (Jvm.Cond.selects "SugarKitchenModel" ({ cls := "SugarKitchenModel", name := "mayCome", desc := "(IIZ)Z" } : Jvm.MethodName) ({ cls := "SugarKitchenModel", name := "mayCome", desc := "(IIZ)Z" } : Jvm.MethodName) : Cond) ∈ gT := gP 62 (by decide +kernel) rfl
theorem mp_63 : (Jvm.Cond.selects "SugarKitchenModel" ({ cls := "SugarKitchenModel", name := "isNut", desc := "(I)Z" } : Jvm.MethodName) ({ cls := "SugarKitchenModel", name := "isNut", desc := "(I)Z" } : Jvm.MethodName) : Cond) ∈ gT := gP 63 (by decide +kernel) rfl
theorem mp_64 : (Jvm.Cond.selects "SugarKitchenModel" ({ cls := "SugarKitchenModel", name := "minutes", desc := "(II)I" } : Jvm.MethodName) ({ cls := "SugarKitchenModel", name := "minutes", desc := "(II)I" } : Jvm.MethodName) : Cond) ∈ gT := gP 64 (by decide +kernel) rfl
theorem mp_65 : (Jvm.Cond.selects "SugarKitchenModel" ({ cls := "SugarKitchenModel", name := "restOf", desc := "(II)I" } : Jvm.MethodName) ({ cls := "SugarKitchenModel", name := "restOf", desc := "(II)I" } : Jvm.MethodName) : Cond) ∈ gT := gP 65 (by decide +kernel) rfl
theorem mp_66 : (Jvm.Cond.selects "SugarKitchenModel" ({ cls := "SugarKitchenModel", name := "hasSome", desc := "(III)Z" } : Jvm.MethodName) ({ cls := "SugarKitchenModel", name := "hasSome", desc := "(III)Z" } : Jvm.MethodName) : Cond) ∈ gT := gP 66 (by decide +kernel) rfl
