/-- the words that a call hands on -/
def gT : List Cond := lw_tbl.filter goodWord
theorem gT_mem {w : Cond} : w ∈ gT ↔ w ∈ lw_tbl ∧ goodWord w = true := List.mem_filter
theorem gI (i : Nat) {w : Cond} (h : tables_1[i]? = some w) (g : goodWord w = true) : w ∈ gT := gT_mem.mpr ⟨List.mem_append_right _ (List.mem_of_getElem? h), g⟩
theorem gP (i : Nat) {w : Cond} (h : (k2_sels lw_privs)[i]? = some w) (g : goodWord w = true) : w ∈ gT := gT_mem.mpr ⟨List.mem_append_left _ (List.mem_of_getElem? h), g⟩
theorem gC1 (i : Nat) {w : Cond} (h : tables_1_1[i]? = some w) : w ∈ lw_tbl := List.mem_append_right _ (show w ∈ tables_1 from (List.mem_append_left _ (List.mem_of_getElem? h)))
theorem gI1 (i : Nat) {w : Cond} (h : tables_1_1[i]? = some w) (g : goodWord w = true) : w ∈ gT := gT_mem.mpr ⟨gC1 i h, g⟩
theorem gC2 (i : Nat) {w : Cond} (h : tables_1_2[i]? = some w) : w ∈ lw_tbl := List.mem_append_right _ (show w ∈ tables_1 from (List.mem_append_right _ (List.mem_append_left _ (List.mem_of_getElem? h))))
theorem gI2 (i : Nat) {w : Cond} (h : tables_1_2[i]? = some w) (g : goodWord w = true) : w ∈ gT := gT_mem.mpr ⟨gC2 i h, g⟩
theorem gC3 (i : Nat) {w : Cond} (h : tables_1_3[i]? = some w) : w ∈ lw_tbl := List.mem_append_right _ (show w ∈ tables_1 from (List.mem_append_right _ (List.mem_append_right _ (List.mem_append_left _ (List.mem_of_getElem? h)))))
theorem gI3 (i : Nat) {w : Cond} (h : tables_1_3[i]? = some w) (g : goodWord w = true) : w ∈ gT := gT_mem.mpr ⟨gC3 i h, g⟩
theorem gC4 (i : Nat) {w : Cond} (h : tables_1_4[i]? = some w) : w ∈ lw_tbl := List.mem_append_right _ (show w ∈ tables_1 from (List.mem_append_right _ (List.mem_append_right _ (List.mem_append_right _ (List.mem_append_left _ (List.mem_of_getElem? h))))))
theorem gI4 (i : Nat) {w : Cond} (h : tables_1_4[i]? = some w) (g : goodWord w = true) : w ∈ gT := gT_mem.mpr ⟨gC4 i h, g⟩
theorem gC5 (i : Nat) {w : Cond} (h : tables_1_5[i]? = some w) : w ∈ lw_tbl := List.mem_append_right _ (show w ∈ tables_1 from (List.mem_append_right _ (List.mem_append_right _ (List.mem_append_right _ (List.mem_append_right _ (List.mem_append_left _ (List.mem_of_getElem? h)))))))
theorem gI5 (i : Nat) {w : Cond} (h : tables_1_5[i]? = some w) (g : goodWord w = true) : w ∈ gT := gT_mem.mpr ⟨gC5 i h, g⟩
theorem gC6 (i : Nat) {w : Cond} (h : tables_1_6[i]? = some w) : w ∈ lw_tbl := List.mem_append_right _ (show w ∈ tables_1 from (List.mem_append_right _ (List.mem_append_right _ (List.mem_append_right _ (List.mem_append_right _ (List.mem_append_right _ (List.mem_of_getElem? h)))))))
theorem gI6 (i : Nat) {w : Cond} (h : tables_1_6[i]? = some w) (g : goodWord w = true) : w ∈ gT := gT_mem.mpr ⟨gC6 i h, g⟩
theorem mw_0 : ((Jvm.Cond.initialized "SugarKitchenLaw") : Cond) ∈ gT := gI1 0 (by decide +kernel) rfl
theorem mw_1 : ((Jvm.Cond.initialized "SugarKitchen") : Cond) ∈ gT := gI1 1 (by decide +kernel) rfl
theorem mw_2 : ((Jvm.Cond.initialized "SugarKitchen$Rules") : Cond) ∈ gT := gI1 2 (by decide +kernel) rfl
theorem mw_3 : ((Jvm.Cond.initialized "java/util/Arrays") : Cond) ∈ gT := gI1 3 (by decide +kernel) rfl
theorem mw_4 : ((Jvm.Cond.initialized "SugarKitchen$Tempering") : Cond) ∈ gT := gI1 4 (by decide +kernel) rfl
theorem mw_5 : ((Jvm.Cond.initialized "SugarKitchen$Kettle") : Cond) ∈ gT := gI1 5 (by decide +kernel) rfl
theorem mw_6 : ((Jvm.Cond.initialized "SugarKitchen$Choice") : Cond) ∈ gT := gI1 6 (by decide +kernel) rfl
theorem mw_7 : ((Jvm.Cond.initialized "SugarKitchen$Parting") : Cond) ∈ gT := gI1 7 (by decide +kernel) rfl
theorem mw_8 : ((Jvm.Cond.initialized "SugarKitchenModel") : Cond) ∈ gT := gI1 8 (by decide +kernel) rfl
theorem mw_9 : ((Jvm.Cond.initialized "SugarKitchen$Lot") : Cond) ∈ gT := gI1 9 (by decide +kernel) rfl
theorem mw_10 : ((Jvm.Cond.initialized "SugarKitchen$Batch") : Cond) ∈ gT := gI1 10 (by decide +kernel) rfl
theorem mw_11 : ((Jvm.Cond.initialized "SugarKitchen$Rows") : Cond) ∈ gT := gI1 11 (by decide +kernel) rfl
theorem mw_12 : ((Jvm.Cond.initialized "java/lang/Math") : Cond) ∈ gT := gI1 12 (by decide +kernel) rfl
theorem mw_13 : ((Jvm.Cond.initialized "java/lang/Float") : Cond) ∈ gT := gI1 13 (by decide +kernel) rfl
theorem mw_14 : ((Jvm.Cond.initialized "SugarKitchen$Piece") : Cond) ∈ gT := gI1 14 (by decide +kernel) rfl
theorem mw_15 : ((Jvm.Cond.initialized "java/lang/System") : Cond) ∈ gT := gI1 15 (by decide +kernel) rfl
theorem mw_16 : ((Jvm.Cond.initialized "SugarKitchen$Box") : Cond) ∈ gT := gI1 16 (by decide +kernel) rfl
theorem mw_17 : ((Jvm.Cond.initialized "java/lang/Long") : Cond) ∈ gT := gI1 17 (by decide +kernel) rfl
theorem mw_18 : ((Jvm.Cond.classLink "SugarKitchenLaw" (7 : Nat) "SugarKitchen") : Cond) ∈ gT := gI1 18 (by decide +kernel) rfl
theorem mw_19 : ((Jvm.Cond.instantiable "SugarKitchen" (15 : Nat)) : Cond) ∈ gT := gI1 19 (by decide +kernel) rfl
theorem mw_20 : ((Jvm.Cond.methodLink "SugarKitchenLaw" (9 : Nat) ({ cls := "SugarKitchen", name := "<init>", desc := "()V" } : Jvm.MethodName)) : Cond) ∈ gT := gI1 20 (by decide +kernel) rfl
theorem mw_21 : ((Jvm.Cond.instanceMethod ({ cls := "SugarKitchen", name := "<init>", desc := "()V" } : Jvm.MethodName)) : Cond) ∈ gT := gI1 21 (by decide +kernel) rfl
set_option maxRecDepth 100000 in
theorem mw_22 : ((Jvm.Cond.code ({ cls := "SugarKitchen", name := "<init>", desc := "()V" } : Jvm.MethodName) prog_1_method_1_code (1 : Nat) (Option.none : Option Jvm.ClassFile.FieldType)) : Cond) ∈ gT := gI1 22 rfl rfl
theorem mw_23 : ((Jvm.Cond.methodLink "SugarKitchen" (3 : Nat) ({ cls := "java/lang/Object", name := "<init>", desc := "()V" } : Jvm.MethodName)) : Cond) ∈ gT := gI1 23 (by decide +kernel) rfl
theorem mw_24 : ((Jvm.Cond.instanceMethod ({ cls := "java/lang/Object", name := "<init>", desc := "()V" } : Jvm.MethodName)) : Cond) ∈ gT := gI1 24 (by decide +kernel) rfl
set_option maxRecDepth 100000 in
theorem mw_25 : ((Jvm.Cond.code ({ cls := "java/lang/Object", name := "<init>", desc := "()V" } : Jvm.MethodName) object_method_1_code (1 : Nat) (Option.none : Option Jvm.ClassFile.FieldType)) : Cond) ∈ gT := gI1 25 rfl rfl
theorem mw_26 : ((Jvm.Cond.classLink "SugarKitchen" (9 : Nat) "SugarKitchen$Lot") : Cond) ∈ gT := gI1 26 (by decide +kernel) rfl
theorem mt_27 : ((Jvm.Cond.arrayOver (Jvm.ClassFile.FieldType.object "SugarKitchen$Lot")) : Cond) ∈ lw_tbl := gC1 27 (by decide +kernel)
theorem mw_28 : ((Jvm.Cond.classLink "SugarKitchen" (15 : Nat) "SugarKitchen$Batch") : Cond) ∈ gT := gI1 28 (by decide +kernel) rfl
theorem mt_29 : ((Jvm.Cond.arrayOver (Jvm.ClassFile.FieldType.object "SugarKitchen$Batch")) : Cond) ∈ lw_tbl := gC1 29 (by decide +kernel)
theorem mw_30 : ((Jvm.Cond.classLink "SugarKitchen" (21 : Nat) "SugarKitchen$Piece") : Cond) ∈ gT := gI1 30 (by decide +kernel) rfl
theorem mt_31 : ((Jvm.Cond.arrayOver (Jvm.ClassFile.FieldType.object "SugarKitchen$Piece")) : Cond) ∈ lw_tbl := gC1 31 (by decide +kernel)
theorem mw_32 : ((Jvm.Cond.classLink "SugarKitchen" (27 : Nat) "SugarKitchen$Box") : Cond) ∈ gT := gI1 32 (by decide +kernel) rfl
theorem mt_33 : ((Jvm.Cond.arrayOver (Jvm.ClassFile.FieldType.object "SugarKitchen$Box")) : Cond) ∈ lw_tbl := gC1 33 (by decide +kernel)
theorem mw_34 : ((Jvm.Cond.classLink "SugarKitchen" (40 : Nat) "SugarKitchen$Rules") : Cond) ∈ gT := gI1 34 (by decide +kernel) rfl
theorem mw_35 : ((Jvm.Cond.instantiable "SugarKitchen$Rules" (7 : Nat)) : Cond) ∈ gT := gI1 35 (by decide +kernel) rfl
theorem mw_36 : ((Jvm.Cond.methodLink "SugarKitchen" (42 : Nat) ({ cls := "SugarKitchen$Rules", name := "<init>", desc := "()V" } : Jvm.MethodName)) : Cond) ∈ gT := gI1 36 (by decide +kernel) rfl
theorem mw_37 : ((Jvm.Cond.instanceMethod ({ cls := "SugarKitchen$Rules", name := "<init>", desc := "()V" } : Jvm.MethodName)) : Cond) ∈ gT := gI1 37 (by decide +kernel) rfl
set_option maxRecDepth 100000 in
theorem mw_38 : ((Jvm.Cond.code ({ cls := "SugarKitchen$Rules", name := "<init>", desc := "()V" } : Jvm.MethodName) prog_10_method_1_code (1 : Nat) (Option.none : Option Jvm.ClassFile.FieldType)) : Cond) ∈ gT := gI1 38 rfl rfl
theorem mw_39 : ((Jvm.Cond.methodLink "SugarKitchen$Rules" (3 : Nat) ({ cls := "java/lang/Object", name := "<init>", desc := "()V" } : Jvm.MethodName)) : Cond) ∈ gT := gI1 39 (by decide +kernel) rfl
theorem mw_40 : ((Jvm.Cond.methodLink "SugarKitchen$Rules" (31 : Nat) ({ cls := "java/util/Arrays", name := "fill", desc := "([II)V" } : Jvm.MethodName)) : Cond) ∈ gT := gI1 40 (by decide +kernel) rfl
theorem mw_41 : ((Jvm.Cond.static ({ cls := "java/util/Arrays", name := "fill", desc := "([II)V" } : Jvm.MethodName)) : Cond) ∈ gT := gI1 41 (by decide +kernel) rfl
set_option maxRecDepth 100000 in
theorem mw_42 : ((Jvm.Cond.code ({ cls := "java/util/Arrays", name := "fill", desc := "([II)V" } : Jvm.MethodName) prog_18_method_103_code (4 : Nat) (Option.none : Option Jvm.ClassFile.FieldType)) : Cond) ∈ gT := gI1 42 rfl rfl
theorem mw_43 : ((Jvm.Cond.fieldLink "SugarKitchen$Rules" (11 : Nat) "SugarKitchen$Rules" "fromDegree" "[I") : Cond) ∈ gT := gI1 43 (by decide +kernel) rfl
theorem mw_44 : ((Jvm.Cond.fieldLink "SugarKitchen$Rules" (15 : Nat) "SugarKitchen$Rules" "lossThere" "[I") : Cond) ∈ gT := gI1 44 (by decide +kernel) rfl
theorem mw_45 : ((Jvm.Cond.fieldLink "SugarKitchen$Rules" (37 : Nat) "SugarKitchen$Rules" "losses" "I") : Cond) ∈ gT := gI1 45 (by decide +kernel) rfl
theorem mw_46 : ((Jvm.Cond.fieldLink "SugarKitchen" (337 : Nat) "SugarKitchen$Rules" "losses" "I") : Cond) ∈ gT := gI1 46 (by decide +kernel) rfl
theorem mw_47 : ((Jvm.Cond.fieldLink "SugarKitchen$Rules" (18 : Nat) "SugarKitchen$Rules" "grainLow" "I") : Cond) ∈ gT := gI1 47 (by decide +kernel) rfl
theorem mw_48 : ((Jvm.Cond.fieldLink "SugarKitchen" (157 : Nat) "SugarKitchen$Rules" "grainLow" "I") : Cond) ∈ gT := gI1 48 (by decide +kernel) rfl
theorem mw_49 : ((Jvm.Cond.fieldLink "SugarKitchen$Rules" (22 : Nat) "SugarKitchen$Rules" "grainHigh" "I") : Cond) ∈ gT := gI1 49 (by decide +kernel) rfl
theorem mw_50 : ((Jvm.Cond.fieldLink "SugarKitchen" (160 : Nat) "SugarKitchen$Rules" "grainHigh" "I") : Cond) ∈ gT := gI1 50 (by decide +kernel) rfl
theorem mw_51 : ((Jvm.Cond.fieldLink "SugarKitchen$Rules" (25 : Nat) "SugarKitchen$Rules" "leastLoss" "[I") : Cond) ∈ gT := gI1 51 (by decide +kernel) rfl
theorem mw_52 : ((Jvm.Cond.fieldLink "SugarKitchen$Batch" (85 : Nat) "SugarKitchen$Rules" "leastLoss" "[I") : Cond) ∈ gT := gI1 52 (by decide +kernel) rfl
theorem mw_53 : ((Jvm.Cond.fieldLink "SugarKitchen" (163 : Nat) "SugarKitchen$Rules" "leastLoss" "[I") : Cond) ∈ gT := gI1 53 (by decide +kernel) rfl
theorem mw_54 : ((Jvm.Cond.fieldLink "SugarKitchen$Rules" (28 : Nat) "SugarKitchen$Rules" "mostLoss" "[I") : Cond) ∈ gT := gI1 54 (by decide +kernel) rfl
theorem mw_55 : ((Jvm.Cond.fieldLink "SugarKitchen$Batch" (89 : Nat) "SugarKitchen$Rules" "mostLoss" "[I") : Cond) ∈ gT := gI1 55 (by decide +kernel) rfl
theorem mw_56 : ((Jvm.Cond.fieldLink "SugarKitchen" (166 : Nat) "SugarKitchen$Rules" "mostLoss" "[I") : Cond) ∈ gT := gI1 56 (by decide +kernel) rfl
theorem mw_57 : ((Jvm.Cond.laysFinal "SugarKitchen$Rules" "SugarKitchen$Rules" "fromDegree" "[I") : Cond) ∈ gT := gI1 57 (by decide +kernel) rfl
theorem mw_58 : ((Jvm.Cond.soleField "SugarKitchen$Rules" "fromDegree") : Cond) ∈ gT := gI1 58 (by decide +kernel) rfl
theorem mw_59 : ((Jvm.Cond.laysFinal "SugarKitchen$Rules" "SugarKitchen$Rules" "lossThere" "[I") : Cond) ∈ gT := gI1 59 (by decide +kernel) rfl
theorem mw_60 : ((Jvm.Cond.soleField "SugarKitchen$Rules" "lossThere") : Cond) ∈ gT := gI1 60 (by decide +kernel) rfl
theorem mw_61 : ((Jvm.Cond.lays "SugarKitchen$Rules" "SugarKitchen$Rules" "losses" "I") : Cond) ∈ gT := gI1 61 (by decide +kernel) rfl
theorem mw_62 : ((Jvm.Cond.soleField "SugarKitchen$Rules" "losses") : Cond) ∈ gT := gI1 62 (by decide +kernel) rfl
theorem mw_63 : ((Jvm.Cond.lays "SugarKitchen$Rules" "SugarKitchen$Rules" "grainLow" "I") : Cond) ∈ gT := gI1 63 (by decide +kernel) rfl
theorem mw_64 : ((Jvm.Cond.soleField "SugarKitchen$Rules" "grainLow") : Cond) ∈ gT := gI1 64 (by decide +kernel) rfl
theorem mw_65 : ((Jvm.Cond.lays "SugarKitchen$Rules" "SugarKitchen$Rules" "grainHigh" "I") : Cond) ∈ gT := gI1 65 (by decide +kernel) rfl
theorem mw_66 : ((Jvm.Cond.soleField "SugarKitchen$Rules" "grainHigh") : Cond) ∈ gT := gI1 66 (by decide +kernel) rfl
theorem mw_67 : ((Jvm.Cond.laysFinal "SugarKitchen$Rules" "SugarKitchen$Rules" "leastLoss" "[I") : Cond) ∈ gT := gI1 67 (by decide +kernel) rfl
theorem mw_68 : ((Jvm.Cond.soleField "SugarKitchen$Rules" "leastLoss") : Cond) ∈ gT := gI1 68 (by decide +kernel) rfl
theorem mw_69 : ((Jvm.Cond.laysFinal "SugarKitchen$Rules" "SugarKitchen$Rules" "mostLoss" "[I") : Cond) ∈ gT := gI1 69 (by decide +kernel) rfl
theorem mw_70 : ((Jvm.Cond.soleField "SugarKitchen$Rules" "mostLoss") : Cond) ∈ gT := gI1 70 (by decide +kernel) rfl
theorem mw_71 : ((Jvm.Cond.superclass "SugarKitchen$Rules" "java/lang/Object") : Cond) ∈ gT := gI1 71 (by decide +kernel) rfl
theorem mw_72 : ((Jvm.Cond.arrayClass Jvm.ClassFile.FieldType.int) : Cond) ∈ gT := gI1 72 (by decide +kernel) rfl
theorem mw_73 : ((Jvm.Cond.classLink "SugarKitchen" (47 : Nat) "SugarKitchen$Tempering") : Cond) ∈ gT := gI1 73 (by decide +kernel) rfl
theorem mw_74 : ((Jvm.Cond.instantiable "SugarKitchen$Tempering" (6 : Nat)) : Cond) ∈ gT := gI1 74 (by decide +kernel) rfl
theorem mw_75 : ((Jvm.Cond.methodLink "SugarKitchen" (49 : Nat) ({ cls := "SugarKitchen$Tempering", name := "<init>", desc := "()V" } : Jvm.MethodName)) : Cond) ∈ gT := gI1 75 (by decide +kernel) rfl
theorem mw_76 : ((Jvm.Cond.instanceMethod ({ cls := "SugarKitchen$Tempering", name := "<init>", desc := "()V" } : Jvm.MethodName)) : Cond) ∈ gT := gI1 76 (by decide +kernel) rfl
set_option maxRecDepth 100000 in
theorem mw_77 : ((Jvm.Cond.code ({ cls := "SugarKitchen$Tempering", name := "<init>", desc := "()V" } : Jvm.MethodName) prog_11_method_1_code (1 : Nat) (Option.none : Option Jvm.ClassFile.FieldType)) : Cond) ∈ gT := gI1 77 rfl rfl
theorem mw_78 : ((Jvm.Cond.methodLink "SugarKitchen$Tempering" (3 : Nat) ({ cls := "java/lang/Object", name := "<init>", desc := "()V" } : Jvm.MethodName)) : Cond) ∈ gT := gI1 78 (by decide +kernel) rfl
theorem mw_79 : ((Jvm.Cond.fieldLink "SugarKitchen$Tempering" (9 : Nat) "SugarKitchen$Tempering" "melted" "I") : Cond) ∈ gT := gI1 79 (by decide +kernel) rfl
theorem mw_80 : ((Jvm.Cond.fieldLink "SugarKitchen$Tempering" (15 : Nat) "SugarKitchen$Tempering" "cooled" "I") : Cond) ∈ gT := gI1 80 (by decide +kernel) rfl
theorem mw_81 : ((Jvm.Cond.fieldLink "SugarKitchen$Tempering" (18 : Nat) "SugarKitchen$Tempering" "warmed" "I") : Cond) ∈ gT := gI1 81 (by decide +kernel) rfl
theorem mw_82 : ((Jvm.Cond.fieldLink "SugarKitchen$Tempering" (21 : Nat) "SugarKitchen$Tempering" "tooWarm" "I") : Cond) ∈ gT := gI1 82 (by decide +kernel) rfl
theorem mw_83 : ((Jvm.Cond.fieldLink "SugarKitchen$Tempering" (24 : Nat) "SugarKitchen$Tempering" "leastWarm" "I") : Cond) ∈ gT := gI1 83 (by decide +kernel) rfl
theorem mw_84 : ((Jvm.Cond.fieldLink "SugarKitchen$Tempering" (27 : Nat) "SugarKitchen$Tempering" "ticks" "I") : Cond) ∈ gT := gI1 84 (by decide +kernel) rfl
theorem mw_85 : ((Jvm.Cond.lays "SugarKitchen$Tempering" "SugarKitchen$Tempering" "melted" "I") : Cond) ∈ gT := gI1 85 (by decide +kernel) rfl
theorem mw_86 : ((Jvm.Cond.soleField "SugarKitchen$Tempering" "melted") : Cond) ∈ gT := gI1 86 (by decide +kernel) rfl
theorem mw_87 : ((Jvm.Cond.lays "SugarKitchen$Tempering" "SugarKitchen$Tempering" "cooled" "I") : Cond) ∈ gT := gI1 87 (by decide +kernel) rfl
theorem mw_88 : ((Jvm.Cond.soleField "SugarKitchen$Tempering" "cooled") : Cond) ∈ gT := gI1 88 (by decide +kernel) rfl
theorem mw_89 : ((Jvm.Cond.lays "SugarKitchen$Tempering" "SugarKitchen$Tempering" "warmed" "I") : Cond) ∈ gT := gI1 89 (by decide +kernel) rfl
theorem mw_90 : ((Jvm.Cond.soleField "SugarKitchen$Tempering" "warmed") : Cond) ∈ gT := gI1 90 (by decide +kernel) rfl
theorem mw_91 : ((Jvm.Cond.lays "SugarKitchen$Tempering" "SugarKitchen$Tempering" "tooWarm" "I") : Cond) ∈ gT := gI1 91 (by decide +kernel) rfl
theorem mw_92 : ((Jvm.Cond.soleField "SugarKitchen$Tempering" "tooWarm") : Cond) ∈ gT := gI1 92 (by decide +kernel) rfl
theorem mw_93 : ((Jvm.Cond.lays "SugarKitchen$Tempering" "SugarKitchen$Tempering" "leastWarm" "I") : Cond) ∈ gT := gI1 93 (by decide +kernel) rfl
theorem mw_94 : ((Jvm.Cond.soleField "SugarKitchen$Tempering" "leastWarm") : Cond) ∈ gT := gI1 94 (by decide +kernel) rfl
theorem mw_95 : ((Jvm.Cond.lays "SugarKitchen$Tempering" "SugarKitchen$Tempering" "ticks" "I") : Cond) ∈ gT := gI1 95 (by decide +kernel) rfl
theorem mw_96 : ((Jvm.Cond.soleField "SugarKitchen$Tempering" "ticks") : Cond) ∈ gT := gI1 96 (by decide +kernel) rfl
theorem mw_97 : ((Jvm.Cond.superclass "SugarKitchen$Tempering" "java/lang/Object") : Cond) ∈ gT := gI1 97 (by decide +kernel) rfl
theorem mw_98 : ((Jvm.Cond.classLink "SugarKitchen" (54 : Nat) "SugarKitchen$Kettle") : Cond) ∈ gT := gI1 98 (by decide +kernel) rfl
theorem mw_99 : ((Jvm.Cond.instantiable "SugarKitchen$Kettle" (13 : Nat)) : Cond) ∈ gT := gI1 99 (by decide +kernel) rfl
theorem mw_100 : ((Jvm.Cond.methodLink "SugarKitchen" (56 : Nat) ({ cls := "SugarKitchen$Kettle", name := "<init>", desc := "()V" } : Jvm.MethodName)) : Cond) ∈ gT := gI1 100 (by decide +kernel) rfl
theorem mw_101 : ((Jvm.Cond.instanceMethod ({ cls := "SugarKitchen$Kettle", name := "<init>", desc := "()V" } : Jvm.MethodName)) : Cond) ∈ gT := gI1 101 (by decide +kernel) rfl
set_option maxRecDepth 100000 in
theorem mw_102 : ((Jvm.Cond.code ({ cls := "SugarKitchen$Kettle", name := "<init>", desc := "()V" } : Jvm.MethodName) prog_5_method_1_code (1 : Nat) (Option.none : Option Jvm.ClassFile.FieldType)) : Cond) ∈ gT := gI1 102 rfl rfl
theorem mw_103 : ((Jvm.Cond.methodLink "SugarKitchen$Kettle" (3 : Nat) ({ cls := "java/lang/Object", name := "<init>", desc := "()V" } : Jvm.MethodName)) : Cond) ∈ gT := gI1 103 (by decide +kernel) rfl
theorem mw_104 : ((Jvm.Cond.fieldLink "SugarKitchen$Kettle" (9 : Nat) "SugarKitchen$Kettle" "washing" "[I") : Cond) ∈ gT := gI1 104 (by decide +kernel) rfl
theorem mw_105 : ((Jvm.Cond.fieldLink "SugarKitchen$Kettle" (15 : Nat) "SugarKitchen$Kettle" "queued" "[I") : Cond) ∈ gT := gI1 105 (by decide +kernel) rfl
theorem mw_106 : ((Jvm.Cond.fieldLink "SugarKitchen$Kettle" (18 : Nat) "SugarKitchen$Kettle" "kinds" "[I") : Cond) ∈ gT := gI1 106 (by decide +kernel) rfl
theorem mw_107 : ((Jvm.Cond.fieldLink "SugarKitchen$Kettle" (41 : Nat) "SugarKitchen$Kettle" "many" "I") : Cond) ∈ gT := gI1 107 (by decide +kernel) rfl
theorem mw_108 : ((Jvm.Cond.fieldLink "SugarKitchen" (329 : Nat) "SugarKitchen$Kettle" "many" "I") : Cond) ∈ gT := gI1 108 (by decide +kernel) rfl
theorem mw_109 : ((Jvm.Cond.fieldLink "SugarKitchen$Kettle" (21 : Nat) "SugarKitchen$Kettle" "ordered" "[I") : Cond) ∈ gT := gI1 109 (by decide +kernel) rfl
theorem mw_110 : ((Jvm.Cond.fieldLink "SugarKitchen" (330 : Nat) "SugarKitchen$Kettle" "ordered" "[I") : Cond) ∈ gT := gI1 110 (by decide +kernel) rfl
theorem mw_111 : ((Jvm.Cond.fieldLink "SugarKitchen$Kettle" (48 : Nat) "SugarKitchen$Kettle" "orderMinutes" "I") : Cond) ∈ gT := gI1 111 (by decide +kernel) rfl
theorem mw_112 : ((Jvm.Cond.fieldLink "SugarKitchen" (326 : Nat) "SugarKitchen$Kettle" "orderMinutes" "I") : Cond) ∈ gT := gI1 112 (by decide +kernel) rfl
theorem mw_113 : ((Jvm.Cond.fieldLink "SugarKitchen$Kettle" (37 : Nat) "SugarKitchen$Kettle" "known" "Z") : Cond) ∈ gT := gI1 113 (by decide +kernel) rfl
theorem mw_114 : ((Jvm.Cond.fieldLink "SugarKitchen$Kettle" (45 : Nat) "SugarKitchen$Kettle" "knownNutsLast" "Z") : Cond) ∈ gT := gI1 114 (by decide +kernel) rfl
theorem mw_115 : ((Jvm.Cond.fieldLink "SugarKitchen$Kettle" (24 : Nat) "SugarKitchen$Kettle" "used" "[Z") : Cond) ∈ gT := gI1 115 (by decide +kernel) rfl
theorem mw_116 : ((Jvm.Cond.fieldLink "SugarKitchen$Kettle" (28 : Nat) "SugarKitchen$Kettle" "counts" "[I") : Cond) ∈ gT := gI1 116 (by decide +kernel) rfl
theorem mw_117 : ((Jvm.Cond.fieldLink "SugarKitchen$Kettle" (31 : Nat) "SugarKitchen$Kettle" "strides" "[I") : Cond) ∈ gT := gI1 117 (by decide +kernel) rfl
theorem mw_118 : ((Jvm.Cond.fieldLink "SugarKitchen$Kettle" (34 : Nat) "SugarKitchen$Kettle" "waiting" "[I") : Cond) ∈ gT := gI1 118 (by decide +kernel) rfl
theorem mw_119 : ((Jvm.Cond.fieldLink "SugarKitchen$Kettle" (74 : Nat) "SugarKitchen$Kettle" "least" "[I") : Cond) ∈ gT := gI1 119 (by decide +kernel) rfl
theorem mw_120 : ((Jvm.Cond.laysFinal "SugarKitchen$Kettle" "SugarKitchen$Kettle" "washing" "[I") : Cond) ∈ gT := gI1 120 (by decide +kernel) rfl
theorem mw_121 : ((Jvm.Cond.soleField "SugarKitchen$Kettle" "washing") : Cond) ∈ gT := gI1 121 (by decide +kernel) rfl
theorem mw_122 : ((Jvm.Cond.laysFinal "SugarKitchen$Kettle" "SugarKitchen$Kettle" "queued" "[I") : Cond) ∈ gT := gI1 122 (by decide +kernel) rfl
theorem mw_123 : ((Jvm.Cond.soleField "SugarKitchen$Kettle" "queued") : Cond) ∈ gT := gI1 123 (by decide +kernel) rfl
theorem mw_124 : ((Jvm.Cond.laysFinal "SugarKitchen$Kettle" "SugarKitchen$Kettle" "kinds" "[I") : Cond) ∈ gT := gI1 124 (by decide +kernel) rfl
theorem mw_125 : ((Jvm.Cond.soleField "SugarKitchen$Kettle" "kinds") : Cond) ∈ gT := gI1 125 (by decide +kernel) rfl
theorem mw_126 : ((Jvm.Cond.lays "SugarKitchen$Kettle" "SugarKitchen$Kettle" "many" "I") : Cond) ∈ gT := gI1 126 (by decide +kernel) rfl
theorem mw_127 : ((Jvm.Cond.soleField "SugarKitchen$Kettle" "many") : Cond) ∈ gT := gI1 127 (by decide +kernel) rfl
theorem mw_128 : ((Jvm.Cond.laysFinal "SugarKitchen$Kettle" "SugarKitchen$Kettle" "ordered" "[I") : Cond) ∈ gT := gI1 128 (by decide +kernel) rfl
theorem mw_129 : ((Jvm.Cond.soleField "SugarKitchen$Kettle" "ordered") : Cond) ∈ gT := gI1 129 (by decide +kernel) rfl
theorem mw_130 : ((Jvm.Cond.lays "SugarKitchen$Kettle" "SugarKitchen$Kettle" "orderMinutes" "I") : Cond) ∈ gT := gI1 130 (by decide +kernel) rfl
theorem mw_131 : ((Jvm.Cond.soleField "SugarKitchen$Kettle" "orderMinutes") : Cond) ∈ gT := gI1 131 (by decide +kernel) rfl
theorem mw_132 : ((Jvm.Cond.lays "SugarKitchen$Kettle" "SugarKitchen$Kettle" "known" "Z") : Cond) ∈ gT := gI1 132 (by decide +kernel) rfl
theorem mw_133 : ((Jvm.Cond.soleField "SugarKitchen$Kettle" "known") : Cond) ∈ gT := gI1 133 (by decide +kernel) rfl
theorem mw_134 : ((Jvm.Cond.lays "SugarKitchen$Kettle" "SugarKitchen$Kettle" "knownNutsLast" "Z") : Cond) ∈ gT := gI1 134 (by decide +kernel) rfl
theorem mw_135 : ((Jvm.Cond.soleField "SugarKitchen$Kettle" "knownNutsLast") : Cond) ∈ gT := gI1 135 (by decide +kernel) rfl
theorem mw_136 : ((Jvm.Cond.laysFinal "SugarKitchen$Kettle" "SugarKitchen$Kettle" "used" "[Z") : Cond) ∈ gT := gI1 136 (by decide +kernel) rfl
theorem mw_137 : ((Jvm.Cond.soleField "SugarKitchen$Kettle" "used") : Cond) ∈ gT := gI1 137 (by decide +kernel) rfl
theorem mw_138 : ((Jvm.Cond.laysFinal "SugarKitchen$Kettle" "SugarKitchen$Kettle" "counts" "[I") : Cond) ∈ gT := gI1 138 (by decide +kernel) rfl
theorem mw_139 : ((Jvm.Cond.soleField "SugarKitchen$Kettle" "counts") : Cond) ∈ gT := gI1 139 (by decide +kernel) rfl
theorem mw_140 : ((Jvm.Cond.laysFinal "SugarKitchen$Kettle" "SugarKitchen$Kettle" "strides" "[I") : Cond) ∈ gT := gI1 140 (by decide +kernel) rfl
theorem mw_141 : ((Jvm.Cond.soleField "SugarKitchen$Kettle" "strides") : Cond) ∈ gT := gI1 141 (by decide +kernel) rfl
theorem mw_142 : ((Jvm.Cond.laysFinal "SugarKitchen$Kettle" "SugarKitchen$Kettle" "waiting" "[I") : Cond) ∈ gT := gI1 142 (by decide +kernel) rfl
theorem mw_143 : ((Jvm.Cond.soleField "SugarKitchen$Kettle" "waiting") : Cond) ∈ gT := gI1 143 (by decide +kernel) rfl
theorem mw_144 : ((Jvm.Cond.lays "SugarKitchen$Kettle" "SugarKitchen$Kettle" "least" "[I") : Cond) ∈ gT := gI1 144 (by decide +kernel) rfl
theorem mw_145 : ((Jvm.Cond.soleField "SugarKitchen$Kettle" "least") : Cond) ∈ gT := gI1 145 (by decide +kernel) rfl
theorem mw_146 : ((Jvm.Cond.superclass "SugarKitchen$Kettle" "java/lang/Object") : Cond) ∈ gT := gI1 146 (by decide +kernel) rfl
theorem mw_147 : ((Jvm.Cond.arrayClass Jvm.ClassFile.FieldType.boolean) : Cond) ∈ gT := gI1 147 (by decide +kernel) rfl
theorem mw_148 : ((Jvm.Cond.classLink "SugarKitchen" (61 : Nat) "SugarKitchen$Choice") : Cond) ∈ gT := gI1 148 (by decide +kernel) rfl
theorem mw_149 : ((Jvm.Cond.instantiable "SugarKitchen$Choice" (6 : Nat)) : Cond) ∈ gT := gI1 149 (by decide +kernel) rfl
theorem mw_150 : ((Jvm.Cond.methodLink "SugarKitchen" (63 : Nat) ({ cls := "SugarKitchen$Choice", name := "<init>", desc := "()V" } : Jvm.MethodName)) : Cond) ∈ gT := gI1 150 (by decide +kernel) rfl
theorem mw_151 : ((Jvm.Cond.instanceMethod ({ cls := "SugarKitchen$Choice", name := "<init>", desc := "()V" } : Jvm.MethodName)) : Cond) ∈ gT := gI1 151 (by decide +kernel) rfl
set_option maxRecDepth 100000 in
theorem mw_152 : ((Jvm.Cond.code ({ cls := "SugarKitchen$Choice", name := "<init>", desc := "()V" } : Jvm.MethodName) prog_4_method_1_code (1 : Nat) (Option.none : Option Jvm.ClassFile.FieldType)) : Cond) ∈ gT := gI1 152 rfl rfl
theorem mw_153 : ((Jvm.Cond.methodLink "SugarKitchen$Choice" (3 : Nat) ({ cls := "java/lang/Object", name := "<init>", desc := "()V" } : Jvm.MethodName)) : Cond) ∈ gT := gI1 153 (by decide +kernel) rfl
theorem mw_154 : ((Jvm.Cond.fieldLink "SugarKitchen$Choice" (9 : Nat) "SugarKitchen$Choice" "spots" "[I") : Cond) ∈ gT := gI1 154 (by decide +kernel) rfl
theorem mw_155 : ((Jvm.Cond.fieldLink "SugarKitchen" (285 : Nat) "SugarKitchen$Choice" "spots" "[I") : Cond) ∈ gT := gI1 155 (by decide +kernel) rfl
theorem mw_156 : ((Jvm.Cond.fieldLink "SugarKitchen$Choice" (15 : Nat) "SugarKitchen$Choice" "weights" "[I") : Cond) ∈ gT := gI1 156 (by decide +kernel) rfl
theorem mw_157 : ((Jvm.Cond.fieldLink "SugarKitchen$Parting" (34 : Nat) "SugarKitchen$Choice" "weights" "[I") : Cond) ∈ gT := gI1 157 (by decide +kernel) rfl
theorem mw_158 : ((Jvm.Cond.fieldLink "SugarKitchen$Choice" (18 : Nat) "SugarKitchen$Choice" "chosen" "[Z") : Cond) ∈ gT := gI1 158 (by decide +kernel) rfl
theorem mw_159 : ((Jvm.Cond.fieldLink "SugarKitchen" (282 : Nat) "SugarKitchen$Choice" "chosen" "[Z") : Cond) ∈ gT := gI1 159 (by decide +kernel) rfl
theorem mw_160 : ((Jvm.Cond.fieldLink "SugarKitchen$Choice" (22 : Nat) "SugarKitchen$Choice" "many" "I") : Cond) ∈ gT := gI1 160 (by decide +kernel) rfl
theorem mw_161 : ((Jvm.Cond.fieldLink "SugarKitchen$Parting" (25 : Nat) "SugarKitchen$Choice" "many" "I") : Cond) ∈ gT := gI1 161 (by decide +kernel) rfl
theorem mw_162 : ((Jvm.Cond.fieldLink "SugarKitchen" (279 : Nat) "SugarKitchen$Choice" "many" "I") : Cond) ∈ gT := gI1 162 (by decide +kernel) rfl
theorem mw_163 : ((Jvm.Cond.fieldLink "SugarKitchen$Choice" (50 : Nat) "SugarKitchen$Choice" "sums" "[J") : Cond) ∈ gT := gI1 163 (by decide +kernel) rfl
theorem mw_164 : ((Jvm.Cond.fieldLink "SugarKitchen$Choice" (54 : Nat) "SugarKitchen$Choice" "words" "I") : Cond) ∈ gT := gI1 164 (by decide +kernel) rfl
theorem mw_165 : ((Jvm.Cond.laysFinal "SugarKitchen$Choice" "SugarKitchen$Choice" "spots" "[I") : Cond) ∈ gT := gI1 165 (by decide +kernel) rfl
theorem mw_166 : ((Jvm.Cond.soleField "SugarKitchen$Choice" "spots") : Cond) ∈ gT := gI1 166 (by decide +kernel) rfl
theorem mw_167 : ((Jvm.Cond.laysFinal "SugarKitchen$Choice" "SugarKitchen$Choice" "weights" "[I") : Cond) ∈ gT := gI1 167 (by decide +kernel) rfl
theorem mw_168 : ((Jvm.Cond.soleField "SugarKitchen$Choice" "weights") : Cond) ∈ gT := gI1 168 (by decide +kernel) rfl
theorem mw_169 : ((Jvm.Cond.laysFinal "SugarKitchen$Choice" "SugarKitchen$Choice" "chosen" "[Z") : Cond) ∈ gT := gI1 169 (by decide +kernel) rfl
theorem mw_170 : ((Jvm.Cond.soleField "SugarKitchen$Choice" "chosen") : Cond) ∈ gT := gI1 170 (by decide +kernel) rfl
theorem mw_171 : ((Jvm.Cond.lays "SugarKitchen$Choice" "SugarKitchen$Choice" "many" "I") : Cond) ∈ gT := gI1 171 (by decide +kernel) rfl
theorem mw_172 : ((Jvm.Cond.soleField "SugarKitchen$Choice" "many") : Cond) ∈ gT := gI1 172 (by decide +kernel) rfl
theorem mw_173 : ((Jvm.Cond.lays "SugarKitchen$Choice" "SugarKitchen$Choice" "sums" "[J") : Cond) ∈ gT := gI1 173 (by decide +kernel) rfl
theorem mw_174 : ((Jvm.Cond.soleField "SugarKitchen$Choice" "sums") : Cond) ∈ gT := gI1 174 (by decide +kernel) rfl
theorem mw_175 : ((Jvm.Cond.lays "SugarKitchen$Choice" "SugarKitchen$Choice" "words" "I") : Cond) ∈ gT := gI1 175 (by decide +kernel) rfl
theorem mw_176 : ((Jvm.Cond.soleField "SugarKitchen$Choice" "words") : Cond) ∈ gT := gI1 176 (by decide +kernel) rfl
theorem mw_177 : ((Jvm.Cond.superclass "SugarKitchen$Choice" "java/lang/Object") : Cond) ∈ gT := gI1 177 (by decide +kernel) rfl
theorem mw_178 : ((Jvm.Cond.classLink "SugarKitchen" (68 : Nat) "SugarKitchen$Parting") : Cond) ∈ gT := gI1 178 (by decide +kernel) rfl
theorem mw_179 : ((Jvm.Cond.instantiable "SugarKitchen$Parting" (5 : Nat)) : Cond) ∈ gT := gI1 179 (by decide +kernel) rfl
theorem mw_180 : ((Jvm.Cond.methodLink "SugarKitchen" (70 : Nat) ({ cls := "SugarKitchen$Parting", name := "<init>", desc := "()V" } : Jvm.MethodName)) : Cond) ∈ gT := gI1 180 (by decide +kernel) rfl
theorem mw_181 : ((Jvm.Cond.instanceMethod ({ cls := "SugarKitchen$Parting", name := "<init>", desc := "()V" } : Jvm.MethodName)) : Cond) ∈ gT := gI1 181 (by decide +kernel) rfl
set_option maxRecDepth 100000 in
theorem mw_182 : ((Jvm.Cond.code ({ cls := "SugarKitchen$Parting", name := "<init>", desc := "()V" } : Jvm.MethodName) prog_7_method_1_code (1 : Nat) (Option.none : Option Jvm.ClassFile.FieldType)) : Cond) ∈ gT := gI1 182 rfl rfl
theorem mw_183 : ((Jvm.Cond.methodLink "SugarKitchen$Parting" (3 : Nat) ({ cls := "java/lang/Object", name := "<init>", desc := "()V" } : Jvm.MethodName)) : Cond) ∈ gT := gI1 183 (by decide +kernel) rfl
theorem mw_184 : ((Jvm.Cond.fieldLink "SugarKitchen$Parting" (9 : Nat) "SugarKitchen$Parting" "weights" "[I") : Cond) ∈ gT := gI1 184 (by decide +kernel) rfl
theorem mw_185 : ((Jvm.Cond.fieldLink "SugarKitchen$Parting" (22 : Nat) "SugarKitchen$Parting" "many" "I") : Cond) ∈ gT := gI1 185 (by decide +kernel) rfl
theorem mw_186 : ((Jvm.Cond.fieldLink "SugarKitchen$Parting" (15 : Nat) "SugarKitchen$Parting" "low" "I") : Cond) ∈ gT := gI1 186 (by decide +kernel) rfl
theorem mw_187 : ((Jvm.Cond.fieldLink "SugarKitchen$Parting" (19 : Nat) "SugarKitchen$Parting" "high" "I") : Cond) ∈ gT := gI1 187 (by decide +kernel) rfl
theorem mw_188 : ((Jvm.Cond.fieldLink "SugarKitchen$Parting" (45 : Nat) "SugarKitchen$Parting" "known" "[B") : Cond) ∈ gT := gI1 188 (by decide +kernel) rfl
theorem mw_189 : ((Jvm.Cond.laysFinal "SugarKitchen$Parting" "SugarKitchen$Parting" "weights" "[I") : Cond) ∈ gT := gI1 189 (by decide +kernel) rfl
theorem mw_190 : ((Jvm.Cond.soleField "SugarKitchen$Parting" "weights") : Cond) ∈ gT := gI1 190 (by decide +kernel) rfl
theorem mw_191 : ((Jvm.Cond.lays "SugarKitchen$Parting" "SugarKitchen$Parting" "many" "I") : Cond) ∈ gT := gI1 191 (by decide +kernel) rfl
theorem mw_192 : ((Jvm.Cond.soleField "SugarKitchen$Parting" "many") : Cond) ∈ gT := gI1 192 (by decide +kernel) rfl
theorem mw_193 : ((Jvm.Cond.lays "SugarKitchen$Parting" "SugarKitchen$Parting" "low" "I") : Cond) ∈ gT := gI1 193 (by decide +kernel) rfl
theorem mw_194 : ((Jvm.Cond.soleField "SugarKitchen$Parting" "low") : Cond) ∈ gT := gI1 194 (by decide +kernel) rfl
theorem mw_195 : ((Jvm.Cond.lays "SugarKitchen$Parting" "SugarKitchen$Parting" "high" "I") : Cond) ∈ gT := gI1 195 (by decide +kernel) rfl
theorem mw_196 : ((Jvm.Cond.soleField "SugarKitchen$Parting" "high") : Cond) ∈ gT := gI1 196 (by decide +kernel) rfl
theorem mw_197 : ((Jvm.Cond.lays "SugarKitchen$Parting" "SugarKitchen$Parting" "known" "[B") : Cond) ∈ gT := gI1 197 (by decide +kernel) rfl
theorem mw_198 : ((Jvm.Cond.soleField "SugarKitchen$Parting" "known") : Cond) ∈ gT := gI1 198 (by decide +kernel) rfl
theorem mw_199 : ((Jvm.Cond.superclass "SugarKitchen$Parting" "java/lang/Object") : Cond) ∈ gT := gI1 199 (by decide +kernel) rfl
theorem mw_200 : ((Jvm.Cond.methodLink "SugarKitchen" (75 : Nat) ({ cls := "java/util/Arrays", name := "fill", desc := "([II)V" } : Jvm.MethodName)) : Cond) ∈ gT := gI1 200 (by decide +kernel) rfl
theorem mw_201 : ((Jvm.Cond.fieldLink "SugarKitchen" (11 : Nat) "SugarKitchen" "lots" "[LSugarKitchen$Lot;") : Cond) ∈ gT := gI1 201 (by decide +kernel) rfl
theorem mw_202 : ((Jvm.Cond.fieldLink "SugarKitchen" (86 : Nat) "SugarKitchen" "lotCount" "I") : Cond) ∈ gT := gI1 202 (by decide +kernel) rfl
theorem mw_203 : ((Jvm.Cond.fieldLink "SugarKitchen" (17 : Nat) "SugarKitchen" "batches" "[LSugarKitchen$Batch;") : Cond) ∈ gT := gI1 203 (by decide +kernel) rfl
theorem mw_204 : ((Jvm.Cond.fieldLink "SugarKitchen" (97 : Nat) "SugarKitchen" "batchCount" "I") : Cond) ∈ gT := gI1 204 (by decide +kernel) rfl
theorem mw_205 : ((Jvm.Cond.fieldLink "SugarKitchen" (23 : Nat) "SugarKitchen" "pieces" "[LSugarKitchen$Piece;") : Cond) ∈ gT := gI1 205 (by decide +kernel) rfl
theorem mw_206 : ((Jvm.Cond.fieldLink "SugarKitchen" (214 : Nat) "SugarKitchen" "pieceCount" "I") : Cond) ∈ gT := gI1 206 (by decide +kernel) rfl
theorem mw_207 : ((Jvm.Cond.fieldLink "SugarKitchen" (29 : Nat) "SugarKitchen" "boxes" "[LSugarKitchen$Box;") : Cond) ∈ gT := gI1 207 (by decide +kernel) rfl
theorem mw_208 : ((Jvm.Cond.fieldLink "SugarKitchen" (263 : Nat) "SugarKitchen" "boxCount" "I") : Cond) ∈ gT := gI1 208 (by decide +kernel) rfl
theorem mw_209 : ((Jvm.Cond.fieldLink "SugarKitchen" (33 : Nat) "SugarKitchen" "trays" "[I") : Cond) ∈ gT := gI1 209 (by decide +kernel) rfl
theorem mw_210 : ((Jvm.Cond.fieldLink "SugarKitchen" (37 : Nat) "SugarKitchen" "trialTrays" "[I") : Cond) ∈ gT := gI1 210 (by decide +kernel) rfl
theorem mw_211 : ((Jvm.Cond.fieldLink "SugarKitchen" (43 : Nat) "SugarKitchen" "rules" "LSugarKitchen$Rules;") : Cond) ∈ gT := gI1 211 (by decide +kernel) rfl
theorem mw_212 : ((Jvm.Cond.fieldLink "SugarKitchen" (50 : Nat) "SugarKitchen" "tempering" "LSugarKitchen$Tempering;") : Cond) ∈ gT := gI1 212 (by decide +kernel) rfl
theorem mw_213 : ((Jvm.Cond.fieldLink "SugarKitchen" (57 : Nat) "SugarKitchen" "kettle" "LSugarKitchen$Kettle;") : Cond) ∈ gT := gI1 213 (by decide +kernel) rfl
theorem mw_214 : ((Jvm.Cond.fieldLink "SugarKitchen" (64 : Nat) "SugarKitchen" "choice" "LSugarKitchen$Choice;") : Cond) ∈ gT := gI1 214 (by decide +kernel) rfl
theorem mw_215 : ((Jvm.Cond.fieldLink "SugarKitchen" (71 : Nat) "SugarKitchen" "parting" "LSugarKitchen$Parting;") : Cond) ∈ gT := gI1 215 (by decide +kernel) rfl
theorem mw_216 : ((Jvm.Cond.laysFinal "SugarKitchen" "SugarKitchen" "lots" "[LSugarKitchen$Lot;") : Cond) ∈ gT := gI1 216 (by decide +kernel) rfl
theorem mw_217 : ((Jvm.Cond.soleField "SugarKitchen" "lots") : Cond) ∈ gT := gI1 217 (by decide +kernel) rfl
theorem mw_218 : ((Jvm.Cond.lays "SugarKitchen" "SugarKitchen" "lotCount" "I") : Cond) ∈ gT := gI1 218 (by decide +kernel) rfl
theorem mw_219 : ((Jvm.Cond.soleField "SugarKitchen" "lotCount") : Cond) ∈ gT := gI1 219 (by decide +kernel) rfl
theorem mw_220 : ((Jvm.Cond.laysFinal "SugarKitchen" "SugarKitchen" "batches" "[LSugarKitchen$Batch;") : Cond) ∈ gT := gI1 220 (by decide +kernel) rfl
theorem mw_221 : ((Jvm.Cond.soleField "SugarKitchen" "batches") : Cond) ∈ gT := gI1 221 (by decide +kernel) rfl
theorem mw_222 : ((Jvm.Cond.lays "SugarKitchen" "SugarKitchen" "batchCount" "I") : Cond) ∈ gT := gI1 222 (by decide +kernel) rfl
theorem mw_223 : ((Jvm.Cond.soleField "SugarKitchen" "batchCount") : Cond) ∈ gT := gI1 223 (by decide +kernel) rfl
theorem mw_224 : ((Jvm.Cond.laysFinal "SugarKitchen" "SugarKitchen" "pieces" "[LSugarKitchen$Piece;") : Cond) ∈ gT := gI1 224 (by decide +kernel) rfl
theorem mw_225 : ((Jvm.Cond.soleField "SugarKitchen" "pieces") : Cond) ∈ gT := gI1 225 (by decide +kernel) rfl
theorem mw_226 : ((Jvm.Cond.lays "SugarKitchen" "SugarKitchen" "pieceCount" "I") : Cond) ∈ gT := gI1 226 (by decide +kernel) rfl
theorem mw_227 : ((Jvm.Cond.soleField "SugarKitchen" "pieceCount") : Cond) ∈ gT := gI1 227 (by decide +kernel) rfl
theorem mw_228 : ((Jvm.Cond.laysFinal "SugarKitchen" "SugarKitchen" "boxes" "[LSugarKitchen$Box;") : Cond) ∈ gT := gI1 228 (by decide +kernel) rfl
theorem mw_229 : ((Jvm.Cond.soleField "SugarKitchen" "boxes") : Cond) ∈ gT := gI1 229 (by decide +kernel) rfl
theorem mw_230 : ((Jvm.Cond.lays "SugarKitchen" "SugarKitchen" "boxCount" "I") : Cond) ∈ gT := gI1 230 (by decide +kernel) rfl
theorem mw_231 : ((Jvm.Cond.soleField "SugarKitchen" "boxCount") : Cond) ∈ gT := gI1 231 (by decide +kernel) rfl
theorem mw_232 : ((Jvm.Cond.laysFinal "SugarKitchen" "SugarKitchen" "trays" "[I") : Cond) ∈ gT := gI1 232 (by decide +kernel) rfl
theorem mw_233 : ((Jvm.Cond.soleField "SugarKitchen" "trays") : Cond) ∈ gT := gI1 233 (by decide +kernel) rfl
theorem mw_234 : ((Jvm.Cond.laysFinal "SugarKitchen" "SugarKitchen" "trialTrays" "[I") : Cond) ∈ gT := gI1 234 (by decide +kernel) rfl
theorem mw_235 : ((Jvm.Cond.soleField "SugarKitchen" "trialTrays") : Cond) ∈ gT := gI1 235 (by decide +kernel) rfl
theorem mw_236 : ((Jvm.Cond.laysFinal "SugarKitchen" "SugarKitchen" "rules" "LSugarKitchen$Rules;") : Cond) ∈ gT := gI1 236 (by decide +kernel) rfl
theorem mw_237 : ((Jvm.Cond.soleField "SugarKitchen" "rules") : Cond) ∈ gT := gI1 237 (by decide +kernel) rfl
theorem mw_238 : ((Jvm.Cond.laysFinal "SugarKitchen" "SugarKitchen" "tempering" "LSugarKitchen$Tempering;") : Cond) ∈ gT := gI1 238 (by decide +kernel) rfl
theorem mw_239 : ((Jvm.Cond.soleField "SugarKitchen" "tempering") : Cond) ∈ gT := gI1 239 (by decide +kernel) rfl
theorem mw_240 : ((Jvm.Cond.laysFinal "SugarKitchen" "SugarKitchen" "kettle" "LSugarKitchen$Kettle;") : Cond) ∈ gT := gI2 0 (by decide +kernel) rfl
theorem mw_241 : ((Jvm.Cond.soleField "SugarKitchen" "kettle") : Cond) ∈ gT := gI2 1 (by decide +kernel) rfl
theorem mw_242 : ((Jvm.Cond.laysFinal "SugarKitchen" "SugarKitchen" "choice" "LSugarKitchen$Choice;") : Cond) ∈ gT := gI2 2 (by decide +kernel) rfl
theorem mw_243 : ((Jvm.Cond.soleField "SugarKitchen" "choice") : Cond) ∈ gT := gI2 3 (by decide +kernel) rfl
theorem mw_244 : ((Jvm.Cond.laysFinal "SugarKitchen" "SugarKitchen" "parting" "LSugarKitchen$Parting;") : Cond) ∈ gT := gI2 4 (by decide +kernel) rfl
theorem mw_245 : ((Jvm.Cond.soleField "SugarKitchen" "parting") : Cond) ∈ gT := gI2 5 (by decide +kernel) rfl
theorem mw_246 : ((Jvm.Cond.superclass "SugarKitchen" "java/lang/Object") : Cond) ∈ gT := gI2 6 (by decide +kernel) rfl
theorem mw_247 : ((Jvm.Cond.methodLink "SugarKitchenLaw" (13 : Nat) ({ cls := "SugarKitchen", name := "lot", desc := "(II)I" } : Jvm.MethodName)) : Cond) ∈ gT := gI2 7 (by decide +kernel) rfl
theorem mw_248 : ((Jvm.Cond.instanceMethod ({ cls := "SugarKitchen", name := "lot", desc := "(II)I" } : Jvm.MethodName)) : Cond) ∈ gT := gI2 8 (by decide +kernel) rfl
theorem mw_249 : ((Jvm.Cond.selects "SugarKitchen" ({ cls := "SugarKitchen", name := "lot", desc := "(II)I" } : Jvm.MethodName) ({ cls := "SugarKitchen", name := "lot", desc := "(II)I" } : Jvm.MethodName)) : Cond) ∈ gT := gI2 9 (by decide +kernel) rfl
set_option maxRecDepth 100000 in
theorem mw_250 : ((Jvm.Cond.code ({ cls := "SugarKitchen", name := "lot", desc := "(II)I" } : Jvm.MethodName) prog_1_method_2_code (3 : Nat) (Option.some Jvm.ClassFile.FieldType.int)) : Cond) ∈ gT := gI2 10 rfl rfl
theorem mw_251 : ((Jvm.Cond.constant "SugarKitchen" (81 : Nat) (1000000 : Int32)) : Cond) ∈ gT := gI2 11 (by decide +kernel) rfl
theorem mw_252 : ((Jvm.Cond.methodLink "SugarKitchen" (82 : Nat) ({ cls := "SugarKitchen", name := "within", desc := "(III)Z" } : Jvm.MethodName)) : Cond) ∈ gT := gI2 12 (by decide +kernel) rfl
theorem mw_253 : ((Jvm.Cond.static ({ cls := "SugarKitchen", name := "within", desc := "(III)Z" } : Jvm.MethodName)) : Cond) ∈ gT := gI2 13 (by decide +kernel) rfl
set_option maxRecDepth 100000 in
theorem mw_254 : ((Jvm.Cond.code ({ cls := "SugarKitchen", name := "within", desc := "(III)Z" } : Jvm.MethodName) prog_1_method_33_code (3 : Nat) (Option.some Jvm.ClassFile.FieldType.boolean)) : Cond) ∈ gT := gI2 14 rfl rfl
theorem mw_255 : ((Jvm.Cond.instantiable "SugarKitchen$Lot" (2 : Nat)) : Cond) ∈ gT := gI2 15 (by decide +kernel) rfl
theorem mw_256 : ((Jvm.Cond.methodLink "SugarKitchen" (90 : Nat) ({ cls := "SugarKitchen$Lot", name := "<init>", desc := "(II)V" } : Jvm.MethodName)) : Cond) ∈ gT := gI2 16 (by decide +kernel) rfl
theorem mw_257 : ((Jvm.Cond.instanceMethod ({ cls := "SugarKitchen$Lot", name := "<init>", desc := "(II)V" } : Jvm.MethodName)) : Cond) ∈ gT := gI2 17 (by decide +kernel) rfl
set_option maxRecDepth 100000 in
theorem mw_258 : ((Jvm.Cond.code ({ cls := "SugarKitchen$Lot", name := "<init>", desc := "(II)V" } : Jvm.MethodName) prog_6_method_1_code (3 : Nat) (Option.none : Option Jvm.ClassFile.FieldType)) : Cond) ∈ gT := gI2 18 rfl rfl
theorem mw_259 : ((Jvm.Cond.methodLink "SugarKitchen$Lot" (1 : Nat) ({ cls := "java/lang/Object", name := "<init>", desc := "()V" } : Jvm.MethodName)) : Cond) ∈ gT := gI2 19 (by decide +kernel) rfl
theorem mw_260 : ((Jvm.Cond.fieldLink "SugarKitchen$Lot" (7 : Nat) "SugarKitchen$Lot" "left" "I") : Cond) ∈ gT := gI2 20 (by decide +kernel) rfl
theorem mw_261 : ((Jvm.Cond.fieldLink "SugarKitchen" (111 : Nat) "SugarKitchen$Lot" "left" "I") : Cond) ∈ gT := gI2 21 (by decide +kernel) rfl
theorem mw_262 : ((Jvm.Cond.fieldLink "SugarKitchen$Lot" (13 : Nat) "SugarKitchen$Lot" "warnings" "I") : Cond) ∈ gT := gI2 22 (by decide +kernel) rfl
theorem mw_263 : ((Jvm.Cond.fieldLink "SugarKitchen" (364 : Nat) "SugarKitchen$Lot" "warnings" "I") : Cond) ∈ gT := gI2 23 (by decide +kernel) rfl
theorem mw_264 : ((Jvm.Cond.lays "SugarKitchen$Lot" "SugarKitchen$Lot" "left" "I") : Cond) ∈ gT := gI2 24 (by decide +kernel) rfl
theorem mw_265 : ((Jvm.Cond.soleField "SugarKitchen$Lot" "left") : Cond) ∈ gT := gI2 25 (by decide +kernel) rfl
theorem mw_266 : ((Jvm.Cond.laysFinal "SugarKitchen$Lot" "SugarKitchen$Lot" "warnings" "I") : Cond) ∈ gT := gI2 26 (by decide +kernel) rfl
theorem mw_267 : ((Jvm.Cond.soleField "SugarKitchen$Lot" "warnings") : Cond) ∈ gT := gI2 27 (by decide +kernel) rfl
theorem mw_268 : ((Jvm.Cond.superclass "SugarKitchen$Lot" "java/lang/Object") : Cond) ∈ gT := gI2 28 (by decide +kernel) rfl
theorem mw_269 : ((Jvm.Cond.methodLink "SugarKitchenLaw" (18 : Nat) ({ cls := "SugarKitchen", name := "batch", desc := "(I)I" } : Jvm.MethodName)) : Cond) ∈ gT := gI2 29 (by decide +kernel) rfl
theorem mw_270 : ((Jvm.Cond.instanceMethod ({ cls := "SugarKitchen", name := "batch", desc := "(I)I" } : Jvm.MethodName)) : Cond) ∈ gT := gI2 30 (by decide +kernel) rfl
theorem mw_271 : ((Jvm.Cond.selects "SugarKitchen" ({ cls := "SugarKitchen", name := "batch", desc := "(I)I" } : Jvm.MethodName) ({ cls := "SugarKitchen", name := "batch", desc := "(I)I" } : Jvm.MethodName)) : Cond) ∈ gT := gI2 31 (by decide +kernel) rfl
set_option maxRecDepth 100000 in
theorem mw_272 : ((Jvm.Cond.code ({ cls := "SugarKitchen", name := "batch", desc := "(I)I" } : Jvm.MethodName) prog_1_method_3_code (2 : Nat) (Option.some Jvm.ClassFile.FieldType.int)) : Cond) ∈ gT := gI2 32 rfl rfl
theorem mw_273 : ((Jvm.Cond.methodLink "SugarKitchen" (93 : Nat) ({ cls := "SugarKitchen", name := "isKind", desc := "(I)Z" } : Jvm.MethodName)) : Cond) ∈ gT := gI2 33 (by decide +kernel) rfl
theorem mw_274 : ((Jvm.Cond.static ({ cls := "SugarKitchen", name := "isKind", desc := "(I)Z" } : Jvm.MethodName)) : Cond) ∈ gT := gI2 34 (by decide +kernel) rfl
set_option maxRecDepth 100000 in
theorem mw_275 : ((Jvm.Cond.code ({ cls := "SugarKitchen", name := "isKind", desc := "(I)Z" } : Jvm.MethodName) prog_1_method_34_code (1 : Nat) (Option.some Jvm.ClassFile.FieldType.boolean)) : Cond) ∈ gT := gI2 35 rfl rfl
theorem mw_276 : ((Jvm.Cond.instantiable "SugarKitchen$Batch" (16 : Nat)) : Cond) ∈ gT := gI2 36 (by decide +kernel) rfl
theorem mw_277 : ((Jvm.Cond.methodLink "SugarKitchen" (100 : Nat) ({ cls := "SugarKitchen$Batch", name := "<init>", desc := "(I)V" } : Jvm.MethodName)) : Cond) ∈ gT := gI2 37 (by decide +kernel) rfl
theorem mw_278 : ((Jvm.Cond.instanceMethod ({ cls := "SugarKitchen$Batch", name := "<init>", desc := "(I)V" } : Jvm.MethodName)) : Cond) ∈ gT := gI2 38 (by decide +kernel) rfl
set_option maxRecDepth 100000 in
theorem mw_279 : ((Jvm.Cond.code ({ cls := "SugarKitchen$Batch", name := "<init>", desc := "(I)V" } : Jvm.MethodName) prog_2_method_1_code (2 : Nat) (Option.none : Option Jvm.ClassFile.FieldType)) : Cond) ∈ gT := gI2 39 rfl rfl
theorem mw_280 : ((Jvm.Cond.methodLink "SugarKitchen$Batch" (3 : Nat) ({ cls := "java/lang/Object", name := "<init>", desc := "()V" } : Jvm.MethodName)) : Cond) ∈ gT := gI2 40 (by decide +kernel) rfl
theorem mw_281 : ((Jvm.Cond.classLink "SugarKitchen$Batch" (9 : Nat) "SugarKitchen$Rows") : Cond) ∈ gT := gI2 41 (by decide +kernel) rfl
theorem mw_282 : ((Jvm.Cond.instantiable "SugarKitchen$Rows" (4 : Nat)) : Cond) ∈ gT := gI2 42 (by decide +kernel) rfl
theorem mw_283 : ((Jvm.Cond.methodLink "SugarKitchen$Batch" (11 : Nat) ({ cls := "SugarKitchen$Rows", name := "<init>", desc := "()V" } : Jvm.MethodName)) : Cond) ∈ gT := gI2 43 (by decide +kernel) rfl
theorem mw_284 : ((Jvm.Cond.instanceMethod ({ cls := "SugarKitchen$Rows", name := "<init>", desc := "()V" } : Jvm.MethodName)) : Cond) ∈ gT := gI2 44 (by decide +kernel) rfl
set_option maxRecDepth 100000 in
theorem mw_285 : ((Jvm.Cond.code ({ cls := "SugarKitchen$Rows", name := "<init>", desc := "()V" } : Jvm.MethodName) prog_9_method_1_code (1 : Nat) (Option.none : Option Jvm.ClassFile.FieldType)) : Cond) ∈ gT := gI2 45 rfl rfl
theorem mw_286 : ((Jvm.Cond.methodLink "SugarKitchen$Rows" (3 : Nat) ({ cls := "java/lang/Object", name := "<init>", desc := "()V" } : Jvm.MethodName)) : Cond) ∈ gT := gI2 46 (by decide +kernel) rfl
theorem mw_287 : ((Jvm.Cond.fieldLink "SugarKitchen$Rows" (9 : Nat) "SugarKitchen$Rows" "floatBits" "[I") : Cond) ∈ gT := gI2 47 (by decide +kernel) rfl
theorem mw_288 : ((Jvm.Cond.fieldLink "SugarKitchen" (144 : Nat) "SugarKitchen$Rows" "floatBits" "[I") : Cond) ∈ gT := gI2 48 (by decide +kernel) rfl
theorem mw_289 : ((Jvm.Cond.fieldLink "SugarKitchen$Rows" (15 : Nat) "SugarKitchen$Rows" "stirred" "[Z") : Cond) ∈ gT := gI2 49 (by decide +kernel) rfl
theorem mw_290 : ((Jvm.Cond.fieldLink "SugarKitchen" (150 : Nat) "SugarKitchen$Rows" "stirred" "[Z") : Cond) ∈ gT := gI2 50 (by decide +kernel) rfl
theorem mw_291 : ((Jvm.Cond.fieldLink "SugarKitchen$Rows" (19 : Nat) "SugarKitchen$Rows" "degrees" "I") : Cond) ∈ gT := gI2 51 (by decide +kernel) rfl
theorem mw_292 : ((Jvm.Cond.fieldLink "SugarKitchen$Batch" (36 : Nat) "SugarKitchen$Rows" "degrees" "I") : Cond) ∈ gT := gI2 52 (by decide +kernel) rfl
theorem mw_293 : ((Jvm.Cond.fieldLink "SugarKitchen$Rows" (29 : Nat) "SugarKitchen$Rows" "stirrings" "I") : Cond) ∈ gT := gI2 53 (by decide +kernel) rfl
theorem mw_294 : ((Jvm.Cond.laysFinal "SugarKitchen$Rows" "SugarKitchen$Rows" "floatBits" "[I") : Cond) ∈ gT := gI2 54 (by decide +kernel) rfl
theorem mw_295 : ((Jvm.Cond.soleField "SugarKitchen$Rows" "floatBits") : Cond) ∈ gT := gI2 55 (by decide +kernel) rfl
theorem mw_296 : ((Jvm.Cond.laysFinal "SugarKitchen$Rows" "SugarKitchen$Rows" "stirred" "[Z") : Cond) ∈ gT := gI2 56 (by decide +kernel) rfl
theorem mw_297 : ((Jvm.Cond.soleField "SugarKitchen$Rows" "stirred") : Cond) ∈ gT := gI2 57 (by decide +kernel) rfl
theorem mw_298 : ((Jvm.Cond.lays "SugarKitchen$Rows" "SugarKitchen$Rows" "degrees" "I") : Cond) ∈ gT := gI2 58 (by decide +kernel) rfl
theorem mw_299 : ((Jvm.Cond.soleField "SugarKitchen$Rows" "degrees") : Cond) ∈ gT := gI2 59 (by decide +kernel) rfl
theorem mw_300 : ((Jvm.Cond.lays "SugarKitchen$Rows" "SugarKitchen$Rows" "stirrings" "I") : Cond) ∈ gT := gI2 60 (by decide +kernel) rfl
theorem mw_301 : ((Jvm.Cond.soleField "SugarKitchen$Rows" "stirrings") : Cond) ∈ gT := gI2 61 (by decide +kernel) rfl
theorem mw_302 : ((Jvm.Cond.superclass "SugarKitchen$Rows" "java/lang/Object") : Cond) ∈ gT := gI2 62 (by decide +kernel) rfl
theorem mw_303 : ((Jvm.Cond.constant "SugarKitchen$Batch" (18 : Nat) (-1000001 : Int32)) : Cond) ∈ gT := gI2 63 (by decide +kernel) rfl
theorem mw_304 : ((Jvm.Cond.fieldLink "SugarKitchen$Piece" (24 : Nat) "SugarKitchen$Batch" "kind" "I") : Cond) ∈ gT := gI2 64 (by decide +kernel) rfl
theorem mw_305 : ((Jvm.Cond.fieldLink "SugarKitchen$Batch" (29 : Nat) "SugarKitchen$Batch" "kind" "I") : Cond) ∈ gT := gI2 65 (by decide +kernel) rfl
theorem mw_306 : ((Jvm.Cond.fieldLink "SugarKitchen" (198 : Nat) "SugarKitchen$Batch" "kind" "I") : Cond) ∈ gT := gI2 66 (by decide +kernel) rfl
theorem mw_307 : ((Jvm.Cond.fieldLink "SugarKitchen$Batch" (12 : Nat) "SugarKitchen$Batch" "rows" "LSugarKitchen$Rows;") : Cond) ∈ gT := gI2 67 (by decide +kernel) rfl
theorem mw_308 : ((Jvm.Cond.fieldLink "SugarKitchen" (129 : Nat) "SugarKitchen$Batch" "rows" "LSugarKitchen$Rows;") : Cond) ∈ gT := gI2 68 (by decide +kernel) rfl
theorem mw_309 : ((Jvm.Cond.fieldLink "SugarKitchen$Batch" (64 : Nat) "SugarKitchen$Batch" "mass" "I") : Cond) ∈ gT := gI2 69 (by decide +kernel) rfl
theorem mw_310 : ((Jvm.Cond.fieldLink "SugarKitchen" (114 : Nat) "SugarKitchen$Batch" "mass" "I") : Cond) ∈ gT := gI2 70 (by decide +kernel) rfl
theorem mw_311 : ((Jvm.Cond.fieldLink "SugarKitchen" (117 : Nat) "SugarKitchen$Batch" "putIn" "I") : Cond) ∈ gT := gI2 71 (by decide +kernel) rfl
theorem mw_312 : ((Jvm.Cond.fieldLink "SugarKitchen$Batch" (95 : Nat) "SugarKitchen$Batch" "putIn" "I") : Cond) ∈ gT := gI2 72 (by decide +kernel) rfl
theorem mw_313 : ((Jvm.Cond.fieldLink "SugarKitchen$Piece" (36 : Nat) "SugarKitchen$Batch" "lots" "J") : Cond) ∈ gT := gI2 73 (by decide +kernel) rfl
theorem mw_314 : ((Jvm.Cond.fieldLink "SugarKitchen" (120 : Nat) "SugarKitchen$Batch" "lots" "J") : Cond) ∈ gT := gI2 74 (by decide +kernel) rfl
theorem mw_315 : ((Jvm.Cond.fieldLink "SugarKitchen$Batch" (32 : Nat) "SugarKitchen$Batch" "cooked" "Z") : Cond) ∈ gT := gI2 75 (by decide +kernel) rfl
theorem mw_316 : ((Jvm.Cond.fieldLink "SugarKitchen" (176 : Nat) "SugarKitchen$Batch" "cooked" "Z") : Cond) ∈ gT := gI2 76 (by decide +kernel) rfl
theorem mw_317 : ((Jvm.Cond.fieldLink "SugarKitchen$Batch" (82 : Nat) "SugarKitchen$Batch" "vouched" "Z") : Cond) ∈ gT := gI2 77 (by decide +kernel) rfl
theorem mw_318 : ((Jvm.Cond.fieldLink "SugarKitchen" (180 : Nat) "SugarKitchen$Batch" "vouched" "Z") : Cond) ∈ gT := gI2 78 (by decide +kernel) rfl
theorem mw_319 : ((Jvm.Cond.fieldLink "SugarKitchen$Batch" (69 : Nat) "SugarKitchen$Batch" "lost" "I") : Cond) ∈ gT := gI2 79 (by decide +kernel) rfl
theorem mw_320 : ((Jvm.Cond.fieldLink "SugarKitchen$Batch" (57 : Nat) "SugarKitchen$Batch" "loss" "I") : Cond) ∈ gT := gI2 80 (by decide +kernel) rfl
theorem mw_321 : ((Jvm.Cond.fieldLink "SugarKitchen$Batch" (19 : Nat) "SugarKitchen$Batch" "top" "I") : Cond) ∈ gT := gI2 81 (by decide +kernel) rfl
theorem mw_322 : ((Jvm.Cond.fieldLink "SugarKitchen$Batch" (23 : Nat) "SugarKitchen$Batch" "missingAt" "I") : Cond) ∈ gT := gI2 82 (by decide +kernel) rfl
theorem mw_323 : ((Jvm.Cond.fieldLink "SugarKitchen$Batch" (26 : Nat) "SugarKitchen$Batch" "grainedAt" "I") : Cond) ∈ gT := gI2 83 (by decide +kernel) rfl
theorem mw_324 : ((Jvm.Cond.fieldLink "SugarKitchen$Tempering" (30 : Nat) "SugarKitchen$Batch" "phase" "I") : Cond) ∈ gT := gI2 84 (by decide +kernel) rfl
theorem mw_325 : ((Jvm.Cond.fieldLink "SugarKitchen$Batch" (98 : Nat) "SugarKitchen$Batch" "phase" "I") : Cond) ∈ gT := gI2 85 (by decide +kernel) rfl
theorem mw_326 : ((Jvm.Cond.fieldLink "SugarKitchen" (205 : Nat) "SugarKitchen$Batch" "phase" "I") : Cond) ∈ gT := gI2 86 (by decide +kernel) rfl
theorem mw_327 : ((Jvm.Cond.fieldLink "SugarKitchen$Tempering" (39 : Nat) "SugarKitchen$Batch" "count" "I") : Cond) ∈ gT := gI2 87 (by decide +kernel) rfl
theorem mw_328 : ((Jvm.Cond.fieldLink "SugarKitchen$Batch" (101 : Nat) "SugarKitchen$Batch" "count" "I") : Cond) ∈ gT := gI2 88 (by decide +kernel) rfl
theorem mw_329 : ((Jvm.Cond.fieldLink "SugarKitchen" (343 : Nat) "SugarKitchen$Batch" "count" "I") : Cond) ∈ gT := gI2 89 (by decide +kernel) rfl
theorem mw_330 : ((Jvm.Cond.fieldLink "SugarKitchen$Batch" (104 : Nat) "SugarKitchen$Batch" "cutAway" "I") : Cond) ∈ gT := gI2 90 (by decide +kernel) rfl
theorem mw_331 : ((Jvm.Cond.fieldLink "SugarKitchen" (220 : Nat) "SugarKitchen$Batch" "cutAway" "I") : Cond) ∈ gT := gI2 91 (by decide +kernel) rfl
theorem mw_332 : ((Jvm.Cond.fieldLink "SugarKitchen$Batch" (107 : Nat) "SugarKitchen$Batch" "dippedAway" "I") : Cond) ∈ gT := gI2 92 (by decide +kernel) rfl
theorem mw_333 : ((Jvm.Cond.fieldLink "SugarKitchen" (230 : Nat) "SugarKitchen$Batch" "dippedAway" "I") : Cond) ∈ gT := gI2 93 (by decide +kernel) rfl
theorem mw_334 : ((Jvm.Cond.laysFinal "SugarKitchen$Batch" "SugarKitchen$Batch" "kind" "I") : Cond) ∈ gT := gI2 94 (by decide +kernel) rfl
theorem mw_335 : ((Jvm.Cond.soleField "SugarKitchen$Batch" "kind") : Cond) ∈ gT := gI2 95 (by decide +kernel) rfl
theorem mw_336 : ((Jvm.Cond.laysFinal "SugarKitchen$Batch" "SugarKitchen$Batch" "rows" "LSugarKitchen$Rows;") : Cond) ∈ gT := gI2 96 (by decide +kernel) rfl
theorem mw_337 : ((Jvm.Cond.soleField "SugarKitchen$Batch" "rows") : Cond) ∈ gT := gI2 97 (by decide +kernel) rfl
theorem mw_338 : ((Jvm.Cond.lays "SugarKitchen$Batch" "SugarKitchen$Batch" "mass" "I") : Cond) ∈ gT := gI2 98 (by decide +kernel) rfl
theorem mw_339 : ((Jvm.Cond.soleField "SugarKitchen$Batch" "mass") : Cond) ∈ gT := gI2 99 (by decide +kernel) rfl
theorem mw_340 : ((Jvm.Cond.lays "SugarKitchen$Batch" "SugarKitchen$Batch" "putIn" "I") : Cond) ∈ gT := gI2 100 (by decide +kernel) rfl
theorem mw_341 : ((Jvm.Cond.soleField "SugarKitchen$Batch" "putIn") : Cond) ∈ gT := gI2 101 (by decide +kernel) rfl
theorem mw_342 : ((Jvm.Cond.lays "SugarKitchen$Batch" "SugarKitchen$Batch" "lots" "J") : Cond) ∈ gT := gI2 102 (by decide +kernel) rfl
theorem mw_343 : ((Jvm.Cond.soleField "SugarKitchen$Batch" "lots") : Cond) ∈ gT := gI2 103 (by decide +kernel) rfl
theorem mw_344 : ((Jvm.Cond.lays "SugarKitchen$Batch" "SugarKitchen$Batch" "cooked" "Z") : Cond) ∈ gT := gI2 104 (by decide +kernel) rfl
theorem mw_345 : ((Jvm.Cond.soleField "SugarKitchen$Batch" "cooked") : Cond) ∈ gT := gI2 105 (by decide +kernel) rfl
theorem mw_346 : ((Jvm.Cond.lays "SugarKitchen$Batch" "SugarKitchen$Batch" "vouched" "Z") : Cond) ∈ gT := gI2 106 (by decide +kernel) rfl
theorem mw_347 : ((Jvm.Cond.soleField "SugarKitchen$Batch" "vouched") : Cond) ∈ gT := gI2 107 (by decide +kernel) rfl
theorem mw_348 : ((Jvm.Cond.lays "SugarKitchen$Batch" "SugarKitchen$Batch" "lost" "I") : Cond) ∈ gT := gI2 108 (by decide +kernel) rfl
theorem mw_349 : ((Jvm.Cond.soleField "SugarKitchen$Batch" "lost") : Cond) ∈ gT := gI2 109 (by decide +kernel) rfl
theorem mw_350 : ((Jvm.Cond.lays "SugarKitchen$Batch" "SugarKitchen$Batch" "loss" "I") : Cond) ∈ gT := gI2 110 (by decide +kernel) rfl
theorem mw_351 : ((Jvm.Cond.soleField "SugarKitchen$Batch" "loss") : Cond) ∈ gT := gI2 111 (by decide +kernel) rfl
theorem mw_352 : ((Jvm.Cond.lays "SugarKitchen$Batch" "SugarKitchen$Batch" "top" "I") : Cond) ∈ gT := gI2 112 (by decide +kernel) rfl
theorem mw_353 : ((Jvm.Cond.soleField "SugarKitchen$Batch" "top") : Cond) ∈ gT := gI2 113 (by decide +kernel) rfl
theorem mw_354 : ((Jvm.Cond.lays "SugarKitchen$Batch" "SugarKitchen$Batch" "missingAt" "I") : Cond) ∈ gT := gI2 114 (by decide +kernel) rfl
theorem mw_355 : ((Jvm.Cond.soleField "SugarKitchen$Batch" "missingAt") : Cond) ∈ gT := gI2 115 (by decide +kernel) rfl
theorem mw_356 : ((Jvm.Cond.lays "SugarKitchen$Batch" "SugarKitchen$Batch" "grainedAt" "I") : Cond) ∈ gT := gI2 116 (by decide +kernel) rfl
theorem mw_357 : ((Jvm.Cond.soleField "SugarKitchen$Batch" "grainedAt") : Cond) ∈ gT := gI2 117 (by decide +kernel) rfl
theorem mw_358 : ((Jvm.Cond.lays "SugarKitchen$Batch" "SugarKitchen$Batch" "phase" "I") : Cond) ∈ gT := gI2 118 (by decide +kernel) rfl
theorem mw_359 : ((Jvm.Cond.soleField "SugarKitchen$Batch" "phase") : Cond) ∈ gT := gI2 119 (by decide +kernel) rfl
theorem mw_360 : ((Jvm.Cond.lays "SugarKitchen$Batch" "SugarKitchen$Batch" "count" "I") : Cond) ∈ gT := gI2 120 (by decide +kernel) rfl
theorem mw_361 : ((Jvm.Cond.soleField "SugarKitchen$Batch" "count") : Cond) ∈ gT := gI2 121 (by decide +kernel) rfl
theorem mw_362 : ((Jvm.Cond.lays "SugarKitchen$Batch" "SugarKitchen$Batch" "cutAway" "I") : Cond) ∈ gT := gI2 122 (by decide +kernel) rfl
theorem mw_363 : ((Jvm.Cond.soleField "SugarKitchen$Batch" "cutAway") : Cond) ∈ gT := gI2 123 (by decide +kernel) rfl
theorem mw_364 : ((Jvm.Cond.lays "SugarKitchen$Batch" "SugarKitchen$Batch" "dippedAway" "I") : Cond) ∈ gT := gI2 124 (by decide +kernel) rfl
theorem mw_365 : ((Jvm.Cond.soleField "SugarKitchen$Batch" "dippedAway") : Cond) ∈ gT := gI2 125 (by decide +kernel) rfl
theorem mw_366 : ((Jvm.Cond.superclass "SugarKitchen$Batch" "java/lang/Object") : Cond) ∈ gT := gI2 126 (by decide +kernel) rfl
theorem mw_367 : ((Jvm.Cond.methodLink "SugarKitchenLaw" (23 : Nat) ({ cls := "SugarKitchen", name := "put", desc := "(III)I" } : Jvm.MethodName)) : Cond) ∈ gT := gI2 127 (by decide +kernel) rfl
theorem mw_368 : ((Jvm.Cond.instanceMethod ({ cls := "SugarKitchen", name := "put", desc := "(III)I" } : Jvm.MethodName)) : Cond) ∈ gT := gI2 128 (by decide +kernel) rfl
theorem mw_369 : ((Jvm.Cond.selects "SugarKitchen" ({ cls := "SugarKitchen", name := "put", desc := "(III)I" } : Jvm.MethodName) ({ cls := "SugarKitchen", name := "put", desc := "(III)I" } : Jvm.MethodName)) : Cond) ∈ gT := gI2 129 (by decide +kernel) rfl
set_option maxRecDepth 100000 in
theorem mw_370 : ((Jvm.Cond.code ({ cls := "SugarKitchen", name := "put", desc := "(III)I" } : Jvm.MethodName) prog_1_method_4_code (6 : Nat) (Option.some Jvm.ClassFile.FieldType.int)) : Cond) ∈ gT := gI2 130 rfl rfl
theorem mw_371 : ((Jvm.Cond.methodLink "SugarKitchen" (103 : Nat) ({ cls := "SugarKitchen", name := "findRaw", desc := "(I)LSugarKitchen$Batch;" } : Jvm.MethodName)) : Cond) ∈ gT := gI2 131 (by decide +kernel) rfl
theorem mw_373 : ((Jvm.Cond.instanceMethod ({ cls := "SugarKitchen", name := "findRaw", desc := "(I)LSugarKitchen$Batch;" } : Jvm.MethodName)) : Cond) ∈ gT := gI2 133 (by decide +kernel) rfl
set_option maxRecDepth 100000 in
theorem mw_374 : ((Jvm.Cond.code ({ cls := "SugarKitchen", name := "findRaw", desc := "(I)LSugarKitchen$Batch;" } : Jvm.MethodName) prog_1_method_40_code (3 : Nat) (Option.some (Jvm.ClassFile.FieldType.object "SugarKitchen$Batch"))) : Cond) ∈ gT := gI2 134 rfl rfl
theorem mw_375 : ((Jvm.Cond.methodLink "SugarKitchen" (173 : Nat) ({ cls := "SugarKitchen", name := "findBatch", desc := "(I)LSugarKitchen$Batch;" } : Jvm.MethodName)) : Cond) ∈ gT := gI2 135 (by decide +kernel) rfl
theorem mw_377 : ((Jvm.Cond.instanceMethod ({ cls := "SugarKitchen", name := "findBatch", desc := "(I)LSugarKitchen$Batch;" } : Jvm.MethodName)) : Cond) ∈ gT := gI2 137 (by decide +kernel) rfl
set_option maxRecDepth 100000 in
theorem mw_378 : ((Jvm.Cond.code ({ cls := "SugarKitchen", name := "findBatch", desc := "(I)LSugarKitchen$Batch;" } : Jvm.MethodName) prog_1_method_39_code (2 : Nat) (Option.some (Jvm.ClassFile.FieldType.object "SugarKitchen$Batch"))) : Cond) ∈ gT := gI2 138 rfl rfl
theorem mw_379 : ((Jvm.Cond.methodLink "SugarKitchen" (107 : Nat) ({ cls := "SugarKitchen", name := "findLot", desc := "(I)LSugarKitchen$Lot;" } : Jvm.MethodName)) : Cond) ∈ gT := gI2 139 (by decide +kernel) rfl
theorem mw_381 : ((Jvm.Cond.instanceMethod ({ cls := "SugarKitchen", name := "findLot", desc := "(I)LSugarKitchen$Lot;" } : Jvm.MethodName)) : Cond) ∈ gT := gI2 141 (by decide +kernel) rfl
set_option maxRecDepth 100000 in
theorem mw_382 : ((Jvm.Cond.code ({ cls := "SugarKitchen", name := "findLot", desc := "(I)LSugarKitchen$Lot;" } : Jvm.MethodName) prog_1_method_38_code (2 : Nat) (Option.some (Jvm.ClassFile.FieldType.object "SugarKitchen$Lot"))) : Cond) ∈ gT := gI2 142 rfl rfl
theorem mw_383 : ((Jvm.Cond.methodLink "SugarKitchenLaw" (28 : Nat) ({ cls := "SugarKitchen", name := "row", desc := "(III)Z" } : Jvm.MethodName)) : Cond) ∈ gT := gI2 143 (by decide +kernel) rfl
theorem mw_384 : ((Jvm.Cond.instanceMethod ({ cls := "SugarKitchen", name := "row", desc := "(III)Z" } : Jvm.MethodName)) : Cond) ∈ gT := gI2 144 (by decide +kernel) rfl
theorem mw_385 : ((Jvm.Cond.selects "SugarKitchen" ({ cls := "SugarKitchen", name := "row", desc := "(III)Z" } : Jvm.MethodName) ({ cls := "SugarKitchen", name := "row", desc := "(III)Z" } : Jvm.MethodName)) : Cond) ∈ gT := gI2 145 (by decide +kernel) rfl
set_option maxRecDepth 100000 in
theorem mw_386 : ((Jvm.Cond.code ({ cls := "SugarKitchen", name := "row", desc := "(III)Z" } : Jvm.MethodName) prog_1_method_5_code (6 : Nat) (Option.some Jvm.ClassFile.FieldType.boolean)) : Cond) ∈ gT := gI2 146 rfl rfl
theorem mw_387 : ((Jvm.Cond.methodLink "SugarKitchen" (123 : Nat) ({ cls := "java/lang/Math", name := "max", desc := "(II)I" } : Jvm.MethodName)) : Cond) ∈ gT := gI2 147 (by decide +kernel) rfl
theorem mw_388 : ((Jvm.Cond.static ({ cls := "java/lang/Math", name := "max", desc := "(II)I" } : Jvm.MethodName)) : Cond) ∈ gT := gI2 148 (by decide +kernel) rfl
set_option maxRecDepth 100000 in
theorem mw_389 : ((Jvm.Cond.code ({ cls := "java/lang/Math", name := "max", desc := "(II)I" } : Jvm.MethodName) prog_16_method_65_code (2 : Nat) (Option.some Jvm.ClassFile.FieldType.int)) : Cond) ∈ gT := gI2 149 rfl rfl
theorem mw_390 : ((Jvm.Cond.methodLink "SugarKitchen" (133 : Nat) ({ cls := "SugarKitchen$Rows", name := "renewDegrees", desc := "(I)V" } : Jvm.MethodName)) : Cond) ∈ gT := gI2 150 (by decide +kernel) rfl
theorem mw_391 : ((Jvm.Cond.instanceMethod ({ cls := "SugarKitchen$Rows", name := "renewDegrees", desc := "(I)V" } : Jvm.MethodName)) : Cond) ∈ gT := gI2 151 (by decide +kernel) rfl
theorem mw_392 : ((Jvm.Cond.selects "SugarKitchen$Rows" ({ cls := "SugarKitchen$Rows", name := "renewDegrees", desc := "(I)V" } : Jvm.MethodName) ({ cls := "SugarKitchen$Rows", name := "renewDegrees", desc := "(I)V" } : Jvm.MethodName)) : Cond) ∈ gT := gI2 152 (by decide +kernel) rfl
set_option maxRecDepth 100000 in
theorem mw_393 : ((Jvm.Cond.code ({ cls := "SugarKitchen$Rows", name := "renewDegrees", desc := "(I)V" } : Jvm.MethodName) prog_9_method_2_code (2 : Nat) (Option.none : Option Jvm.ClassFile.FieldType)) : Cond) ∈ gT := gI2 153 rfl rfl
theorem mw_394 : ((Jvm.Cond.methodLink "SugarKitchen$Rows" (23 : Nat) ({ cls := "java/util/Arrays", name := "fill", desc := "([II)V" } : Jvm.MethodName)) : Cond) ∈ gT := gI2 154 (by decide +kernel) rfl
theorem mw_395 : ((Jvm.Cond.methodLink "SugarKitchen" (138 : Nat) ({ cls := "SugarKitchen$Rows", name := "renewStirring", desc := "(I)V" } : Jvm.MethodName)) : Cond) ∈ gT := gI2 155 (by decide +kernel) rfl
theorem mw_396 : ((Jvm.Cond.instanceMethod ({ cls := "SugarKitchen$Rows", name := "renewStirring", desc := "(I)V" } : Jvm.MethodName)) : Cond) ∈ gT := gI2 156 (by decide +kernel) rfl
theorem mw_397 : ((Jvm.Cond.selects "SugarKitchen$Rows" ({ cls := "SugarKitchen$Rows", name := "renewStirring", desc := "(I)V" } : Jvm.MethodName) ({ cls := "SugarKitchen$Rows", name := "renewStirring", desc := "(I)V" } : Jvm.MethodName)) : Cond) ∈ gT := gI2 157 (by decide +kernel) rfl
set_option maxRecDepth 100000 in
theorem mw_398 : ((Jvm.Cond.code ({ cls := "SugarKitchen$Rows", name := "renewStirring", desc := "(I)V" } : Jvm.MethodName) prog_9_method_3_code (3 : Nat) (Option.none : Option Jvm.ClassFile.FieldType)) : Cond) ∈ gT := gI2 158 rfl rfl
theorem mw_399 : ((Jvm.Cond.methodLink "SugarKitchenLaw" (33 : Nat) ({ cls := "SugarKitchen", name := "tick", desc := "(III)Z" } : Jvm.MethodName)) : Cond) ∈ gT := gI2 159 (by decide +kernel) rfl
theorem mw_400 : ((Jvm.Cond.instanceMethod ({ cls := "SugarKitchen", name := "tick", desc := "(III)Z" } : Jvm.MethodName)) : Cond) ∈ gT := gI2 160 (by decide +kernel) rfl
theorem mw_401 : ((Jvm.Cond.selects "SugarKitchen" ({ cls := "SugarKitchen", name := "tick", desc := "(III)Z" } : Jvm.MethodName) ({ cls := "SugarKitchen", name := "tick", desc := "(III)Z" } : Jvm.MethodName)) : Cond) ∈ gT := gI2 161 (by decide +kernel) rfl
set_option maxRecDepth 100000 in
theorem mw_402 : ((Jvm.Cond.code ({ cls := "SugarKitchen", name := "tick", desc := "(III)Z" } : Jvm.MethodName) prog_1_method_6_code (5 : Nat) (Option.some Jvm.ClassFile.FieldType.boolean)) : Cond) ∈ gT := gI2 162 rfl rfl
theorem mw_403 : ((Jvm.Cond.methodLink "SugarKitchen" (141 : Nat) ({ cls := "SugarKitchen$Rows", name := "hasDegree", desc := "(I)Z" } : Jvm.MethodName)) : Cond) ∈ gT := gI2 163 (by decide +kernel) rfl
theorem mw_404 : ((Jvm.Cond.instanceMethod ({ cls := "SugarKitchen$Rows", name := "hasDegree", desc := "(I)Z" } : Jvm.MethodName)) : Cond) ∈ gT := gI2 164 (by decide +kernel) rfl
theorem mw_405 : ((Jvm.Cond.selects "SugarKitchen$Rows" ({ cls := "SugarKitchen$Rows", name := "hasDegree", desc := "(I)Z" } : Jvm.MethodName) ({ cls := "SugarKitchen$Rows", name := "hasDegree", desc := "(I)Z" } : Jvm.MethodName)) : Cond) ∈ gT := gI2 165 (by decide +kernel) rfl
set_option maxRecDepth 100000 in
theorem mw_406 : ((Jvm.Cond.code ({ cls := "SugarKitchen$Rows", name := "hasDegree", desc := "(I)Z" } : Jvm.MethodName) prog_9_method_4_code (2 : Nat) (Option.some Jvm.ClassFile.FieldType.boolean)) : Cond) ∈ gT := gI2 166 rfl rfl
theorem mt_407 : ((Jvm.Cond.methodLinkNest "SugarKitchen$Rows" (32 : Nat) ({ cls := "SugarKitchen", name := "within", desc := "(III)Z" } : Jvm.MethodName) "SugarKitchen") : Cond) ∈ lw_tbl := gC2 167 (by decide +kernel)
theorem mw_408 : ((Jvm.Cond.methodLink "SugarKitchenLaw" (37 : Nat) ({ cls := "SugarKitchen", name := "stir", desc := "(IIZ)Z" } : Jvm.MethodName)) : Cond) ∈ gT := gI2 168 (by decide +kernel) rfl
theorem mw_409 : ((Jvm.Cond.instanceMethod ({ cls := "SugarKitchen", name := "stir", desc := "(IIZ)Z" } : Jvm.MethodName)) : Cond) ∈ gT := gI2 169 (by decide +kernel) rfl
theorem mw_410 : ((Jvm.Cond.selects "SugarKitchen" ({ cls := "SugarKitchen", name := "stir", desc := "(IIZ)Z" } : Jvm.MethodName) ({ cls := "SugarKitchen", name := "stir", desc := "(IIZ)Z" } : Jvm.MethodName)) : Cond) ∈ gT := gI2 170 (by decide +kernel) rfl
set_option maxRecDepth 100000 in
theorem mw_411 : ((Jvm.Cond.code ({ cls := "SugarKitchen", name := "stir", desc := "(IIZ)Z" } : Jvm.MethodName) prog_1_method_7_code (5 : Nat) (Option.some Jvm.ClassFile.FieldType.boolean)) : Cond) ∈ gT := gI2 171 rfl rfl
theorem mw_412 : ((Jvm.Cond.methodLink "SugarKitchen" (147 : Nat) ({ cls := "SugarKitchen$Rows", name := "hasStirring", desc := "(I)Z" } : Jvm.MethodName)) : Cond) ∈ gT := gI2 172 (by decide +kernel) rfl
theorem mw_413 : ((Jvm.Cond.instanceMethod ({ cls := "SugarKitchen$Rows", name := "hasStirring", desc := "(I)Z" } : Jvm.MethodName)) : Cond) ∈ gT := gI2 173 (by decide +kernel) rfl
theorem mw_414 : ((Jvm.Cond.selects "SugarKitchen$Rows" ({ cls := "SugarKitchen$Rows", name := "hasStirring", desc := "(I)Z" } : Jvm.MethodName) ({ cls := "SugarKitchen$Rows", name := "hasStirring", desc := "(I)Z" } : Jvm.MethodName)) : Cond) ∈ gT := gI2 174 (by decide +kernel) rfl
set_option maxRecDepth 100000 in
theorem mw_415 : ((Jvm.Cond.code ({ cls := "SugarKitchen$Rows", name := "hasStirring", desc := "(I)Z" } : Jvm.MethodName) prog_9_method_5_code (2 : Nat) (Option.some Jvm.ClassFile.FieldType.boolean)) : Cond) ∈ gT := gI2 175 rfl rfl
theorem mw_416 : ((Jvm.Cond.methodLink "SugarKitchenLaw" (42 : Nat) ({ cls := "SugarKitchen", name := "table", desc := "(II)I" } : Jvm.MethodName)) : Cond) ∈ gT := gI2 176 (by decide +kernel) rfl
theorem mw_417 : ((Jvm.Cond.instanceMethod ({ cls := "SugarKitchen", name := "table", desc := "(II)I" } : Jvm.MethodName)) : Cond) ∈ gT := gI2 177 (by decide +kernel) rfl
theorem mw_418 : ((Jvm.Cond.selects "SugarKitchen" ({ cls := "SugarKitchen", name := "table", desc := "(II)I" } : Jvm.MethodName) ({ cls := "SugarKitchen", name := "table", desc := "(II)I" } : Jvm.MethodName)) : Cond) ∈ gT := gI2 178 (by decide +kernel) rfl
set_option maxRecDepth 100000 in
theorem mw_419 : ((Jvm.Cond.code ({ cls := "SugarKitchen", name := "table", desc := "(II)I" } : Jvm.MethodName) prog_1_method_8_code (3 : Nat) (Option.some Jvm.ClassFile.FieldType.int)) : Cond) ∈ gT := gI2 179 rfl rfl
theorem mw_420 : ((Jvm.Cond.methodLink "SugarKitchen" (154 : Nat) ({ cls := "SugarKitchen$Rules", name := "addLoss", desc := "(II)I" } : Jvm.MethodName)) : Cond) ∈ gT := gI2 180 (by decide +kernel) rfl
theorem mw_421 : ((Jvm.Cond.instanceMethod ({ cls := "SugarKitchen$Rules", name := "addLoss", desc := "(II)I" } : Jvm.MethodName)) : Cond) ∈ gT := gI2 181 (by decide +kernel) rfl
theorem mw_422 : ((Jvm.Cond.selects "SugarKitchen$Rules" ({ cls := "SugarKitchen$Rules", name := "addLoss", desc := "(II)I" } : Jvm.MethodName) ({ cls := "SugarKitchen$Rules", name := "addLoss", desc := "(II)I" } : Jvm.MethodName)) : Cond) ∈ gT := gI2 182 (by decide +kernel) rfl
set_option maxRecDepth 100000 in
theorem mw_423 : ((Jvm.Cond.code ({ cls := "SugarKitchen$Rules", name := "addLoss", desc := "(II)I" } : Jvm.MethodName) prog_10_method_2_code (4 : Nat) (Option.some Jvm.ClassFile.FieldType.int)) : Cond) ∈ gT := gI2 183 rfl rfl
theorem mt_424 : ((Jvm.Cond.methodLinkNest "SugarKitchen$Rules" (40 : Nat) ({ cls := "SugarKitchen", name := "within", desc := "(III)Z" } : Jvm.MethodName) "SugarKitchen") : Cond) ∈ lw_tbl := gC2 184 (by decide +kernel)
theorem mw_425 : ((Jvm.Cond.methodLink "SugarKitchenLaw" (46 : Nat) ({ cls := "SugarKitchen", name := "grain", desc := "(II)Z" } : Jvm.MethodName)) : Cond) ∈ gT := gI2 185 (by decide +kernel) rfl
theorem mw_426 : ((Jvm.Cond.instanceMethod ({ cls := "SugarKitchen", name := "grain", desc := "(II)Z" } : Jvm.MethodName)) : Cond) ∈ gT := gI2 186 (by decide +kernel) rfl
theorem mw_427 : ((Jvm.Cond.selects "SugarKitchen" ({ cls := "SugarKitchen", name := "grain", desc := "(II)Z" } : Jvm.MethodName) ({ cls := "SugarKitchen", name := "grain", desc := "(II)Z" } : Jvm.MethodName)) : Cond) ∈ gT := gI2 187 (by decide +kernel) rfl
set_option maxRecDepth 100000 in
theorem mw_428 : ((Jvm.Cond.code ({ cls := "SugarKitchen", name := "grain", desc := "(II)Z" } : Jvm.MethodName) prog_1_method_9_code (3 : Nat) (Option.some Jvm.ClassFile.FieldType.boolean)) : Cond) ∈ gT := gI2 188 rfl rfl
theorem mw_429 : ((Jvm.Cond.methodLink "SugarKitchenLaw" (51 : Nat) ({ cls := "SugarKitchen", name := "bounds", desc := "(III)Z" } : Jvm.MethodName)) : Cond) ∈ gT := gI2 189 (by decide +kernel) rfl
theorem mw_430 : ((Jvm.Cond.instanceMethod ({ cls := "SugarKitchen", name := "bounds", desc := "(III)Z" } : Jvm.MethodName)) : Cond) ∈ gT := gI2 190 (by decide +kernel) rfl
theorem mw_431 : ((Jvm.Cond.selects "SugarKitchen" ({ cls := "SugarKitchen", name := "bounds", desc := "(III)Z" } : Jvm.MethodName) ({ cls := "SugarKitchen", name := "bounds", desc := "(III)Z" } : Jvm.MethodName)) : Cond) ∈ gT := gI2 191 (by decide +kernel) rfl
set_option maxRecDepth 100000 in
theorem mw_432 : ((Jvm.Cond.code ({ cls := "SugarKitchen", name := "bounds", desc := "(III)Z" } : Jvm.MethodName) prog_1_method_10_code (4 : Nat) (Option.some Jvm.ClassFile.FieldType.boolean)) : Cond) ∈ gT := gI2 192 rfl rfl
theorem mw_433 : ((Jvm.Cond.methodLink "SugarKitchenLaw" (55 : Nat) ({ cls := "SugarKitchen", name := "cook", desc := "(II)I" } : Jvm.MethodName)) : Cond) ∈ gT := gI2 193 (by decide +kernel) rfl
theorem mw_434 : ((Jvm.Cond.instanceMethod ({ cls := "SugarKitchen", name := "cook", desc := "(II)I" } : Jvm.MethodName)) : Cond) ∈ gT := gI2 194 (by decide +kernel) rfl
theorem mw_435 : ((Jvm.Cond.selects "SugarKitchen" ({ cls := "SugarKitchen", name := "cook", desc := "(II)I" } : Jvm.MethodName) ({ cls := "SugarKitchen", name := "cook", desc := "(II)I" } : Jvm.MethodName)) : Cond) ∈ gT := gI2 195 (by decide +kernel) rfl
set_option maxRecDepth 100000 in
theorem mw_436 : ((Jvm.Cond.code ({ cls := "SugarKitchen", name := "cook", desc := "(II)I" } : Jvm.MethodName) prog_1_method_11_code (4 : Nat) (Option.some Jvm.ClassFile.FieldType.int)) : Cond) ∈ gT := gI2 196 rfl rfl
theorem mw_437 : ((Jvm.Cond.methodLink "SugarKitchen" (169 : Nat) ({ cls := "SugarKitchen$Batch", name := "cookOver", desc := "(ILSugarKitchen$Rules;)V" } : Jvm.MethodName)) : Cond) ∈ gT := gI2 197 (by decide +kernel) rfl
theorem mw_438 : ((Jvm.Cond.instanceMethod ({ cls := "SugarKitchen$Batch", name := "cookOver", desc := "(ILSugarKitchen$Rules;)V" } : Jvm.MethodName)) : Cond) ∈ gT := gI2 198 (by decide +kernel) rfl
theorem mw_439 : ((Jvm.Cond.selects "SugarKitchen$Batch" ({ cls := "SugarKitchen$Batch", name := "cookOver", desc := "(ILSugarKitchen$Rules;)V" } : Jvm.MethodName) ({ cls := "SugarKitchen$Batch", name := "cookOver", desc := "(ILSugarKitchen$Rules;)V" } : Jvm.MethodName)) : Cond) ∈ gT := gI2 199 (by decide +kernel) rfl
set_option maxRecDepth 100000 in
theorem mw_440 : ((Jvm.Cond.code ({ cls := "SugarKitchen$Batch", name := "cookOver", desc := "(ILSugarKitchen$Rules;)V" } : Jvm.MethodName) prog_2_method_2_code (5 : Nat) (Option.none : Option Jvm.ClassFile.FieldType)) : Cond) ∈ gT := gI2 200 rfl rfl
theorem mw_441 : ((Jvm.Cond.methodLink "SugarKitchen$Batch" (39 : Nat) ({ cls := "java/lang/Math", name := "min", desc := "(II)I" } : Jvm.MethodName)) : Cond) ∈ gT := gI2 201 (by decide +kernel) rfl
theorem mw_442 : ((Jvm.Cond.static ({ cls := "java/lang/Math", name := "min", desc := "(II)I" } : Jvm.MethodName)) : Cond) ∈ gT := gI2 202 (by decide +kernel) rfl
set_option maxRecDepth 100000 in
theorem mw_443 : ((Jvm.Cond.code ({ cls := "java/lang/Math", name := "min", desc := "(II)I" } : Jvm.MethodName) prog_16_method_69_code (2 : Nat) (Option.some Jvm.ClassFile.FieldType.int)) : Cond) ∈ gT := gI2 203 rfl rfl
theorem mw_444 : ((Jvm.Cond.methodLink "SugarKitchen$Batch" (45 : Nat) ({ cls := "SugarKitchen$Batch", name := "findTop", desc := "(I)I" } : Jvm.MethodName)) : Cond) ∈ gT := gI2 204 (by decide +kernel) rfl
theorem mw_446 : ((Jvm.Cond.instanceMethod ({ cls := "SugarKitchen$Batch", name := "findTop", desc := "(I)I" } : Jvm.MethodName)) : Cond) ∈ gT := gI2 206 (by decide +kernel) rfl
set_option maxRecDepth 100000 in
theorem mw_447 : ((Jvm.Cond.code ({ cls := "SugarKitchen$Batch", name := "findTop", desc := "(I)I" } : Jvm.MethodName) prog_2_method_3_code (6 : Nat) (Option.some Jvm.ClassFile.FieldType.int)) : Cond) ∈ gT := gI2 207 rfl rfl
theorem mw_448 : ((Jvm.Cond.methodLink "SugarKitchen$Batch" (72 : Nat) ({ cls := "SugarKitchen$Rows", name := "isNumber", desc := "(I)Z" } : Jvm.MethodName)) : Cond) ∈ gT := gI2 208 (by decide +kernel) rfl
theorem mw_449 : ((Jvm.Cond.instanceMethod ({ cls := "SugarKitchen$Rows", name := "isNumber", desc := "(I)Z" } : Jvm.MethodName)) : Cond) ∈ gT := gI2 209 (by decide +kernel) rfl
theorem mw_450 : ((Jvm.Cond.selects "SugarKitchen$Rows" ({ cls := "SugarKitchen$Rows", name := "isNumber", desc := "(I)Z" } : Jvm.MethodName) ({ cls := "SugarKitchen$Rows", name := "isNumber", desc := "(I)Z" } : Jvm.MethodName)) : Cond) ∈ gT := gI2 210 (by decide +kernel) rfl
set_option maxRecDepth 100000 in
theorem mw_451 : ((Jvm.Cond.code ({ cls := "SugarKitchen$Rows", name := "isNumber", desc := "(I)Z" } : Jvm.MethodName) prog_9_method_7_code (2 : Nat) (Option.some Jvm.ClassFile.FieldType.boolean)) : Cond) ∈ gT := gI2 211 rfl rfl
theorem mw_452 : ((Jvm.Cond.methodLink "SugarKitchen$Rows" (40 : Nat) ({ cls := "SugarKitchen$Rows", name := "hasDegree", desc := "(I)Z" } : Jvm.MethodName)) : Cond) ∈ gT := gI2 212 (by decide +kernel) rfl
theorem mw_453 : ((Jvm.Cond.constant "SugarKitchen$Rows" (43 : Nat) (2147483647 : Int32)) : Cond) ∈ gT := gI2 213 (by decide +kernel) rfl
theorem mw_454 : ((Jvm.Cond.constant "SugarKitchen$Rows" (44 : Nat) (2139095040 : Int32)) : Cond) ∈ gT := gI2 214 (by decide +kernel) rfl
theorem mw_455 : ((Jvm.Cond.methodLink "SugarKitchen$Batch" (49 : Nat) ({ cls := "SugarKitchen$Rows", name := "degreeAt", desc := "(I)I" } : Jvm.MethodName)) : Cond) ∈ gT := gI2 215 (by decide +kernel) rfl
theorem mw_456 : ((Jvm.Cond.instanceMethod ({ cls := "SugarKitchen$Rows", name := "degreeAt", desc := "(I)I" } : Jvm.MethodName)) : Cond) ∈ gT := gI2 216 (by decide +kernel) rfl
theorem mw_457 : ((Jvm.Cond.selects "SugarKitchen$Rows" ({ cls := "SugarKitchen$Rows", name := "degreeAt", desc := "(I)I" } : Jvm.MethodName) ({ cls := "SugarKitchen$Rows", name := "degreeAt", desc := "(I)I" } : Jvm.MethodName)) : Cond) ∈ gT := gI2 217 (by decide +kernel) rfl
set_option maxRecDepth 100000 in
theorem mw_458 : ((Jvm.Cond.code ({ cls := "SugarKitchen$Rows", name := "degreeAt", desc := "(I)I" } : Jvm.MethodName) prog_9_method_8_code (2 : Nat) (Option.some Jvm.ClassFile.FieldType.int)) : Cond) ∈ gT := gI2 218 rfl rfl
theorem mw_459 : ((Jvm.Cond.methodLink "SugarKitchen$Rows" (45 : Nat) ({ cls := "SugarKitchen$Rows", name := "tenfold", desc := "(I)I" } : Jvm.MethodName)) : Cond) ∈ gT := gI2 219 (by decide +kernel) rfl
theorem mw_460 : ((Jvm.Cond.static ({ cls := "SugarKitchen$Rows", name := "tenfold", desc := "(I)I" } : Jvm.MethodName)) : Cond) ∈ gT := gI2 220 (by decide +kernel) rfl
set_option maxRecDepth 100000 in
theorem mw_461 : ((Jvm.Cond.code ({ cls := "SugarKitchen$Rows", name := "tenfold", desc := "(I)I" } : Jvm.MethodName) prog_9_method_9_code (4 : Nat) (Option.some Jvm.ClassFile.FieldType.int)) : Cond) ∈ gT := gI2 221 rfl rfl
theorem mw_462 : ((Jvm.Cond.constant "SugarKitchen$Rows" (49 : Nat) (8388607 : Int32)) : Cond) ∈ gT := gI2 222 (by decide +kernel) rfl
theorem mw_463 : ((Jvm.Cond.constant "SugarKitchen$Rows" (50 : Nat) (8388608 : Int32)) : Cond) ∈ gT := gI2 223 (by decide +kernel) rfl
theorem mw_464 : ((Jvm.Cond.constant "SugarKitchen$Rows" (51 : Nat) (-2147483648 : Int32)) : Cond) ∈ gT := gI2 224 (by decide +kernel) rfl
theorem mw_465 : ((Jvm.Cond.constantFloat "SugarKitchen$Rows" (52 : Nat) (3240099840 : UInt32)) : Cond) ∈ gT := gI2 225 (by decide +kernel) rfl
theorem mw_466 : ((Jvm.Cond.constantFloat "SugarKitchen$Rows" (53 : Nat) (1092616192 : UInt32)) : Cond) ∈ gT := gI2 226 (by decide +kernel) rfl
theorem mw_467 : ((Jvm.Cond.methodLink "SugarKitchen$Batch" (52 : Nat) ({ cls := "SugarKitchen$Rules", name := "lossAt", desc := "(I)I" } : Jvm.MethodName)) : Cond) ∈ gT := gI2 227 (by decide +kernel) rfl
theorem mw_468 : ((Jvm.Cond.instanceMethod ({ cls := "SugarKitchen$Rules", name := "lossAt", desc := "(I)I" } : Jvm.MethodName)) : Cond) ∈ gT := gI2 228 (by decide +kernel) rfl
theorem mw_469 : ((Jvm.Cond.selects "SugarKitchen$Rules" ({ cls := "SugarKitchen$Rules", name := "lossAt", desc := "(I)I" } : Jvm.MethodName) ({ cls := "SugarKitchen$Rules", name := "lossAt", desc := "(I)I" } : Jvm.MethodName)) : Cond) ∈ gT := gI2 229 (by decide +kernel) rfl
set_option maxRecDepth 100000 in
theorem mw_470 : ((Jvm.Cond.code ({ cls := "SugarKitchen$Rules", name := "lossAt", desc := "(I)I" } : Jvm.MethodName) prog_10_method_3_code (4 : Nat) (Option.some Jvm.ClassFile.FieldType.int)) : Cond) ∈ gT := gI2 230 rfl rfl
theorem mw_471 : ((Jvm.Cond.methodLink "SugarKitchen$Batch" (60 : Nat) ({ cls := "SugarKitchen$Batch", name := "findGrained", desc := "(IILSugarKitchen$Rules;)I" } : Jvm.MethodName)) : Cond) ∈ gT := gI2 231 (by decide +kernel) rfl
theorem mw_473 : ((Jvm.Cond.instanceMethod ({ cls := "SugarKitchen$Batch", name := "findGrained", desc := "(IILSugarKitchen$Rules;)I" } : Jvm.MethodName)) : Cond) ∈ gT := gI2 233 (by decide +kernel) rfl
set_option maxRecDepth 100000 in
theorem mw_474 : ((Jvm.Cond.code ({ cls := "SugarKitchen$Batch", name := "findGrained", desc := "(IILSugarKitchen$Rules;)I" } : Jvm.MethodName) prog_2_method_4_code (5 : Nat) (Option.some Jvm.ClassFile.FieldType.int)) : Cond) ∈ gT := gI2 234 rfl rfl
theorem mw_475 : ((Jvm.Cond.methodLink "SugarKitchen$Batch" (76 : Nat) ({ cls := "SugarKitchen$Rows", name := "wasStirred", desc := "(I)Z" } : Jvm.MethodName)) : Cond) ∈ gT := gI2 235 (by decide +kernel) rfl
theorem mw_476 : ((Jvm.Cond.instanceMethod ({ cls := "SugarKitchen$Rows", name := "wasStirred", desc := "(I)Z" } : Jvm.MethodName)) : Cond) ∈ gT := gI2 236 (by decide +kernel) rfl
theorem mw_477 : ((Jvm.Cond.selects "SugarKitchen$Rows" ({ cls := "SugarKitchen$Rows", name := "wasStirred", desc := "(I)Z" } : Jvm.MethodName) ({ cls := "SugarKitchen$Rows", name := "wasStirred", desc := "(I)Z" } : Jvm.MethodName)) : Cond) ∈ gT := gI2 237 (by decide +kernel) rfl
set_option maxRecDepth 100000 in
theorem mw_478 : ((Jvm.Cond.code ({ cls := "SugarKitchen$Rows", name := "wasStirred", desc := "(I)Z" } : Jvm.MethodName) prog_9_method_6_code (2 : Nat) (Option.some Jvm.ClassFile.FieldType.boolean)) : Cond) ∈ gT := gI2 238 rfl rfl
theorem mw_479 : ((Jvm.Cond.methodLink "SugarKitchen$Rows" (36 : Nat) ({ cls := "SugarKitchen$Rows", name := "hasStirring", desc := "(I)Z" } : Jvm.MethodName)) : Cond) ∈ gT := gI2 239 (by decide +kernel) rfl
theorem mw_480 : ((Jvm.Cond.methodLink "SugarKitchen$Batch" (79 : Nat) ({ cls := "SugarKitchen$Rules", name := "isGrain", desc := "(I)Z" } : Jvm.MethodName)) : Cond) ∈ gT := gI3 0 (by decide +kernel) rfl
theorem mw_481 : ((Jvm.Cond.instanceMethod ({ cls := "SugarKitchen$Rules", name := "isGrain", desc := "(I)Z" } : Jvm.MethodName)) : Cond) ∈ gT := gI3 1 (by decide +kernel) rfl
theorem mw_482 : ((Jvm.Cond.selects "SugarKitchen$Rules" ({ cls := "SugarKitchen$Rules", name := "isGrain", desc := "(I)Z" } : Jvm.MethodName) ({ cls := "SugarKitchen$Rules", name := "isGrain", desc := "(I)Z" } : Jvm.MethodName)) : Cond) ∈ gT := gI3 2 (by decide +kernel) rfl
set_option maxRecDepth 100000 in
theorem mw_483 : ((Jvm.Cond.code ({ cls := "SugarKitchen$Rules", name := "isGrain", desc := "(I)Z" } : Jvm.MethodName) prog_10_method_4_code (2 : Nat) (Option.some Jvm.ClassFile.FieldType.boolean)) : Cond) ∈ gT := gI3 3 rfl rfl
theorem mw_484 : ((Jvm.Cond.constantLong "SugarKitchen$Batch" (67 : Nat) (1000 : Int64)) : Cond) ∈ gT := gI3 4 (by decide +kernel) rfl
theorem mw_485 : ((Jvm.Cond.methodLink "SugarKitchenLaw" (59 : Nat) ({ cls := "SugarKitchen", name := "vouch", desc := "(I)Z" } : Jvm.MethodName)) : Cond) ∈ gT := gI3 5 (by decide +kernel) rfl
theorem mw_486 : ((Jvm.Cond.instanceMethod ({ cls := "SugarKitchen", name := "vouch", desc := "(I)Z" } : Jvm.MethodName)) : Cond) ∈ gT := gI3 6 (by decide +kernel) rfl
theorem mw_487 : ((Jvm.Cond.selects "SugarKitchen" ({ cls := "SugarKitchen", name := "vouch", desc := "(I)Z" } : Jvm.MethodName) ({ cls := "SugarKitchen", name := "vouch", desc := "(I)Z" } : Jvm.MethodName)) : Cond) ∈ gT := gI3 7 (by decide +kernel) rfl
set_option maxRecDepth 100000 in
theorem mw_488 : ((Jvm.Cond.code ({ cls := "SugarKitchen", name := "vouch", desc := "(I)Z" } : Jvm.MethodName) prog_1_method_12_code (3 : Nat) (Option.some Jvm.ClassFile.FieldType.boolean)) : Cond) ∈ gT := gI3 8 rfl rfl
theorem mw_489 : ((Jvm.Cond.methodLink "SugarKitchenLaw" (64 : Nat) ({ cls := "SugarKitchen", name := "why", desc := "(I)I" } : Jvm.MethodName)) : Cond) ∈ gT := gI3 9 (by decide +kernel) rfl
theorem mw_490 : ((Jvm.Cond.instanceMethod ({ cls := "SugarKitchen", name := "why", desc := "(I)I" } : Jvm.MethodName)) : Cond) ∈ gT := gI3 10 (by decide +kernel) rfl
theorem mw_491 : ((Jvm.Cond.selects "SugarKitchen" ({ cls := "SugarKitchen", name := "why", desc := "(I)I" } : Jvm.MethodName) ({ cls := "SugarKitchen", name := "why", desc := "(I)I" } : Jvm.MethodName)) : Cond) ∈ gT := gI3 11 (by decide +kernel) rfl
set_option maxRecDepth 100000 in
theorem mw_492 : ((Jvm.Cond.code ({ cls := "SugarKitchen", name := "why", desc := "(I)I" } : Jvm.MethodName) prog_1_method_13_code (3 : Nat) (Option.some Jvm.ClassFile.FieldType.int)) : Cond) ∈ gT := gI3 12 rfl rfl
theorem mw_493 : ((Jvm.Cond.methodLink "SugarKitchen" (183 : Nat) ({ cls := "SugarKitchen$Batch", name := "fault", desc := "(LSugarKitchen$Rules;)I" } : Jvm.MethodName)) : Cond) ∈ gT := gI3 13 (by decide +kernel) rfl
theorem mw_494 : ((Jvm.Cond.instanceMethod ({ cls := "SugarKitchen$Batch", name := "fault", desc := "(LSugarKitchen$Rules;)I" } : Jvm.MethodName)) : Cond) ∈ gT := gI3 14 (by decide +kernel) rfl
theorem mw_495 : ((Jvm.Cond.selects "SugarKitchen$Batch" ({ cls := "SugarKitchen$Batch", name := "fault", desc := "(LSugarKitchen$Rules;)I" } : Jvm.MethodName) ({ cls := "SugarKitchen$Batch", name := "fault", desc := "(LSugarKitchen$Rules;)I" } : Jvm.MethodName)) : Cond) ∈ gT := gI3 15 (by decide +kernel) rfl
set_option maxRecDepth 100000 in
theorem mw_496 : ((Jvm.Cond.code ({ cls := "SugarKitchen$Batch", name := "fault", desc := "(LSugarKitchen$Rules;)I" } : Jvm.MethodName) prog_2_method_5_code (3 : Nat) (Option.some Jvm.ClassFile.FieldType.int)) : Cond) ∈ gT := gI3 16 rfl rfl
theorem mt_497 : ((Jvm.Cond.methodLinkNest "SugarKitchen$Batch" (92 : Nat) ({ cls := "SugarKitchen", name := "isCut", desc := "(I)Z" } : Jvm.MethodName) "SugarKitchen") : Cond) ∈ lw_tbl := gC3 17 (by decide +kernel)
theorem mw_498 : ((Jvm.Cond.static ({ cls := "SugarKitchen", name := "isCut", desc := "(I)Z" } : Jvm.MethodName)) : Cond) ∈ gT := gI3 18 (by decide +kernel) rfl
set_option maxRecDepth 100000 in
theorem mw_499 : ((Jvm.Cond.code ({ cls := "SugarKitchen", name := "isCut", desc := "(I)Z" } : Jvm.MethodName) prog_1_method_35_code (1 : Nat) (Option.some Jvm.ClassFile.FieldType.boolean)) : Cond) ∈ gT := gI3 19 rfl rfl
theorem mw_500 : ((Jvm.Cond.methodLink "SugarKitchenLaw" (68 : Nat) ({ cls := "SugarKitchen", name := "batchOf", desc := "(II)I" } : Jvm.MethodName)) : Cond) ∈ gT := gI3 20 (by decide +kernel) rfl
theorem mw_501 : ((Jvm.Cond.instanceMethod ({ cls := "SugarKitchen", name := "batchOf", desc := "(II)I" } : Jvm.MethodName)) : Cond) ∈ gT := gI3 21 (by decide +kernel) rfl
theorem mw_502 : ((Jvm.Cond.selects "SugarKitchen" ({ cls := "SugarKitchen", name := "batchOf", desc := "(II)I" } : Jvm.MethodName) ({ cls := "SugarKitchen", name := "batchOf", desc := "(II)I" } : Jvm.MethodName)) : Cond) ∈ gT := gI3 22 (by decide +kernel) rfl
set_option maxRecDepth 100000 in
theorem mw_503 : ((Jvm.Cond.code ({ cls := "SugarKitchen", name := "batchOf", desc := "(II)I" } : Jvm.MethodName) prog_1_method_14_code (4 : Nat) (Option.some Jvm.ClassFile.FieldType.int)) : Cond) ∈ gT := gI3 23 rfl rfl
theorem mw_504 : ((Jvm.Cond.methodLink "SugarKitchen" (187 : Nat) ({ cls := "SugarKitchen$Batch", name := "tell", desc := "(I)I" } : Jvm.MethodName)) : Cond) ∈ gT := gI3 24 (by decide +kernel) rfl
theorem mw_505 : ((Jvm.Cond.instanceMethod ({ cls := "SugarKitchen$Batch", name := "tell", desc := "(I)I" } : Jvm.MethodName)) : Cond) ∈ gT := gI3 25 (by decide +kernel) rfl
theorem mw_506 : ((Jvm.Cond.selects "SugarKitchen$Batch" ({ cls := "SugarKitchen$Batch", name := "tell", desc := "(I)I" } : Jvm.MethodName) ({ cls := "SugarKitchen$Batch", name := "tell", desc := "(I)I" } : Jvm.MethodName)) : Cond) ∈ gT := gI3 26 (by decide +kernel) rfl
set_option maxRecDepth 100000 in
theorem mw_507 : ((Jvm.Cond.code ({ cls := "SugarKitchen$Batch", name := "tell", desc := "(I)I" } : Jvm.MethodName) prog_2_method_6_code (2 : Nat) (Option.some Jvm.ClassFile.FieldType.int)) : Cond) ∈ gT := gI3 27 rfl rfl
theorem mw_508 : ((Jvm.Cond.methodLink "SugarKitchenLaw" (72 : Nat) ({ cls := "SugarKitchen", name := "temper", desc := "(IIIIII)Z" } : Jvm.MethodName)) : Cond) ∈ gT := gI3 28 (by decide +kernel) rfl
theorem mw_509 : ((Jvm.Cond.instanceMethod ({ cls := "SugarKitchen", name := "temper", desc := "(IIIIII)Z" } : Jvm.MethodName)) : Cond) ∈ gT := gI3 29 (by decide +kernel) rfl
theorem mw_510 : ((Jvm.Cond.selects "SugarKitchen" ({ cls := "SugarKitchen", name := "temper", desc := "(IIIIII)Z" } : Jvm.MethodName) ({ cls := "SugarKitchen", name := "temper", desc := "(IIIIII)Z" } : Jvm.MethodName)) : Cond) ∈ gT := gI3 30 (by decide +kernel) rfl
set_option maxRecDepth 100000 in
theorem mw_511 : ((Jvm.Cond.code ({ cls := "SugarKitchen", name := "temper", desc := "(IIIIII)Z" } : Jvm.MethodName) prog_1_method_15_code (8 : Nat) (Option.some Jvm.ClassFile.FieldType.boolean)) : Cond) ∈ gT := gI3 31 rfl rfl
theorem mw_512 : ((Jvm.Cond.methodLink "SugarKitchen" (191 : Nat) ({ cls := "SugarKitchen$Tempering", name := "change", desc := "(IIIIII)Z" } : Jvm.MethodName)) : Cond) ∈ gT := gI3 32 (by decide +kernel) rfl
theorem mw_513 : ((Jvm.Cond.instanceMethod ({ cls := "SugarKitchen$Tempering", name := "change", desc := "(IIIIII)Z" } : Jvm.MethodName)) : Cond) ∈ gT := gI3 33 (by decide +kernel) rfl
theorem mw_514 : ((Jvm.Cond.selects "SugarKitchen$Tempering" ({ cls := "SugarKitchen$Tempering", name := "change", desc := "(IIIIII)Z" } : Jvm.MethodName) ({ cls := "SugarKitchen$Tempering", name := "change", desc := "(IIIIII)Z" } : Jvm.MethodName)) : Cond) ∈ gT := gI3 34 (by decide +kernel) rfl
set_option maxRecDepth 100000 in
theorem mw_515 : ((Jvm.Cond.code ({ cls := "SugarKitchen$Tempering", name := "change", desc := "(IIIIII)Z" } : Jvm.MethodName) prog_11_method_2_code (8 : Nat) (Option.some Jvm.ClassFile.FieldType.boolean)) : Cond) ∈ gT := gI3 35 rfl rfl
theorem mw_516 : ((Jvm.Cond.methodLink "SugarKitchen" (195 : Nat) ({ cls := "SugarKitchen", name := "restartCoats", desc := "()V" } : Jvm.MethodName)) : Cond) ∈ gT := gI3 36 (by decide +kernel) rfl
theorem mw_518 : ((Jvm.Cond.instanceMethod ({ cls := "SugarKitchen", name := "restartCoats", desc := "()V" } : Jvm.MethodName)) : Cond) ∈ gT := gI3 38 (by decide +kernel) rfl
set_option maxRecDepth 100000 in
theorem mw_519 : ((Jvm.Cond.code ({ cls := "SugarKitchen", name := "restartCoats", desc := "()V" } : Jvm.MethodName) prog_1_method_45_code (3 : Nat) (Option.none : Option Jvm.ClassFile.FieldType)) : Cond) ∈ gT := gI3 39 rfl rfl
theorem mw_520 : ((Jvm.Cond.methodLink "SugarKitchenLaw" (77 : Nat) ({ cls := "SugarKitchen", name := "heat", desc := "(II)I" } : Jvm.MethodName)) : Cond) ∈ gT := gI3 40 (by decide +kernel) rfl
theorem mw_521 : ((Jvm.Cond.instanceMethod ({ cls := "SugarKitchen", name := "heat", desc := "(II)I" } : Jvm.MethodName)) : Cond) ∈ gT := gI3 41 (by decide +kernel) rfl
theorem mw_522 : ((Jvm.Cond.selects "SugarKitchen" ({ cls := "SugarKitchen", name := "heat", desc := "(II)I" } : Jvm.MethodName) ({ cls := "SugarKitchen", name := "heat", desc := "(II)I" } : Jvm.MethodName)) : Cond) ∈ gT := gI3 42 (by decide +kernel) rfl
set_option maxRecDepth 100000 in
theorem mw_523 : ((Jvm.Cond.code ({ cls := "SugarKitchen", name := "heat", desc := "(II)I" } : Jvm.MethodName) prog_1_method_16_code (4 : Nat) (Option.some Jvm.ClassFile.FieldType.int)) : Cond) ∈ gT := gI3 43 rfl rfl
theorem mw_524 : ((Jvm.Cond.methodLink "SugarKitchen" (201 : Nat) ({ cls := "SugarKitchen$Tempering", name := "heatOneTick", desc := "(LSugarKitchen$Batch;I)V" } : Jvm.MethodName)) : Cond) ∈ gT := gI3 44 (by decide +kernel) rfl
theorem mw_525 : ((Jvm.Cond.instanceMethod ({ cls := "SugarKitchen$Tempering", name := "heatOneTick", desc := "(LSugarKitchen$Batch;I)V" } : Jvm.MethodName)) : Cond) ∈ gT := gI3 45 (by decide +kernel) rfl
theorem mw_526 : ((Jvm.Cond.selects "SugarKitchen$Tempering" ({ cls := "SugarKitchen$Tempering", name := "heatOneTick", desc := "(LSugarKitchen$Batch;I)V" } : Jvm.MethodName) ({ cls := "SugarKitchen$Tempering", name := "heatOneTick", desc := "(LSugarKitchen$Batch;I)V" } : Jvm.MethodName)) : Cond) ∈ gT := gI3 46 (by decide +kernel) rfl
set_option maxRecDepth 100000 in
theorem mw_527 : ((Jvm.Cond.code ({ cls := "SugarKitchen$Tempering", name := "heatOneTick", desc := "(LSugarKitchen$Batch;I)V" } : Jvm.MethodName) prog_11_method_3_code (3 : Nat) (Option.none : Option Jvm.ClassFile.FieldType)) : Cond) ∈ gT := gI3 47 rfl rfl
theorem mw_528 : ((Jvm.Cond.methodLink "SugarKitchen$Tempering" (35 : Nat) ({ cls := "SugarKitchen$Tempering", name := "isSpoilt", desc := "(II)Z" } : Jvm.MethodName)) : Cond) ∈ gT := gI3 48 (by decide +kernel) rfl
theorem mw_530 : ((Jvm.Cond.instanceMethod ({ cls := "SugarKitchen$Tempering", name := "isSpoilt", desc := "(II)Z" } : Jvm.MethodName)) : Cond) ∈ gT := gI3 50 (by decide +kernel) rfl
set_option maxRecDepth 100000 in
theorem mw_531 : ((Jvm.Cond.code ({ cls := "SugarKitchen$Tempering", name := "isSpoilt", desc := "(II)Z" } : Jvm.MethodName) prog_11_method_4_code (4 : Nat) (Option.some Jvm.ClassFile.FieldType.boolean)) : Cond) ∈ gT := gI3 51 rfl rfl
theorem mw_532 : ((Jvm.Cond.methodLink "SugarKitchen$Tempering" (42 : Nat) ({ cls := "SugarKitchen$Tempering", name := "counts", desc := "(II)Z" } : Jvm.MethodName)) : Cond) ∈ gT := gI3 52 (by decide +kernel) rfl
theorem mw_534 : ((Jvm.Cond.instanceMethod ({ cls := "SugarKitchen$Tempering", name := "counts", desc := "(II)Z" } : Jvm.MethodName)) : Cond) ∈ gT := gI3 54 (by decide +kernel) rfl
set_option maxRecDepth 100000 in
theorem mw_535 : ((Jvm.Cond.code ({ cls := "SugarKitchen$Tempering", name := "counts", desc := "(II)Z" } : Jvm.MethodName) prog_11_method_5_code (3 : Nat) (Option.some Jvm.ClassFile.FieldType.boolean)) : Cond) ∈ gT := gI3 55 rfl rfl
theorem mw_536 : ((Jvm.Cond.methodLink "SugarKitchenLaw" (81 : Nat) ({ cls := "SugarKitchen", name := "cut", desc := "(III)I" } : Jvm.MethodName)) : Cond) ∈ gT := gI3 56 (by decide +kernel) rfl
theorem mw_537 : ((Jvm.Cond.instanceMethod ({ cls := "SugarKitchen", name := "cut", desc := "(III)I" } : Jvm.MethodName)) : Cond) ∈ gT := gI3 57 (by decide +kernel) rfl
theorem mw_538 : ((Jvm.Cond.selects "SugarKitchen" ({ cls := "SugarKitchen", name := "cut", desc := "(III)I" } : Jvm.MethodName) ({ cls := "SugarKitchen", name := "cut", desc := "(III)I" } : Jvm.MethodName)) : Cond) ∈ gT := gI3 58 (by decide +kernel) rfl
set_option maxRecDepth 100000 in
theorem mw_539 : ((Jvm.Cond.code ({ cls := "SugarKitchen", name := "cut", desc := "(III)I" } : Jvm.MethodName) prog_1_method_17_code (6 : Nat) (Option.some Jvm.ClassFile.FieldType.int)) : Cond) ∈ gT := gI3 59 rfl rfl
theorem mw_540 : ((Jvm.Cond.methodLink "SugarKitchen" (208 : Nat) ({ cls := "SugarKitchen", name := "findGood", desc := "(I)LSugarKitchen$Batch;" } : Jvm.MethodName)) : Cond) ∈ gT := gI3 60 (by decide +kernel) rfl
theorem mw_542 : ((Jvm.Cond.instanceMethod ({ cls := "SugarKitchen", name := "findGood", desc := "(I)LSugarKitchen$Batch;" } : Jvm.MethodName)) : Cond) ∈ gT := gI3 62 (by decide +kernel) rfl
set_option maxRecDepth 100000 in
theorem mw_543 : ((Jvm.Cond.code ({ cls := "SugarKitchen", name := "findGood", desc := "(I)LSugarKitchen$Batch;" } : Jvm.MethodName) prog_1_method_41_code (3 : Nat) (Option.some (Jvm.ClassFile.FieldType.object "SugarKitchen$Batch"))) : Cond) ∈ gT := gI3 63 rfl rfl
theorem mw_544 : ((Jvm.Cond.methodLink "SugarKitchen" (211 : Nat) ({ cls := "SugarKitchen", name := "isCut", desc := "(I)Z" } : Jvm.MethodName)) : Cond) ∈ gT := gI3 64 (by decide +kernel) rfl
theorem mw_545 : ((Jvm.Cond.instantiable "SugarKitchen$Piece" (9 : Nat)) : Cond) ∈ gT := gI3 65 (by decide +kernel) rfl
theorem mw_546 : ((Jvm.Cond.methodLink "SugarKitchen" (217 : Nat) ({ cls := "SugarKitchen$Piece", name := "<init>", desc := "(ILSugarKitchen$Batch;I)V" } : Jvm.MethodName)) : Cond) ∈ gT := gI3 66 (by decide +kernel) rfl
theorem mw_547 : ((Jvm.Cond.instanceMethod ({ cls := "SugarKitchen$Piece", name := "<init>", desc := "(ILSugarKitchen$Batch;I)V" } : Jvm.MethodName)) : Cond) ∈ gT := gI3 67 (by decide +kernel) rfl
set_option maxRecDepth 100000 in
theorem mw_548 : ((Jvm.Cond.code ({ cls := "SugarKitchen$Piece", name := "<init>", desc := "(ILSugarKitchen$Batch;I)V" } : Jvm.MethodName) prog_8_method_1_code (4 : Nat) (Option.none : Option Jvm.ClassFile.FieldType)) : Cond) ∈ gT := gI3 68 rfl rfl
theorem mw_549 : ((Jvm.Cond.methodLink "SugarKitchen$Piece" (3 : Nat) ({ cls := "java/lang/Object", name := "<init>", desc := "()V" } : Jvm.MethodName)) : Cond) ∈ gT := gI3 69 (by decide +kernel) rfl
theorem mw_550 : ((Jvm.Cond.fieldLink "SugarKitchen$Piece" (21 : Nat) "SugarKitchen$Piece" "batch" "I") : Cond) ∈ gT := gI3 70 (by decide +kernel) rfl
theorem mw_551 : ((Jvm.Cond.fieldLink "SugarKitchen$Piece" (29 : Nat) "SugarKitchen$Piece" "nut" "Z") : Cond) ∈ gT := gI3 71 (by decide +kernel) rfl
theorem mw_552 : ((Jvm.Cond.fieldLink "SugarKitchen$Piece" (33 : Nat) "SugarKitchen$Piece" "weight" "I") : Cond) ∈ gT := gI3 72 (by decide +kernel) rfl
theorem mw_553 : ((Jvm.Cond.fieldLink "SugarKitchen" (233 : Nat) "SugarKitchen$Piece" "weight" "I") : Cond) ∈ gT := gI3 73 (by decide +kernel) rfl
theorem mw_554 : ((Jvm.Cond.fieldLink "SugarKitchen$Piece" (40 : Nat) "SugarKitchen$Piece" "lots" "J") : Cond) ∈ gT := gI3 74 (by decide +kernel) rfl
theorem mw_555 : ((Jvm.Cond.fieldLink "SugarKitchen" (236 : Nat) "SugarKitchen$Piece" "lots" "J") : Cond) ∈ gT := gI3 75 (by decide +kernel) rfl
theorem mw_556 : ((Jvm.Cond.fieldLink "SugarKitchen$Piece" (9 : Nat) "SugarKitchen$Piece" "coat" "I") : Cond) ∈ gT := gI3 76 (by decide +kernel) rfl
theorem mw_557 : ((Jvm.Cond.fieldLink "SugarKitchen" (227 : Nat) "SugarKitchen$Piece" "coat" "I") : Cond) ∈ gT := gI3 77 (by decide +kernel) rfl
theorem mw_558 : ((Jvm.Cond.fieldLink "SugarKitchen$Piece" (41 : Nat) "SugarKitchen$Piece" "tempered" "Z") : Cond) ∈ gT := gI3 78 (by decide +kernel) rfl
theorem mw_559 : ((Jvm.Cond.fieldLink "SugarKitchen" (237 : Nat) "SugarKitchen$Piece" "tempered" "Z") : Cond) ∈ gT := gI3 79 (by decide +kernel) rfl
theorem mw_560 : ((Jvm.Cond.fieldLink "SugarKitchen$Piece" (44 : Nat) "SugarKitchen$Piece" "allowed" "Z") : Cond) ∈ gT := gI3 80 (by decide +kernel) rfl
theorem mw_561 : ((Jvm.Cond.fieldLink "SugarKitchen" (256 : Nat) "SugarKitchen$Piece" "allowed" "Z") : Cond) ∈ gT := gI3 81 (by decide +kernel) rfl
theorem mw_562 : ((Jvm.Cond.fieldLink "SugarKitchen$Piece" (15 : Nat) "SugarKitchen$Piece" "where" "I") : Cond) ∈ gT := gI3 82 (by decide +kernel) rfl
theorem mw_563 : ((Jvm.Cond.fieldLink "SugarKitchen" (247 : Nat) "SugarKitchen$Piece" "where" "I") : Cond) ∈ gT := gI3 83 (by decide +kernel) rfl
theorem mw_564 : ((Jvm.Cond.fieldLink "SugarKitchen$Piece" (18 : Nat) "SugarKitchen$Piece" "there" "I") : Cond) ∈ gT := gI3 84 (by decide +kernel) rfl
theorem mw_565 : ((Jvm.Cond.fieldLink "SugarKitchen" (250 : Nat) "SugarKitchen$Piece" "there" "I") : Cond) ∈ gT := gI3 85 (by decide +kernel) rfl
theorem mw_566 : ((Jvm.Cond.laysFinal "SugarKitchen$Piece" "SugarKitchen$Piece" "batch" "I") : Cond) ∈ gT := gI3 86 (by decide +kernel) rfl
theorem mw_567 : ((Jvm.Cond.soleField "SugarKitchen$Piece" "batch") : Cond) ∈ gT := gI3 87 (by decide +kernel) rfl
theorem mw_568 : ((Jvm.Cond.laysFinal "SugarKitchen$Piece" "SugarKitchen$Piece" "nut" "Z") : Cond) ∈ gT := gI3 88 (by decide +kernel) rfl
theorem mw_569 : ((Jvm.Cond.soleField "SugarKitchen$Piece" "nut") : Cond) ∈ gT := gI3 89 (by decide +kernel) rfl
theorem mw_570 : ((Jvm.Cond.lays "SugarKitchen$Piece" "SugarKitchen$Piece" "weight" "I") : Cond) ∈ gT := gI3 90 (by decide +kernel) rfl
theorem mw_571 : ((Jvm.Cond.soleField "SugarKitchen$Piece" "weight") : Cond) ∈ gT := gI3 91 (by decide +kernel) rfl
theorem mw_572 : ((Jvm.Cond.lays "SugarKitchen$Piece" "SugarKitchen$Piece" "lots" "J") : Cond) ∈ gT := gI3 92 (by decide +kernel) rfl
theorem mw_573 : ((Jvm.Cond.soleField "SugarKitchen$Piece" "lots") : Cond) ∈ gT := gI3 93 (by decide +kernel) rfl
theorem mw_574 : ((Jvm.Cond.lays "SugarKitchen$Piece" "SugarKitchen$Piece" "coat" "I") : Cond) ∈ gT := gI3 94 (by decide +kernel) rfl
theorem mw_575 : ((Jvm.Cond.soleField "SugarKitchen$Piece" "coat") : Cond) ∈ gT := gI3 95 (by decide +kernel) rfl
theorem mw_576 : ((Jvm.Cond.lays "SugarKitchen$Piece" "SugarKitchen$Piece" "tempered" "Z") : Cond) ∈ gT := gI3 96 (by decide +kernel) rfl
theorem mw_577 : ((Jvm.Cond.soleField "SugarKitchen$Piece" "tempered") : Cond) ∈ gT := gI3 97 (by decide +kernel) rfl
theorem mw_578 : ((Jvm.Cond.lays "SugarKitchen$Piece" "SugarKitchen$Piece" "allowed" "Z") : Cond) ∈ gT := gI3 98 (by decide +kernel) rfl
theorem mw_579 : ((Jvm.Cond.soleField "SugarKitchen$Piece" "allowed") : Cond) ∈ gT := gI3 99 (by decide +kernel) rfl
theorem mw_580 : ((Jvm.Cond.lays "SugarKitchen$Piece" "SugarKitchen$Piece" "where" "I") : Cond) ∈ gT := gI3 100 (by decide +kernel) rfl
theorem mw_581 : ((Jvm.Cond.soleField "SugarKitchen$Piece" "where") : Cond) ∈ gT := gI3 101 (by decide +kernel) rfl
theorem mw_582 : ((Jvm.Cond.lays "SugarKitchen$Piece" "SugarKitchen$Piece" "there" "I") : Cond) ∈ gT := gI3 102 (by decide +kernel) rfl
theorem mw_583 : ((Jvm.Cond.soleField "SugarKitchen$Piece" "there") : Cond) ∈ gT := gI3 103 (by decide +kernel) rfl
theorem mw_584 : ((Jvm.Cond.superclass "SugarKitchen$Piece" "java/lang/Object") : Cond) ∈ gT := gI3 104 (by decide +kernel) rfl
theorem mw_585 : ((Jvm.Cond.methodLink "SugarKitchenLaw" (85 : Nat) ({ cls := "SugarKitchen", name := "dip", desc := "(III)I" } : Jvm.MethodName)) : Cond) ∈ gT := gI3 105 (by decide +kernel) rfl
theorem mw_586 : ((Jvm.Cond.instanceMethod ({ cls := "SugarKitchen", name := "dip", desc := "(III)I" } : Jvm.MethodName)) : Cond) ∈ gT := gI3 106 (by decide +kernel) rfl
theorem mw_587 : ((Jvm.Cond.selects "SugarKitchen" ({ cls := "SugarKitchen", name := "dip", desc := "(III)I" } : Jvm.MethodName) ({ cls := "SugarKitchen", name := "dip", desc := "(III)I" } : Jvm.MethodName)) : Cond) ∈ gT := gI3 107 (by decide +kernel) rfl
set_option maxRecDepth 100000 in
theorem mw_588 : ((Jvm.Cond.code ({ cls := "SugarKitchen", name := "dip", desc := "(III)I" } : Jvm.MethodName) prog_1_method_18_code (6 : Nat) (Option.some Jvm.ClassFile.FieldType.int)) : Cond) ∈ gT := gI3 108 rfl rfl
theorem mw_589 : ((Jvm.Cond.methodLink "SugarKitchen" (223 : Nat) ({ cls := "SugarKitchen", name := "findUnboxed", desc := "(I)LSugarKitchen$Piece;" } : Jvm.MethodName)) : Cond) ∈ gT := gI3 109 (by decide +kernel) rfl
theorem mw_591 : ((Jvm.Cond.instanceMethod ({ cls := "SugarKitchen", name := "findUnboxed", desc := "(I)LSugarKitchen$Piece;" } : Jvm.MethodName)) : Cond) ∈ gT := gI3 111 (by decide +kernel) rfl
set_option maxRecDepth 100000 in
theorem mw_592 : ((Jvm.Cond.code ({ cls := "SugarKitchen", name := "findUnboxed", desc := "(I)LSugarKitchen$Piece;" } : Jvm.MethodName) prog_1_method_43_code (3 : Nat) (Option.some (Jvm.ClassFile.FieldType.object "SugarKitchen$Piece"))) : Cond) ∈ gT := gI3 112 rfl rfl
theorem mw_593 : ((Jvm.Cond.methodLink "SugarKitchen" (253 : Nat) ({ cls := "SugarKitchen", name := "findPiece", desc := "(I)LSugarKitchen$Piece;" } : Jvm.MethodName)) : Cond) ∈ gT := gI3 113 (by decide +kernel) rfl
theorem mw_595 : ((Jvm.Cond.instanceMethod ({ cls := "SugarKitchen", name := "findPiece", desc := "(I)LSugarKitchen$Piece;" } : Jvm.MethodName)) : Cond) ∈ gT := gI3 115 (by decide +kernel) rfl
set_option maxRecDepth 100000 in
theorem mw_596 : ((Jvm.Cond.code ({ cls := "SugarKitchen", name := "findPiece", desc := "(I)LSugarKitchen$Piece;" } : Jvm.MethodName) prog_1_method_42_code (2 : Nat) (Option.some (Jvm.ClassFile.FieldType.object "SugarKitchen$Piece"))) : Cond) ∈ gT := gI3 116 rfl rfl
theorem mw_597 : ((Jvm.Cond.methodLink "SugarKitchenLaw" (89 : Nat) ({ cls := "SugarKitchen", name := "place", desc := "(III)Z" } : Jvm.MethodName)) : Cond) ∈ gT := gI3 117 (by decide +kernel) rfl
theorem mw_598 : ((Jvm.Cond.instanceMethod ({ cls := "SugarKitchen", name := "place", desc := "(III)Z" } : Jvm.MethodName)) : Cond) ∈ gT := gI3 118 (by decide +kernel) rfl
theorem mw_599 : ((Jvm.Cond.selects "SugarKitchen" ({ cls := "SugarKitchen", name := "place", desc := "(III)Z" } : Jvm.MethodName) ({ cls := "SugarKitchen", name := "place", desc := "(III)Z" } : Jvm.MethodName)) : Cond) ∈ gT := gI3 119 (by decide +kernel) rfl
set_option maxRecDepth 100000 in
theorem mw_600 : ((Jvm.Cond.code ({ cls := "SugarKitchen", name := "place", desc := "(III)Z" } : Jvm.MethodName) prog_1_method_19_code (6 : Nat) (Option.some Jvm.ClassFile.FieldType.boolean)) : Cond) ∈ gT := gI3 120 rfl rfl
theorem mw_601 : ((Jvm.Cond.methodLink "SugarKitchen" (240 : Nat) ({ cls := "SugarKitchen", name := "spotOf", desc := "(II)I" } : Jvm.MethodName)) : Cond) ∈ gT := gI3 121 (by decide +kernel) rfl
theorem mw_602 : ((Jvm.Cond.static ({ cls := "SugarKitchen", name := "spotOf", desc := "(II)I" } : Jvm.MethodName)) : Cond) ∈ gT := gI3 122 (by decide +kernel) rfl
set_option maxRecDepth 100000 in
theorem mw_603 : ((Jvm.Cond.code ({ cls := "SugarKitchen", name := "spotOf", desc := "(II)I" } : Jvm.MethodName) prog_1_method_37_code (3 : Nat) (Option.some Jvm.ClassFile.FieldType.int)) : Cond) ∈ gT := gI3 123 rfl rfl
theorem mw_604 : ((Jvm.Cond.methodLink "SugarKitchen" (243 : Nat) ({ cls := "SugarKitchen", name := "liftFromTray", desc := "(LSugarKitchen$Piece;)V" } : Jvm.MethodName)) : Cond) ∈ gT := gI3 124 (by decide +kernel) rfl
theorem mw_606 : ((Jvm.Cond.instanceMethod ({ cls := "SugarKitchen", name := "liftFromTray", desc := "(LSugarKitchen$Piece;)V" } : Jvm.MethodName)) : Cond) ∈ gT := gI3 126 (by decide +kernel) rfl
set_option maxRecDepth 100000 in
theorem mw_607 : ((Jvm.Cond.code ({ cls := "SugarKitchen", name := "liftFromTray", desc := "(LSugarKitchen$Piece;)V" } : Jvm.MethodName) prog_1_method_46_code (2 : Nat) (Option.none : Option Jvm.ClassFile.FieldType)) : Cond) ∈ gT := gI3 127 rfl rfl
theorem mw_608 : ((Jvm.Cond.methodLink "SugarKitchenLaw" (93 : Nat) ({ cls := "SugarKitchen", name := "take", desc := "(I)Z" } : Jvm.MethodName)) : Cond) ∈ gT := gI3 128 (by decide +kernel) rfl
theorem mw_609 : ((Jvm.Cond.instanceMethod ({ cls := "SugarKitchen", name := "take", desc := "(I)Z" } : Jvm.MethodName)) : Cond) ∈ gT := gI3 129 (by decide +kernel) rfl
theorem mw_610 : ((Jvm.Cond.selects "SugarKitchen" ({ cls := "SugarKitchen", name := "take", desc := "(I)Z" } : Jvm.MethodName) ({ cls := "SugarKitchen", name := "take", desc := "(I)Z" } : Jvm.MethodName)) : Cond) ∈ gT := gI3 130 (by decide +kernel) rfl
set_option maxRecDepth 100000 in
theorem mw_611 : ((Jvm.Cond.code ({ cls := "SugarKitchen", name := "take", desc := "(I)Z" } : Jvm.MethodName) prog_1_method_20_code (3 : Nat) (Option.some Jvm.ClassFile.FieldType.boolean)) : Cond) ∈ gT := gI3 131 rfl rfl
theorem mw_612 : ((Jvm.Cond.methodLink "SugarKitchenLaw" (97 : Nat) ({ cls := "SugarKitchen", name := "allow", desc := "(I)Z" } : Jvm.MethodName)) : Cond) ∈ gT := gI3 132 (by decide +kernel) rfl
theorem mw_613 : ((Jvm.Cond.instanceMethod ({ cls := "SugarKitchen", name := "allow", desc := "(I)Z" } : Jvm.MethodName)) : Cond) ∈ gT := gI3 133 (by decide +kernel) rfl
theorem mw_614 : ((Jvm.Cond.selects "SugarKitchen" ({ cls := "SugarKitchen", name := "allow", desc := "(I)Z" } : Jvm.MethodName) ({ cls := "SugarKitchen", name := "allow", desc := "(I)Z" } : Jvm.MethodName)) : Cond) ∈ gT := gI3 134 (by decide +kernel) rfl
set_option maxRecDepth 100000 in
theorem mw_615 : ((Jvm.Cond.code ({ cls := "SugarKitchen", name := "allow", desc := "(I)Z" } : Jvm.MethodName) prog_1_method_21_code (3 : Nat) (Option.some Jvm.ClassFile.FieldType.boolean)) : Cond) ∈ gT := gI3 135 rfl rfl
theorem mw_616 : ((Jvm.Cond.methodLink "SugarKitchenLaw" (101 : Nat) ({ cls := "SugarKitchen", name := "pieceOf", desc := "(II)I" } : Jvm.MethodName)) : Cond) ∈ gT := gI3 136 (by decide +kernel) rfl
theorem mw_617 : ((Jvm.Cond.instanceMethod ({ cls := "SugarKitchen", name := "pieceOf", desc := "(II)I" } : Jvm.MethodName)) : Cond) ∈ gT := gI3 137 (by decide +kernel) rfl
theorem mw_618 : ((Jvm.Cond.selects "SugarKitchen" ({ cls := "SugarKitchen", name := "pieceOf", desc := "(II)I" } : Jvm.MethodName) ({ cls := "SugarKitchen", name := "pieceOf", desc := "(II)I" } : Jvm.MethodName)) : Cond) ∈ gT := gI3 138 (by decide +kernel) rfl
set_option maxRecDepth 100000 in
theorem mw_619 : ((Jvm.Cond.code ({ cls := "SugarKitchen", name := "pieceOf", desc := "(II)I" } : Jvm.MethodName) prog_1_method_22_code (4 : Nat) (Option.some Jvm.ClassFile.FieldType.int)) : Cond) ∈ gT := gI3 139 rfl rfl
theorem mw_620 : ((Jvm.Cond.methodLink "SugarKitchen" (259 : Nat) ({ cls := "SugarKitchen$Piece", name := "tell", desc := "(I)I" } : Jvm.MethodName)) : Cond) ∈ gT := gI3 140 (by decide +kernel) rfl
theorem mw_621 : ((Jvm.Cond.instanceMethod ({ cls := "SugarKitchen$Piece", name := "tell", desc := "(I)I" } : Jvm.MethodName)) : Cond) ∈ gT := gI3 141 (by decide +kernel) rfl
theorem mw_622 : ((Jvm.Cond.selects "SugarKitchen$Piece" ({ cls := "SugarKitchen$Piece", name := "tell", desc := "(I)I" } : Jvm.MethodName) ({ cls := "SugarKitchen$Piece", name := "tell", desc := "(I)I" } : Jvm.MethodName)) : Cond) ∈ gT := gI3 142 (by decide +kernel) rfl
set_option maxRecDepth 100000 in
theorem mw_623 : ((Jvm.Cond.code ({ cls := "SugarKitchen$Piece", name := "tell", desc := "(I)I" } : Jvm.MethodName) prog_8_method_4_code (2 : Nat) (Option.some Jvm.ClassFile.FieldType.int)) : Cond) ∈ gT := gI3 143 rfl rfl
theorem mw_624 : ((Jvm.Cond.methodLink "SugarKitchen$Piece" (47 : Nat) ({ cls := "SugarKitchen$Piece", name := "sort", desc := "()I" } : Jvm.MethodName)) : Cond) ∈ gT := gI3 144 (by decide +kernel) rfl
theorem mw_625 : ((Jvm.Cond.instanceMethod ({ cls := "SugarKitchen$Piece", name := "sort", desc := "()I" } : Jvm.MethodName)) : Cond) ∈ gT := gI3 145 (by decide +kernel) rfl
theorem mw_626 : ((Jvm.Cond.selects "SugarKitchen$Piece" ({ cls := "SugarKitchen$Piece", name := "sort", desc := "()I" } : Jvm.MethodName) ({ cls := "SugarKitchen$Piece", name := "sort", desc := "()I" } : Jvm.MethodName)) : Cond) ∈ gT := gI3 146 (by decide +kernel) rfl
set_option maxRecDepth 100000 in
theorem mw_627 : ((Jvm.Cond.code ({ cls := "SugarKitchen$Piece", name := "sort", desc := "()I" } : Jvm.MethodName) prog_8_method_2_code (1 : Nat) (Option.some Jvm.ClassFile.FieldType.int)) : Cond) ∈ gT := gI3 147 rfl rfl
theorem mw_628 : ((Jvm.Cond.methodLink "SugarKitchen$Piece" (51 : Nat) ({ cls := "SugarKitchen$Piece", name := "isFit", desc := "()Z" } : Jvm.MethodName)) : Cond) ∈ gT := gI3 148 (by decide +kernel) rfl
theorem mw_629 : ((Jvm.Cond.instanceMethod ({ cls := "SugarKitchen$Piece", name := "isFit", desc := "()Z" } : Jvm.MethodName)) : Cond) ∈ gT := gI3 149 (by decide +kernel) rfl
theorem mw_630 : ((Jvm.Cond.selects "SugarKitchen$Piece" ({ cls := "SugarKitchen$Piece", name := "isFit", desc := "()Z" } : Jvm.MethodName) ({ cls := "SugarKitchen$Piece", name := "isFit", desc := "()Z" } : Jvm.MethodName)) : Cond) ∈ gT := gI3 150 (by decide +kernel) rfl
set_option maxRecDepth 100000 in
theorem mw_631 : ((Jvm.Cond.code ({ cls := "SugarKitchen$Piece", name := "isFit", desc := "()Z" } : Jvm.MethodName) prog_8_method_3_code (1 : Nat) (Option.some Jvm.ClassFile.FieldType.boolean)) : Cond) ∈ gT := gI3 151 rfl rfl
theorem mw_632 : ((Jvm.Cond.methodLink "SugarKitchenLaw" (105 : Nat) ({ cls := "SugarKitchen", name := "at", desc := "(II)I" } : Jvm.MethodName)) : Cond) ∈ gT := gI3 152 (by decide +kernel) rfl
theorem mw_633 : ((Jvm.Cond.instanceMethod ({ cls := "SugarKitchen", name := "at", desc := "(II)I" } : Jvm.MethodName)) : Cond) ∈ gT := gI3 153 (by decide +kernel) rfl
theorem mw_634 : ((Jvm.Cond.selects "SugarKitchen" ({ cls := "SugarKitchen", name := "at", desc := "(II)I" } : Jvm.MethodName) ({ cls := "SugarKitchen", name := "at", desc := "(II)I" } : Jvm.MethodName)) : Cond) ∈ gT := gI3 154 (by decide +kernel) rfl
set_option maxRecDepth 100000 in
theorem mw_635 : ((Jvm.Cond.code ({ cls := "SugarKitchen", name := "at", desc := "(II)I" } : Jvm.MethodName) prog_1_method_23_code (4 : Nat) (Option.some Jvm.ClassFile.FieldType.int)) : Cond) ∈ gT := gI3 155 rfl rfl
theorem mw_636 : ((Jvm.Cond.methodLink "SugarKitchenLaw" (109 : Nat) ({ cls := "SugarKitchen", name := "pack", desc := "(III)I" } : Jvm.MethodName)) : Cond) ∈ gT := gI3 156 (by decide +kernel) rfl
theorem mw_637 : ((Jvm.Cond.instanceMethod ({ cls := "SugarKitchen", name := "pack", desc := "(III)I" } : Jvm.MethodName)) : Cond) ∈ gT := gI3 157 (by decide +kernel) rfl
theorem mw_638 : ((Jvm.Cond.selects "SugarKitchen" ({ cls := "SugarKitchen", name := "pack", desc := "(III)I" } : Jvm.MethodName) ({ cls := "SugarKitchen", name := "pack", desc := "(III)I" } : Jvm.MethodName)) : Cond) ∈ gT := gI3 158 (by decide +kernel) rfl
set_option maxRecDepth 100000 in
theorem mw_639 : ((Jvm.Cond.code ({ cls := "SugarKitchen", name := "pack", desc := "(III)I" } : Jvm.MethodName) prog_1_method_24_code (7 : Nat) (Option.some Jvm.ClassFile.FieldType.int)) : Cond) ∈ gT := gI3 159 rfl rfl
theorem mw_640 : ((Jvm.Cond.methodLink "SugarKitchen" (260 : Nat) ({ cls := "SugarKitchen", name := "canBeAsked", desc := "(III)Z" } : Jvm.MethodName)) : Cond) ∈ gT := gI3 160 (by decide +kernel) rfl
theorem mw_641 : ((Jvm.Cond.static ({ cls := "SugarKitchen", name := "canBeAsked", desc := "(III)Z" } : Jvm.MethodName)) : Cond) ∈ gT := gI3 161 (by decide +kernel) rfl
set_option maxRecDepth 100000 in
theorem mw_642 : ((Jvm.Cond.code ({ cls := "SugarKitchen", name := "canBeAsked", desc := "(III)Z" } : Jvm.MethodName) prog_1_method_36_code (3 : Nat) (Option.some Jvm.ClassFile.FieldType.boolean)) : Cond) ∈ gT := gI3 162 rfl rfl
theorem mw_643 : ((Jvm.Cond.methodLink "SugarKitchen" (266 : Nat) ({ cls := "SugarKitchen", name := "gather", desc := "([II)V" } : Jvm.MethodName)) : Cond) ∈ gT := gI3 163 (by decide +kernel) rfl
theorem mw_645 : ((Jvm.Cond.instanceMethod ({ cls := "SugarKitchen", name := "gather", desc := "([II)V" } : Jvm.MethodName)) : Cond) ∈ gT := gI3 165 (by decide +kernel) rfl
set_option maxRecDepth 100000 in
theorem mw_646 : ((Jvm.Cond.code ({ cls := "SugarKitchen", name := "gather", desc := "([II)V" } : Jvm.MethodName) prog_1_method_48_code (5 : Nat) (Option.none : Option Jvm.ClassFile.FieldType)) : Cond) ∈ gT := gI3 166 rfl rfl
theorem mw_647 : ((Jvm.Cond.methodLink "SugarKitchen" (349 : Nat) ({ cls := "SugarKitchen$Piece", name := "isFit", desc := "()Z" } : Jvm.MethodName)) : Cond) ∈ gT := gI3 167 (by decide +kernel) rfl
theorem mw_648 : ((Jvm.Cond.methodLink "SugarKitchen" (353 : Nat) ({ cls := "SugarKitchen$Piece", name := "sort", desc := "()I" } : Jvm.MethodName)) : Cond) ∈ gT := gI3 168 (by decide +kernel) rfl
theorem mw_649 : ((Jvm.Cond.methodLink "SugarKitchen" (356 : Nat) ({ cls := "SugarKitchen$Choice", name := "add", desc := "(II)V" } : Jvm.MethodName)) : Cond) ∈ gT := gI3 169 (by decide +kernel) rfl
theorem mw_650 : ((Jvm.Cond.instanceMethod ({ cls := "SugarKitchen$Choice", name := "add", desc := "(II)V" } : Jvm.MethodName)) : Cond) ∈ gT := gI3 170 (by decide +kernel) rfl
theorem mw_651 : ((Jvm.Cond.selects "SugarKitchen$Choice" ({ cls := "SugarKitchen$Choice", name := "add", desc := "(II)V" } : Jvm.MethodName) ({ cls := "SugarKitchen$Choice", name := "add", desc := "(II)V" } : Jvm.MethodName)) : Cond) ∈ gT := gI3 171 (by decide +kernel) rfl
set_option maxRecDepth 100000 in
theorem mw_652 : ((Jvm.Cond.code ({ cls := "SugarKitchen$Choice", name := "add", desc := "(II)V" } : Jvm.MethodName) prog_4_method_2_code (3 : Nat) (Option.none : Option Jvm.ClassFile.FieldType)) : Cond) ∈ gT := gI3 172 rfl rfl
theorem mw_653 : ((Jvm.Cond.methodLink "SugarKitchen" (269 : Nat) ({ cls := "SugarKitchen$Choice", name := "choose", desc := "(II)I" } : Jvm.MethodName)) : Cond) ∈ gT := gI3 173 (by decide +kernel) rfl
theorem mw_654 : ((Jvm.Cond.instanceMethod ({ cls := "SugarKitchen$Choice", name := "choose", desc := "(II)I" } : Jvm.MethodName)) : Cond) ∈ gT := gI3 174 (by decide +kernel) rfl
