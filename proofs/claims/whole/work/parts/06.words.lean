/-! the words that the instructions need, out of the tables -/
theorem gt_1 {w : Cond} (h : w ∈ tables_1_1) : w ∈ tables_1 := List.mem_append_left _ h
theorem gt_2 {w : Cond} (h : w ∈ tables_1_2) : w ∈ tables_1 := List.mem_append_right _ (List.mem_append_left _ h)
theorem gt_3 {w : Cond} (h : w ∈ tables_1_3) : w ∈ tables_1 := List.mem_append_right _ (List.mem_append_right _ (List.mem_append_left _ h))
theorem gt_4 {w : Cond} (h : w ∈ tables_1_4) : w ∈ tables_1 := List.mem_append_right _ (List.mem_append_right _ (List.mem_append_right _ (List.mem_append_left _ h)))
theorem gt_5 {w : Cond} (h : w ∈ tables_1_5) : w ∈ tables_1 := List.mem_append_right _ (List.mem_append_right _ (List.mem_append_right _ (List.mem_append_right _ (List.mem_append_left _ h))))
theorem gt_6 {w : Cond} (h : w ∈ tables_1_6) : w ∈ tables_1 := List.mem_append_right _ (List.mem_append_right _ (List.mem_append_right _ (List.mem_append_right _ (List.mem_append_right _ (List.mem_append_left _ h)))))
theorem gt_7 {w : Cond} (h : w ∈ tables_1_7) : w ∈ tables_1 := List.mem_append_right _ (List.mem_append_right _ (List.mem_append_right _ (List.mem_append_right _ (List.mem_append_right _ (List.mem_append_right _ (h))))))
theorem gw_0 : (Jvm.Cond.methodLink "FarDishes$Asking" (3 : Nat) ({ cls := "java/lang/Object", name := "<init>", desc := "()V" } : Jvm.MethodName)) ∈ qG := qG_t (gt_1 (List.mem_of_getElem? (i := 215) rfl)) rfl
theorem gw_1 : (Jvm.Cond.instanceMethod ({ cls := "java/lang/Object", name := "<init>", desc := "()V" } : Jvm.MethodName)) ∈ qG := qG_t (gt_1 (List.mem_of_getElem? (i := 26) rfl)) rfl
theorem gw_2 : (Jvm.Cond.code ({ cls := "java/lang/Object", name := "<init>", desc := "()V" } : Jvm.MethodName) object_method_1_code (1 : Nat) (Option.none : Option Jvm.ClassFile.FieldType)) ∈ qG := qG_t (gt_1 (List.mem_of_getElem? (i := 27) rfl)) rfl
theorem gw_3 : (Jvm.Cond.fieldLink "FarDishes$Asking" (11 : Nat) "FarDishes$Asking" "kind" "I") ∈ qG := qG_t (gt_1 (List.mem_of_getElem? (i := 216) rfl)) rfl
theorem gw_4 : (Jvm.Cond.fieldLink "FarDishes$Asking" (17 : Nat) "FarDishes$Asking" "craft" "I") ∈ qG := qG_t (gt_1 (List.mem_of_getElem? (i := 218) rfl)) rfl
theorem gw_5 : (Jvm.Cond.fieldLink "FarDishes$Asking" (20 : Nat) "FarDishes$Asking" "n" "I") ∈ qG := qG_t (gt_1 (List.mem_of_getElem? (i := 222) rfl)) rfl
theorem gw_6 : (Jvm.Cond.fieldLink "FarDishes$Asking" (23 : Nat) "FarDishes$Asking" "from" "I") ∈ qG := qG_t (gt_1 (List.mem_of_getElem? (i := 225) rfl)) rfl
theorem gw_7 : (Jvm.Cond.fieldLink "FarDishes$Asking" (26 : Nat) "FarDishes$Asking" "to" "I") ∈ qG := qG_t (gt_1 (List.mem_of_getElem? (i := 228) rfl)) rfl
theorem gw_8 : (Jvm.Cond.fieldLink "FarDishes$Asking" (29 : Nat) "FarDishes$Asking" "worth" "I") ∈ qG := qG_t (gt_1 (List.mem_of_getElem? (i := 231) rfl)) rfl
theorem gw_9 : (Jvm.Cond.code ({ cls := "FarDishes$Asking", name := "waitAgain", desc := "()V" } : Jvm.MethodName) prog_2_method_4_code (1 : Nat) (Option.none : Option Jvm.ClassFile.FieldType)) ∈ qG := qG_t (gt_3 (List.mem_of_getElem? (i := 197) rfl)) rfl
theorem gw_10 : (Jvm.Cond.methodLink "FarDishes$Asking" (32 : Nat) ({ cls := "FarDishes$Asking", name := "waitAgain", desc := "()V" } : Jvm.MethodName)) ∈ qG := qG_t (gt_3 (List.mem_of_getElem? (i := 194) rfl)) rfl
theorem gw_11 : (Jvm.Cond.instanceMethod ({ cls := "FarDishes$Asking", name := "waitAgain", desc := "()V" } : Jvm.MethodName)) ∈ qG := qG_t (gt_3 (List.mem_of_getElem? (i := 195) rfl)) rfl
theorem gw_12 : (Jvm.Cond.selects "FarDishes$Asking" ({ cls := "FarDishes$Asking", name := "waitAgain", desc := "()V" } : Jvm.MethodName) ({ cls := "FarDishes$Asking", name := "waitAgain", desc := "()V" } : Jvm.MethodName)) ∈ qG := qG_t (gt_3 (List.mem_of_getElem? (i := 196) rfl)) rfl
theorem gw_13 : (Jvm.Cond.initialized "FarDishes$Asking") ∈ qG := qG_t (gt_1 (List.mem_of_getElem? (i := 9) rfl)) rfl
theorem gw_14 : (Jvm.Cond.fieldLink "FarDishes$Asking" (35 : Nat) "FarDishes$Asking" "state" "I") ∈ qG := qG_t (gt_1 (List.mem_of_getElem? (i := 234) rfl)) rfl
theorem gw_15 : (Jvm.Cond.fieldLink "FarDishes$Asking" (38 : Nat) "FarDishes$Asking" "dish" "I") ∈ qG := qG_t (gt_1 (List.mem_of_getElem? (i := 238) rfl)) rfl
theorem gw_16 : (Jvm.Cond.fieldLink "FarDishes$Asking" (41 : Nat) "FarDishes$Asking" "start" "I") ∈ qG := qG_t (gt_2 (List.mem_of_getElem? (i := 2) rfl)) rfl
theorem gw_17 : (Jvm.Cond.methodLink "FarDishes$Blocks" (3 : Nat) ({ cls := "java/lang/Object", name := "<init>", desc := "()V" } : Jvm.MethodName)) ∈ qG := qG_t (gt_1 (List.mem_of_getElem? (i := 92) rfl)) rfl
theorem gw_18 : (Jvm.Cond.arrayClass Jvm.ClassFile.FieldType.int) ∈ qG := qG_t (gt_1 (List.mem_of_getElem? (i := 53) rfl)) rfl
theorem gw_19 : (Jvm.Cond.fieldLink "FarDishes$Blocks" (9 : Nat) "FarDishes$Blocks" "number" "[I") ∈ qG := qG_t (gt_1 (List.mem_of_getElem? (i := 106) rfl)) rfl
theorem gw_20 : (Jvm.Cond.fieldLink "FarDishes$Blocks" (15 : Nat) "FarDishes$Blocks" "sent" "[I") ∈ qG := qG_t (gt_1 (List.mem_of_getElem? (i := 108) rfl)) rfl
theorem gw_21 : (Jvm.Cond.fieldLink "FarDishes$Blocks" (18 : Nat) "FarDishes$Blocks" "room" "I") ∈ qG := qG_t (gt_1 (List.mem_of_getElem? (i := 93) rfl)) rfl
theorem gw_22 : (Jvm.Cond.fieldLink "FarDishes$Blocks" (22 : Nat) "FarDishes$Blocks" "size" "I") ∈ qG := qG_t (gt_1 (List.mem_of_getElem? (i := 95) rfl)) rfl
theorem gw_23 : (Jvm.Cond.fieldLink "FarDishes$Blocks" (25 : Nat) "FarDishes$Blocks" "made" "I") ∈ qG := qG_t (gt_1 (List.mem_of_getElem? (i := 98) rfl)) rfl
theorem gw_24 : (Jvm.Cond.fieldLink "FarDishes$Blocks" (28 : Nat) "FarDishes$Blocks" "had" "I") ∈ qG := qG_t (gt_1 (List.mem_of_getElem? (i := 100) rfl)) rfl
theorem gw_25 : (Jvm.Cond.fieldLink "FarDishes$Blocks" (31 : Nat) "FarDishes$Blocks" "dropped" "I") ∈ qG := qG_t (gt_1 (List.mem_of_getElem? (i := 102) rfl)) rfl
theorem gw_26 : (Jvm.Cond.fieldLink "FarDishes$Blocks" (34 : Nat) "FarDishes$Blocks" "lost" "I") ∈ qG := qG_t (gt_1 (List.mem_of_getElem? (i := 104) rfl)) rfl
theorem gw_27 : (Jvm.Cond.methodLink "FarDishes$Blocks" (37 : Nat) ({ cls := "java/lang/System", name := "arraycopy", desc := "(Ljava/lang/Object;ILjava/lang/Object;II)V" } : Jvm.MethodName)) ∈ qG := qG_t (gt_4 (List.mem_of_getElem? (i := 184) rfl)) rfl
theorem gw_28 : (Jvm.Cond.native ({ cls := "java/lang/System", name := "arraycopy", desc := "(Ljava/lang/Object;ILjava/lang/Object;II)V" } : Jvm.MethodName)) ∈ qG := qG_t (gt_4 (List.mem_of_getElem? (i := 49) rfl)) rfl
theorem gw_29 : (Jvm.Cond.static ({ cls := "java/lang/System", name := "arraycopy", desc := "(Ljava/lang/Object;ILjava/lang/Object;II)V" } : Jvm.MethodName)) ∈ qG := qG_t (gt_4 (List.mem_of_getElem? (i := 48) rfl)) rfl
theorem gw_30 : (Jvm.Cond.initialized "java/lang/System") ∈ qG := qG_t (gt_1 (List.mem_of_getElem? (i := 19) rfl)) rfl
theorem gw_31 : (Jvm.Cond.code ({ cls := "FarDishes$Blocks", name := "makeRoom", desc := "()V" } : Jvm.MethodName) prog_3_method_6_code (2 : Nat) (Option.none : Option Jvm.ClassFile.FieldType)) ∈ qG := qG_t (gt_4 (List.mem_of_getElem? (i := 175) rfl)) rfl
theorem gw_32 : (Jvm.Cond.methodLink "FarDishes$Blocks" (43 : Nat) ({ cls := "FarDishes$Blocks", name := "makeRoom", desc := "()V" } : Jvm.MethodName)) ∈ qG := qG_t (gt_4 (List.mem_of_getElem? (i := 172) rfl)) rfl
theorem gw_33 : (Jvm.Cond.instanceMethod ({ cls := "FarDishes$Blocks", name := "makeRoom", desc := "()V" } : Jvm.MethodName)) ∈ qG := qG_t (gt_4 (List.mem_of_getElem? (i := 174) rfl)) rfl
theorem gw_34 : Cond.selects (⟨"FarDishes$Blocks", "makeRoom", "()V"⟩ : MethodName).cls (⟨"FarDishes$Blocks", "makeRoom", "()V"⟩ : MethodName) (⟨"FarDishes$Blocks", "makeRoom", "()V"⟩ : MethodName) ∈ qG := qG_s (List.mem_map.mpr ⟨((⟨"FarDishes$Blocks", "makeRoom", "()V"⟩ : MethodName), 8), List.mem_of_getElem? (i := 29) rfl, rfl⟩) rfl
theorem gw_35 : (Jvm.Cond.initialized "FarDishes$Blocks") ∈ qG := qG_t (gt_1 (List.mem_of_getElem? (i := 6) rfl)) rfl
theorem gw_36 : (Jvm.Cond.code ({ cls := "FarDishes$Blocks", name := "longestSent", desc := "()I" } : Jvm.MethodName) prog_3_method_7_code (3 : Nat) (Option.some Jvm.ClassFile.FieldType.int)) ∈ qG := qG_t (gt_4 (List.mem_of_getElem? (i := 179) rfl)) rfl
theorem gw_37 : (Jvm.Cond.methodLink "FarDishes$Blocks" (46 : Nat) ({ cls := "FarDishes$Blocks", name := "longestSent", desc := "()I" } : Jvm.MethodName)) ∈ qG := qG_t (gt_4 (List.mem_of_getElem? (i := 176) rfl)) rfl
theorem gw_38 : (Jvm.Cond.instanceMethod ({ cls := "FarDishes$Blocks", name := "longestSent", desc := "()I" } : Jvm.MethodName)) ∈ qG := qG_t (gt_4 (List.mem_of_getElem? (i := 178) rfl)) rfl
theorem gw_39 : Cond.selects (⟨"FarDishes$Blocks", "longestSent", "()I"⟩ : MethodName).cls (⟨"FarDishes$Blocks", "longestSent", "()I"⟩ : MethodName) (⟨"FarDishes$Blocks", "longestSent", "()I"⟩ : MethodName) ∈ qG := qG_s (List.mem_map.mpr ⟨((⟨"FarDishes$Blocks", "longestSent", "()I"⟩ : MethodName), 8), List.mem_of_getElem? (i := 30) rfl, rfl⟩) rfl
theorem gw_40 : (Jvm.Cond.code ({ cls := "FarDishes$Blocks", name := "takeOut", desc := "(I)V" } : Jvm.MethodName) prog_3_method_8_code (2 : Nat) (Option.none : Option Jvm.ClassFile.FieldType)) ∈ qG := qG_t (gt_4 (List.mem_of_getElem? (i := 183) rfl)) rfl
theorem gw_41 : (Jvm.Cond.methodLink "FarDishes$Blocks" (50 : Nat) ({ cls := "FarDishes$Blocks", name := "takeOut", desc := "(I)V" } : Jvm.MethodName)) ∈ qG := qG_t (gt_4 (List.mem_of_getElem? (i := 180) rfl)) rfl
theorem gw_42 : (Jvm.Cond.instanceMethod ({ cls := "FarDishes$Blocks", name := "takeOut", desc := "(I)V" } : Jvm.MethodName)) ∈ qG := qG_t (gt_4 (List.mem_of_getElem? (i := 182) rfl)) rfl
theorem gw_43 : Cond.selects (⟨"FarDishes$Blocks", "takeOut", "(I)V"⟩ : MethodName).cls (⟨"FarDishes$Blocks", "takeOut", "(I)V"⟩ : MethodName) (⟨"FarDishes$Blocks", "takeOut", "(I)V"⟩ : MethodName) ∈ qG := qG_s (List.mem_map.mpr ⟨((⟨"FarDishes$Blocks", "takeOut", "(I)V"⟩ : MethodName), 8), List.mem_of_getElem? (i := 31) rfl, rfl⟩) rfl
theorem gw_44 : (Jvm.Cond.code ({ cls := "FarDishes$Blocks", name := "held", desc := "()I" } : Jvm.MethodName) prog_3_method_4_code (3 : Nat) (Option.some Jvm.ClassFile.FieldType.int)) ∈ qG := qG_t (gt_3 (List.mem_of_getElem? (i := 28) rfl)) rfl
theorem gw_45 : (Jvm.Cond.methodLink "FarDishes$Blocks" (54 : Nat) ({ cls := "FarDishes$Blocks", name := "held", desc := "()I" } : Jvm.MethodName)) ∈ qG := qG_t (gt_4 (List.mem_of_getElem? (i := 153) rfl)) rfl
theorem gw_46 : (Jvm.Cond.instanceMethod ({ cls := "FarDishes$Blocks", name := "held", desc := "()I" } : Jvm.MethodName)) ∈ qG := qG_t (gt_3 (List.mem_of_getElem? (i := 26) rfl)) rfl
theorem gw_47 : (Jvm.Cond.selects "FarDishes$Blocks" ({ cls := "FarDishes$Blocks", name := "held", desc := "()I" } : Jvm.MethodName) ({ cls := "FarDishes$Blocks", name := "held", desc := "()I" } : Jvm.MethodName)) ∈ qG := qG_t (gt_3 (List.mem_of_getElem? (i := 27) rfl)) rfl
theorem gw_48 : (Jvm.Cond.methodLink "FarDishes$Blocks" (57 : Nat) ({ cls := "java/lang/Math", name := "min", desc := "(II)I" } : Jvm.MethodName)) ∈ qG := qG_t (gt_4 (List.mem_of_getElem? (i := 154) rfl)) rfl
theorem gw_49 : (Jvm.Cond.static ({ cls := "java/lang/Math", name := "min", desc := "(II)I" } : Jvm.MethodName)) ∈ qG := qG_t (gt_3 (List.mem_of_getElem? (i := 172) rfl)) rfl
theorem gw_50 : (Jvm.Cond.initialized "java/lang/Math") ∈ qG := qG_t (gt_1 (List.mem_of_getElem? (i := 14) rfl)) rfl
theorem gw_51 : (Jvm.Cond.code ({ cls := "java/lang/Math", name := "min", desc := "(II)I" } : Jvm.MethodName) prog_15_method_69_code (2 : Nat) (Option.some Jvm.ClassFile.FieldType.int)) ∈ qG := qG_t (gt_3 (List.mem_of_getElem? (i := 173) rfl)) rfl
theorem gw_52 : (Jvm.Cond.methodLink "FarDishes$Blocks" (63 : Nat) ({ cls := "java/lang/Math", name := "max", desc := "(II)I" } : Jvm.MethodName)) ∈ qG := qG_t (gt_4 (List.mem_of_getElem? (i := 205) rfl)) rfl
theorem gw_53 : (Jvm.Cond.static ({ cls := "java/lang/Math", name := "max", desc := "(II)I" } : Jvm.MethodName)) ∈ qG := qG_t (gt_3 (List.mem_of_getElem? (i := 67) rfl)) rfl
theorem gw_54 : (Jvm.Cond.code ({ cls := "java/lang/Math", name := "max", desc := "(II)I" } : Jvm.MethodName) prog_15_method_65_code (2 : Nat) (Option.some Jvm.ClassFile.FieldType.int)) ∈ qG := qG_t (gt_3 (List.mem_of_getElem? (i := 68) rfl)) rfl
theorem gw_55 : (Jvm.Cond.methodLink "FarDishes$Craft" (3 : Nat) ({ cls := "java/lang/Object", name := "<init>", desc := "()V" } : Jvm.MethodName)) ∈ qG := qG_t (gt_1 (List.mem_of_getElem? (i := 86) rfl)) rfl
theorem gw_56 : (Jvm.Cond.fieldLink "FarDishes$Craft" (9 : Nat) "FarDishes$Craft" "upFrom" "[I") ∈ qG := qG_t (gt_1 (List.mem_of_getElem? (i := 184) rfl)) rfl
theorem gw_57 : (Jvm.Cond.fieldLink "FarDishes$Craft" (15 : Nat) "FarDishes$Craft" "upFor" "[I") ∈ qG := qG_t (gt_1 (List.mem_of_getElem? (i := 185) rfl)) rfl
theorem gw_58 : (Jvm.Cond.classLink "FarDishes$Craft" (18 : Nat) "FarDishes$Blocks") ∈ qG := qG_t (gt_1 (List.mem_of_getElem? (i := 87) rfl)) rfl
theorem gw_59 : (Jvm.Cond.instantiable "FarDishes$Blocks" (8 : Nat)) ∈ qG := qG_t (gt_1 (List.mem_of_getElem? (i := 88) rfl)) rfl
theorem gw_60 : (Jvm.Cond.code ({ cls := "FarDishes$Blocks", name := "<init>", desc := "()V" } : Jvm.MethodName) prog_3_method_1_code (1 : Nat) (Option.none : Option Jvm.ClassFile.FieldType)) ∈ qG := qG_t (gt_1 (List.mem_of_getElem? (i := 91) rfl)) rfl
theorem gw_61 : (Jvm.Cond.instanceMethod ({ cls := "FarDishes$Blocks", name := "<init>", desc := "()V" } : Jvm.MethodName)) ∈ qG := qG_t (gt_1 (List.mem_of_getElem? (i := 90) rfl)) rfl
theorem gw_62 : (Jvm.Cond.fieldLink "FarDishes$Craft" (21 : Nat) "FarDishes$Craft" "blocks" "LFarDishes$Blocks;") ∈ qG := qG_t (gt_1 (List.mem_of_getElem? (i := 186) rfl)) rfl
theorem gw_63 : (Jvm.Cond.classLink "FarDishes$Craft" (25 : Nat) "FarDishes$Orders") ∈ qG := qG_t (gt_1 (List.mem_of_getElem? (i := 127) rfl)) rfl
theorem gw_64 : (Jvm.Cond.instantiable "FarDishes$Orders" (7 : Nat)) ∈ qG := qG_t (gt_1 (List.mem_of_getElem? (i := 128) rfl)) rfl
theorem gw_65 : (Jvm.Cond.initialized "FarDishes$Orders") ∈ qG := qG_t (gt_1 (List.mem_of_getElem? (i := 7) rfl)) rfl
theorem gw_66 : (Jvm.Cond.code ({ cls := "FarDishes$Orders", name := "<init>", desc := "()V" } : Jvm.MethodName) prog_6_method_1_code (1 : Nat) (Option.none : Option Jvm.ClassFile.FieldType)) ∈ qG := qG_t (gt_1 (List.mem_of_getElem? (i := 131) rfl)) rfl
theorem gw_67 : (Jvm.Cond.instanceMethod ({ cls := "FarDishes$Orders", name := "<init>", desc := "()V" } : Jvm.MethodName)) ∈ qG := qG_t (gt_1 (List.mem_of_getElem? (i := 130) rfl)) rfl
theorem gw_68 : (Jvm.Cond.fieldLink "FarDishes$Craft" (28 : Nat) "FarDishes$Craft" "orders" "LFarDishes$Orders;") ∈ qG := qG_t (gt_1 (List.mem_of_getElem? (i := 189) rfl)) rfl
theorem gw_69 : (Jvm.Cond.classLink "FarDishes$Craft" (32 : Nat) "FarDishes$Silence") ∈ qG := qG_t (gt_1 (List.mem_of_getElem? (i := 162) rfl)) rfl
theorem gw_70 : (Jvm.Cond.instantiable "FarDishes$Silence" (2 : Nat)) ∈ qG := qG_t (gt_1 (List.mem_of_getElem? (i := 163) rfl)) rfl
theorem gw_71 : (Jvm.Cond.initialized "FarDishes$Silence") ∈ qG := qG_t (gt_1 (List.mem_of_getElem? (i := 8) rfl)) rfl
theorem gw_72 : (Jvm.Cond.code ({ cls := "FarDishes$Silence", name := "<init>", desc := "()V" } : Jvm.MethodName) prog_10_method_1_code (1 : Nat) (Option.none : Option Jvm.ClassFile.FieldType)) ∈ qG := qG_t (gt_1 (List.mem_of_getElem? (i := 166) rfl)) rfl
theorem gw_73 : (Jvm.Cond.instanceMethod ({ cls := "FarDishes$Silence", name := "<init>", desc := "()V" } : Jvm.MethodName)) ∈ qG := qG_t (gt_1 (List.mem_of_getElem? (i := 165) rfl)) rfl
theorem gw_74 : (Jvm.Cond.fieldLink "FarDishes$Craft" (35 : Nat) "FarDishes$Craft" "quiet" "LFarDishes$Silence;") ∈ qG := qG_t (gt_1 (List.mem_of_getElem? (i := 192) rfl)) rfl
theorem gw_75 : (Jvm.Cond.fieldLink "FarDishes$Craft" (39 : Nat) "FarDishes$Craft" "loud" "I") ∈ qG := qG_t (gt_1 (List.mem_of_getElem? (i := 175) rfl)) rfl
theorem gw_76 : (Jvm.Cond.fieldLink "FarDishes$Craft" (43 : Nat) "FarDishes$Craft" "far" "I") ∈ qG := qG_t (gt_1 (List.mem_of_getElem? (i := 178) rfl)) rfl
theorem gw_77 : (Jvm.Cond.fieldLink "FarDishes$Craft" (46 : Nat) "FarDishes$Craft" "rate" "I") ∈ qG := qG_t (gt_1 (List.mem_of_getElem? (i := 181) rfl)) rfl
theorem gw_78 : (Jvm.Cond.code ({ cls := "FarDishes$Blocks", name := "begin", desc := "(I)V" } : Jvm.MethodName) prog_3_method_2_code (2 : Nat) (Option.none : Option Jvm.ClassFile.FieldType)) ∈ qG := qG_t (gt_3 (List.mem_of_getElem? (i := 12) rfl)) rfl
theorem gw_79 : (Jvm.Cond.methodLink "FarDishes$Craft" (49 : Nat) ({ cls := "FarDishes$Blocks", name := "begin", desc := "(I)V" } : Jvm.MethodName)) ∈ qG := qG_t (gt_3 (List.mem_of_getElem? (i := 9) rfl)) rfl
theorem gw_80 : (Jvm.Cond.instanceMethod ({ cls := "FarDishes$Blocks", name := "begin", desc := "(I)V" } : Jvm.MethodName)) ∈ qG := qG_t (gt_3 (List.mem_of_getElem? (i := 10) rfl)) rfl
theorem gw_81 : (Jvm.Cond.selects "FarDishes$Blocks" ({ cls := "FarDishes$Blocks", name := "begin", desc := "(I)V" } : Jvm.MethodName) ({ cls := "FarDishes$Blocks", name := "begin", desc := "(I)V" } : Jvm.MethodName)) ∈ qG := qG_t (gt_3 (List.mem_of_getElem? (i := 11) rfl)) rfl
theorem gw_82 : (Jvm.Cond.fieldLink "FarDishes$Craft" (53 : Nat) "FarDishes$Orders" "size" "I") ∈ qG := qG_t (gt_1 (List.mem_of_getElem? (i := 134) rfl)) rfl
theorem gw_83 : (Jvm.Cond.code ({ cls := "FarDishes$Silence", name := "begin", desc := "()V" } : Jvm.MethodName) prog_10_method_2_code (2 : Nat) (Option.none : Option Jvm.ClassFile.FieldType)) ∈ qG := qG_t (gt_3 (List.mem_of_getElem? (i := 16) rfl)) rfl
theorem gw_84 : (Jvm.Cond.methodLink "FarDishes$Craft" (56 : Nat) ({ cls := "FarDishes$Silence", name := "begin", desc := "()V" } : Jvm.MethodName)) ∈ qG := qG_t (gt_3 (List.mem_of_getElem? (i := 13) rfl)) rfl
theorem gw_85 : (Jvm.Cond.instanceMethod ({ cls := "FarDishes$Silence", name := "begin", desc := "()V" } : Jvm.MethodName)) ∈ qG := qG_t (gt_3 (List.mem_of_getElem? (i := 14) rfl)) rfl
theorem gw_86 : (Jvm.Cond.selects "FarDishes$Silence" ({ cls := "FarDishes$Silence", name := "begin", desc := "()V" } : Jvm.MethodName) ({ cls := "FarDishes$Silence", name := "begin", desc := "()V" } : Jvm.MethodName)) ∈ qG := qG_t (gt_3 (List.mem_of_getElem? (i := 15) rfl)) rfl
theorem gw_87 : (Jvm.Cond.methodLink "FarDishes$Craft" (58 : Nat) ({ cls := "java/lang/System", name := "arraycopy", desc := "(Ljava/lang/Object;ILjava/lang/Object;II)V" } : Jvm.MethodName)) ∈ qG := qG_t (gt_5 (List.mem_of_getElem? (i := 68) rfl)) rfl
theorem gw_88 : (Jvm.Cond.code ({ cls := "FarDishes$Blocks", name := "become", desc := "(LFarDishes$Blocks;)V" } : Jvm.MethodName) prog_3_method_3_code (2 : Nat) (Option.none : Option Jvm.ClassFile.FieldType)) ∈ qG := qG_t (gt_5 (List.mem_of_getElem? (i := 72) rfl)) rfl
theorem gw_89 : (Jvm.Cond.methodLink "FarDishes$Craft" (64 : Nat) ({ cls := "FarDishes$Blocks", name := "become", desc := "(LFarDishes$Blocks;)V" } : Jvm.MethodName)) ∈ qG := qG_t (gt_5 (List.mem_of_getElem? (i := 69) rfl)) rfl
theorem gw_90 : (Jvm.Cond.instanceMethod ({ cls := "FarDishes$Blocks", name := "become", desc := "(LFarDishes$Blocks;)V" } : Jvm.MethodName)) ∈ qG := qG_t (gt_5 (List.mem_of_getElem? (i := 70) rfl)) rfl
theorem gw_91 : (Jvm.Cond.selects "FarDishes$Blocks" ({ cls := "FarDishes$Blocks", name := "become", desc := "(LFarDishes$Blocks;)V" } : Jvm.MethodName) ({ cls := "FarDishes$Blocks", name := "become", desc := "(LFarDishes$Blocks;)V" } : Jvm.MethodName)) ∈ qG := qG_t (gt_5 (List.mem_of_getElem? (i := 71) rfl)) rfl
theorem gw_92 : (Jvm.Cond.code ({ cls := "FarDishes$Orders", name := "become", desc := "(LFarDishes$Orders;)V" } : Jvm.MethodName) prog_6_method_2_code (2 : Nat) (Option.none : Option Jvm.ClassFile.FieldType)) ∈ qG := qG_t (gt_5 (List.mem_of_getElem? (i := 76) rfl)) rfl
theorem gw_93 : (Jvm.Cond.methodLink "FarDishes$Craft" (68 : Nat) ({ cls := "FarDishes$Orders", name := "become", desc := "(LFarDishes$Orders;)V" } : Jvm.MethodName)) ∈ qG := qG_t (gt_5 (List.mem_of_getElem? (i := 73) rfl)) rfl
theorem gw_94 : (Jvm.Cond.instanceMethod ({ cls := "FarDishes$Orders", name := "become", desc := "(LFarDishes$Orders;)V" } : Jvm.MethodName)) ∈ qG := qG_t (gt_5 (List.mem_of_getElem? (i := 74) rfl)) rfl
theorem gw_95 : (Jvm.Cond.selects "FarDishes$Orders" ({ cls := "FarDishes$Orders", name := "become", desc := "(LFarDishes$Orders;)V" } : Jvm.MethodName) ({ cls := "FarDishes$Orders", name := "become", desc := "(LFarDishes$Orders;)V" } : Jvm.MethodName)) ∈ qG := qG_t (gt_5 (List.mem_of_getElem? (i := 75) rfl)) rfl
theorem gw_96 : (Jvm.Cond.code ({ cls := "FarDishes$Silence", name := "become", desc := "(LFarDishes$Silence;)V" } : Jvm.MethodName) prog_10_method_3_code (2 : Nat) (Option.none : Option Jvm.ClassFile.FieldType)) ∈ qG := qG_t (gt_5 (List.mem_of_getElem? (i := 81) rfl)) rfl
theorem gw_97 : (Jvm.Cond.methodLink "FarDishes$Craft" (71 : Nat) ({ cls := "FarDishes$Silence", name := "become", desc := "(LFarDishes$Silence;)V" } : Jvm.MethodName)) ∈ qG := qG_t (gt_5 (List.mem_of_getElem? (i := 78) rfl)) rfl
theorem gw_98 : (Jvm.Cond.instanceMethod ({ cls := "FarDishes$Silence", name := "become", desc := "(LFarDishes$Silence;)V" } : Jvm.MethodName)) ∈ qG := qG_t (gt_5 (List.mem_of_getElem? (i := 79) rfl)) rfl
theorem gw_99 : (Jvm.Cond.selects "FarDishes$Silence" ({ cls := "FarDishes$Silence", name := "become", desc := "(LFarDishes$Silence;)V" } : Jvm.MethodName) ({ cls := "FarDishes$Silence", name := "become", desc := "(LFarDishes$Silence;)V" } : Jvm.MethodName)) ∈ qG := qG_t (gt_5 (List.mem_of_getElem? (i := 80) rfl)) rfl
theorem gw_100 : (Jvm.Cond.code ({ cls := "FarDishes$Craft", name := "sinceRise", desc := "(II)I" } : Jvm.MethodName) prog_4_method_7_code (3 : Nat) (Option.some Jvm.ClassFile.FieldType.int)) ∈ qG := qG_t (gt_3 (List.mem_of_getElem? (i := 48) rfl)) rfl
theorem gw_101 : (Jvm.Cond.methodLink "FarDishes$Craft" (74 : Nat) ({ cls := "FarDishes$Craft", name := "sinceRise", desc := "(II)I" } : Jvm.MethodName)) ∈ qG := qG_t (gt_3 (List.mem_of_getElem? (i := 45) rfl)) rfl
theorem gw_102 : (Jvm.Cond.instanceMethod ({ cls := "FarDishes$Craft", name := "sinceRise", desc := "(II)I" } : Jvm.MethodName)) ∈ qG := qG_t (gt_3 (List.mem_of_getElem? (i := 47) rfl)) rfl
theorem gw_103 : Cond.selects (⟨"FarDishes$Craft", "sinceRise", "(II)I"⟩ : MethodName).cls (⟨"FarDishes$Craft", "sinceRise", "(II)I"⟩ : MethodName) (⟨"FarDishes$Craft", "sinceRise", "(II)I"⟩ : MethodName) ∈ qG := qG_s (List.mem_map.mpr ⟨((⟨"FarDishes$Craft", "sinceRise", "(II)I"⟩ : MethodName), 8), List.mem_of_getElem? (i := 3) rfl, rfl⟩) rfl
theorem gw_104 : (Jvm.Cond.initialized "FarDishes$Craft") ∈ qG := qG_t (gt_1 (List.mem_of_getElem? (i := 5) rfl)) rfl
theorem gw_105 : (Jvm.Cond.methodLink "FarDishes$Dish" (1 : Nat) ({ cls := "java/lang/Object", name := "<init>", desc := "()V" } : Jvm.MethodName)) ∈ qG := qG_t (gt_1 (List.mem_of_getElem? (i := 58) rfl)) rfl
theorem gw_106 : (Jvm.Cond.fieldLink "FarDishes$Dish" (7 : Nat) "FarDishes$Dish" "place" "I") ∈ qG := qG_t (gt_1 (List.mem_of_getElem? (i := 59) rfl)) rfl
theorem gw_107 : (Jvm.Cond.fieldLink "FarDishes$Dish" (13 : Nat) "FarDishes$Dish" "size" "I") ∈ qG := qG_t (gt_1 (List.mem_of_getElem? (i := 63) rfl)) rfl
theorem gw_108 : (Jvm.Cond.fieldLink "FarDishes$Dish" (16 : Nat) "FarDishes$Dish" "turn" "I") ∈ qG := qG_t (gt_1 (List.mem_of_getElem? (i := 66) rfl)) rfl
theorem gw_109 : (Jvm.Cond.fieldLink "FarDishes$Dish" (19 : Nat) "FarDishes$Dish" "broken" "Z") ∈ qG := qG_t (gt_1 (List.mem_of_getElem? (i := 69) rfl)) rfl
theorem gw_110 : (Jvm.Cond.methodLink "FarDishes$Orders" (3 : Nat) ({ cls := "java/lang/Object", name := "<init>", desc := "()V" } : Jvm.MethodName)) ∈ qG := qG_t (gt_1 (List.mem_of_getElem? (i := 132) rfl)) rfl
theorem gw_111 : (Jvm.Cond.fieldLink "FarDishes$Orders" (9 : Nat) "FarDishes$Orders" "sent" "[I") ∈ qG := qG_t (gt_1 (List.mem_of_getElem? (i := 136) rfl)) rfl
theorem gw_112 : (Jvm.Cond.fieldLink "FarDishes$Orders" (15 : Nat) "FarDishes$Orders" "resent" "[I") ∈ qG := qG_t (gt_1 (List.mem_of_getElem? (i := 138) rfl)) rfl
theorem gw_113 : (Jvm.Cond.fieldLink "FarDishes$Orders" (18 : Nat) "FarDishes$Orders" "last" "[I") ∈ qG := qG_t (gt_1 (List.mem_of_getElem? (i := 140) rfl)) rfl
theorem gw_114 : (Jvm.Cond.fieldLink "FarDishes$Orders" (21 : Nat) "FarDishes$Orders" "gone" "[I") ∈ qG := qG_t (gt_1 (List.mem_of_getElem? (i := 142) rfl)) rfl
theorem gw_115 : (Jvm.Cond.fieldLink "FarDishes$Orders" (24 : Nat) "FarDishes$Orders" "state" "[I") ∈ qG := qG_t (gt_1 (List.mem_of_getElem? (i := 143) rfl)) rfl
theorem gw_116 : (Jvm.Cond.fieldLink "FarDishes$Orders" (27 : Nat) "FarDishes$Orders" "doneIn" "[I") ∈ qG := qG_t (gt_1 (List.mem_of_getElem? (i := 145) rfl)) rfl
theorem gw_117 : (Jvm.Cond.fieldLink "FarDishes$Orders" (30 : Nat) "FarDishes$Orders" "size" "I") ∈ qG := qG_t (gt_1 (List.mem_of_getElem? (i := 133) rfl)) rfl
theorem gw_118 : (Jvm.Cond.methodLink "FarDishes$Orders" (34 : Nat) ({ cls := "java/lang/System", name := "arraycopy", desc := "(Ljava/lang/Object;ILjava/lang/Object;II)V" } : Jvm.MethodName)) ∈ qG := qG_t (gt_5 (List.mem_of_getElem? (i := 77) rfl)) rfl
theorem gw_119 : (Jvm.Cond.methodLink "FarDishes$Planner" (3 : Nat) ({ cls := "java/lang/Object", name := "<init>", desc := "()V" } : Jvm.MethodName)) ∈ qG := qG_t (gt_2 (List.mem_of_getElem? (i := 71) rfl)) rfl
theorem gw_120 : (Jvm.Cond.fieldLink "FarDishes$Planner" (9 : Nat) "FarDishes$Planner" "asked" "[I") ∈ qG := qG_t (gt_2 (List.mem_of_getElem? (i := 77) rfl)) rfl
theorem gw_121 : (Jvm.Cond.fieldLink "FarDishes$Planner" (15 : Nat) "FarDishes$Planner" "weights" "[I") ∈ qG := qG_t (gt_2 (List.mem_of_getElem? (i := 78) rfl)) rfl
theorem gw_122 : (Jvm.Cond.fieldLink "FarDishes$Planner" (18 : Nat) "FarDishes$Planner" "row" "[I") ∈ qG := qG_t (gt_2 (List.mem_of_getElem? (i := 79) rfl)) rfl
theorem gw_123 : (Jvm.Cond.fieldLink "FarDishes$Planner" (21 : Nat) "FarDishes$Planner" "starts" "[I") ∈ qG := qG_t (gt_2 (List.mem_of_getElem? (i := 80) rfl)) rfl
theorem gw_124 : (Jvm.Cond.fieldLink "FarDishes$Planner" (24 : Nat) "FarDishes$Planner" "bestRow" "[I") ∈ qG := qG_t (gt_2 (List.mem_of_getElem? (i := 81) rfl)) rfl
theorem gw_125 : (Jvm.Cond.fieldLink "FarDishes$Planner" (27 : Nat) "FarDishes$Planner" "bestStarts" "[I") ∈ qG := qG_t (gt_2 (List.mem_of_getElem? (i := 82) rfl)) rfl
theorem gw_126 : (Jvm.Cond.fieldLink "FarDishes$Planner" (30 : Nat) "FarDishes$Planner" "restWeight" "[I") ∈ qG := qG_t (gt_2 (List.mem_of_getElem? (i := 83) rfl)) rfl
theorem gw_127 : (Jvm.Cond.fieldLink "FarDishes$Planner" (33 : Nat) "FarDishes$Planner" "restHeavy" "[I") ∈ qG := qG_t (gt_2 (List.mem_of_getElem? (i := 84) rfl)) rfl
theorem gw_128 : (Jvm.Cond.fieldLink "FarDishes$Planner" (36 : Nat) "FarDishes$Planner" "ends" "[I") ∈ qG := qG_t (gt_2 (List.mem_of_getElem? (i := 85) rfl)) rfl
theorem gw_129 : (Jvm.Cond.code ({ cls := "FarDishes$Planner", name := "lookAtWaiting", desc := "(LFarDishes$World;I)V" } : Jvm.MethodName) prog_7_method_5_code (4 : Nat) (Option.none : Option Jvm.ClassFile.FieldType)) ∈ qG := qG_t (gt_4 (List.mem_of_getElem? (i := 3) rfl)) rfl
theorem gw_130 : (Jvm.Cond.methodLink "FarDishes$Planner" (39 : Nat) ({ cls := "FarDishes$Planner", name := "lookAtWaiting", desc := "(LFarDishes$World;I)V" } : Jvm.MethodName)) ∈ qG := qG_t (gt_4 (List.mem_of_getElem? (i := 0) rfl)) rfl
theorem gw_131 : (Jvm.Cond.instanceMethod ({ cls := "FarDishes$Planner", name := "lookAtWaiting", desc := "(LFarDishes$World;I)V" } : Jvm.MethodName)) ∈ qG := qG_t (gt_4 (List.mem_of_getElem? (i := 1) rfl)) rfl
theorem gw_132 : (Jvm.Cond.selects "FarDishes$Planner" ({ cls := "FarDishes$Planner", name := "lookAtWaiting", desc := "(LFarDishes$World;I)V" } : Jvm.MethodName) ({ cls := "FarDishes$Planner", name := "lookAtWaiting", desc := "(LFarDishes$World;I)V" } : Jvm.MethodName)) ∈ qG := qG_t (gt_4 (List.mem_of_getElem? (i := 2) rfl)) rfl
theorem gw_133 : (Jvm.Cond.initialized "FarDishes$Planner") ∈ qG := qG_t (gt_1 (List.mem_of_getElem? (i := 10) rfl)) rfl
theorem gw_134 : (Jvm.Cond.code ({ cls := "FarDishes$Planner", name := "solve", desc := "(LFarDishes$World;)V" } : Jvm.MethodName) prog_7_method_7_code (2 : Nat) (Option.none : Option Jvm.ClassFile.FieldType)) ∈ qG := qG_t (gt_4 (List.mem_of_getElem? (i := 12) rfl)) rfl
theorem gw_135 : (Jvm.Cond.methodLink "FarDishes$Planner" (43 : Nat) ({ cls := "FarDishes$Planner", name := "solve", desc := "(LFarDishes$World;)V" } : Jvm.MethodName)) ∈ qG := qG_t (gt_4 (List.mem_of_getElem? (i := 9) rfl)) rfl
theorem gw_136 : (Jvm.Cond.instanceMethod ({ cls := "FarDishes$Planner", name := "solve", desc := "(LFarDishes$World;)V" } : Jvm.MethodName)) ∈ qG := qG_t (gt_4 (List.mem_of_getElem? (i := 11) rfl)) rfl
theorem gw_137 : Cond.selects (⟨"FarDishes$Planner", "solve", "(LFarDishes$World;)V"⟩ : MethodName).cls (⟨"FarDishes$Planner", "solve", "(LFarDishes$World;)V"⟩ : MethodName) (⟨"FarDishes$Planner", "solve", "(LFarDishes$World;)V"⟩ : MethodName) ∈ qG := qG_s (List.mem_map.mpr ⟨((⟨"FarDishes$Planner", "solve", "(LFarDishes$World;)V"⟩ : MethodName), 12), List.mem_of_getElem? (i := 16) rfl, rfl⟩) rfl
theorem gw_138 : (Jvm.Cond.code ({ cls := "FarDishes$Planner", name := "placeOf", desc := "(I)I" } : Jvm.MethodName) prog_7_method_20_code (3 : Nat) (Option.some Jvm.ClassFile.FieldType.int)) ∈ qG := qG_t (gt_4 (List.mem_of_getElem? (i := 57) rfl)) rfl
theorem gw_139 : (Jvm.Cond.methodLink "FarDishes$Planner" (47 : Nat) ({ cls := "FarDishes$Planner", name := "placeOf", desc := "(I)I" } : Jvm.MethodName)) ∈ qG := qG_t (gt_4 (List.mem_of_getElem? (i := 54) rfl)) rfl
theorem gw_140 : (Jvm.Cond.instanceMethod ({ cls := "FarDishes$Planner", name := "placeOf", desc := "(I)I" } : Jvm.MethodName)) ∈ qG := qG_t (gt_4 (List.mem_of_getElem? (i := 56) rfl)) rfl
theorem gw_141 : Cond.selects (⟨"FarDishes$Planner", "placeOf", "(I)I"⟩ : MethodName).cls (⟨"FarDishes$Planner", "placeOf", "(I)I"⟩ : MethodName) (⟨"FarDishes$Planner", "placeOf", "(I)I"⟩ : MethodName) ∈ qG := qG_s (List.mem_map.mpr ⟨((⟨"FarDishes$Planner", "placeOf", "(I)I"⟩ : MethodName), 12), List.mem_of_getElem? (i := 24) rfl, rfl⟩) rfl
theorem gw_142 : (Jvm.Cond.code ({ cls := "FarDishes$World", name := "weightOf", desc := "(II)I" } : Jvm.MethodName) prog_12_method_8_code (4 : Nat) (Option.some Jvm.ClassFile.FieldType.int)) ∈ qG := qG_t (gt_3 (List.mem_of_getElem? (i := 210) rfl)) rfl
theorem gw_143 : (Jvm.Cond.methodLink "FarDishes$Planner" (51 : Nat) ({ cls := "FarDishes$World", name := "weightOf", desc := "(II)I" } : Jvm.MethodName)) ∈ qG := qG_t (gt_4 (List.mem_of_getElem? (i := 8) rfl)) rfl
theorem gw_144 : (Jvm.Cond.instanceMethod ({ cls := "FarDishes$World", name := "weightOf", desc := "(II)I" } : Jvm.MethodName)) ∈ qG := qG_t (gt_3 (List.mem_of_getElem? (i := 208) rfl)) rfl
theorem gw_145 : (Jvm.Cond.selects "FarDishes$World" ({ cls := "FarDishes$World", name := "weightOf", desc := "(II)I" } : Jvm.MethodName) ({ cls := "FarDishes$World", name := "weightOf", desc := "(II)I" } : Jvm.MethodName)) ∈ qG := qG_t (gt_3 (List.mem_of_getElem? (i := 209) rfl)) rfl
theorem gw_146 : (Jvm.Cond.initialized "FarDishes$World") ∈ qG := qG_t (gt_1 (List.mem_of_getElem? (i := 2) rfl)) rfl
theorem gw_147 : (Jvm.Cond.fieldLink "FarDishes$Planner" (57 : Nat) "FarDishes$Planner" "size" "I") ∈ qG := qG_t (gt_2 (List.mem_of_getElem? (i := 72) rfl)) rfl
theorem gw_148 : (Jvm.Cond.code ({ cls := "FarDishes$Planner", name := "lookAt", desc := "(LFarDishes$World;I)V" } : Jvm.MethodName) prog_7_method_6_code (3 : Nat) (Option.none : Option Jvm.ClassFile.FieldType)) ∈ qG := qG_t (gt_4 (List.mem_of_getElem? (i := 7) rfl)) rfl
theorem gw_149 : (Jvm.Cond.methodLink "FarDishes$Planner" (61 : Nat) ({ cls := "FarDishes$Planner", name := "lookAt", desc := "(LFarDishes$World;I)V" } : Jvm.MethodName)) ∈ qG := qG_t (gt_4 (List.mem_of_getElem? (i := 4) rfl)) rfl
theorem gw_150 : (Jvm.Cond.instanceMethod ({ cls := "FarDishes$Planner", name := "lookAt", desc := "(LFarDishes$World;I)V" } : Jvm.MethodName)) ∈ qG := qG_t (gt_4 (List.mem_of_getElem? (i := 6) rfl)) rfl
theorem gw_151 : Cond.selects (⟨"FarDishes$Planner", "lookAt", "(LFarDishes$World;I)V"⟩ : MethodName).cls (⟨"FarDishes$Planner", "lookAt", "(LFarDishes$World;I)V"⟩ : MethodName) (⟨"FarDishes$Planner", "lookAt", "(LFarDishes$World;I)V"⟩ : MethodName) ∈ qG := qG_s (List.mem_map.mpr ⟨((⟨"FarDishes$Planner", "lookAt", "(LFarDishes$World;I)V"⟩ : MethodName), 12), List.mem_of_getElem? (i := 15) rfl, rfl⟩) rfl
theorem gw_152 : (Jvm.Cond.fieldLink "FarDishes$Planner" (64 : Nat) "FarDishes$World" "askingCount" "I") ∈ qG := qG_t (gt_2 (List.mem_of_getElem? (i := 33) rfl)) rfl
theorem gw_153 : (Jvm.Cond.fieldLink "FarDishes$Planner" (67 : Nat) "FarDishes$World" "askings" "[LFarDishes$Asking;") ∈ qG := qG_t (gt_2 (List.mem_of_getElem? (i := 43) rfl)) rfl
theorem gw_154 : (Jvm.Cond.fieldLink "FarDishes$Planner" (71 : Nat) "FarDishes$Asking" "state" "I") ∈ qG := qG_t (gt_1 (List.mem_of_getElem? (i := 235) rfl)) rfl
theorem gw_155 : (Jvm.Cond.fieldLink "FarDishes$Planner" (76 : Nat) "FarDishes$Asking" "worth" "I") ∈ qG := qG_t (gt_1 (List.mem_of_getElem? (i := 232) rfl)) rfl
theorem gw_156 : (Jvm.Cond.code ({ cls := "FarDishes$Planner", name := "findEnds", desc := "(LFarDishes$World;)V" } : Jvm.MethodName) prog_7_method_10_code (4 : Nat) (Option.none : Option Jvm.ClassFile.FieldType)) ∈ qG := qG_t (gt_4 (List.mem_of_getElem? (i := 16) rfl)) rfl
theorem gw_157 : (Jvm.Cond.methodLink "FarDishes$Planner" (79 : Nat) ({ cls := "FarDishes$Planner", name := "findEnds", desc := "(LFarDishes$World;)V" } : Jvm.MethodName)) ∈ qG := qG_t (gt_4 (List.mem_of_getElem? (i := 13) rfl)) rfl
theorem gw_158 : (Jvm.Cond.instanceMethod ({ cls := "FarDishes$Planner", name := "findEnds", desc := "(LFarDishes$World;)V" } : Jvm.MethodName)) ∈ qG := qG_t (gt_4 (List.mem_of_getElem? (i := 15) rfl)) rfl
theorem gw_159 : Cond.selects (⟨"FarDishes$Planner", "findEnds", "(LFarDishes$World;)V"⟩ : MethodName).cls (⟨"FarDishes$Planner", "findEnds", "(LFarDishes$World;)V"⟩ : MethodName) (⟨"FarDishes$Planner", "findEnds", "(LFarDishes$World;)V"⟩ : MethodName) ∈ qG := qG_s (List.mem_map.mpr ⟨((⟨"FarDishes$Planner", "findEnds", "(LFarDishes$World;)V"⟩ : MethodName), 12), List.mem_of_getElem? (i := 17) rfl, rfl⟩) rfl
theorem gw_160 : (Jvm.Cond.code ({ cls := "FarDishes$Planner", name := "findRest", desc := "(LFarDishes$World;)V" } : Jvm.MethodName) prog_7_method_8_code (4 : Nat) (Option.none : Option Jvm.ClassFile.FieldType)) ∈ qG := qG_t (gt_4 (List.mem_of_getElem? (i := 25) rfl)) rfl
theorem gw_161 : (Jvm.Cond.methodLink "FarDishes$Planner" (82 : Nat) ({ cls := "FarDishes$Planner", name := "findRest", desc := "(LFarDishes$World;)V" } : Jvm.MethodName)) ∈ qG := qG_t (gt_4 (List.mem_of_getElem? (i := 22) rfl)) rfl
theorem gw_162 : (Jvm.Cond.instanceMethod ({ cls := "FarDishes$Planner", name := "findRest", desc := "(LFarDishes$World;)V" } : Jvm.MethodName)) ∈ qG := qG_t (gt_4 (List.mem_of_getElem? (i := 24) rfl)) rfl
theorem gw_163 : Cond.selects (⟨"FarDishes$Planner", "findRest", "(LFarDishes$World;)V"⟩ : MethodName).cls (⟨"FarDishes$Planner", "findRest", "(LFarDishes$World;)V"⟩ : MethodName) (⟨"FarDishes$Planner", "findRest", "(LFarDishes$World;)V"⟩ : MethodName) ∈ qG := qG_s (List.mem_map.mpr ⟨((⟨"FarDishes$Planner", "findRest", "(LFarDishes$World;)V"⟩ : MethodName), 12), List.mem_of_getElem? (i := 18) rfl, rfl⟩) rfl
theorem gw_164 : (Jvm.Cond.fieldLink "FarDishes$Planner" (85 : Nat) "FarDishes$Planner" "bestWeight" "I") ∈ qG := qG_t (gt_2 (List.mem_of_getElem? (i := 74) rfl)) rfl
theorem gw_165 : (Jvm.Cond.fieldLink "FarDishes$Planner" (88 : Nat) "FarDishes$Planner" "bestUsed" "I") ∈ qG := qG_t (gt_2 (List.mem_of_getElem? (i := 76) rfl)) rfl
theorem gw_166 : (Jvm.Cond.code ({ cls := "FarDishes$Planner", name := "tryFrom", desc := "(LFarDishes$World;III)V" } : Jvm.MethodName) prog_7_method_11_code (8 : Nat) (Option.none : Option Jvm.ClassFile.FieldType)) ∈ qG := qG_t (gt_4 (List.mem_of_getElem? (i := 38) rfl)) rfl
theorem gw_167 : (Jvm.Cond.methodLink "FarDishes$Planner" (91 : Nat) ({ cls := "FarDishes$Planner", name := "tryFrom", desc := "(LFarDishes$World;III)V" } : Jvm.MethodName)) ∈ qG := qG_t (gt_4 (List.mem_of_getElem? (i := 35) rfl)) rfl
theorem gw_168 : (Jvm.Cond.instanceMethod ({ cls := "FarDishes$Planner", name := "tryFrom", desc := "(LFarDishes$World;III)V" } : Jvm.MethodName)) ∈ qG := qG_t (gt_4 (List.mem_of_getElem? (i := 37) rfl)) rfl
theorem gw_169 : Cond.selects (⟨"FarDishes$Planner", "tryFrom", "(LFarDishes$World;III)V"⟩ : MethodName).cls (⟨"FarDishes$Planner", "tryFrom", "(LFarDishes$World;III)V"⟩ : MethodName) (⟨"FarDishes$Planner", "tryFrom", "(LFarDishes$World;III)V"⟩ : MethodName) ∈ qG := qG_s (List.mem_map.mpr ⟨((⟨"FarDishes$Planner", "tryFrom", "(LFarDishes$World;III)V"⟩ : MethodName), 12), List.mem_of_getElem? (i := 21) rfl, rfl⟩) rfl
theorem gw_170 : (Jvm.Cond.code ({ cls := "FarDishes$Planner", name := "canStand", desc := "(LFarDishes$World;I)Z" } : Jvm.MethodName) prog_7_method_9_code (4 : Nat) (Option.some Jvm.ClassFile.FieldType.boolean)) ∈ qG := qG_t (gt_4 (List.mem_of_getElem? (i := 29) rfl)) rfl
theorem gw_171 : (Jvm.Cond.methodLink "FarDishes$Planner" (95 : Nat) ({ cls := "FarDishes$Planner", name := "canStand", desc := "(LFarDishes$World;I)Z" } : Jvm.MethodName)) ∈ qG := qG_t (gt_4 (List.mem_of_getElem? (i := 26) rfl)) rfl
theorem gw_172 : (Jvm.Cond.instanceMethod ({ cls := "FarDishes$Planner", name := "canStand", desc := "(LFarDishes$World;I)Z" } : Jvm.MethodName)) ∈ qG := qG_t (gt_4 (List.mem_of_getElem? (i := 28) rfl)) rfl
theorem gw_173 : Cond.selects (⟨"FarDishes$Planner", "canStand", "(LFarDishes$World;I)Z"⟩ : MethodName).cls (⟨"FarDishes$Planner", "canStand", "(LFarDishes$World;I)Z"⟩ : MethodName) (⟨"FarDishes$Planner", "canStand", "(LFarDishes$World;I)Z"⟩ : MethodName) ∈ qG := qG_s (List.mem_map.mpr ⟨((⟨"FarDishes$Planner", "canStand", "(LFarDishes$World;I)Z"⟩ : MethodName), 12), List.mem_of_getElem? (i := 19) rfl, rfl⟩) rfl
theorem gw_174 : (Jvm.Cond.fieldLink "FarDishes$Planner" (99 : Nat) "FarDishes$World" "dishCount" "I") ∈ qG := qG_t (gt_2 (List.mem_of_getElem? (i := 29) rfl)) rfl
theorem gw_175 : (Jvm.Cond.code ({ cls := "FarDishes$Planner", name := "startOn", desc := "(LFarDishes$World;II)I" } : Jvm.MethodName) prog_7_method_14_code (8 : Nat) (Option.some Jvm.ClassFile.FieldType.int)) ∈ qG := qG_t (gt_4 (List.mem_of_getElem? (i := 33) rfl)) rfl
theorem gw_176 : (Jvm.Cond.methodLink "FarDishes$Planner" (102 : Nat) ({ cls := "FarDishes$Planner", name := "startOn", desc := "(LFarDishes$World;II)I" } : Jvm.MethodName)) ∈ qG := qG_t (gt_4 (List.mem_of_getElem? (i := 30) rfl)) rfl
theorem gw_177 : (Jvm.Cond.instanceMethod ({ cls := "FarDishes$Planner", name := "startOn", desc := "(LFarDishes$World;II)I" } : Jvm.MethodName)) ∈ qG := qG_t (gt_4 (List.mem_of_getElem? (i := 32) rfl)) rfl
theorem gw_178 : Cond.selects (⟨"FarDishes$Planner", "startOn", "(LFarDishes$World;II)I"⟩ : MethodName).cls (⟨"FarDishes$Planner", "startOn", "(LFarDishes$World;II)I"⟩ : MethodName) (⟨"FarDishes$Planner", "startOn", "(LFarDishes$World;II)I"⟩ : MethodName) ∈ qG := qG_s (List.mem_map.mpr ⟨((⟨"FarDishes$Planner", "startOn", "(LFarDishes$World;II)I"⟩ : MethodName), 12), List.mem_of_getElem? (i := 20) rfl, rfl⟩) rfl
theorem gw_179 : (Jvm.Cond.fieldLink "FarDishes$Planner" (106 : Nat) "FarDishes$Asking" "dish" "I") ∈ qG := qG_t (gt_2 (List.mem_of_getElem? (i := 0) rfl)) rfl
theorem gw_180 : (Jvm.Cond.code ({ cls := "FarDishes$Asking", name := "end", desc := "()I" } : Jvm.MethodName) prog_2_method_6_code (1 : Nat) (Option.some Jvm.ClassFile.FieldType.int)) ∈ qG := qG_t (gt_4 (List.mem_of_getElem? (i := 20) rfl)) rfl
theorem gw_181 : (Jvm.Cond.methodLink "FarDishes$Planner" (109 : Nat) ({ cls := "FarDishes$Asking", name := "end", desc := "()I" } : Jvm.MethodName)) ∈ qG := qG_t (gt_4 (List.mem_of_getElem? (i := 17) rfl)) rfl
theorem gw_182 : (Jvm.Cond.instanceMethod ({ cls := "FarDishes$Asking", name := "end", desc := "()I" } : Jvm.MethodName)) ∈ qG := qG_t (gt_4 (List.mem_of_getElem? (i := 18) rfl)) rfl
theorem gw_183 : (Jvm.Cond.selects "FarDishes$Asking" ({ cls := "FarDishes$Asking", name := "end", desc := "()I" } : Jvm.MethodName) ({ cls := "FarDishes$Asking", name := "end", desc := "()I" } : Jvm.MethodName)) ∈ qG := qG_t (gt_4 (List.mem_of_getElem? (i := 19) rfl)) rfl
theorem gw_184 : (Jvm.Cond.methodLink "FarDishes$Planner" (113 : Nat) ({ cls := "java/lang/Math", name := "max", desc := "(II)I" } : Jvm.MethodName)) ∈ qG := qG_t (gt_4 (List.mem_of_getElem? (i := 21) rfl)) rfl
theorem gw_185 : (Jvm.Cond.code ({ cls := "FarDishes$Planner", name := "canBeBetter", desc := "(III)Z" } : Jvm.MethodName) prog_7_method_12_code (5 : Nat) (Option.some Jvm.ClassFile.FieldType.boolean)) ∈ qG := qG_t (gt_4 (List.mem_of_getElem? (i := 42) rfl)) rfl
theorem gw_186 : (Jvm.Cond.methodLink "FarDishes$Planner" (118 : Nat) ({ cls := "FarDishes$Planner", name := "canBeBetter", desc := "(III)Z" } : Jvm.MethodName)) ∈ qG := qG_t (gt_4 (List.mem_of_getElem? (i := 39) rfl)) rfl
theorem gw_187 : (Jvm.Cond.instanceMethod ({ cls := "FarDishes$Planner", name := "canBeBetter", desc := "(III)Z" } : Jvm.MethodName)) ∈ qG := qG_t (gt_4 (List.mem_of_getElem? (i := 41) rfl)) rfl
theorem gw_188 : Cond.selects (⟨"FarDishes$Planner", "canBeBetter", "(III)Z"⟩ : MethodName).cls (⟨"FarDishes$Planner", "canBeBetter", "(III)Z"⟩ : MethodName) (⟨"FarDishes$Planner", "canBeBetter", "(III)Z"⟩ : MethodName) ∈ qG := qG_s (List.mem_map.mpr ⟨((⟨"FarDishes$Planner", "canBeBetter", "(III)Z"⟩ : MethodName), 12), List.mem_of_getElem? (i := 22) rfl, rfl⟩) rfl
theorem gw_189 : (Jvm.Cond.code ({ cls := "FarDishes$Planner", name := "keepRow", desc := "(II)V" } : Jvm.MethodName) prog_7_method_13_code (3 : Nat) (Option.none : Option Jvm.ClassFile.FieldType)) ∈ qG := qG_t (gt_4 (List.mem_of_getElem? (i := 46) rfl)) rfl
theorem gw_190 : (Jvm.Cond.methodLink "FarDishes$Planner" (122 : Nat) ({ cls := "FarDishes$Planner", name := "keepRow", desc := "(II)V" } : Jvm.MethodName)) ∈ qG := qG_t (gt_4 (List.mem_of_getElem? (i := 43) rfl)) rfl
theorem gw_191 : (Jvm.Cond.instanceMethod ({ cls := "FarDishes$Planner", name := "keepRow", desc := "(II)V" } : Jvm.MethodName)) ∈ qG := qG_t (gt_4 (List.mem_of_getElem? (i := 45) rfl)) rfl
theorem gw_192 : Cond.selects (⟨"FarDishes$Planner", "keepRow", "(II)V"⟩ : MethodName).cls (⟨"FarDishes$Planner", "keepRow", "(II)V"⟩ : MethodName) (⟨"FarDishes$Planner", "keepRow", "(II)V"⟩ : MethodName) ∈ qG := qG_s (List.mem_map.mpr ⟨((⟨"FarDishes$Planner", "keepRow", "(II)V"⟩ : MethodName), 12), List.mem_of_getElem? (i := 23) rfl, rfl⟩) rfl
theorem gw_193 : (Jvm.Cond.fieldLink "FarDishes$Planner" (126 : Nat) "FarDishes$Asking" "n" "I") ∈ qG := qG_t (gt_1 (List.mem_of_getElem? (i := 223) rfl)) rfl
theorem gw_194 : (Jvm.Cond.methodLink "FarDishes$Planner" (129 : Nat) ({ cls := "java/lang/System", name := "arraycopy", desc := "(Ljava/lang/Object;ILjava/lang/Object;II)V" } : Jvm.MethodName)) ∈ qG := qG_t (gt_4 (List.mem_of_getElem? (i := 47) rfl)) rfl
theorem gw_195 : (Jvm.Cond.fieldLink "FarDishes$Planner" (135 : Nat) "FarDishes$World" "dishes" "[LFarDishes$Dish;") ∈ qG := qG_t (gt_2 (List.mem_of_getElem? (i := 38) rfl)) rfl
theorem gw_196 : (Jvm.Cond.fieldLink "FarDishes$Planner" (139 : Nat) "FarDishes$Dish" "broken" "Z") ∈ qG := qG_t (gt_1 (List.mem_of_getElem? (i := 72) rfl)) rfl
theorem gw_197 : (Jvm.Cond.fieldLink "FarDishes$Planner" (145 : Nat) "FarDishes$Asking" "from" "I") ∈ qG := qG_t (gt_1 (List.mem_of_getElem? (i := 226) rfl)) rfl
theorem gw_198 : (Jvm.Cond.fieldLink "FarDishes$Planner" (148 : Nat) "FarDishes$World" "hour" "I") ∈ qG := qG_t (gt_2 (List.mem_of_getElem? (i := 25) rfl)) rfl
theorem gw_199 : (Jvm.Cond.fieldLink "FarDishes$Planner" (151 : Nat) "FarDishes$Dish" "turn" "I") ∈ qG := qG_t (gt_1 (List.mem_of_getElem? (i := 68) rfl)) rfl
theorem gw_200 : (Jvm.Cond.fieldLink "FarDishes$Planner" (154 : Nat) "FarDishes$World" "crafts" "[LFarDishes$Craft;") ∈ qG := qG_t (gt_2 (List.mem_of_getElem? (i := 41) rfl)) rfl
theorem gw_201 : (Jvm.Cond.fieldLink "FarDishes$Planner" (158 : Nat) "FarDishes$Asking" "craft" "I") ∈ qG := qG_t (gt_1 (List.mem_of_getElem? (i := 220) rfl)) rfl
theorem gw_202 : (Jvm.Cond.fieldLink "FarDishes$Planner" (161 : Nat) "FarDishes$Dish" "place" "I") ∈ qG := qG_t (gt_1 (List.mem_of_getElem? (i := 62) rfl)) rfl
theorem gw_203 : (Jvm.Cond.code ({ cls := "FarDishes$Craft", name := "firstUp", desc := "(III)I" } : Jvm.MethodName) prog_4_method_6_code (5 : Nat) (Option.some Jvm.ClassFile.FieldType.int)) ∈ qG := qG_t (gt_3 (List.mem_of_getElem? (i := 56) rfl)) rfl
theorem gw_204 : (Jvm.Cond.methodLink "FarDishes$Planner" (164 : Nat) ({ cls := "FarDishes$Craft", name := "firstUp", desc := "(III)I" } : Jvm.MethodName)) ∈ qG := qG_t (gt_4 (List.mem_of_getElem? (i := 34) rfl)) rfl
theorem gw_205 : (Jvm.Cond.instanceMethod ({ cls := "FarDishes$Craft", name := "firstUp", desc := "(III)I" } : Jvm.MethodName)) ∈ qG := qG_t (gt_3 (List.mem_of_getElem? (i := 54) rfl)) rfl
theorem gw_206 : (Jvm.Cond.selects "FarDishes$Craft" ({ cls := "FarDishes$Craft", name := "firstUp", desc := "(III)I" } : Jvm.MethodName) ({ cls := "FarDishes$Craft", name := "firstUp", desc := "(III)I" } : Jvm.MethodName)) ∈ qG := qG_t (gt_3 (List.mem_of_getElem? (i := 55) rfl)) rfl
theorem gw_207 : (Jvm.Cond.fieldLink "FarDishes$Planner" (170 : Nat) "FarDishes$Asking" "to" "I") ∈ qG := qG_t (gt_1 (List.mem_of_getElem? (i := 229) rfl)) rfl
theorem gw_208 : (Jvm.Cond.code ({ cls := "FarDishes$Asking", name := "planOn", desc := "(II)V" } : Jvm.MethodName) prog_2_method_5_code (3 : Nat) (Option.none : Option Jvm.ClassFile.FieldType)) ∈ qG := qG_t (gt_4 (List.mem_of_getElem? (i := 121) rfl)) rfl
theorem gw_209 : (Jvm.Cond.methodLink "FarDishes$Planner" (173 : Nat) ({ cls := "FarDishes$Asking", name := "planOn", desc := "(II)V" } : Jvm.MethodName)) ∈ qG := qG_t (gt_4 (List.mem_of_getElem? (i := 118) rfl)) rfl
theorem gw_210 : (Jvm.Cond.instanceMethod ({ cls := "FarDishes$Asking", name := "planOn", desc := "(II)V" } : Jvm.MethodName)) ∈ qG := qG_t (gt_4 (List.mem_of_getElem? (i := 119) rfl)) rfl
theorem gw_211 : (Jvm.Cond.selects "FarDishes$Asking" ({ cls := "FarDishes$Asking", name := "planOn", desc := "(II)V" } : Jvm.MethodName) ({ cls := "FarDishes$Asking", name := "planOn", desc := "(II)V" } : Jvm.MethodName)) ∈ qG := qG_t (gt_4 (List.mem_of_getElem? (i := 120) rfl)) rfl
theorem gw_212 : (Jvm.Cond.methodLink "FarDishes$Search" (3 : Nat) ({ cls := "java/lang/Object", name := "<init>", desc := "()V" } : Jvm.MethodName)) ∈ qG := qG_t (gt_1 (List.mem_of_getElem? (i := 45) rfl)) rfl
theorem gw_213 : (Jvm.Cond.fieldLink "FarDishes$Search" (9 : Nat) "FarDishes$Search" "odds" "[I") ∈ qG := qG_t (gt_1 (List.mem_of_getElem? (i := 46) rfl)) rfl
theorem gw_214 : (Jvm.Cond.fieldLink "FarDishes$Search" (15 : Nat) "FarDishes$Search" "looked" "J") ∈ qG := qG_t (gt_1 (List.mem_of_getElem? (i := 47) rfl)) rfl
theorem gw_215 : (Jvm.Cond.methodLink "FarDishes$Search" (19 : Nat) ({ cls := "java/lang/System", name := "arraycopy", desc := "(Ljava/lang/Object;ILjava/lang/Object;II)V" } : Jvm.MethodName)) ∈ qG := qG_t (gt_5 (List.mem_of_getElem? (i := 91) rfl)) rfl
theorem gw_216 : (Jvm.Cond.constantLong "FarDishes$Search" (25 : Nat) (-1 : Int64)) ∈ qG := qG_t (gt_5 (List.mem_of_getElem? (i := 23) rfl)) rfl
theorem gw_217 : (Jvm.Cond.code ({ cls := "FarDishes$Search", name := "bestBut", desc := "(J)I" } : Jvm.MethodName) prog_8_method_8_code (6 : Nat) (Option.some Jvm.ClassFile.FieldType.int)) ∈ qG := qG_t (gt_5 (List.mem_of_getElem? (i := 35) rfl)) rfl
theorem gw_218 : (Jvm.Cond.methodLink "FarDishes$Search" (27 : Nat) ({ cls := "FarDishes$Search", name := "bestBut", desc := "(J)I" } : Jvm.MethodName)) ∈ qG := qG_t (gt_5 (List.mem_of_getElem? (i := 32) rfl)) rfl
theorem gw_219 : (Jvm.Cond.instanceMethod ({ cls := "FarDishes$Search", name := "bestBut", desc := "(J)I" } : Jvm.MethodName)) ∈ qG := qG_t (gt_5 (List.mem_of_getElem? (i := 34) rfl)) rfl
theorem gw_220 : Cond.selects (⟨"FarDishes$Search", "bestBut", "(J)I"⟩ : MethodName).cls (⟨"FarDishes$Search", "bestBut", "(J)I"⟩ : MethodName) (⟨"FarDishes$Search", "bestBut", "(J)I"⟩ : MethodName) ∈ qG := qG_s (List.mem_map.mpr ⟨((⟨"FarDishes$Search", "bestBut", "(J)I"⟩ : MethodName), 2), List.mem_of_getElem? (i := 33) rfl, rfl⟩) rfl
theorem gw_221 : (Jvm.Cond.initialized "FarDishes$Search") ∈ qG := qG_t (gt_1 (List.mem_of_getElem? (i := 3) rfl)) rfl
theorem gw_222 : (Jvm.Cond.code ({ cls := "FarDishes$Search", name := "isOpen", desc := "(IJ)Z" } : Jvm.MethodName) prog_8_method_9_code (3 : Nat) (Option.some Jvm.ClassFile.FieldType.boolean)) ∈ qG := qG_t (gt_5 (List.mem_of_getElem? (i := 38) rfl)) rfl
theorem gw_223 : (Jvm.Cond.methodLink "FarDishes$Search" (31 : Nat) ({ cls := "FarDishes$Search", name := "isOpen", desc := "(IJ)Z" } : Jvm.MethodName)) ∈ qG := qG_t (gt_5 (List.mem_of_getElem? (i := 36) rfl)) rfl
theorem gw_224 : (Jvm.Cond.static ({ cls := "FarDishes$Search", name := "isOpen", desc := "(IJ)Z" } : Jvm.MethodName)) ∈ qG := qG_t (gt_5 (List.mem_of_getElem? (i := 37) rfl)) rfl
theorem gw_225 : (Jvm.Cond.code ({ cls := "FarDishes$Search", name := "oddsLeft", desc := "()I" } : Jvm.MethodName) prog_8_method_7_code (3 : Nat) (Option.some Jvm.ClassFile.FieldType.int)) ∈ qG := qG_t (gt_5 (List.mem_of_getElem? (i := 50) rfl)) rfl
theorem gw_226 : (Jvm.Cond.methodLink "FarDishes$Search" (35 : Nat) ({ cls := "FarDishes$Search", name := "oddsLeft", desc := "()I" } : Jvm.MethodName)) ∈ qG := qG_t (gt_5 (List.mem_of_getElem? (i := 47) rfl)) rfl
theorem gw_227 : (Jvm.Cond.instanceMethod ({ cls := "FarDishes$Search", name := "oddsLeft", desc := "()I" } : Jvm.MethodName)) ∈ qG := qG_t (gt_5 (List.mem_of_getElem? (i := 49) rfl)) rfl
theorem gw_228 : Cond.selects (⟨"FarDishes$Search", "oddsLeft", "()I"⟩ : MethodName).cls (⟨"FarDishes$Search", "oddsLeft", "()I"⟩ : MethodName) (⟨"FarDishes$Search", "oddsLeft", "()I"⟩ : MethodName) ∈ qG := qG_s (List.mem_map.mpr ⟨((⟨"FarDishes$Search", "oddsLeft", "()I"⟩ : MethodName), 2), List.mem_of_getElem? (i := 34) rfl, rfl⟩) rfl
theorem gw_229 : (Jvm.Cond.methodLink "FarDishes$Sheet" (3 : Nat) ({ cls := "java/lang/Object", name := "<init>", desc := "()V" } : Jvm.MethodName)) ∈ qG := qG_t (gt_2 (List.mem_of_getElem? (i := 153) rfl)) rfl
theorem gw_230 : (Jvm.Cond.fieldLink "FarDishes$Sheet" (9 : Nat) "FarDishes$Sheet" "numbers" "[I") ∈ qG := qG_t (gt_2 (List.mem_of_getElem? (i := 158) rfl)) rfl
theorem gw_231 : (Jvm.Cond.fieldLink "FarDishes$Sheet" (15 : Nat) "FarDishes$Sheet" "bits" "I") ∈ qG := qG_t (gt_2 (List.mem_of_getElem? (i := 154) rfl)) rfl
theorem gw_232 : (Jvm.Cond.fieldLink "FarDishes$Sheet" (19 : Nat) "FarDishes$Sheet" "size" "I") ∈ qG := qG_t (gt_2 (List.mem_of_getElem? (i := 156) rfl)) rfl
theorem gw_233 : (Jvm.Cond.methodLink "FarDishes$Silence" (3 : Nat) ({ cls := "java/lang/Object", name := "<init>", desc := "()V" } : Jvm.MethodName)) ∈ qG := qG_t (gt_1 (List.mem_of_getElem? (i := 167) rfl)) rfl
theorem gw_234 : (Jvm.Cond.fieldLink "FarDishes$Silence" (9 : Nat) "FarDishes$Silence" "next" "[I") ∈ qG := qG_t (gt_1 (List.mem_of_getElem? (i := 168) rfl)) rfl
theorem gw_235 : (Jvm.Cond.fieldLink "FarDishes$Silence" (15 : Nat) "FarDishes$Silence" "heard" "I") ∈ qG := qG_t (gt_1 (List.mem_of_getElem? (i := 169) rfl)) rfl
theorem gw_236 : (Jvm.Cond.methodLink "FarDishes$Silence" (19 : Nat) ({ cls := "java/lang/System", name := "arraycopy", desc := "(Ljava/lang/Object;ILjava/lang/Object;II)V" } : Jvm.MethodName)) ∈ qG := qG_t (gt_5 (List.mem_of_getElem? (i := 82) rfl)) rfl
theorem gw_237 : (Jvm.Cond.code ({ cls := "FarDishes$Silence", name := "daysFrom", desc := "(I)I" } : Jvm.MethodName) prog_10_method_5_code (4 : Nat) (Option.some Jvm.ClassFile.FieldType.int)) ∈ qG := qG_t (gt_5 (List.mem_of_getElem? (i := 5) rfl)) rfl
theorem gw_238 : (Jvm.Cond.methodLink "FarDishes$Silence" (25 : Nat) ({ cls := "FarDishes$Silence", name := "daysFrom", desc := "(I)I" } : Jvm.MethodName)) ∈ qG := qG_t (gt_5 (List.mem_of_getElem? (i := 14) rfl)) rfl
theorem gw_239 : (Jvm.Cond.instanceMethod ({ cls := "FarDishes$Silence", name := "daysFrom", desc := "(I)I" } : Jvm.MethodName)) ∈ qG := qG_t (gt_5 (List.mem_of_getElem? (i := 3) rfl)) rfl
theorem gw_240 : (Jvm.Cond.selects "FarDishes$Silence" ({ cls := "FarDishes$Silence", name := "daysFrom", desc := "(I)I" } : Jvm.MethodName) ({ cls := "FarDishes$Silence", name := "daysFrom", desc := "(I)I" } : Jvm.MethodName)) ∈ qG := qG_t (gt_5 (List.mem_of_getElem? (i := 4) rfl)) rfl
theorem gw_241 : (Jvm.Cond.methodLink "FarDishes$Text" (3 : Nat) ({ cls := "java/lang/Object", name := "<init>", desc := "()V" } : Jvm.MethodName)) ∈ qG := qG_t (gt_2 (List.mem_of_getElem? (i := 116) rfl)) rfl
theorem gw_242 : (Jvm.Cond.fieldLink "FarDishes$Text" (9 : Nat) "FarDishes$Text" "bytes" "[I") ∈ qG := qG_t (gt_2 (List.mem_of_getElem? (i := 119) rfl)) rfl
theorem gw_243 : (Jvm.Cond.classLink "FarDishes$Text" (15 : Nat) "[[I") ∈ qG := qG_t (gt_2 (List.mem_of_getElem? (i := 117) rfl)) rfl
theorem gw_244 : (Jvm.Cond.fieldLink "FarDishes$Text" (17 : Nat) "FarDishes$Text" "read" "[[I") ∈ qG := qG_t (gt_2 (List.mem_of_getElem? (i := 122) rfl)) rfl
theorem gw_245 : (Jvm.Cond.fieldLink "FarDishes$Text" (20 : Nat) "FarDishes$Text" "length" "I") ∈ qG := qG_t (gt_2 (List.mem_of_getElem? (i := 120) rfl)) rfl
theorem gw_246 : (Jvm.Cond.fieldLink "FarDishes$Text" (24 : Nat) "FarDishes$Text" "at" "I") ∈ qG := qG_t (gt_2 (List.mem_of_getElem? (i := 126) rfl)) rfl
theorem gw_247 : (Jvm.Cond.fieldLink "FarDishes$Text" (27 : Nat) "FarDishes$Text" "ones" "I") ∈ qG := qG_t (gt_2 (List.mem_of_getElem? (i := 124) rfl)) rfl
theorem gw_248 : (Jvm.Cond.code ({ cls := "FarDishes$Text", name := "readOne", desc := "([II)Z" } : Jvm.MethodName) prog_11_method_5_code (3 : Nat) (Option.some Jvm.ClassFile.FieldType.boolean)) ∈ qG := qG_t (gt_3 (List.mem_of_getElem? (i := 96) rfl)) rfl
theorem gw_249 : (Jvm.Cond.methodLink "FarDishes$Text" (30 : Nat) ({ cls := "FarDishes$Text", name := "readOne", desc := "([II)Z" } : Jvm.MethodName)) ∈ qG := qG_t (gt_3 (List.mem_of_getElem? (i := 93) rfl)) rfl
theorem gw_250 : (Jvm.Cond.instanceMethod ({ cls := "FarDishes$Text", name := "readOne", desc := "([II)Z" } : Jvm.MethodName)) ∈ qG := qG_t (gt_3 (List.mem_of_getElem? (i := 95) rfl)) rfl
theorem gw_251 : Cond.selects (⟨"FarDishes$Text", "readOne", "([II)Z"⟩ : MethodName).cls (⟨"FarDishes$Text", "readOne", "([II)Z"⟩ : MethodName) (⟨"FarDishes$Text", "readOne", "([II)Z"⟩ : MethodName) ∈ qG := qG_s (List.mem_map.mpr ⟨((⟨"FarDishes$Text", "readOne", "([II)Z"⟩ : MethodName), 8), List.mem_of_getElem? (i := 4) rfl, rfl⟩) rfl
theorem gw_252 : (Jvm.Cond.initialized "FarDishes$Text") ∈ qG := qG_t (gt_1 (List.mem_of_getElem? (i := 11) rfl)) rfl
theorem gw_253 : (Jvm.Cond.fieldLink "FarDishes$Text" (34 : Nat) "FarDishes$Text" "begin" "I") ∈ qG := qG_t (gt_2 (List.mem_of_getElem? (i := 127) rfl)) rfl
theorem gw_254 : (Jvm.Cond.fieldLink "FarDishes$Text" (37 : Nat) "FarDishes$Text" "sort" "I") ∈ qG := qG_t (gt_2 (List.mem_of_getElem? (i := 128) rfl)) rfl
theorem gw_255 : (Jvm.Cond.code ({ cls := "FarDishes$Text", name := "next", desc := "()V" } : Jvm.MethodName) prog_11_method_9_code (1 : Nat) (Option.none : Option Jvm.ClassFile.FieldType)) ∈ qG := qG_t (gt_3 (List.mem_of_getElem? (i := 100) rfl)) rfl
theorem gw_256 : (Jvm.Cond.methodLink "FarDishes$Text" (40 : Nat) ({ cls := "FarDishes$Text", name := "next", desc := "()V" } : Jvm.MethodName)) ∈ qG := qG_t (gt_3 (List.mem_of_getElem? (i := 97) rfl)) rfl
theorem gw_257 : (Jvm.Cond.instanceMethod ({ cls := "FarDishes$Text", name := "next", desc := "()V" } : Jvm.MethodName)) ∈ qG := qG_t (gt_3 (List.mem_of_getElem? (i := 99) rfl)) rfl
theorem gw_258 : Cond.selects (⟨"FarDishes$Text", "next", "()V"⟩ : MethodName).cls (⟨"FarDishes$Text", "next", "()V"⟩ : MethodName) (⟨"FarDishes$Text", "next", "()V"⟩ : MethodName) ∈ qG := qG_s (List.mem_map.mpr ⟨((⟨"FarDishes$Text", "next", "()V"⟩ : MethodName), 8), List.mem_of_getElem? (i := 5) rfl, rfl⟩) rfl
theorem gw_259 : (Jvm.Cond.fieldLink "FarDishes$Text" (43 : Nat) "FarDishes$Text" "value" "I") ∈ qG := qG_t (gt_2 (List.mem_of_getElem? (i := 129) rfl)) rfl
theorem gw_260 : (Jvm.Cond.code ({ cls := "FarDishes$Text", name := "readPair", desc := "(III)Z" } : Jvm.MethodName) prog_11_method_7_code (4 : Nat) (Option.some Jvm.ClassFile.FieldType.boolean)) ∈ qG := qG_t (gt_3 (List.mem_of_getElem? (i := 177) rfl)) rfl
theorem gw_261 : (Jvm.Cond.methodLink "FarDishes$Text" (46 : Nat) ({ cls := "FarDishes$Text", name := "readPair", desc := "(III)Z" } : Jvm.MethodName)) ∈ qG := qG_t (gt_3 (List.mem_of_getElem? (i := 174) rfl)) rfl
theorem gw_262 : (Jvm.Cond.instanceMethod ({ cls := "FarDishes$Text", name := "readPair", desc := "(III)Z" } : Jvm.MethodName)) ∈ qG := qG_t (gt_3 (List.mem_of_getElem? (i := 176) rfl)) rfl
theorem gw_263 : Cond.selects (⟨"FarDishes$Text", "readPair", "(III)Z"⟩ : MethodName).cls (⟨"FarDishes$Text", "readPair", "(III)Z"⟩ : MethodName) (⟨"FarDishes$Text", "readPair", "(III)Z"⟩ : MethodName) ∈ qG := qG_s (List.mem_map.mpr ⟨((⟨"FarDishes$Text", "readPair", "(III)Z"⟩ : MethodName), 8), List.mem_of_getElem? (i := 11) rfl, rfl⟩) rfl
theorem gw_264 : (Jvm.Cond.code ({ cls := "FarDishes$Text", name := "readWorth", desc := "([I)Z" } : Jvm.MethodName) prog_11_method_6_code (2 : Nat) (Option.some Jvm.ClassFile.FieldType.boolean)) ∈ qG := qG_t (gt_3 (List.mem_of_getElem? (i := 185) rfl)) rfl
theorem gw_265 : (Jvm.Cond.methodLink "FarDishes$Text" (50 : Nat) ({ cls := "FarDishes$Text", name := "readWorth", desc := "([I)Z" } : Jvm.MethodName)) ∈ qG := qG_t (gt_3 (List.mem_of_getElem? (i := 182) rfl)) rfl
theorem gw_266 : (Jvm.Cond.instanceMethod ({ cls := "FarDishes$Text", name := "readWorth", desc := "([I)Z" } : Jvm.MethodName)) ∈ qG := qG_t (gt_3 (List.mem_of_getElem? (i := 184) rfl)) rfl
theorem gw_267 : Cond.selects (⟨"FarDishes$Text", "readWorth", "([I)Z"⟩ : MethodName).cls (⟨"FarDishes$Text", "readWorth", "([I)Z"⟩ : MethodName) (⟨"FarDishes$Text", "readWorth", "([I)Z"⟩ : MethodName) ∈ qG := qG_s (List.mem_map.mpr ⟨((⟨"FarDishes$Text", "readWorth", "([I)Z"⟩ : MethodName), 8), List.mem_of_getElem? (i := 13) rfl, rfl⟩) rfl
theorem gw_268 : (Jvm.Cond.code ({ cls := "FarDishes$Text", name := "readNumber", desc := "(II)Z" } : Jvm.MethodName) prog_11_method_8_code (3 : Nat) (Option.some Jvm.ClassFile.FieldType.boolean)) ∈ qG := qG_t (gt_3 (List.mem_of_getElem? (i := 181) rfl)) rfl
theorem gw_269 : (Jvm.Cond.methodLink "FarDishes$Text" (54 : Nat) ({ cls := "FarDishes$Text", name := "readNumber", desc := "(II)Z" } : Jvm.MethodName)) ∈ qG := qG_t (gt_3 (List.mem_of_getElem? (i := 178) rfl)) rfl
theorem gw_270 : (Jvm.Cond.instanceMethod ({ cls := "FarDishes$Text", name := "readNumber", desc := "(II)Z" } : Jvm.MethodName)) ∈ qG := qG_t (gt_3 (List.mem_of_getElem? (i := 180) rfl)) rfl
theorem gw_271 : Cond.selects (⟨"FarDishes$Text", "readNumber", "(II)Z"⟩ : MethodName).cls (⟨"FarDishes$Text", "readNumber", "(II)Z"⟩ : MethodName) (⟨"FarDishes$Text", "readNumber", "(II)Z"⟩ : MethodName) ∈ qG := qG_s (List.mem_map.mpr ⟨((⟨"FarDishes$Text", "readNumber", "(II)Z"⟩ : MethodName), 8), List.mem_of_getElem? (i := 12) rfl, rfl⟩) rfl
theorem gw_272 : (Jvm.Cond.code ({ cls := "FarDishes$Text", name := "isLetter", desc := "(I)Z" } : Jvm.MethodName) prog_11_method_13_code (2 : Nat) (Option.some Jvm.ClassFile.FieldType.boolean)) ∈ qG := qG_t (gt_3 (List.mem_of_getElem? (i := 104) rfl)) rfl
theorem gw_273 : (Jvm.Cond.methodLink "FarDishes$Text" (58 : Nat) ({ cls := "FarDishes$Text", name := "isLetter", desc := "(I)Z" } : Jvm.MethodName)) ∈ qG := qG_t (gt_3 (List.mem_of_getElem? (i := 101) rfl)) rfl
theorem gw_274 : (Jvm.Cond.instanceMethod ({ cls := "FarDishes$Text", name := "isLetter", desc := "(I)Z" } : Jvm.MethodName)) ∈ qG := qG_t (gt_3 (List.mem_of_getElem? (i := 103) rfl)) rfl
theorem gw_275 : Cond.selects (⟨"FarDishes$Text", "isLetter", "(I)Z"⟩ : MethodName).cls (⟨"FarDishes$Text", "isLetter", "(I)Z"⟩ : MethodName) (⟨"FarDishes$Text", "isLetter", "(I)Z"⟩ : MethodName) ∈ qG := qG_s (List.mem_map.mpr ⟨((⟨"FarDishes$Text", "isLetter", "(I)Z"⟩ : MethodName), 8), List.mem_of_getElem? (i := 6) rfl, rfl⟩) rfl
theorem gw_276 : (Jvm.Cond.code ({ cls := "FarDishes$Text", name := "nextWord", desc := "()V" } : Jvm.MethodName) prog_11_method_10_code (1 : Nat) (Option.none : Option Jvm.ClassFile.FieldType)) ∈ qG := qG_t (gt_3 (List.mem_of_getElem? (i := 108) rfl)) rfl
theorem gw_277 : (Jvm.Cond.methodLink "FarDishes$Text" (62 : Nat) ({ cls := "FarDishes$Text", name := "nextWord", desc := "()V" } : Jvm.MethodName)) ∈ qG := qG_t (gt_3 (List.mem_of_getElem? (i := 105) rfl)) rfl
theorem gw_278 : (Jvm.Cond.instanceMethod ({ cls := "FarDishes$Text", name := "nextWord", desc := "()V" } : Jvm.MethodName)) ∈ qG := qG_t (gt_3 (List.mem_of_getElem? (i := 107) rfl)) rfl
theorem gw_279 : Cond.selects (⟨"FarDishes$Text", "nextWord", "()V"⟩ : MethodName).cls (⟨"FarDishes$Text", "nextWord", "()V"⟩ : MethodName) (⟨"FarDishes$Text", "nextWord", "()V"⟩ : MethodName) ∈ qG := qG_s (List.mem_map.mpr ⟨((⟨"FarDishes$Text", "nextWord", "()V"⟩ : MethodName), 8), List.mem_of_getElem? (i := 7) rfl, rfl⟩) rfl
theorem gw_280 : (Jvm.Cond.code ({ cls := "FarDishes$Text", name := "isDigit", desc := "(I)Z" } : Jvm.MethodName) prog_11_method_14_code (2 : Nat) (Option.some Jvm.ClassFile.FieldType.boolean)) ∈ qG := qG_t (gt_3 (List.mem_of_getElem? (i := 165) rfl)) rfl
theorem gw_281 : (Jvm.Cond.methodLink "FarDishes$Text" (65 : Nat) ({ cls := "FarDishes$Text", name := "isDigit", desc := "(I)Z" } : Jvm.MethodName)) ∈ qG := qG_t (gt_3 (List.mem_of_getElem? (i := 162) rfl)) rfl
theorem gw_282 : (Jvm.Cond.instanceMethod ({ cls := "FarDishes$Text", name := "isDigit", desc := "(I)Z" } : Jvm.MethodName)) ∈ qG := qG_t (gt_3 (List.mem_of_getElem? (i := 164) rfl)) rfl
theorem gw_283 : Cond.selects (⟨"FarDishes$Text", "isDigit", "(I)Z"⟩ : MethodName).cls (⟨"FarDishes$Text", "isDigit", "(I)Z"⟩ : MethodName) (⟨"FarDishes$Text", "isDigit", "(I)Z"⟩ : MethodName) ∈ qG := qG_s (List.mem_map.mpr ⟨((⟨"FarDishes$Text", "isDigit", "(I)Z"⟩ : MethodName), 8), List.mem_of_getElem? (i := 9) rfl, rfl⟩) rfl
theorem gw_284 : (Jvm.Cond.code ({ cls := "FarDishes$Text", name := "nextNumber", desc := "()V" } : Jvm.MethodName) prog_11_method_11_code (1 : Nat) (Option.none : Option Jvm.ClassFile.FieldType)) ∈ qG := qG_t (gt_3 (List.mem_of_getElem? (i := 169) rfl)) rfl
theorem gw_285 : (Jvm.Cond.methodLink "FarDishes$Text" (68 : Nat) ({ cls := "FarDishes$Text", name := "nextNumber", desc := "()V" } : Jvm.MethodName)) ∈ qG := qG_t (gt_3 (List.mem_of_getElem? (i := 166) rfl)) rfl
theorem gw_286 : (Jvm.Cond.instanceMethod ({ cls := "FarDishes$Text", name := "nextNumber", desc := "()V" } : Jvm.MethodName)) ∈ qG := qG_t (gt_3 (List.mem_of_getElem? (i := 168) rfl)) rfl
theorem gw_287 : Cond.selects (⟨"FarDishes$Text", "nextNumber", "()V"⟩ : MethodName).cls (⟨"FarDishes$Text", "nextNumber", "()V"⟩ : MethodName) (⟨"FarDishes$Text", "nextNumber", "()V"⟩ : MethodName) ∈ qG := qG_s (List.mem_map.mpr ⟨((⟨"FarDishes$Text", "nextNumber", "()V"⟩ : MethodName), 8), List.mem_of_getElem? (i := 10) rfl, rfl⟩) rfl
theorem gw_288 : (Jvm.Cond.code ({ cls := "FarDishes$Text", name := "wordBetween", desc := "(II)I" } : Jvm.MethodName) prog_11_method_12_code (8 : Nat) (Option.some Jvm.ClassFile.FieldType.int)) ∈ qG := qG_t (gt_3 (List.mem_of_getElem? (i := 112) rfl)) rfl
theorem gw_289 : (Jvm.Cond.methodLink "FarDishes$Text" (71 : Nat) ({ cls := "FarDishes$Text", name := "wordBetween", desc := "(II)I" } : Jvm.MethodName)) ∈ qG := qG_t (gt_3 (List.mem_of_getElem? (i := 109) rfl)) rfl
theorem gw_290 : (Jvm.Cond.instanceMethod ({ cls := "FarDishes$Text", name := "wordBetween", desc := "(II)I" } : Jvm.MethodName)) ∈ qG := qG_t (gt_3 (List.mem_of_getElem? (i := 111) rfl)) rfl
theorem gw_291 : Cond.selects (⟨"FarDishes$Text", "wordBetween", "(II)I"⟩ : MethodName).cls (⟨"FarDishes$Text", "wordBetween", "(II)I"⟩ : MethodName) (⟨"FarDishes$Text", "wordBetween", "(II)I"⟩ : MethodName) ∈ qG := qG_s (List.mem_map.mpr ⟨((⟨"FarDishes$Text", "wordBetween", "(II)I"⟩ : MethodName), 8), List.mem_of_getElem? (i := 8) rfl, rfl⟩) rfl
theorem gw_292 : (Jvm.Cond.constant "FarDishes$Text" (75 : Nat) (99999 : Int32)) ∈ qG := qG_t (gt_3 (List.mem_of_getElem? (i := 170) rfl)) rfl
theorem gw_293 : (Jvm.Cond.methodLink "FarDishes$Text" (76 : Nat) ({ cls := "java/lang/Math", name := "min", desc := "(II)I" } : Jvm.MethodName)) ∈ qG := qG_t (gt_3 (List.mem_of_getElem? (i := 171) rfl)) rfl
theorem gw_294 : (Jvm.Cond.methodLink "FarDishes$Text" (83 : Nat) ({ cls := "java/lang/String", name := "length", desc := "()I" } : Jvm.MethodName)) ∈ qG := qG_t (gt_3 (List.mem_of_getElem? (i := 114) rfl)) rfl
theorem gw_295 : (Jvm.Cond.methodLink "FarDishes$Text" (88 : Nat) ({ cls := "java/lang/String", name := "charAt", desc := "(I)C" } : Jvm.MethodName)) ∈ qG := qG_t (gt_3 (List.mem_of_getElem? (i := 124) rfl)) rfl
theorem gw_296 : (Jvm.Cond.methodLink "FarDishes$World" (3 : Nat) ({ cls := "java/lang/Object", name := "<init>", desc := "()V" } : Jvm.MethodName)) ∈ qG := qG_t (gt_1 (List.mem_of_getElem? (i := 33) rfl)) rfl
theorem gw_297 : (Jvm.Cond.fieldLink "FarDishes$World" (9 : Nat) "FarDishes$World" "rains" "[I") ∈ qG := qG_t (gt_2 (List.mem_of_getElem? (i := 35) rfl)) rfl
theorem gw_298 : (Jvm.Cond.classLink "FarDishes$World" (15 : Nat) "FarDishes$Dish") ∈ qG := qG_t (gt_1 (List.mem_of_getElem? (i := 34) rfl)) rfl
theorem gw_299 : (Jvm.Cond.fieldLink "FarDishes$World" (17 : Nat) "FarDishes$World" "dishes" "[LFarDishes$Dish;") ∈ qG := qG_t (gt_2 (List.mem_of_getElem? (i := 36) rfl)) rfl
theorem gw_300 : (Jvm.Cond.classLink "FarDishes$World" (21 : Nat) "FarDishes$Craft") ∈ qG := qG_t (gt_1 (List.mem_of_getElem? (i := 36) rfl)) rfl
theorem gw_301 : (Jvm.Cond.fieldLink "FarDishes$World" (23 : Nat) "FarDishes$World" "crafts" "[LFarDishes$Craft;") ∈ qG := qG_t (gt_2 (List.mem_of_getElem? (i := 39) rfl)) rfl
theorem gw_302 : (Jvm.Cond.classLink "FarDishes$World" (27 : Nat) "FarDishes$Asking") ∈ qG := qG_t (gt_1 (List.mem_of_getElem? (i := 38) rfl)) rfl
theorem gw_303 : (Jvm.Cond.fieldLink "FarDishes$World" (29 : Nat) "FarDishes$World" "askings" "[LFarDishes$Asking;") ∈ qG := qG_t (gt_2 (List.mem_of_getElem? (i := 42) rfl)) rfl
theorem gw_304 : (Jvm.Cond.classLink "FarDishes$World" (33 : Nat) "FarDishes$Search") ∈ qG := qG_t (gt_1 (List.mem_of_getElem? (i := 40) rfl)) rfl
theorem gw_305 : (Jvm.Cond.instantiable "FarDishes$Search" (2 : Nat)) ∈ qG := qG_t (gt_1 (List.mem_of_getElem? (i := 41) rfl)) rfl
theorem gw_306 : (Jvm.Cond.code ({ cls := "FarDishes$Search", name := "<init>", desc := "()V" } : Jvm.MethodName) prog_8_method_1_code (1 : Nat) (Option.none : Option Jvm.ClassFile.FieldType)) ∈ qG := qG_t (gt_1 (List.mem_of_getElem? (i := 44) rfl)) rfl
theorem gw_307 : (Jvm.Cond.instanceMethod ({ cls := "FarDishes$Search", name := "<init>", desc := "()V" } : Jvm.MethodName)) ∈ qG := qG_t (gt_1 (List.mem_of_getElem? (i := 43) rfl)) rfl
theorem gw_308 : (Jvm.Cond.fieldLink "FarDishes$World" (36 : Nat) "FarDishes$World" "search" "LFarDishes$Search;") ∈ qG := qG_t (gt_2 (List.mem_of_getElem? (i := 45) rfl)) rfl
theorem gw_309 : (Jvm.Cond.instantiable "FarDishes$Dish" (4 : Nat)) ∈ qG := qG_t (gt_1 (List.mem_of_getElem? (i := 54) rfl)) rfl
theorem gw_310 : (Jvm.Cond.initialized "FarDishes$Dish") ∈ qG := qG_t (gt_1 (List.mem_of_getElem? (i := 4) rfl)) rfl
theorem gw_311 : (Jvm.Cond.code ({ cls := "FarDishes$Dish", name := "<init>", desc := "()V" } : Jvm.MethodName) prog_5_method_1_code (1 : Nat) (Option.none : Option Jvm.ClassFile.FieldType)) ∈ qG := qG_t (gt_1 (List.mem_of_getElem? (i := 57) rfl)) rfl
theorem gw_312 : (Jvm.Cond.instanceMethod ({ cls := "FarDishes$Dish", name := "<init>", desc := "()V" } : Jvm.MethodName)) ∈ qG := qG_t (gt_1 (List.mem_of_getElem? (i := 56) rfl)) rfl
theorem gw_313 : (Jvm.Cond.instantiable "FarDishes$Craft" (8 : Nat)) ∈ qG := qG_t (gt_1 (List.mem_of_getElem? (i := 82) rfl)) rfl
theorem gw_314 : (Jvm.Cond.code ({ cls := "FarDishes$Craft", name := "<init>", desc := "()V" } : Jvm.MethodName) prog_4_method_1_code (1 : Nat) (Option.none : Option Jvm.ClassFile.FieldType)) ∈ qG := qG_t (gt_1 (List.mem_of_getElem? (i := 85) rfl)) rfl
theorem gw_315 : (Jvm.Cond.instanceMethod ({ cls := "FarDishes$Craft", name := "<init>", desc := "()V" } : Jvm.MethodName)) ∈ qG := qG_t (gt_1 (List.mem_of_getElem? (i := 84) rfl)) rfl
theorem gw_316 : (Jvm.Cond.instantiable "FarDishes$Asking" (9 : Nat)) ∈ qG := qG_t (gt_1 (List.mem_of_getElem? (i := 211) rfl)) rfl
theorem gw_317 : (Jvm.Cond.code ({ cls := "FarDishes$Asking", name := "<init>", desc := "()V" } : Jvm.MethodName) prog_2_method_1_code (1 : Nat) (Option.none : Option Jvm.ClassFile.FieldType)) ∈ qG := qG_t (gt_1 (List.mem_of_getElem? (i := 214) rfl)) rfl
theorem gw_318 : (Jvm.Cond.instanceMethod ({ cls := "FarDishes$Asking", name := "<init>", desc := "()V" } : Jvm.MethodName)) ∈ qG := qG_t (gt_1 (List.mem_of_getElem? (i := 213) rfl)) rfl
theorem gw_319 : (Jvm.Cond.fieldLink "FarDishes$World" (43 : Nat) "FarDishes$World" "hour" "I") ∈ qG := qG_t (gt_2 (List.mem_of_getElem? (i := 24) rfl)) rfl
theorem gw_320 : (Jvm.Cond.fieldLink "FarDishes$World" (47 : Nat) "FarDishes$World" "dishCount" "I") ∈ qG := qG_t (gt_2 (List.mem_of_getElem? (i := 27) rfl)) rfl
theorem gw_321 : (Jvm.Cond.fieldLink "FarDishes$World" (50 : Nat) "FarDishes$World" "craftCount" "I") ∈ qG := qG_t (gt_2 (List.mem_of_getElem? (i := 30) rfl)) rfl
theorem gw_322 : (Jvm.Cond.fieldLink "FarDishes$World" (53 : Nat) "FarDishes$World" "askingCount" "I") ∈ qG := qG_t (gt_2 (List.mem_of_getElem? (i := 32) rfl)) rfl
theorem gw_323 : (Jvm.Cond.methodLink "FarDishes$World" (56 : Nat) ({ cls := "java/lang/System", name := "arraycopy", desc := "(Ljava/lang/Object;ILjava/lang/Object;II)V" } : Jvm.MethodName)) ∈ qG := qG_t (gt_5 (List.mem_of_getElem? (i := 59) rfl)) rfl
theorem gw_324 : (Jvm.Cond.code ({ cls := "FarDishes$Dish", name := "become", desc := "(LFarDishes$Dish;)V" } : Jvm.MethodName) prog_5_method_3_code (2 : Nat) (Option.none : Option Jvm.ClassFile.FieldType)) ∈ qG := qG_t (gt_5 (List.mem_of_getElem? (i := 63) rfl)) rfl
theorem gw_325 : (Jvm.Cond.methodLink "FarDishes$World" (62 : Nat) ({ cls := "FarDishes$Dish", name := "become", desc := "(LFarDishes$Dish;)V" } : Jvm.MethodName)) ∈ qG := qG_t (gt_5 (List.mem_of_getElem? (i := 60) rfl)) rfl
theorem gw_326 : (Jvm.Cond.instanceMethod ({ cls := "FarDishes$Dish", name := "become", desc := "(LFarDishes$Dish;)V" } : Jvm.MethodName)) ∈ qG := qG_t (gt_5 (List.mem_of_getElem? (i := 61) rfl)) rfl
theorem gw_327 : (Jvm.Cond.selects "FarDishes$Dish" ({ cls := "FarDishes$Dish", name := "become", desc := "(LFarDishes$Dish;)V" } : Jvm.MethodName) ({ cls := "FarDishes$Dish", name := "become", desc := "(LFarDishes$Dish;)V" } : Jvm.MethodName)) ∈ qG := qG_t (gt_5 (List.mem_of_getElem? (i := 62) rfl)) rfl
theorem gw_328 : (Jvm.Cond.code ({ cls := "FarDishes$Craft", name := "become", desc := "(LFarDishes$Craft;)V" } : Jvm.MethodName) prog_4_method_3_code (2 : Nat) (Option.none : Option Jvm.ClassFile.FieldType)) ∈ qG := qG_t (gt_5 (List.mem_of_getElem? (i := 67) rfl)) rfl
theorem gw_329 : (Jvm.Cond.methodLink "FarDishes$World" (66 : Nat) ({ cls := "FarDishes$Craft", name := "become", desc := "(LFarDishes$Craft;)V" } : Jvm.MethodName)) ∈ qG := qG_t (gt_5 (List.mem_of_getElem? (i := 64) rfl)) rfl
theorem gw_330 : (Jvm.Cond.instanceMethod ({ cls := "FarDishes$Craft", name := "become", desc := "(LFarDishes$Craft;)V" } : Jvm.MethodName)) ∈ qG := qG_t (gt_5 (List.mem_of_getElem? (i := 65) rfl)) rfl
theorem gw_331 : (Jvm.Cond.selects "FarDishes$Craft" ({ cls := "FarDishes$Craft", name := "become", desc := "(LFarDishes$Craft;)V" } : Jvm.MethodName) ({ cls := "FarDishes$Craft", name := "become", desc := "(LFarDishes$Craft;)V" } : Jvm.MethodName)) ∈ qG := qG_t (gt_5 (List.mem_of_getElem? (i := 66) rfl)) rfl
theorem gw_332 : (Jvm.Cond.code ({ cls := "FarDishes$Asking", name := "become", desc := "(LFarDishes$Asking;)V" } : Jvm.MethodName) prog_2_method_3_code (2 : Nat) (Option.none : Option Jvm.ClassFile.FieldType)) ∈ qG := qG_t (gt_5 (List.mem_of_getElem? (i := 86) rfl)) rfl
theorem gw_333 : (Jvm.Cond.methodLink "FarDishes$World" (69 : Nat) ({ cls := "FarDishes$Asking", name := "become", desc := "(LFarDishes$Asking;)V" } : Jvm.MethodName)) ∈ qG := qG_t (gt_5 (List.mem_of_getElem? (i := 83) rfl)) rfl
theorem gw_334 : (Jvm.Cond.instanceMethod ({ cls := "FarDishes$Asking", name := "become", desc := "(LFarDishes$Asking;)V" } : Jvm.MethodName)) ∈ qG := qG_t (gt_5 (List.mem_of_getElem? (i := 84) rfl)) rfl
theorem gw_335 : (Jvm.Cond.selects "FarDishes$Asking" ({ cls := "FarDishes$Asking", name := "become", desc := "(LFarDishes$Asking;)V" } : Jvm.MethodName) ({ cls := "FarDishes$Asking", name := "become", desc := "(LFarDishes$Asking;)V" } : Jvm.MethodName)) ∈ qG := qG_t (gt_5 (List.mem_of_getElem? (i := 85) rfl)) rfl
theorem gw_336 : (Jvm.Cond.code ({ cls := "FarDishes$Search", name := "become", desc := "(LFarDishes$Search;)V" } : Jvm.MethodName) prog_8_method_2_code (2 : Nat) (Option.none : Option Jvm.ClassFile.FieldType)) ∈ qG := qG_t (gt_5 (List.mem_of_getElem? (i := 90) rfl)) rfl
theorem gw_337 : (Jvm.Cond.methodLink "FarDishes$World" (72 : Nat) ({ cls := "FarDishes$Search", name := "become", desc := "(LFarDishes$Search;)V" } : Jvm.MethodName)) ∈ qG := qG_t (gt_5 (List.mem_of_getElem? (i := 87) rfl)) rfl
theorem gw_338 : (Jvm.Cond.instanceMethod ({ cls := "FarDishes$Search", name := "become", desc := "(LFarDishes$Search;)V" } : Jvm.MethodName)) ∈ qG := qG_t (gt_5 (List.mem_of_getElem? (i := 88) rfl)) rfl
theorem gw_339 : (Jvm.Cond.selects "FarDishes$Search" ({ cls := "FarDishes$Search", name := "become", desc := "(LFarDishes$Search;)V" } : Jvm.MethodName) ({ cls := "FarDishes$Search", name := "become", desc := "(LFarDishes$Search;)V" } : Jvm.MethodName)) ∈ qG := qG_t (gt_5 (List.mem_of_getElem? (i := 89) rfl)) rfl
theorem gw_340 : (Jvm.Cond.code ({ cls := "FarDishes$Dish", name := "begin", desc := "(III)V" } : Jvm.MethodName) prog_5_method_2_code (4 : Nat) (Option.none : Option Jvm.ClassFile.FieldType)) ∈ qG := qG_t (gt_2 (List.mem_of_getElem? (i := 220) rfl)) rfl
theorem gw_341 : (Jvm.Cond.methodLink "FarDishes$World" (75 : Nat) ({ cls := "FarDishes$Dish", name := "begin", desc := "(III)V" } : Jvm.MethodName)) ∈ qG := qG_t (gt_2 (List.mem_of_getElem? (i := 217) rfl)) rfl
theorem gw_342 : (Jvm.Cond.instanceMethod ({ cls := "FarDishes$Dish", name := "begin", desc := "(III)V" } : Jvm.MethodName)) ∈ qG := qG_t (gt_2 (List.mem_of_getElem? (i := 218) rfl)) rfl
theorem gw_343 : (Jvm.Cond.selects "FarDishes$Dish" ({ cls := "FarDishes$Dish", name := "begin", desc := "(III)V" } : Jvm.MethodName) ({ cls := "FarDishes$Dish", name := "begin", desc := "(III)V" } : Jvm.MethodName)) ∈ qG := qG_t (gt_2 (List.mem_of_getElem? (i := 219) rfl)) rfl
theorem gw_344 : (Jvm.Cond.code ({ cls := "FarDishes$Craft", name := "begin", desc := "(IIII)V" } : Jvm.MethodName) prog_4_method_2_code (6 : Nat) (Option.none : Option Jvm.ClassFile.FieldType)) ∈ qG := qG_t (gt_3 (List.mem_of_getElem? (i := 8) rfl)) rfl
theorem gw_345 : (Jvm.Cond.methodLink "FarDishes$World" (79 : Nat) ({ cls := "FarDishes$Craft", name := "begin", desc := "(IIII)V" } : Jvm.MethodName)) ∈ qG := qG_t (gt_3 (List.mem_of_getElem? (i := 5) rfl)) rfl
theorem gw_346 : (Jvm.Cond.instanceMethod ({ cls := "FarDishes$Craft", name := "begin", desc := "(IIII)V" } : Jvm.MethodName)) ∈ qG := qG_t (gt_3 (List.mem_of_getElem? (i := 6) rfl)) rfl
theorem gw_347 : (Jvm.Cond.selects "FarDishes$Craft" ({ cls := "FarDishes$Craft", name := "begin", desc := "(IIII)V" } : Jvm.MethodName) ({ cls := "FarDishes$Craft", name := "begin", desc := "(IIII)V" } : Jvm.MethodName)) ∈ qG := qG_t (gt_3 (List.mem_of_getElem? (i := 7) rfl)) rfl
theorem gw_348 : (Jvm.Cond.code ({ cls := "FarDishes$Asking", name := "begin", desc := "([I)V" } : Jvm.MethodName) prog_2_method_2_code (2 : Nat) (Option.none : Option Jvm.ClassFile.FieldType)) ∈ qG := qG_t (gt_3 (List.mem_of_getElem? (i := 193) rfl)) rfl
theorem gw_349 : (Jvm.Cond.methodLink "FarDishes$World" (82 : Nat) ({ cls := "FarDishes$Asking", name := "begin", desc := "([I)V" } : Jvm.MethodName)) ∈ qG := qG_t (gt_3 (List.mem_of_getElem? (i := 190) rfl)) rfl
theorem gw_350 : (Jvm.Cond.instanceMethod ({ cls := "FarDishes$Asking", name := "begin", desc := "([I)V" } : Jvm.MethodName)) ∈ qG := qG_t (gt_3 (List.mem_of_getElem? (i := 191) rfl)) rfl
theorem gw_351 : (Jvm.Cond.selects "FarDishes$Asking" ({ cls := "FarDishes$Asking", name := "begin", desc := "([I)V" } : Jvm.MethodName) ({ cls := "FarDishes$Asking", name := "begin", desc := "([I)V" } : Jvm.MethodName)) ∈ qG := qG_t (gt_3 (List.mem_of_getElem? (i := 192) rfl)) rfl
theorem gw_352 : (Jvm.Cond.fieldLink "FarDishes$World" (85 : Nat) "FarDishes$Dish" "broken" "Z") ∈ qG := qG_t (gt_1 (List.mem_of_getElem? (i := 71) rfl)) rfl
theorem gw_353 : (Jvm.Cond.fieldLink "FarDishes$World" (89 : Nat) "FarDishes$Dish" "place" "I") ∈ qG := qG_t (gt_1 (List.mem_of_getElem? (i := 61) rfl)) rfl
theorem gw_354 : (Jvm.Cond.fieldLink "FarDishes$World" (92 : Nat) "FarDishes$Craft" "loud" "I") ∈ qG := qG_t (gt_1 (List.mem_of_getElem? (i := 176) rfl)) rfl
theorem gw_355 : (Jvm.Cond.fieldLink "FarDishes$World" (95 : Nat) "FarDishes$Dish" "size" "I") ∈ qG := qG_t (gt_1 (List.mem_of_getElem? (i := 65) rfl)) rfl
theorem gw_356 : (Jvm.Cond.methodLink "FarDishes$World" (98 : Nat) ({ cls := "java/lang/Math", name := "max", desc := "(II)I" } : Jvm.MethodName)) ∈ qG := qG_t (gt_3 (List.mem_of_getElem? (i := 66) rfl)) rfl
theorem gw_357 : (Jvm.Cond.fieldLink "FarDishes$World" (104 : Nat) "FarDishes$Asking" "craft" "I") ∈ qG := qG_t (gt_1 (List.mem_of_getElem? (i := 219) rfl)) rfl
theorem gw_358 : (Jvm.Cond.fieldLink "FarDishes$World" (107 : Nat) "FarDishes$Craft" "far" "I") ∈ qG := qG_t (gt_1 (List.mem_of_getElem? (i := 180) rfl)) rfl
theorem gw_359 : (Jvm.Cond.code ({ cls := "FarDishes$Asking", name := "weightWith", desc := "(II)I" } : Jvm.MethodName) prog_2_method_8_code (5 : Nat) (Option.some Jvm.ClassFile.FieldType.int)) ∈ qG := qG_t (gt_3 (List.mem_of_getElem? (i := 214) rfl)) rfl
theorem gw_360 : (Jvm.Cond.methodLink "FarDishes$World" (110 : Nat) ({ cls := "FarDishes$Asking", name := "weightWith", desc := "(II)I" } : Jvm.MethodName)) ∈ qG := qG_t (gt_3 (List.mem_of_getElem? (i := 211) rfl)) rfl
theorem gw_361 : (Jvm.Cond.instanceMethod ({ cls := "FarDishes$Asking", name := "weightWith", desc := "(II)I" } : Jvm.MethodName)) ∈ qG := qG_t (gt_3 (List.mem_of_getElem? (i := 212) rfl)) rfl
theorem gw_362 : (Jvm.Cond.selects "FarDishes$Asking" ({ cls := "FarDishes$Asking", name := "weightWith", desc := "(II)I" } : Jvm.MethodName) ({ cls := "FarDishes$Asking", name := "weightWith", desc := "(II)I" } : Jvm.MethodName)) ∈ qG := qG_t (gt_3 (List.mem_of_getElem? (i := 213) rfl)) rfl
theorem gw_363 : (Jvm.Cond.fieldLink "FarDishes$World" (113 : Nat) "FarDishes$Asking" "state" "I") ∈ qG := qG_t (gt_1 (List.mem_of_getElem? (i := 236) rfl)) rfl
theorem gw_364 : (Jvm.Cond.fieldLink "FarDishes$World" (116 : Nat) "FarDishes$Asking" "dish" "I") ∈ qG := qG_t (gt_1 (List.mem_of_getElem? (i := 239) rfl)) rfl
theorem gw_365 : (Jvm.Cond.code ({ cls := "FarDishes$World", name := "startAskings", desc := "()V" } : Jvm.MethodName) prog_12_method_11_code (2 : Nat) (Option.none : Option Jvm.ClassFile.FieldType)) ∈ qG := qG_t (gt_4 (List.mem_of_getElem? (i := 137) rfl)) rfl
theorem gw_366 : (Jvm.Cond.methodLink "FarDishes$World" (119 : Nat) ({ cls := "FarDishes$World", name := "startAskings", desc := "()V" } : Jvm.MethodName)) ∈ qG := qG_t (gt_4 (List.mem_of_getElem? (i := 134) rfl)) rfl
theorem gw_367 : (Jvm.Cond.instanceMethod ({ cls := "FarDishes$World", name := "startAskings", desc := "()V" } : Jvm.MethodName)) ∈ qG := qG_t (gt_4 (List.mem_of_getElem? (i := 136) rfl)) rfl
theorem gw_368 : Cond.selects (⟨"FarDishes$World", "startAskings", "()V"⟩ : MethodName).cls (⟨"FarDishes$World", "startAskings", "()V"⟩ : MethodName) (⟨"FarDishes$World", "startAskings", "()V"⟩ : MethodName) ∈ qG := qG_s (List.mem_map.mpr ⟨((⟨"FarDishes$World", "startAskings", "()V"⟩ : MethodName), 9), List.mem_of_getElem? (i := 25) rfl, rfl⟩) rfl
theorem gw_369 : (Jvm.Cond.code ({ cls := "FarDishes$World", name := "serve", desc := "(I)I" } : Jvm.MethodName) prog_12_method_12_code (5 : Nat) (Option.some Jvm.ClassFile.FieldType.int)) ∈ qG := qG_t (gt_4 (List.mem_of_getElem? (i := 141) rfl)) rfl
theorem gw_370 : (Jvm.Cond.methodLink "FarDishes$World" (122 : Nat) ({ cls := "FarDishes$World", name := "serve", desc := "(I)I" } : Jvm.MethodName)) ∈ qG := qG_t (gt_4 (List.mem_of_getElem? (i := 138) rfl)) rfl
theorem gw_371 : (Jvm.Cond.instanceMethod ({ cls := "FarDishes$World", name := "serve", desc := "(I)I" } : Jvm.MethodName)) ∈ qG := qG_t (gt_4 (List.mem_of_getElem? (i := 140) rfl)) rfl
theorem gw_372 : Cond.selects (⟨"FarDishes$World", "serve", "(I)I"⟩ : MethodName).cls (⟨"FarDishes$World", "serve", "(I)I"⟩ : MethodName) (⟨"FarDishes$World", "serve", "(I)I"⟩ : MethodName) ∈ qG := qG_s (List.mem_map.mpr ⟨((⟨"FarDishes$World", "serve", "(I)I"⟩ : MethodName), 9), List.mem_of_getElem? (i := 26) rfl, rfl⟩) rfl
theorem gw_373 : (Jvm.Cond.code ({ cls := "FarDishes$World", name := "finishAskings", desc := "()V" } : Jvm.MethodName) prog_12_method_13_code (2 : Nat) (Option.none : Option Jvm.ClassFile.FieldType)) ∈ qG := qG_t (gt_4 (List.mem_of_getElem? (i := 158) rfl)) rfl
theorem gw_374 : (Jvm.Cond.methodLink "FarDishes$World" (126 : Nat) ({ cls := "FarDishes$World", name := "finishAskings", desc := "()V" } : Jvm.MethodName)) ∈ qG := qG_t (gt_4 (List.mem_of_getElem? (i := 155) rfl)) rfl
theorem gw_375 : (Jvm.Cond.instanceMethod ({ cls := "FarDishes$World", name := "finishAskings", desc := "()V" } : Jvm.MethodName)) ∈ qG := qG_t (gt_4 (List.mem_of_getElem? (i := 157) rfl)) rfl
theorem gw_376 : Cond.selects (⟨"FarDishes$World", "finishAskings", "()V"⟩ : MethodName).cls (⟨"FarDishes$World", "finishAskings", "()V"⟩ : MethodName) (⟨"FarDishes$World", "finishAskings", "()V"⟩ : MethodName) ∈ qG := qG_s (List.mem_map.mpr ⟨((⟨"FarDishes$World", "finishAskings", "()V"⟩ : MethodName), 9), List.mem_of_getElem? (i := 27) rfl, rfl⟩) rfl
theorem gw_377 : (Jvm.Cond.fieldLink "FarDishes$World" (129 : Nat) "FarDishes$Craft" "orders" "LFarDishes$Orders;") ∈ qG := qG_t (gt_1 (List.mem_of_getElem? (i := 191) rfl)) rfl
theorem gw_378 : (Jvm.Cond.code ({ cls := "FarDishes$Orders", name := "settle", desc := "(II)V" } : Jvm.MethodName) prog_6_method_6_code (6 : Nat) (Option.none : Option Jvm.ClassFile.FieldType)) ∈ qG := qG_t (gt_4 (List.mem_of_getElem? (i := 163) rfl)) rfl
theorem gw_379 : (Jvm.Cond.methodLink "FarDishes$World" (133 : Nat) ({ cls := "FarDishes$Orders", name := "settle", desc := "(II)V" } : Jvm.MethodName)) ∈ qG := qG_t (gt_4 (List.mem_of_getElem? (i := 160) rfl)) rfl
theorem gw_380 : (Jvm.Cond.instanceMethod ({ cls := "FarDishes$Orders", name := "settle", desc := "(II)V" } : Jvm.MethodName)) ∈ qG := qG_t (gt_4 (List.mem_of_getElem? (i := 161) rfl)) rfl
theorem gw_381 : (Jvm.Cond.selects "FarDishes$Orders" ({ cls := "FarDishes$Orders", name := "settle", desc := "(II)V" } : Jvm.MethodName) ({ cls := "FarDishes$Orders", name := "settle", desc := "(II)V" } : Jvm.MethodName)) ∈ qG := qG_t (gt_4 (List.mem_of_getElem? (i := 162) rfl)) rfl
theorem gw_382 : (Jvm.Cond.code ({ cls := "FarDishes$World", name := "makeBlocks", desc := "()V" } : Jvm.MethodName) prog_12_method_14_code (3 : Nat) (Option.none : Option Jvm.ClassFile.FieldType)) ∈ qG := qG_t (gt_4 (List.mem_of_getElem? (i := 167) rfl)) rfl
theorem gw_383 : (Jvm.Cond.methodLink "FarDishes$World" (139 : Nat) ({ cls := "FarDishes$World", name := "makeBlocks", desc := "()V" } : Jvm.MethodName)) ∈ qG := qG_t (gt_4 (List.mem_of_getElem? (i := 164) rfl)) rfl
theorem gw_384 : (Jvm.Cond.instanceMethod ({ cls := "FarDishes$World", name := "makeBlocks", desc := "()V" } : Jvm.MethodName)) ∈ qG := qG_t (gt_4 (List.mem_of_getElem? (i := 166) rfl)) rfl
theorem gw_385 : Cond.selects (⟨"FarDishes$World", "makeBlocks", "()V"⟩ : MethodName).cls (⟨"FarDishes$World", "makeBlocks", "()V"⟩ : MethodName) (⟨"FarDishes$World", "makeBlocks", "()V"⟩ : MethodName) ∈ qG := qG_s (List.mem_map.mpr ⟨((⟨"FarDishes$World", "makeBlocks", "()V"⟩ : MethodName), 9), List.mem_of_getElem? (i := 28) rfl, rfl⟩) rfl
theorem gw_386 : (Jvm.Cond.fieldLink "FarDishes$World" (142 : Nat) "FarDishes$Asking" "start" "I") ∈ qG := qG_t (gt_2 (List.mem_of_getElem? (i := 3) rfl)) rfl
theorem gw_387 : (Jvm.Cond.code ({ cls := "FarDishes$World", name := "runningOn", desc := "(I)I" } : Jvm.MethodName) prog_12_method_9_code (3 : Nat) (Option.some Jvm.ClassFile.FieldType.int)) ∈ qG := qG_t (gt_2 (List.mem_of_getElem? (i := 236) rfl)) rfl
theorem gw_388 : (Jvm.Cond.methodLink "FarDishes$World" (145 : Nat) ({ cls := "FarDishes$World", name := "runningOn", desc := "(I)I" } : Jvm.MethodName)) ∈ qG := qG_t (gt_4 (List.mem_of_getElem? (i := 142) rfl)) rfl
theorem gw_389 : (Jvm.Cond.instanceMethod ({ cls := "FarDishes$World", name := "runningOn", desc := "(I)I" } : Jvm.MethodName)) ∈ qG := qG_t (gt_2 (List.mem_of_getElem? (i := 234) rfl)) rfl
theorem gw_390 : (Jvm.Cond.selects "FarDishes$World" ({ cls := "FarDishes$World", name := "runningOn", desc := "(I)I" } : Jvm.MethodName) ({ cls := "FarDishes$World", name := "runningOn", desc := "(I)I" } : Jvm.MethodName)) ∈ qG := qG_t (gt_2 (List.mem_of_getElem? (i := 235) rfl)) rfl
theorem gw_391 : (Jvm.Cond.code ({ cls := "FarDishes$Asking", name := "isOf", desc := "(I)Z" } : Jvm.MethodName) prog_2_method_7_code (4 : Nat) (Option.some Jvm.ClassFile.FieldType.boolean)) ∈ qG := qG_t (gt_3 (List.mem_of_getElem? (i := 222) rfl)) rfl
theorem gw_392 : (Jvm.Cond.methodLink "FarDishes$World" (148 : Nat) ({ cls := "FarDishes$Asking", name := "isOf", desc := "(I)Z" } : Jvm.MethodName)) ∈ qG := qG_t (gt_4 (List.mem_of_getElem? (i := 143) rfl)) rfl
theorem gw_393 : (Jvm.Cond.instanceMethod ({ cls := "FarDishes$Asking", name := "isOf", desc := "(I)Z" } : Jvm.MethodName)) ∈ qG := qG_t (gt_3 (List.mem_of_getElem? (i := 220) rfl)) rfl
theorem gw_394 : (Jvm.Cond.selects "FarDishes$Asking" ({ cls := "FarDishes$Asking", name := "isOf", desc := "(I)Z" } : Jvm.MethodName) ({ cls := "FarDishes$Asking", name := "isOf", desc := "(I)Z" } : Jvm.MethodName)) ∈ qG := qG_t (gt_3 (List.mem_of_getElem? (i := 221) rfl)) rfl
theorem gw_395 : (Jvm.Cond.code ({ cls := "FarDishes$Orders", name := "goOut", desc := "(I)V" } : Jvm.MethodName) prog_6_method_5_code (3 : Nat) (Option.none : Option Jvm.ClassFile.FieldType)) ∈ qG := qG_t (gt_4 (List.mem_of_getElem? (i := 147) rfl)) rfl
theorem gw_396 : (Jvm.Cond.methodLink "FarDishes$World" (152 : Nat) ({ cls := "FarDishes$Orders", name := "goOut", desc := "(I)V" } : Jvm.MethodName)) ∈ qG := qG_t (gt_4 (List.mem_of_getElem? (i := 144) rfl)) rfl
theorem gw_397 : (Jvm.Cond.instanceMethod ({ cls := "FarDishes$Orders", name := "goOut", desc := "(I)V" } : Jvm.MethodName)) ∈ qG := qG_t (gt_4 (List.mem_of_getElem? (i := 145) rfl)) rfl
theorem gw_398 : (Jvm.Cond.selects "FarDishes$Orders" ({ cls := "FarDishes$Orders", name := "goOut", desc := "(I)V" } : Jvm.MethodName) ({ cls := "FarDishes$Orders", name := "goOut", desc := "(I)V" } : Jvm.MethodName)) ∈ qG := qG_t (gt_4 (List.mem_of_getElem? (i := 146) rfl)) rfl
theorem gw_399 : (Jvm.Cond.fieldLink "FarDishes$World" (156 : Nat) "FarDishes$Craft" "blocks" "LFarDishes$Blocks;") ∈ qG := qG_t (gt_1 (List.mem_of_getElem? (i := 188) rfl)) rfl
theorem gw_400 : (Jvm.Cond.code ({ cls := "FarDishes$World", name := "linkAt", desc := "(LFarDishes$Craft;LFarDishes$Dish;I)I" } : Jvm.MethodName) prog_12_method_7_code (5 : Nat) (Option.some Jvm.ClassFile.FieldType.int)) ∈ qG := qG_t (gt_3 (List.mem_of_getElem? (i := 65) rfl)) rfl
theorem gw_401 : (Jvm.Cond.methodLink "FarDishes$World" (160 : Nat) ({ cls := "FarDishes$World", name := "linkAt", desc := "(LFarDishes$Craft;LFarDishes$Dish;I)I" } : Jvm.MethodName)) ∈ qG := qG_t (gt_4 (List.mem_of_getElem? (i := 148) rfl)) rfl
theorem gw_402 : (Jvm.Cond.instanceMethod ({ cls := "FarDishes$World", name := "linkAt", desc := "(LFarDishes$Craft;LFarDishes$Dish;I)I" } : Jvm.MethodName)) ∈ qG := qG_t (gt_3 (List.mem_of_getElem? (i := 63) rfl)) rfl
theorem gw_403 : (Jvm.Cond.selects "FarDishes$World" ({ cls := "FarDishes$World", name := "linkAt", desc := "(LFarDishes$Craft;LFarDishes$Dish;I)I" } : Jvm.MethodName) ({ cls := "FarDishes$World", name := "linkAt", desc := "(LFarDishes$Craft;LFarDishes$Dish;I)I" } : Jvm.MethodName)) ∈ qG := qG_t (gt_3 (List.mem_of_getElem? (i := 64) rfl)) rfl
theorem gw_404 : (Jvm.Cond.code ({ cls := "FarDishes$Blocks", name := "sendSome", desc := "(III)I" } : Jvm.MethodName) prog_3_method_9_code (8 : Nat) (Option.some Jvm.ClassFile.FieldType.int)) ∈ qG := qG_t (gt_4 (List.mem_of_getElem? (i := 152) rfl)) rfl
theorem gw_405 : (Jvm.Cond.methodLink "FarDishes$World" (164 : Nat) ({ cls := "FarDishes$Blocks", name := "sendSome", desc := "(III)I" } : Jvm.MethodName)) ∈ qG := qG_t (gt_4 (List.mem_of_getElem? (i := 149) rfl)) rfl
theorem gw_406 : (Jvm.Cond.instanceMethod ({ cls := "FarDishes$Blocks", name := "sendSome", desc := "(III)I" } : Jvm.MethodName)) ∈ qG := qG_t (gt_4 (List.mem_of_getElem? (i := 150) rfl)) rfl
theorem gw_407 : (Jvm.Cond.selects "FarDishes$Blocks" ({ cls := "FarDishes$Blocks", name := "sendSome", desc := "(III)I" } : Jvm.MethodName) ({ cls := "FarDishes$Blocks", name := "sendSome", desc := "(III)I" } : Jvm.MethodName)) ∈ qG := qG_t (gt_4 (List.mem_of_getElem? (i := 151) rfl)) rfl
theorem gw_408 : (Jvm.Cond.methodLink "FarDishes$World" (170 : Nat) ({ cls := "FarDishes$Asking", name := "end", desc := "()I" } : Jvm.MethodName)) ∈ qG := qG_t (gt_4 (List.mem_of_getElem? (i := 159) rfl)) rfl
theorem gw_409 : (Jvm.Cond.fieldLink "FarDishes$World" (174 : Nat) "FarDishes$Craft" "rate" "I") ∈ qG := qG_t (gt_1 (List.mem_of_getElem? (i := 183) rfl)) rfl
theorem gw_410 : (Jvm.Cond.code ({ cls := "FarDishes$Blocks", name := "makeOne", desc := "()V" } : Jvm.MethodName) prog_3_method_5_code (1 : Nat) (Option.none : Option Jvm.ClassFile.FieldType)) ∈ qG := qG_t (gt_4 (List.mem_of_getElem? (i := 171) rfl)) rfl
theorem gw_411 : (Jvm.Cond.methodLink "FarDishes$World" (177 : Nat) ({ cls := "FarDishes$Blocks", name := "makeOne", desc := "()V" } : Jvm.MethodName)) ∈ qG := qG_t (gt_4 (List.mem_of_getElem? (i := 168) rfl)) rfl
theorem gw_412 : (Jvm.Cond.instanceMethod ({ cls := "FarDishes$Blocks", name := "makeOne", desc := "()V" } : Jvm.MethodName)) ∈ qG := qG_t (gt_4 (List.mem_of_getElem? (i := 169) rfl)) rfl
theorem gw_413 : (Jvm.Cond.selects "FarDishes$Blocks" ({ cls := "FarDishes$Blocks", name := "makeOne", desc := "()V" } : Jvm.MethodName) ({ cls := "FarDishes$Blocks", name := "makeOne", desc := "()V" } : Jvm.MethodName)) ∈ qG := qG_t (gt_4 (List.mem_of_getElem? (i := 170) rfl)) rfl
theorem gw_414 : (Jvm.Cond.fieldLink "FarDishes$World" (180 : Nat) "FarDishes$Blocks" "size" "I") ∈ qG := qG_t (gt_1 (List.mem_of_getElem? (i := 97) rfl)) rfl
theorem gw_415 : (Jvm.Cond.methodLink "FarDishes" (1 : Nat) ({ cls := "java/lang/Object", name := "<init>", desc := "()V" } : Jvm.MethodName)) ∈ qG := qG_t (gt_1 (List.mem_of_getElem? (i := 25) rfl)) rfl
theorem gw_416 : (Jvm.Cond.classLink "FarDishes" (7 : Nat) "FarDishes$World") ∈ qG := qG_t (gt_1 (List.mem_of_getElem? (i := 28) rfl)) rfl
theorem gw_417 : (Jvm.Cond.instantiable "FarDishes$World" (9 : Nat)) ∈ qG := qG_t (gt_1 (List.mem_of_getElem? (i := 29) rfl)) rfl
theorem gw_418 : (Jvm.Cond.code ({ cls := "FarDishes$World", name := "<init>", desc := "()V" } : Jvm.MethodName) prog_12_method_1_code (2 : Nat) (Option.none : Option Jvm.ClassFile.FieldType)) ∈ qG := qG_t (gt_1 (List.mem_of_getElem? (i := 32) rfl)) rfl
theorem gw_419 : (Jvm.Cond.methodLink "FarDishes" (9 : Nat) ({ cls := "FarDishes$World", name := "<init>", desc := "()V" } : Jvm.MethodName)) ∈ qG := qG_t (gt_1 (List.mem_of_getElem? (i := 30) rfl)) rfl
theorem gw_420 : (Jvm.Cond.instanceMethod ({ cls := "FarDishes$World", name := "<init>", desc := "()V" } : Jvm.MethodName)) ∈ qG := qG_t (gt_1 (List.mem_of_getElem? (i := 31) rfl)) rfl
theorem gw_421 : (Jvm.Cond.fieldLink "FarDishes" (10 : Nat) "FarDishes" "now" "LFarDishes$World;") ∈ qG := qG_t (gt_2 (List.mem_of_getElem? (i := 167) rfl)) rfl
theorem gw_422 : (Jvm.Cond.fieldLink "FarDishes" (16 : Nat) "FarDishes" "kept" "LFarDishes$World;") ∈ qG := qG_t (gt_2 (List.mem_of_getElem? (i := 168) rfl)) rfl
theorem gw_423 : (Jvm.Cond.fieldLink "FarDishes" (19 : Nat) "FarDishes" "trial" "LFarDishes$World;") ∈ qG := qG_t (gt_2 (List.mem_of_getElem? (i := 169) rfl)) rfl
theorem gw_424 : (Jvm.Cond.classLink "FarDishes" (22 : Nat) "FarDishes$Planner") ∈ qG := qG_t (gt_2 (List.mem_of_getElem? (i := 66) rfl)) rfl
theorem gw_425 : (Jvm.Cond.instantiable "FarDishes$Planner" (12 : Nat)) ∈ qG := qG_t (gt_2 (List.mem_of_getElem? (i := 67) rfl)) rfl
theorem gw_426 : (Jvm.Cond.code ({ cls := "FarDishes$Planner", name := "<init>", desc := "()V" } : Jvm.MethodName) prog_7_method_1_code (1 : Nat) (Option.none : Option Jvm.ClassFile.FieldType)) ∈ qG := qG_t (gt_2 (List.mem_of_getElem? (i := 70) rfl)) rfl
theorem gw_427 : (Jvm.Cond.instanceMethod ({ cls := "FarDishes$Planner", name := "<init>", desc := "()V" } : Jvm.MethodName)) ∈ qG := qG_t (gt_2 (List.mem_of_getElem? (i := 69) rfl)) rfl
theorem gw_428 : (Jvm.Cond.fieldLink "FarDishes" (25 : Nat) "FarDishes" "planner" "LFarDishes$Planner;") ∈ qG := qG_t (gt_2 (List.mem_of_getElem? (i := 170) rfl)) rfl
theorem gw_429 : (Jvm.Cond.classLink "FarDishes" (29 : Nat) "FarDishes$Text") ∈ qG := qG_t (gt_2 (List.mem_of_getElem? (i := 111) rfl)) rfl
theorem gw_430 : (Jvm.Cond.instantiable "FarDishes$Text" (8 : Nat)) ∈ qG := qG_t (gt_2 (List.mem_of_getElem? (i := 112) rfl)) rfl
theorem gw_431 : (Jvm.Cond.code ({ cls := "FarDishes$Text", name := "<init>", desc := "()V" } : Jvm.MethodName) prog_11_method_1_code (1 : Nat) (Option.none : Option Jvm.ClassFile.FieldType)) ∈ qG := qG_t (gt_2 (List.mem_of_getElem? (i := 115) rfl)) rfl
theorem gw_432 : (Jvm.Cond.instanceMethod ({ cls := "FarDishes$Text", name := "<init>", desc := "()V" } : Jvm.MethodName)) ∈ qG := qG_t (gt_2 (List.mem_of_getElem? (i := 114) rfl)) rfl
theorem gw_433 : (Jvm.Cond.fieldLink "FarDishes" (32 : Nat) "FarDishes" "text" "LFarDishes$Text;") ∈ qG := qG_t (gt_2 (List.mem_of_getElem? (i := 171) rfl)) rfl
theorem gw_434 : (Jvm.Cond.classLink "FarDishes" (36 : Nat) "FarDishes$Sheet") ∈ qG := qG_t (gt_2 (List.mem_of_getElem? (i := 147) rfl)) rfl
theorem gw_435 : (Jvm.Cond.fieldLink "FarDishes" (38 : Nat) "FarDishes" "sheets" "[LFarDishes$Sheet;") ∈ qG := qG_t (gt_2 (List.mem_of_getElem? (i := 172) rfl)) rfl
theorem gw_436 : (Jvm.Cond.instantiable "FarDishes$Sheet" (3 : Nat)) ∈ qG := qG_t (gt_2 (List.mem_of_getElem? (i := 149) rfl)) rfl
theorem gw_437 : (Jvm.Cond.initialized "FarDishes$Sheet") ∈ qG := qG_t (gt_1 (List.mem_of_getElem? (i := 12) rfl)) rfl
theorem gw_438 : (Jvm.Cond.code ({ cls := "FarDishes$Sheet", name := "<init>", desc := "()V" } : Jvm.MethodName) prog_9_method_1_code (1 : Nat) (Option.none : Option Jvm.ClassFile.FieldType)) ∈ qG := qG_t (gt_2 (List.mem_of_getElem? (i := 152) rfl)) rfl
theorem gw_439 : (Jvm.Cond.instanceMethod ({ cls := "FarDishes$Sheet", name := "<init>", desc := "()V" } : Jvm.MethodName)) ∈ qG := qG_t (gt_2 (List.mem_of_getElem? (i := 151) rfl)) rfl
theorem gw_440 : (Jvm.Cond.fieldLink "FarDishes" (43 : Nat) "FarDishes" "told" "[I") ∈ qG := qG_t (gt_2 (List.mem_of_getElem? (i := 173) rfl)) rfl
theorem gw_441 : (Jvm.Cond.fieldLink "FarDishes" (47 : Nat) "FarDishes" "hasImage" "Z") ∈ qG := qG_t (gt_2 (List.mem_of_getElem? (i := 174) rfl)) rfl
theorem gw_442 : (Jvm.Cond.code ({ cls := "FarDishes", name := "outside", desc := "(III)Z" } : Jvm.MethodName) prog_1_method_48_code (3 : Nat) (Option.some Jvm.ClassFile.FieldType.boolean)) ∈ qG := qG_t (gt_2 (List.mem_of_getElem? (i := 198) rfl)) rfl
theorem gw_443 : (Jvm.Cond.methodLink "FarDishes" (51 : Nat) ({ cls := "FarDishes", name := "outside", desc := "(III)Z" } : Jvm.MethodName)) ∈ qG := qG_t (gt_2 (List.mem_of_getElem? (i := 196) rfl)) rfl
theorem gw_444 : (Jvm.Cond.static ({ cls := "FarDishes", name := "outside", desc := "(III)Z" } : Jvm.MethodName)) ∈ qG := qG_t (gt_2 (List.mem_of_getElem? (i := 197) rfl)) rfl
theorem gw_445 : (Jvm.Cond.initialized "FarDishes") ∈ qG := qG_t (gt_1 (List.mem_of_getElem? (i := 1) rfl)) rfl
theorem gw_446 : (Jvm.Cond.constant "FarDishes" (55 : Nat) (-1000001 : Int32)) ∈ qG := qG_t (gt_2 (List.mem_of_getElem? (i := 199) rfl)) rfl
theorem gw_447 : (Jvm.Cond.code ({ cls := "FarDishes", name := "finding", desc := "(I)I" } : Jvm.MethodName) prog_1_method_54_code (3 : Nat) (Option.some Jvm.ClassFile.FieldType.int)) ∈ qG := qG_t (gt_2 (List.mem_of_getElem? (i := 203) rfl)) rfl
theorem gw_448 : (Jvm.Cond.methodLink "FarDishes" (56 : Nat) ({ cls := "FarDishes", name := "finding", desc := "(I)I" } : Jvm.MethodName)) ∈ qG := qG_t (gt_2 (List.mem_of_getElem? (i := 200) rfl)) rfl
theorem gw_449 : (Jvm.Cond.instanceMethod ({ cls := "FarDishes", name := "finding", desc := "(I)I" } : Jvm.MethodName)) ∈ qG := qG_t (gt_2 (List.mem_of_getElem? (i := 202) rfl)) rfl
theorem gw_450 : Cond.selects (⟨"FarDishes", "finding", "(I)I"⟩ : MethodName).cls (⟨"FarDishes", "finding", "(I)I"⟩ : MethodName) (⟨"FarDishes", "finding", "(I)I"⟩ : MethodName) ∈ qG := qG_s (List.mem_map.mpr ⟨((⟨"FarDishes", "finding", "(I)I"⟩ : MethodName), 8), List.mem_of_getElem? (i := 0) rfl, rfl⟩) rfl
theorem gw_451 : (Jvm.Cond.code ({ cls := "FarDishes$World", name := "setRain", desc := "(III)I" } : Jvm.MethodName) prog_12_method_3_code (6 : Nat) (Option.some Jvm.ClassFile.FieldType.int)) ∈ qG := qG_t (gt_2 (List.mem_of_getElem? (i := 207) rfl)) rfl
theorem gw_452 : (Jvm.Cond.methodLink "FarDishes" (60 : Nat) ({ cls := "FarDishes$World", name := "setRain", desc := "(III)I" } : Jvm.MethodName)) ∈ qG := qG_t (gt_2 (List.mem_of_getElem? (i := 204) rfl)) rfl
theorem gw_453 : (Jvm.Cond.instanceMethod ({ cls := "FarDishes$World", name := "setRain", desc := "(III)I" } : Jvm.MethodName)) ∈ qG := qG_t (gt_2 (List.mem_of_getElem? (i := 205) rfl)) rfl
theorem gw_454 : (Jvm.Cond.selects "FarDishes$World" ({ cls := "FarDishes$World", name := "setRain", desc := "(III)I" } : Jvm.MethodName) ({ cls := "FarDishes$World", name := "setRain", desc := "(III)I" } : Jvm.MethodName)) ∈ qG := qG_t (gt_2 (List.mem_of_getElem? (i := 206) rfl)) rfl
theorem gw_455 : (Jvm.Cond.fieldLink "FarDishes" (64 : Nat) "FarDishes$World" "dishCount" "I") ∈ qG := qG_t (gt_2 (List.mem_of_getElem? (i := 28) rfl)) rfl
theorem gw_456 : (Jvm.Cond.constant "FarDishes" (68 : Nat) (-1000002 : Int32)) ∈ qG := qG_t (gt_2 (List.mem_of_getElem? (i := 212) rfl)) rfl
theorem gw_457 : (Jvm.Cond.code ({ cls := "FarDishes$World", name := "addDish", desc := "(III)I" } : Jvm.MethodName) prog_12_method_4_code (4 : Nat) (Option.some Jvm.ClassFile.FieldType.int)) ∈ qG := qG_t (gt_2 (List.mem_of_getElem? (i := 216) rfl)) rfl
theorem gw_458 : (Jvm.Cond.methodLink "FarDishes" (69 : Nat) ({ cls := "FarDishes$World", name := "addDish", desc := "(III)I" } : Jvm.MethodName)) ∈ qG := qG_t (gt_2 (List.mem_of_getElem? (i := 213) rfl)) rfl
theorem gw_459 : (Jvm.Cond.instanceMethod ({ cls := "FarDishes$World", name := "addDish", desc := "(III)I" } : Jvm.MethodName)) ∈ qG := qG_t (gt_2 (List.mem_of_getElem? (i := 214) rfl)) rfl
theorem gw_460 : (Jvm.Cond.selects "FarDishes$World" ({ cls := "FarDishes$World", name := "addDish", desc := "(III)I" } : Jvm.MethodName) ({ cls := "FarDishes$World", name := "addDish", desc := "(III)I" } : Jvm.MethodName)) ∈ qG := qG_t (gt_2 (List.mem_of_getElem? (i := 215) rfl)) rfl
theorem gw_461 : (Jvm.Cond.code ({ cls := "FarDishes", name := "noDish", desc := "(I)Z" } : Jvm.MethodName) prog_1_method_49_code (2 : Nat) (Option.some Jvm.ClassFile.FieldType.boolean)) ∈ qG := qG_t (gt_2 (List.mem_of_getElem? (i := 228) rfl)) rfl
theorem gw_462 : (Jvm.Cond.methodLink "FarDishes" (72 : Nat) ({ cls := "FarDishes", name := "noDish", desc := "(I)Z" } : Jvm.MethodName)) ∈ qG := qG_t (gt_2 (List.mem_of_getElem? (i := 225) rfl)) rfl
theorem gw_463 : (Jvm.Cond.instanceMethod ({ cls := "FarDishes", name := "noDish", desc := "(I)Z" } : Jvm.MethodName)) ∈ qG := qG_t (gt_2 (List.mem_of_getElem? (i := 227) rfl)) rfl
theorem gw_464 : Cond.selects (⟨"FarDishes", "noDish", "(I)Z"⟩ : MethodName).cls (⟨"FarDishes", "noDish", "(I)Z"⟩ : MethodName) (⟨"FarDishes", "noDish", "(I)Z"⟩ : MethodName) ∈ qG := qG_s (List.mem_map.mpr ⟨((⟨"FarDishes", "noDish", "(I)Z"⟩ : MethodName), 8), List.mem_of_getElem? (i := 1) rfl, rfl⟩) rfl
theorem gw_465 : (Jvm.Cond.fieldLink "FarDishes" (76 : Nat) "FarDishes$World" "dishes" "[LFarDishes$Dish;") ∈ qG := qG_t (gt_2 (List.mem_of_getElem? (i := 37) rfl)) rfl
theorem gw_466 : (Jvm.Cond.fieldLink "FarDishes" (80 : Nat) "FarDishes$Dish" "broken" "Z") ∈ qG := qG_t (gt_1 (List.mem_of_getElem? (i := 70) rfl)) rfl
theorem gw_467 : (Jvm.Cond.fieldLink "FarDishes" (85 : Nat) "FarDishes$Dish" "place" "I") ∈ qG := qG_t (gt_1 (List.mem_of_getElem? (i := 60) rfl)) rfl
theorem gw_468 : (Jvm.Cond.fieldLink "FarDishes" (88 : Nat) "FarDishes$Dish" "size" "I") ∈ qG := qG_t (gt_1 (List.mem_of_getElem? (i := 64) rfl)) rfl
theorem gw_469 : (Jvm.Cond.fieldLink "FarDishes" (91 : Nat) "FarDishes$Dish" "turn" "I") ∈ qG := qG_t (gt_1 (List.mem_of_getElem? (i := 67) rfl)) rfl
theorem gw_470 : (Jvm.Cond.methodLink "FarDishes" (94 : Nat) ({ cls := "FarDishes$World", name := "runningOn", desc := "(I)I" } : Jvm.MethodName)) ∈ qG := qG_t (gt_2 (List.mem_of_getElem? (i := 233) rfl)) rfl
theorem gw_471 : (Jvm.Cond.fieldLink "FarDishes" (97 : Nat) "FarDishes$World" "craftCount" "I") ∈ qG := qG_t (gt_2 (List.mem_of_getElem? (i := 31) rfl)) rfl
theorem gw_472 : (Jvm.Cond.code ({ cls := "FarDishes$World", name := "addCraft", desc := "(IIII)I" } : Jvm.MethodName) prog_12_method_5_code (5 : Nat) (Option.some Jvm.ClassFile.FieldType.int)) ∈ qG := qG_t (gt_3 (List.mem_of_getElem? (i := 4) rfl)) rfl
theorem gw_473 : (Jvm.Cond.methodLink "FarDishes" (100 : Nat) ({ cls := "FarDishes$World", name := "addCraft", desc := "(IIII)I" } : Jvm.MethodName)) ∈ qG := qG_t (gt_3 (List.mem_of_getElem? (i := 1) rfl)) rfl
theorem gw_474 : (Jvm.Cond.instanceMethod ({ cls := "FarDishes$World", name := "addCraft", desc := "(IIII)I" } : Jvm.MethodName)) ∈ qG := qG_t (gt_3 (List.mem_of_getElem? (i := 2) rfl)) rfl
theorem gw_475 : (Jvm.Cond.selects "FarDishes$World" ({ cls := "FarDishes$World", name := "addCraft", desc := "(IIII)I" } : Jvm.MethodName) ({ cls := "FarDishes$World", name := "addCraft", desc := "(IIII)I" } : Jvm.MethodName)) ∈ qG := qG_t (gt_3 (List.mem_of_getElem? (i := 3) rfl)) rfl
theorem gw_476 : (Jvm.Cond.code ({ cls := "FarDishes", name := "noCraft", desc := "(I)Z" } : Jvm.MethodName) prog_1_method_50_code (2 : Nat) (Option.some Jvm.ClassFile.FieldType.boolean)) ∈ qG := qG_t (gt_3 (List.mem_of_getElem? (i := 24) rfl)) rfl
theorem gw_477 : (Jvm.Cond.methodLink "FarDishes" (104 : Nat) ({ cls := "FarDishes", name := "noCraft", desc := "(I)Z" } : Jvm.MethodName)) ∈ qG := qG_t (gt_3 (List.mem_of_getElem? (i := 21) rfl)) rfl
theorem gw_478 : (Jvm.Cond.instanceMethod ({ cls := "FarDishes", name := "noCraft", desc := "(I)Z" } : Jvm.MethodName)) ∈ qG := qG_t (gt_3 (List.mem_of_getElem? (i := 23) rfl)) rfl
theorem gw_479 : Cond.selects (⟨"FarDishes", "noCraft", "(I)Z"⟩ : MethodName).cls (⟨"FarDishes", "noCraft", "(I)Z"⟩ : MethodName) (⟨"FarDishes", "noCraft", "(I)Z"⟩ : MethodName) ∈ qG := qG_s (List.mem_map.mpr ⟨((⟨"FarDishes", "noCraft", "(I)Z"⟩ : MethodName), 8), List.mem_of_getElem? (i := 2) rfl, rfl⟩) rfl
theorem gw_480 : (Jvm.Cond.fieldLink "FarDishes" (107 : Nat) "FarDishes$World" "crafts" "[LFarDishes$Craft;") ∈ qG := qG_t (gt_2 (List.mem_of_getElem? (i := 40) rfl)) rfl
theorem gw_481 : (Jvm.Cond.fieldLink "FarDishes" (111 : Nat) "FarDishes$Craft" "loud" "I") ∈ qG := qG_t (gt_1 (List.mem_of_getElem? (i := 177) rfl)) rfl
theorem gw_482 : (Jvm.Cond.fieldLink "FarDishes" (116 : Nat) "FarDishes$Craft" "far" "I") ∈ qG := qG_t (gt_1 (List.mem_of_getElem? (i := 179) rfl)) rfl
theorem gw_483 : (Jvm.Cond.fieldLink "FarDishes" (119 : Nat) "FarDishes$Craft" "blocks" "LFarDishes$Blocks;") ∈ qG := qG_t (gt_1 (List.mem_of_getElem? (i := 187) rfl)) rfl
theorem gw_484 : (Jvm.Cond.fieldLink "FarDishes" (123 : Nat) "FarDishes$Blocks" "room" "I") ∈ qG := qG_t (gt_1 (List.mem_of_getElem? (i := 94) rfl)) rfl
theorem gw_485 : (Jvm.Cond.fieldLink "FarDishes" (128 : Nat) "FarDishes$Craft" "rate" "I") ∈ qG := qG_t (gt_1 (List.mem_of_getElem? (i := 182) rfl)) rfl
theorem gw_486 : (Jvm.Cond.fieldLink "FarDishes" (131 : Nat) "FarDishes$Blocks" "size" "I") ∈ qG := qG_t (gt_1 (List.mem_of_getElem? (i := 96) rfl)) rfl
theorem gw_487 : (Jvm.Cond.methodLink "FarDishes" (132 : Nat) ({ cls := "FarDishes$Blocks", name := "held", desc := "()I" } : Jvm.MethodName)) ∈ qG := qG_t (gt_3 (List.mem_of_getElem? (i := 25) rfl)) rfl
theorem gw_488 : (Jvm.Cond.fieldLink "FarDishes" (136 : Nat) "FarDishes$Blocks" "made" "I") ∈ qG := qG_t (gt_1 (List.mem_of_getElem? (i := 99) rfl)) rfl
theorem gw_489 : (Jvm.Cond.fieldLink "FarDishes" (139 : Nat) "FarDishes$Blocks" "had" "I") ∈ qG := qG_t (gt_1 (List.mem_of_getElem? (i := 101) rfl)) rfl
theorem gw_490 : (Jvm.Cond.fieldLink "FarDishes" (142 : Nat) "FarDishes$Blocks" "dropped" "I") ∈ qG := qG_t (gt_1 (List.mem_of_getElem? (i := 103) rfl)) rfl
theorem gw_491 : (Jvm.Cond.fieldLink "FarDishes" (145 : Nat) "FarDishes$Blocks" "lost" "I") ∈ qG := qG_t (gt_1 (List.mem_of_getElem? (i := 105) rfl)) rfl
theorem gw_492 : (Jvm.Cond.fieldLink "FarDishes" (148 : Nat) "FarDishes$Craft" "orders" "LFarDishes$Orders;") ∈ qG := qG_t (gt_1 (List.mem_of_getElem? (i := 190) rfl)) rfl
theorem gw_493 : (Jvm.Cond.fieldLink "FarDishes" (152 : Nat) "FarDishes$Orders" "size" "I") ∈ qG := qG_t (gt_1 (List.mem_of_getElem? (i := 135) rfl)) rfl
theorem gw_494 : (Jvm.Cond.code ({ cls := "FarDishes$Craft", name := "setUp", desc := "(III)I" } : Jvm.MethodName) prog_4_method_4_code (5 : Nat) (Option.some Jvm.ClassFile.FieldType.int)) ∈ qG := qG_t (gt_3 (List.mem_of_getElem? (i := 36) rfl)) rfl
theorem gw_495 : (Jvm.Cond.methodLink "FarDishes" (155 : Nat) ({ cls := "FarDishes$Craft", name := "setUp", desc := "(III)I" } : Jvm.MethodName)) ∈ qG := qG_t (gt_3 (List.mem_of_getElem? (i := 33) rfl)) rfl
theorem gw_496 : (Jvm.Cond.instanceMethod ({ cls := "FarDishes$Craft", name := "setUp", desc := "(III)I" } : Jvm.MethodName)) ∈ qG := qG_t (gt_3 (List.mem_of_getElem? (i := 34) rfl)) rfl
theorem gw_497 : (Jvm.Cond.selects "FarDishes$Craft" ({ cls := "FarDishes$Craft", name := "setUp", desc := "(III)I" } : Jvm.MethodName) ({ cls := "FarDishes$Craft", name := "setUp", desc := "(III)I" } : Jvm.MethodName)) ∈ qG := qG_t (gt_3 (List.mem_of_getElem? (i := 35) rfl)) rfl
theorem gw_498 : (Jvm.Cond.code ({ cls := "FarDishes$Craft", name := "isUp", desc := "(II)Z" } : Jvm.MethodName) prog_4_method_5_code (3 : Nat) (Option.some Jvm.ClassFile.FieldType.boolean)) ∈ qG := qG_t (gt_3 (List.mem_of_getElem? (i := 44) rfl)) rfl
theorem gw_499 : (Jvm.Cond.methodLink "FarDishes" (158 : Nat) ({ cls := "FarDishes$Craft", name := "isUp", desc := "(II)Z" } : Jvm.MethodName)) ∈ qG := qG_t (gt_3 (List.mem_of_getElem? (i := 41) rfl)) rfl
theorem gw_500 : (Jvm.Cond.instanceMethod ({ cls := "FarDishes$Craft", name := "isUp", desc := "(II)Z" } : Jvm.MethodName)) ∈ qG := qG_t (gt_3 (List.mem_of_getElem? (i := 42) rfl)) rfl
theorem gw_501 : (Jvm.Cond.selects "FarDishes$Craft" ({ cls := "FarDishes$Craft", name := "isUp", desc := "(II)Z" } : Jvm.MethodName) ({ cls := "FarDishes$Craft", name := "isUp", desc := "(II)Z" } : Jvm.MethodName)) ∈ qG := qG_t (gt_3 (List.mem_of_getElem? (i := 43) rfl)) rfl
theorem gw_502 : (Jvm.Cond.methodLink "FarDishes" (162 : Nat) ({ cls := "FarDishes$Craft", name := "firstUp", desc := "(III)I" } : Jvm.MethodName)) ∈ qG := qG_t (gt_3 (List.mem_of_getElem? (i := 53) rfl)) rfl
theorem gw_503 : (Jvm.Cond.constant "FarDishes" (165 : Nat) (-1000004 : Int32)) ∈ qG := qG_t (gt_3 (List.mem_of_getElem? (i := 57) rfl)) rfl
theorem gw_504 : (Jvm.Cond.methodLink "FarDishes" (166 : Nat) ({ cls := "FarDishes$World", name := "linkAt", desc := "(LFarDishes$Craft;LFarDishes$Dish;I)I" } : Jvm.MethodName)) ∈ qG := qG_t (gt_3 (List.mem_of_getElem? (i := 62) rfl)) rfl
theorem gw_505 : (Jvm.Cond.fieldLink "FarDishes" (170 : Nat) "FarDishes$Text" "length" "I") ∈ qG := qG_t (gt_2 (List.mem_of_getElem? (i := 121) rfl)) rfl
theorem gw_506 : (Jvm.Cond.code ({ cls := "FarDishes$Text", name := "append", desc := "(II)I" } : Jvm.MethodName) prog_11_method_2_code (4 : Nat) (Option.some Jvm.ClassFile.FieldType.int)) ∈ qG := qG_t (gt_3 (List.mem_of_getElem? (i := 76) rfl)) rfl
theorem gw_507 : (Jvm.Cond.methodLink "FarDishes" (173 : Nat) ({ cls := "FarDishes$Text", name := "append", desc := "(II)I" } : Jvm.MethodName)) ∈ qG := qG_t (gt_3 (List.mem_of_getElem? (i := 73) rfl)) rfl
theorem gw_508 : (Jvm.Cond.instanceMethod ({ cls := "FarDishes$Text", name := "append", desc := "(II)I" } : Jvm.MethodName)) ∈ qG := qG_t (gt_3 (List.mem_of_getElem? (i := 74) rfl)) rfl
theorem gw_509 : (Jvm.Cond.selects "FarDishes$Text" ({ cls := "FarDishes$Text", name := "append", desc := "(II)I" } : Jvm.MethodName) ({ cls := "FarDishes$Text", name := "append", desc := "(II)I" } : Jvm.MethodName)) ∈ qG := qG_t (gt_3 (List.mem_of_getElem? (i := 75) rfl)) rfl
theorem gw_510 : (Jvm.Cond.code ({ cls := "FarDishes$Text", name := "clear", desc := "()I" } : Jvm.MethodName) prog_11_method_3_code (2 : Nat) (Option.some Jvm.ClassFile.FieldType.int)) ∈ qG := qG_t (gt_3 (List.mem_of_getElem? (i := 84) rfl)) rfl
theorem gw_511 : (Jvm.Cond.methodLink "FarDishes" (177 : Nat) ({ cls := "FarDishes$Text", name := "clear", desc := "()I" } : Jvm.MethodName)) ∈ qG := qG_t (gt_3 (List.mem_of_getElem? (i := 81) rfl)) rfl
theorem gw_512 : (Jvm.Cond.instanceMethod ({ cls := "FarDishes$Text", name := "clear", desc := "()I" } : Jvm.MethodName)) ∈ qG := qG_t (gt_3 (List.mem_of_getElem? (i := 82) rfl)) rfl
theorem gw_513 : (Jvm.Cond.selects "FarDishes$Text" ({ cls := "FarDishes$Text", name := "clear", desc := "()I" } : Jvm.MethodName) ({ cls := "FarDishes$Text", name := "clear", desc := "()I" } : Jvm.MethodName)) ∈ qG := qG_t (gt_3 (List.mem_of_getElem? (i := 83) rfl)) rfl
theorem gw_514 : (Jvm.Cond.code ({ cls := "FarDishes$Text", name := "readAll", desc := "(I)I" } : Jvm.MethodName) prog_11_method_4_code (3 : Nat) (Option.some Jvm.ClassFile.FieldType.int)) ∈ qG := qG_t (gt_3 (List.mem_of_getElem? (i := 92) rfl)) rfl
theorem gw_515 : (Jvm.Cond.methodLink "FarDishes" (180 : Nat) ({ cls := "FarDishes$Text", name := "readAll", desc := "(I)I" } : Jvm.MethodName)) ∈ qG := qG_t (gt_3 (List.mem_of_getElem? (i := 89) rfl)) rfl
theorem gw_516 : (Jvm.Cond.instanceMethod ({ cls := "FarDishes$Text", name := "readAll", desc := "(I)I" } : Jvm.MethodName)) ∈ qG := qG_t (gt_3 (List.mem_of_getElem? (i := 90) rfl)) rfl
theorem gw_517 : (Jvm.Cond.selects "FarDishes$Text" ({ cls := "FarDishes$Text", name := "readAll", desc := "(I)I" } : Jvm.MethodName) ({ cls := "FarDishes$Text", name := "readAll", desc := "(I)I" } : Jvm.MethodName)) ∈ qG := qG_t (gt_3 (List.mem_of_getElem? (i := 91) rfl)) rfl
theorem gw_518 : (Jvm.Cond.fieldLink "FarDishes" (183 : Nat) "FarDishes$World" "askingCount" "I") ∈ qG := qG_t (gt_2 (List.mem_of_getElem? (i := 34) rfl)) rfl
theorem gw_519 : (Jvm.Cond.fieldLink "FarDishes" (186 : Nat) "FarDishes$Text" "ones" "I") ∈ qG := qG_t (gt_2 (List.mem_of_getElem? (i := 125) rfl)) rfl
theorem gw_520 : (Jvm.Cond.fieldLink "FarDishes" (189 : Nat) "FarDishes$Text" "read" "[[I") ∈ qG := qG_t (gt_2 (List.mem_of_getElem? (i := 123) rfl)) rfl
theorem gw_521 : (Jvm.Cond.code ({ cls := "FarDishes$World", name := "addAsking", desc := "([I)V" } : Jvm.MethodName) prog_12_method_6_code (2 : Nat) (Option.none : Option Jvm.ClassFile.FieldType)) ∈ qG := qG_t (gt_3 (List.mem_of_getElem? (i := 189) rfl)) rfl
theorem gw_522 : (Jvm.Cond.methodLink "FarDishes" (193 : Nat) ({ cls := "FarDishes$World", name := "addAsking", desc := "([I)V" } : Jvm.MethodName)) ∈ qG := qG_t (gt_3 (List.mem_of_getElem? (i := 186) rfl)) rfl
theorem gw_523 : (Jvm.Cond.instanceMethod ({ cls := "FarDishes$World", name := "addAsking", desc := "([I)V" } : Jvm.MethodName)) ∈ qG := qG_t (gt_3 (List.mem_of_getElem? (i := 187) rfl)) rfl
theorem gw_524 : (Jvm.Cond.selects "FarDishes$World" ({ cls := "FarDishes$World", name := "addAsking", desc := "([I)V" } : Jvm.MethodName) ({ cls := "FarDishes$World", name := "addAsking", desc := "([I)V" } : Jvm.MethodName)) ∈ qG := qG_t (gt_3 (List.mem_of_getElem? (i := 188) rfl)) rfl
theorem gw_525 : (Jvm.Cond.code ({ cls := "FarDishes", name := "noAsking", desc := "(I)Z" } : Jvm.MethodName) prog_1_method_51_code (2 : Nat) (Option.some Jvm.ClassFile.FieldType.boolean)) ∈ qG := qG_t (gt_3 (List.mem_of_getElem? (i := 206) rfl)) rfl
theorem gw_526 : (Jvm.Cond.methodLink "FarDishes" (197 : Nat) ({ cls := "FarDishes", name := "noAsking", desc := "(I)Z" } : Jvm.MethodName)) ∈ qG := qG_t (gt_3 (List.mem_of_getElem? (i := 203) rfl)) rfl
theorem gw_527 : (Jvm.Cond.instanceMethod ({ cls := "FarDishes", name := "noAsking", desc := "(I)Z" } : Jvm.MethodName)) ∈ qG := qG_t (gt_3 (List.mem_of_getElem? (i := 205) rfl)) rfl
theorem gw_528 : Cond.selects (⟨"FarDishes", "noAsking", "(I)Z"⟩ : MethodName).cls (⟨"FarDishes", "noAsking", "(I)Z"⟩ : MethodName) (⟨"FarDishes", "noAsking", "(I)Z"⟩ : MethodName) ∈ qG := qG_s (List.mem_map.mpr ⟨((⟨"FarDishes", "noAsking", "(I)Z"⟩ : MethodName), 8), List.mem_of_getElem? (i := 14) rfl, rfl⟩) rfl
theorem gw_529 : (Jvm.Cond.fieldLink "FarDishes" (200 : Nat) "FarDishes$World" "askings" "[LFarDishes$Asking;") ∈ qG := qG_t (gt_2 (List.mem_of_getElem? (i := 44) rfl)) rfl
theorem gw_530 : (Jvm.Cond.fieldLink "FarDishes" (204 : Nat) "FarDishes$Asking" "kind" "I") ∈ qG := qG_t (gt_1 (List.mem_of_getElem? (i := 217) rfl)) rfl
theorem gw_531 : (Jvm.Cond.fieldLink "FarDishes" (209 : Nat) "FarDishes$Asking" "craft" "I") ∈ qG := qG_t (gt_1 (List.mem_of_getElem? (i := 221) rfl)) rfl
theorem gw_532 : (Jvm.Cond.fieldLink "FarDishes" (212 : Nat) "FarDishes$Asking" "n" "I") ∈ qG := qG_t (gt_1 (List.mem_of_getElem? (i := 224) rfl)) rfl
theorem gw_533 : (Jvm.Cond.fieldLink "FarDishes" (215 : Nat) "FarDishes$Asking" "from" "I") ∈ qG := qG_t (gt_1 (List.mem_of_getElem? (i := 227) rfl)) rfl
theorem gw_534 : (Jvm.Cond.fieldLink "FarDishes" (218 : Nat) "FarDishes$Asking" "to" "I") ∈ qG := qG_t (gt_1 (List.mem_of_getElem? (i := 230) rfl)) rfl
theorem gw_535 : (Jvm.Cond.fieldLink "FarDishes" (221 : Nat) "FarDishes$Asking" "worth" "I") ∈ qG := qG_t (gt_1 (List.mem_of_getElem? (i := 233) rfl)) rfl
theorem gw_536 : (Jvm.Cond.fieldLink "FarDishes" (224 : Nat) "FarDishes$Asking" "state" "I") ∈ qG := qG_t (gt_1 (List.mem_of_getElem? (i := 237) rfl)) rfl
theorem gw_537 : (Jvm.Cond.fieldLink "FarDishes" (227 : Nat) "FarDishes$Asking" "dish" "I") ∈ qG := qG_t (gt_2 (List.mem_of_getElem? (i := 1) rfl)) rfl
theorem gw_538 : (Jvm.Cond.fieldLink "FarDishes" (230 : Nat) "FarDishes$Asking" "start" "I") ∈ qG := qG_t (gt_2 (List.mem_of_getElem? (i := 4) rfl)) rfl
theorem gw_539 : (Jvm.Cond.methodLink "FarDishes" (233 : Nat) ({ cls := "FarDishes$World", name := "weightOf", desc := "(II)I" } : Jvm.MethodName)) ∈ qG := qG_t (gt_3 (List.mem_of_getElem? (i := 207) rfl)) rfl
theorem gw_540 : (Jvm.Cond.methodLink "FarDishes" (236 : Nat) ({ cls := "FarDishes$Asking", name := "isOf", desc := "(I)Z" } : Jvm.MethodName)) ∈ qG := qG_t (gt_3 (List.mem_of_getElem? (i := 219) rfl)) rfl
theorem gw_541 : (Jvm.Cond.constant "FarDishes" (239 : Nat) (-1000003 : Int32)) ∈ qG := qG_t (gt_3 (List.mem_of_getElem? (i := 225) rfl)) rfl
theorem gw_542 : (Jvm.Cond.constant "FarDishes" (240 : Nat) (-1000005 : Int32)) ∈ qG := qG_t (gt_3 (List.mem_of_getElem? (i := 230) rfl)) rfl
theorem gw_543 : (Jvm.Cond.methodLink "FarDishes" (241 : Nat) ({ cls := "FarDishes$Asking", name := "waitAgain", desc := "()V" } : Jvm.MethodName)) ∈ qG := qG_t (gt_3 (List.mem_of_getElem? (i := 231) rfl)) rfl
theorem gw_544 : (Jvm.Cond.code ({ cls := "FarDishes$Planner", name := "planWaiting", desc := "(LFarDishes$World;I)V" } : Jvm.MethodName) prog_7_method_2_code (3 : Nat) (Option.none : Option Jvm.ClassFile.FieldType)) ∈ qG := qG_t (gt_3 (List.mem_of_getElem? (i := 239) rfl)) rfl
theorem gw_545 : (Jvm.Cond.methodLink "FarDishes" (244 : Nat) ({ cls := "FarDishes$Planner", name := "planWaiting", desc := "(LFarDishes$World;I)V" } : Jvm.MethodName)) ∈ qG := qG_t (gt_3 (List.mem_of_getElem? (i := 236) rfl)) rfl
theorem gw_546 : (Jvm.Cond.instanceMethod ({ cls := "FarDishes$Planner", name := "planWaiting", desc := "(LFarDishes$World;I)V" } : Jvm.MethodName)) ∈ qG := qG_t (gt_3 (List.mem_of_getElem? (i := 237) rfl)) rfl
theorem gw_547 : (Jvm.Cond.selects "FarDishes$Planner" ({ cls := "FarDishes$Planner", name := "planWaiting", desc := "(LFarDishes$World;I)V" } : Jvm.MethodName) ({ cls := "FarDishes$Planner", name := "planWaiting", desc := "(LFarDishes$World;I)V" } : Jvm.MethodName)) ∈ qG := qG_t (gt_3 (List.mem_of_getElem? (i := 238) rfl)) rfl
theorem gw_548 : (Jvm.Cond.fieldLink "FarDishes" (248 : Nat) "FarDishes$Planner" "bestWeight" "I") ∈ qG := qG_t (gt_2 (List.mem_of_getElem? (i := 75) rfl)) rfl
theorem gw_549 : (Jvm.Cond.code ({ cls := "FarDishes$Planner", name := "dishOf", desc := "(I)I" } : Jvm.MethodName) prog_7_method_16_code (3 : Nat) (Option.some Jvm.ClassFile.FieldType.int)) ∈ qG := qG_t (gt_4 (List.mem_of_getElem? (i := 53) rfl)) rfl
theorem gw_550 : (Jvm.Cond.methodLink "FarDishes" (251 : Nat) ({ cls := "FarDishes$Planner", name := "dishOf", desc := "(I)I" } : Jvm.MethodName)) ∈ qG := qG_t (gt_4 (List.mem_of_getElem? (i := 50) rfl)) rfl
theorem gw_551 : (Jvm.Cond.instanceMethod ({ cls := "FarDishes$Planner", name := "dishOf", desc := "(I)I" } : Jvm.MethodName)) ∈ qG := qG_t (gt_4 (List.mem_of_getElem? (i := 51) rfl)) rfl
theorem gw_552 : (Jvm.Cond.selects "FarDishes$Planner" ({ cls := "FarDishes$Planner", name := "dishOf", desc := "(I)I" } : Jvm.MethodName) ({ cls := "FarDishes$Planner", name := "dishOf", desc := "(I)I" } : Jvm.MethodName)) ∈ qG := qG_t (gt_4 (List.mem_of_getElem? (i := 52) rfl)) rfl
theorem gw_553 : (Jvm.Cond.code ({ cls := "FarDishes$Planner", name := "startOf", desc := "(I)I" } : Jvm.MethodName) prog_7_method_17_code (3 : Nat) (Option.some Jvm.ClassFile.FieldType.int)) ∈ qG := qG_t (gt_4 (List.mem_of_getElem? (i := 65) rfl)) rfl
theorem gw_554 : (Jvm.Cond.methodLink "FarDishes" (254 : Nat) ({ cls := "FarDishes$Planner", name := "startOf", desc := "(I)I" } : Jvm.MethodName)) ∈ qG := qG_t (gt_4 (List.mem_of_getElem? (i := 62) rfl)) rfl
theorem gw_555 : (Jvm.Cond.instanceMethod ({ cls := "FarDishes$Planner", name := "startOf", desc := "(I)I" } : Jvm.MethodName)) ∈ qG := qG_t (gt_4 (List.mem_of_getElem? (i := 63) rfl)) rfl
theorem gw_556 : (Jvm.Cond.selects "FarDishes$Planner" ({ cls := "FarDishes$Planner", name := "startOf", desc := "(I)I" } : Jvm.MethodName) ({ cls := "FarDishes$Planner", name := "startOf", desc := "(I)I" } : Jvm.MethodName)) ∈ qG := qG_t (gt_4 (List.mem_of_getElem? (i := 64) rfl)) rfl
theorem gw_557 : (Jvm.Cond.code ({ cls := "FarDishes$Planner", name := "inPlan", desc := "()I" } : Jvm.MethodName) prog_7_method_18_code (3 : Nat) (Option.some Jvm.ClassFile.FieldType.int)) ∈ qG := qG_t (gt_4 (List.mem_of_getElem? (i := 77) rfl)) rfl
theorem gw_558 : (Jvm.Cond.methodLink "FarDishes" (257 : Nat) ({ cls := "FarDishes$Planner", name := "inPlan", desc := "()I" } : Jvm.MethodName)) ∈ qG := qG_t (gt_4 (List.mem_of_getElem? (i := 74) rfl)) rfl
theorem gw_559 : (Jvm.Cond.instanceMethod ({ cls := "FarDishes$Planner", name := "inPlan", desc := "()I" } : Jvm.MethodName)) ∈ qG := qG_t (gt_4 (List.mem_of_getElem? (i := 75) rfl)) rfl
theorem gw_560 : (Jvm.Cond.selects "FarDishes$Planner" ({ cls := "FarDishes$Planner", name := "inPlan", desc := "()I" } : Jvm.MethodName) ({ cls := "FarDishes$Planner", name := "inPlan", desc := "()I" } : Jvm.MethodName)) ∈ qG := qG_t (gt_4 (List.mem_of_getElem? (i := 76) rfl)) rfl
theorem gw_561 : (Jvm.Cond.code ({ cls := "FarDishes$Planner", name := "planWithWorth", desc := "(LFarDishes$World;II)V" } : Jvm.MethodName) prog_7_method_3_code (5 : Nat) (Option.none : Option Jvm.ClassFile.FieldType)) ∈ qG := qG_t (gt_4 (List.mem_of_getElem? (i := 81) rfl)) rfl
theorem gw_562 : (Jvm.Cond.methodLink "FarDishes" (260 : Nat) ({ cls := "FarDishes$Planner", name := "planWithWorth", desc := "(LFarDishes$World;II)V" } : Jvm.MethodName)) ∈ qG := qG_t (gt_4 (List.mem_of_getElem? (i := 78) rfl)) rfl
theorem gw_563 : (Jvm.Cond.instanceMethod ({ cls := "FarDishes$Planner", name := "planWithWorth", desc := "(LFarDishes$World;II)V" } : Jvm.MethodName)) ∈ qG := qG_t (gt_4 (List.mem_of_getElem? (i := 79) rfl)) rfl
theorem gw_564 : (Jvm.Cond.selects "FarDishes$Planner" ({ cls := "FarDishes$Planner", name := "planWithWorth", desc := "(LFarDishes$World;II)V" } : Jvm.MethodName) ({ cls := "FarDishes$Planner", name := "planWithWorth", desc := "(LFarDishes$World;II)V" } : Jvm.MethodName)) ∈ qG := qG_t (gt_4 (List.mem_of_getElem? (i := 80) rfl)) rfl
theorem gw_565 : (Jvm.Cond.methodLink "FarDishes" (264 : Nat) ({ cls := "java/lang/Math", name := "min", desc := "(II)I" } : Jvm.MethodName)) ∈ qG := qG_t (gt_4 (List.mem_of_getElem? (i := 86) rfl)) rfl
theorem gw_566 : (Jvm.Cond.methodLink "FarDishes" (269 : Nat) ({ cls := "java/lang/Math", name := "max", desc := "(II)I" } : Jvm.MethodName)) ∈ qG := qG_t (gt_4 (List.mem_of_getElem? (i := 87) rfl)) rfl
theorem gw_567 : (Jvm.Cond.code ({ cls := "FarDishes$Planner", name := "planPair", desc := "(LFarDishes$World;II)V" } : Jvm.MethodName) prog_7_method_4_code (4 : Nat) (Option.none : Option Jvm.ClassFile.FieldType)) ∈ qG := qG_t (gt_4 (List.mem_of_getElem? (i := 91) rfl)) rfl
theorem gw_568 : (Jvm.Cond.methodLink "FarDishes" (272 : Nat) ({ cls := "FarDishes$Planner", name := "planPair", desc := "(LFarDishes$World;II)V" } : Jvm.MethodName)) ∈ qG := qG_t (gt_4 (List.mem_of_getElem? (i := 88) rfl)) rfl
theorem gw_569 : (Jvm.Cond.instanceMethod ({ cls := "FarDishes$Planner", name := "planPair", desc := "(LFarDishes$World;II)V" } : Jvm.MethodName)) ∈ qG := qG_t (gt_4 (List.mem_of_getElem? (i := 89) rfl)) rfl
theorem gw_570 : (Jvm.Cond.selects "FarDishes$Planner" ({ cls := "FarDishes$Planner", name := "planPair", desc := "(LFarDishes$World;II)V" } : Jvm.MethodName) ({ cls := "FarDishes$Planner", name := "planPair", desc := "(LFarDishes$World;II)V" } : Jvm.MethodName)) ∈ qG := qG_t (gt_4 (List.mem_of_getElem? (i := 90) rfl)) rfl
theorem gw_571 : (Jvm.Cond.code ({ cls := "FarDishes", name := "noSheet", desc := "(I)Z" } : Jvm.MethodName) prog_1_method_53_code (1 : Nat) (Option.some Jvm.ClassFile.FieldType.boolean)) ∈ qG := qG_t (gt_4 (List.mem_of_getElem? (i := 98) rfl)) rfl
theorem gw_572 : (Jvm.Cond.methodLink "FarDishes" (275 : Nat) ({ cls := "FarDishes", name := "noSheet", desc := "(I)Z" } : Jvm.MethodName)) ∈ qG := qG_t (gt_4 (List.mem_of_getElem? (i := 96) rfl)) rfl
theorem gw_573 : (Jvm.Cond.static ({ cls := "FarDishes", name := "noSheet", desc := "(I)Z" } : Jvm.MethodName)) ∈ qG := qG_t (gt_4 (List.mem_of_getElem? (i := 97) rfl)) rfl
theorem gw_574 : (Jvm.Cond.code ({ cls := "FarDishes$Sheet", name := "isMissing", desc := "()Z" } : Jvm.MethodName) prog_9_method_2_code (1 : Nat) (Option.some Jvm.ClassFile.FieldType.boolean)) ∈ qG := qG_t (gt_4 (List.mem_of_getElem? (i := 102) rfl)) rfl
theorem gw_575 : (Jvm.Cond.methodLink "FarDishes" (278 : Nat) ({ cls := "FarDishes$Sheet", name := "isMissing", desc := "()Z" } : Jvm.MethodName)) ∈ qG := qG_t (gt_4 (List.mem_of_getElem? (i := 99) rfl)) rfl
theorem gw_576 : (Jvm.Cond.instanceMethod ({ cls := "FarDishes$Sheet", name := "isMissing", desc := "()Z" } : Jvm.MethodName)) ∈ qG := qG_t (gt_4 (List.mem_of_getElem? (i := 100) rfl)) rfl
theorem gw_577 : (Jvm.Cond.selects "FarDishes$Sheet" ({ cls := "FarDishes$Sheet", name := "isMissing", desc := "()Z" } : Jvm.MethodName) ({ cls := "FarDishes$Sheet", name := "isMissing", desc := "()Z" } : Jvm.MethodName)) ∈ qG := qG_t (gt_4 (List.mem_of_getElem? (i := 101) rfl)) rfl
theorem gw_578 : (Jvm.Cond.constant "FarDishes" (282 : Nat) (-1000006 : Int32)) ∈ qG := qG_t (gt_4 (List.mem_of_getElem? (i := 103) rfl)) rfl
theorem gw_579 : (Jvm.Cond.methodLink "FarDishes" (283 : Nat) ({ cls := "FarDishes$Planner", name := "lookAtWaiting", desc := "(LFarDishes$World;I)V" } : Jvm.MethodName)) ∈ qG := qG_t (gt_4 (List.mem_of_getElem? (i := 104) rfl)) rfl
theorem gw_580 : (Jvm.Cond.fieldLink "FarDishes" (286 : Nat) "FarDishes$Sheet" "size" "I") ∈ qG := qG_t (gt_2 (List.mem_of_getElem? (i := 157) rfl)) rfl
theorem gw_581 : (Jvm.Cond.fieldLink "FarDishes" (287 : Nat) "FarDishes$Planner" "size" "I") ∈ qG := qG_t (gt_2 (List.mem_of_getElem? (i := 73) rfl)) rfl
theorem gw_582 : (Jvm.Cond.constant "FarDishes" (288 : Nat) (-1000007 : Int32)) ∈ qG := qG_t (gt_4 (List.mem_of_getElem? (i := 105) rfl)) rfl
theorem gw_583 : (Jvm.Cond.fieldLink "FarDishes" (289 : Nat) "FarDishes$Sheet" "numbers" "[I") ∈ qG := qG_t (gt_2 (List.mem_of_getElem? (i := 159) rfl)) rfl
theorem gw_584 : (Jvm.Cond.code ({ cls := "FarDishes$Planner", name := "weightOfRow", desc := "(LFarDishes$World;[I)I" } : Jvm.MethodName) prog_7_method_15_code (7 : Nat) (Option.some Jvm.ClassFile.FieldType.int)) ∈ qG := qG_t (gt_4 (List.mem_of_getElem? (i := 109) rfl)) rfl
theorem gw_585 : (Jvm.Cond.methodLink "FarDishes" (292 : Nat) ({ cls := "FarDishes$Planner", name := "weightOfRow", desc := "(LFarDishes$World;[I)I" } : Jvm.MethodName)) ∈ qG := qG_t (gt_4 (List.mem_of_getElem? (i := 106) rfl)) rfl
theorem gw_586 : (Jvm.Cond.instanceMethod ({ cls := "FarDishes$Planner", name := "weightOfRow", desc := "(LFarDishes$World;[I)I" } : Jvm.MethodName)) ∈ qG := qG_t (gt_4 (List.mem_of_getElem? (i := 107) rfl)) rfl
theorem gw_587 : (Jvm.Cond.selects "FarDishes$Planner" ({ cls := "FarDishes$Planner", name := "weightOfRow", desc := "(LFarDishes$World;[I)I" } : Jvm.MethodName) ({ cls := "FarDishes$Planner", name := "weightOfRow", desc := "(LFarDishes$World;[I)I" } : Jvm.MethodName)) ∈ qG := qG_t (gt_4 (List.mem_of_getElem? (i := 108) rfl)) rfl
theorem gw_588 : (Jvm.Cond.code ({ cls := "FarDishes$Planner", name := "holdIn", desc := "(LFarDishes$World;)I" } : Jvm.MethodName) prog_7_method_19_code (3 : Nat) (Option.some Jvm.ClassFile.FieldType.int)) ∈ qG := qG_t (gt_4 (List.mem_of_getElem? (i := 117) rfl)) rfl
theorem gw_589 : (Jvm.Cond.methodLink "FarDishes" (296 : Nat) ({ cls := "FarDishes$Planner", name := "holdIn", desc := "(LFarDishes$World;)I" } : Jvm.MethodName)) ∈ qG := qG_t (gt_4 (List.mem_of_getElem? (i := 114) rfl)) rfl
theorem gw_590 : (Jvm.Cond.instanceMethod ({ cls := "FarDishes$Planner", name := "holdIn", desc := "(LFarDishes$World;)I" } : Jvm.MethodName)) ∈ qG := qG_t (gt_4 (List.mem_of_getElem? (i := 115) rfl)) rfl
theorem gw_591 : (Jvm.Cond.selects "FarDishes$Planner" ({ cls := "FarDishes$Planner", name := "holdIn", desc := "(LFarDishes$World;)I" } : Jvm.MethodName) ({ cls := "FarDishes$Planner", name := "holdIn", desc := "(LFarDishes$World;)I" } : Jvm.MethodName)) ∈ qG := qG_t (gt_4 (List.mem_of_getElem? (i := 116) rfl)) rfl
theorem gw_592 : (Jvm.Cond.fieldLink "FarDishes" (300 : Nat) "FarDishes$World" "hour" "I") ∈ qG := qG_t (gt_2 (List.mem_of_getElem? (i := 26) rfl)) rfl
theorem gw_593 : (Jvm.Cond.code ({ cls := "FarDishes$World", name := "goHour", desc := "()I" } : Jvm.MethodName) prog_12_method_10_code (3 : Nat) (Option.some Jvm.ClassFile.FieldType.int)) ∈ qG := qG_t (gt_4 (List.mem_of_getElem? (i := 133) rfl)) rfl
theorem gw_594 : (Jvm.Cond.methodLink "FarDishes" (303 : Nat) ({ cls := "FarDishes$World", name := "goHour", desc := "()I" } : Jvm.MethodName)) ∈ qG := qG_t (gt_4 (List.mem_of_getElem? (i := 130) rfl)) rfl
theorem gw_595 : (Jvm.Cond.instanceMethod ({ cls := "FarDishes$World", name := "goHour", desc := "()I" } : Jvm.MethodName)) ∈ qG := qG_t (gt_4 (List.mem_of_getElem? (i := 131) rfl)) rfl
theorem gw_596 : (Jvm.Cond.selects "FarDishes$World" ({ cls := "FarDishes$World", name := "goHour", desc := "()I" } : Jvm.MethodName) ({ cls := "FarDishes$World", name := "goHour", desc := "()I" } : Jvm.MethodName)) ∈ qG := qG_t (gt_4 (List.mem_of_getElem? (i := 132) rfl)) rfl
theorem gw_597 : (Jvm.Cond.fieldLink "FarDishes" (306 : Nat) "FarDishes$Blocks" "number" "[I") ∈ qG := qG_t (gt_1 (List.mem_of_getElem? (i := 107) rfl)) rfl
theorem gw_598 : (Jvm.Cond.fieldLink "FarDishes" (309 : Nat) "FarDishes$Blocks" "sent" "[I") ∈ qG := qG_t (gt_1 (List.mem_of_getElem? (i := 109) rfl)) rfl
theorem gw_599 : (Jvm.Cond.code ({ cls := "FarDishes$Blocks", name := "have", desc := "(II)I" } : Jvm.MethodName) prog_3_method_10_code (6 : Nat) (Option.some Jvm.ClassFile.FieldType.int)) ∈ qG := qG_t (gt_4 (List.mem_of_getElem? (i := 196) rfl)) rfl
theorem gw_600 : (Jvm.Cond.methodLink "FarDishes" (312 : Nat) ({ cls := "FarDishes$Blocks", name := "have", desc := "(II)I" } : Jvm.MethodName)) ∈ qG := qG_t (gt_4 (List.mem_of_getElem? (i := 193) rfl)) rfl
theorem gw_601 : (Jvm.Cond.instanceMethod ({ cls := "FarDishes$Blocks", name := "have", desc := "(II)I" } : Jvm.MethodName)) ∈ qG := qG_t (gt_4 (List.mem_of_getElem? (i := 194) rfl)) rfl
theorem gw_602 : (Jvm.Cond.selects "FarDishes$Blocks" ({ cls := "FarDishes$Blocks", name := "have", desc := "(II)I" } : Jvm.MethodName) ({ cls := "FarDishes$Blocks", name := "have", desc := "(II)I" } : Jvm.MethodName)) ∈ qG := qG_t (gt_4 (List.mem_of_getElem? (i := 195) rfl)) rfl
theorem gw_603 : (Jvm.Cond.code ({ cls := "FarDishes$Blocks", name := "lostBy", desc := "(I)I" } : Jvm.MethodName) prog_3_method_11_code (3 : Nat) (Option.some Jvm.ClassFile.FieldType.int)) ∈ qG := qG_t (gt_4 (List.mem_of_getElem? (i := 204) rfl)) rfl
theorem gw_604 : (Jvm.Cond.methodLink "FarDishes" (315 : Nat) ({ cls := "FarDishes$Blocks", name := "lostBy", desc := "(I)I" } : Jvm.MethodName)) ∈ qG := qG_t (gt_4 (List.mem_of_getElem? (i := 201) rfl)) rfl
theorem gw_605 : (Jvm.Cond.instanceMethod ({ cls := "FarDishes$Blocks", name := "lostBy", desc := "(I)I" } : Jvm.MethodName)) ∈ qG := qG_t (gt_4 (List.mem_of_getElem? (i := 202) rfl)) rfl
theorem gw_606 : (Jvm.Cond.selects "FarDishes$Blocks" ({ cls := "FarDishes$Blocks", name := "lostBy", desc := "(I)I" } : Jvm.MethodName) ({ cls := "FarDishes$Blocks", name := "lostBy", desc := "(I)I" } : Jvm.MethodName)) ∈ qG := qG_t (gt_4 (List.mem_of_getElem? (i := 203) rfl)) rfl
theorem gw_607 : (Jvm.Cond.code ({ cls := "FarDishes$Orders", name := "add", desc := "(II)I" } : Jvm.MethodName) prog_6_method_3_code (3 : Nat) (Option.some Jvm.ClassFile.FieldType.int)) ∈ qG := qG_t (gt_4 (List.mem_of_getElem? (i := 213) rfl)) rfl
theorem gw_608 : (Jvm.Cond.methodLink "FarDishes" (318 : Nat) ({ cls := "FarDishes$Orders", name := "add", desc := "(II)I" } : Jvm.MethodName)) ∈ qG := qG_t (gt_4 (List.mem_of_getElem? (i := 210) rfl)) rfl
theorem gw_609 : (Jvm.Cond.instanceMethod ({ cls := "FarDishes$Orders", name := "add", desc := "(II)I" } : Jvm.MethodName)) ∈ qG := qG_t (gt_4 (List.mem_of_getElem? (i := 211) rfl)) rfl
theorem gw_610 : (Jvm.Cond.selects "FarDishes$Orders" ({ cls := "FarDishes$Orders", name := "add", desc := "(II)I" } : Jvm.MethodName) ({ cls := "FarDishes$Orders", name := "add", desc := "(II)I" } : Jvm.MethodName)) ∈ qG := qG_t (gt_4 (List.mem_of_getElem? (i := 212) rfl)) rfl
theorem gw_611 : (Jvm.Cond.code ({ cls := "FarDishes", name := "noOrder", desc := "(II)Z" } : Jvm.MethodName) prog_1_method_52_code (3 : Nat) (Option.some Jvm.ClassFile.FieldType.boolean)) ∈ qG := qG_t (gt_4 (List.mem_of_getElem? (i := 221) rfl)) rfl
theorem gw_612 : (Jvm.Cond.methodLink "FarDishes" (321 : Nat) ({ cls := "FarDishes", name := "noOrder", desc := "(II)Z" } : Jvm.MethodName)) ∈ qG := qG_t (gt_4 (List.mem_of_getElem? (i := 218) rfl)) rfl
theorem gw_613 : (Jvm.Cond.instanceMethod ({ cls := "FarDishes", name := "noOrder", desc := "(II)Z" } : Jvm.MethodName)) ∈ qG := qG_t (gt_4 (List.mem_of_getElem? (i := 220) rfl)) rfl
theorem gw_614 : Cond.selects (⟨"FarDishes", "noOrder", "(II)Z"⟩ : MethodName).cls (⟨"FarDishes", "noOrder", "(II)Z"⟩ : MethodName) (⟨"FarDishes", "noOrder", "(II)Z"⟩ : MethodName) ∈ qG := qG_s (List.mem_map.mpr ⟨((⟨"FarDishes", "noOrder", "(II)Z"⟩ : MethodName), 8), List.mem_of_getElem? (i := 32) rfl, rfl⟩) rfl
theorem gw_615 : (Jvm.Cond.code ({ cls := "FarDishes$Orders", name := "canGoAgain", desc := "(II)Z" } : Jvm.MethodName) prog_6_method_4_code (3 : Nat) (Option.some Jvm.ClassFile.FieldType.boolean)) ∈ qG := qG_t (gt_4 (List.mem_of_getElem? (i := 225) rfl)) rfl
theorem gw_616 : (Jvm.Cond.methodLink "FarDishes" (324 : Nat) ({ cls := "FarDishes$Orders", name := "canGoAgain", desc := "(II)Z" } : Jvm.MethodName)) ∈ qG := qG_t (gt_4 (List.mem_of_getElem? (i := 222) rfl)) rfl
theorem gw_617 : (Jvm.Cond.instanceMethod ({ cls := "FarDishes$Orders", name := "canGoAgain", desc := "(II)Z" } : Jvm.MethodName)) ∈ qG := qG_t (gt_4 (List.mem_of_getElem? (i := 223) rfl)) rfl
theorem gw_618 : (Jvm.Cond.selects "FarDishes$Orders" ({ cls := "FarDishes$Orders", name := "canGoAgain", desc := "(II)Z" } : Jvm.MethodName) ({ cls := "FarDishes$Orders", name := "canGoAgain", desc := "(II)Z" } : Jvm.MethodName)) ∈ qG := qG_t (gt_4 (List.mem_of_getElem? (i := 224) rfl)) rfl
theorem gw_619 : (Jvm.Cond.fieldLink "FarDishes" (327 : Nat) "FarDishes$Orders" "resent" "[I") ∈ qG := qG_t (gt_1 (List.mem_of_getElem? (i := 139) rfl)) rfl
theorem gw_620 : (Jvm.Cond.fieldLink "FarDishes" (330 : Nat) "FarDishes$Orders" "sent" "[I") ∈ qG := qG_t (gt_1 (List.mem_of_getElem? (i := 137) rfl)) rfl
theorem gw_621 : (Jvm.Cond.fieldLink "FarDishes" (331 : Nat) "FarDishes$Orders" "last" "[I") ∈ qG := qG_t (gt_1 (List.mem_of_getElem? (i := 141) rfl)) rfl
theorem gw_622 : (Jvm.Cond.fieldLink "FarDishes" (334 : Nat) "FarDishes$Orders" "state" "[I") ∈ qG := qG_t (gt_1 (List.mem_of_getElem? (i := 144) rfl)) rfl
theorem gw_623 : (Jvm.Cond.fieldLink "FarDishes" (336 : Nat) "FarDishes$Orders" "doneIn" "[I") ∈ qG := qG_t (gt_1 (List.mem_of_getElem? (i := 146) rfl)) rfl
theorem gw_624 : (Jvm.Cond.fieldLink "FarDishes" (339 : Nat) "FarDishes$Craft" "quiet" "LFarDishes$Silence;") ∈ qG := qG_t (gt_1 (List.mem_of_getElem? (i := 193) rfl)) rfl
theorem gw_625 : (Jvm.Cond.code ({ cls := "FarDishes$Silence", name := "setState", desc := "(IIZ)I" } : Jvm.MethodName) prog_10_method_4_code (5 : Nat) (Option.some Jvm.ClassFile.FieldType.int)) ∈ qG := qG_t (gt_4 (List.mem_of_getElem? (i := 237) rfl)) rfl
theorem gw_626 : (Jvm.Cond.methodLink "FarDishes" (343 : Nat) ({ cls := "FarDishes$Silence", name := "setState", desc := "(IIZ)I" } : Jvm.MethodName)) ∈ qG := qG_t (gt_4 (List.mem_of_getElem? (i := 234) rfl)) rfl
theorem gw_627 : (Jvm.Cond.instanceMethod ({ cls := "FarDishes$Silence", name := "setState", desc := "(IIZ)I" } : Jvm.MethodName)) ∈ qG := qG_t (gt_4 (List.mem_of_getElem? (i := 235) rfl)) rfl
theorem gw_628 : (Jvm.Cond.selects "FarDishes$Silence" ({ cls := "FarDishes$Silence", name := "setState", desc := "(IIZ)I" } : Jvm.MethodName) ({ cls := "FarDishes$Silence", name := "setState", desc := "(IIZ)I" } : Jvm.MethodName)) ∈ qG := qG_t (gt_4 (List.mem_of_getElem? (i := 236) rfl)) rfl
theorem gw_629 : (Jvm.Cond.methodLink "FarDishes" (349 : Nat) ({ cls := "FarDishes$Silence", name := "daysFrom", desc := "(I)I" } : Jvm.MethodName)) ∈ qG := qG_t (gt_5 (List.mem_of_getElem? (i := 2) rfl)) rfl
theorem gw_630 : (Jvm.Cond.code ({ cls := "FarDishes$Silence", name := "neverHeard", desc := "()I" } : Jvm.MethodName) prog_10_method_6_code (3 : Nat) (Option.some Jvm.ClassFile.FieldType.int)) ∈ qG := qG_t (gt_5 (List.mem_of_getElem? (i := 13) rfl)) rfl
theorem gw_631 : (Jvm.Cond.methodLink "FarDishes" (352 : Nat) ({ cls := "FarDishes$Silence", name := "neverHeard", desc := "()I" } : Jvm.MethodName)) ∈ qG := qG_t (gt_5 (List.mem_of_getElem? (i := 10) rfl)) rfl
theorem gw_632 : (Jvm.Cond.instanceMethod ({ cls := "FarDishes$Silence", name := "neverHeard", desc := "()I" } : Jvm.MethodName)) ∈ qG := qG_t (gt_5 (List.mem_of_getElem? (i := 11) rfl)) rfl
theorem gw_633 : (Jvm.Cond.selects "FarDishes$Silence" ({ cls := "FarDishes$Silence", name := "neverHeard", desc := "()I" } : Jvm.MethodName) ({ cls := "FarDishes$Silence", name := "neverHeard", desc := "()I" } : Jvm.MethodName)) ∈ qG := qG_t (gt_5 (List.mem_of_getElem? (i := 12) rfl)) rfl
theorem gw_634 : (Jvm.Cond.fieldLink "FarDishes" (355 : Nat) "FarDishes$World" "search" "LFarDishes$Search;") ∈ qG := qG_t (gt_2 (List.mem_of_getElem? (i := 46) rfl)) rfl
theorem gw_635 : (Jvm.Cond.code ({ cls := "FarDishes$Search", name := "setOdds", desc := "(II)I" } : Jvm.MethodName) prog_8_method_3_code (4 : Nat) (Option.some Jvm.ClassFile.FieldType.int)) ∈ qG := qG_t (gt_5 (List.mem_of_getElem? (i := 22) rfl)) rfl
theorem gw_636 : (Jvm.Cond.methodLink "FarDishes" (359 : Nat) ({ cls := "FarDishes$Search", name := "setOdds", desc := "(II)I" } : Jvm.MethodName)) ∈ qG := qG_t (gt_5 (List.mem_of_getElem? (i := 19) rfl)) rfl
theorem gw_637 : (Jvm.Cond.instanceMethod ({ cls := "FarDishes$Search", name := "setOdds", desc := "(II)I" } : Jvm.MethodName)) ∈ qG := qG_t (gt_5 (List.mem_of_getElem? (i := 20) rfl)) rfl
theorem gw_638 : (Jvm.Cond.selects "FarDishes$Search" ({ cls := "FarDishes$Search", name := "setOdds", desc := "(II)I" } : Jvm.MethodName) ({ cls := "FarDishes$Search", name := "setOdds", desc := "(II)I" } : Jvm.MethodName)) ∈ qG := qG_t (gt_5 (List.mem_of_getElem? (i := 21) rfl)) rfl
theorem gw_639 : (Jvm.Cond.code ({ cls := "FarDishes$Search", name := "lookNext", desc := "()I" } : Jvm.MethodName) prog_8_method_4_code (2 : Nat) (Option.some Jvm.ClassFile.FieldType.int)) ∈ qG := qG_t (gt_5 (List.mem_of_getElem? (i := 31) rfl)) rfl
theorem gw_640 : (Jvm.Cond.methodLink "FarDishes" (364 : Nat) ({ cls := "FarDishes$Search", name := "lookNext", desc := "()I" } : Jvm.MethodName)) ∈ qG := qG_t (gt_5 (List.mem_of_getElem? (i := 28) rfl)) rfl
theorem gw_641 : (Jvm.Cond.instanceMethod ({ cls := "FarDishes$Search", name := "lookNext", desc := "()I" } : Jvm.MethodName)) ∈ qG := qG_t (gt_5 (List.mem_of_getElem? (i := 29) rfl)) rfl
theorem gw_642 : (Jvm.Cond.selects "FarDishes$Search" ({ cls := "FarDishes$Search", name := "lookNext", desc := "()I" } : Jvm.MethodName) ({ cls := "FarDishes$Search", name := "lookNext", desc := "()I" } : Jvm.MethodName)) ∈ qG := qG_t (gt_5 (List.mem_of_getElem? (i := 30) rfl)) rfl
theorem gw_643 : (Jvm.Cond.code ({ cls := "FarDishes$Search", name := "looksFor", desc := "(I)I" } : Jvm.MethodName) prog_8_method_6_code (8 : Nat) (Option.some Jvm.ClassFile.FieldType.int)) ∈ qG := qG_t (gt_5 (List.mem_of_getElem? (i := 46) rfl)) rfl
theorem gw_644 : (Jvm.Cond.methodLink "FarDishes" (367 : Nat) ({ cls := "FarDishes$Search", name := "looksFor", desc := "(I)I" } : Jvm.MethodName)) ∈ qG := qG_t (gt_5 (List.mem_of_getElem? (i := 43) rfl)) rfl
theorem gw_645 : (Jvm.Cond.instanceMethod ({ cls := "FarDishes$Search", name := "looksFor", desc := "(I)I" } : Jvm.MethodName)) ∈ qG := qG_t (gt_5 (List.mem_of_getElem? (i := 44) rfl)) rfl
theorem gw_646 : (Jvm.Cond.selects "FarDishes$Search" ({ cls := "FarDishes$Search", name := "looksFor", desc := "(I)I" } : Jvm.MethodName) ({ cls := "FarDishes$Search", name := "looksFor", desc := "(I)I" } : Jvm.MethodName)) ∈ qG := qG_t (gt_5 (List.mem_of_getElem? (i := 45) rfl)) rfl
theorem gw_647 : (Jvm.Cond.code ({ cls := "FarDishes$World", name := "become", desc := "(LFarDishes$World;)V" } : Jvm.MethodName) prog_12_method_2_code (3 : Nat) (Option.none : Option Jvm.ClassFile.FieldType)) ∈ qG := qG_t (gt_5 (List.mem_of_getElem? (i := 58) rfl)) rfl
theorem gw_648 : (Jvm.Cond.methodLink "FarDishes" (370 : Nat) ({ cls := "FarDishes$World", name := "become", desc := "(LFarDishes$World;)V" } : Jvm.MethodName)) ∈ qG := qG_t (gt_5 (List.mem_of_getElem? (i := 55) rfl)) rfl
theorem gw_649 : (Jvm.Cond.instanceMethod ({ cls := "FarDishes$World", name := "become", desc := "(LFarDishes$World;)V" } : Jvm.MethodName)) ∈ qG := qG_t (gt_5 (List.mem_of_getElem? (i := 56) rfl)) rfl
theorem gw_650 : (Jvm.Cond.selects "FarDishes$World" ({ cls := "FarDishes$World", name := "become", desc := "(LFarDishes$World;)V" } : Jvm.MethodName) ({ cls := "FarDishes$World", name := "become", desc := "(LFarDishes$World;)V" } : Jvm.MethodName)) ∈ qG := qG_t (gt_5 (List.mem_of_getElem? (i := 57) rfl)) rfl
theorem gw_651 : (Jvm.Cond.code ({ cls := "FarDishes$Sheet", name := "begin", desc := "(II)I" } : Jvm.MethodName) prog_9_method_3_code (4 : Nat) (Option.some Jvm.ClassFile.FieldType.int)) ∈ qG := qG_t (gt_5 (List.mem_of_getElem? (i := 99) rfl)) rfl
theorem gw_652 : (Jvm.Cond.methodLink "FarDishes" (374 : Nat) ({ cls := "FarDishes$Sheet", name := "begin", desc := "(II)I" } : Jvm.MethodName)) ∈ qG := qG_t (gt_5 (List.mem_of_getElem? (i := 96) rfl)) rfl
theorem gw_653 : (Jvm.Cond.instanceMethod ({ cls := "FarDishes$Sheet", name := "begin", desc := "(II)I" } : Jvm.MethodName)) ∈ qG := qG_t (gt_5 (List.mem_of_getElem? (i := 97) rfl)) rfl
theorem gw_654 : (Jvm.Cond.selects "FarDishes$Sheet" ({ cls := "FarDishes$Sheet", name := "begin", desc := "(II)I" } : Jvm.MethodName) ({ cls := "FarDishes$Sheet", name := "begin", desc := "(II)I" } : Jvm.MethodName)) ∈ qG := qG_t (gt_5 (List.mem_of_getElem? (i := 98) rfl)) rfl
theorem gw_655 : (Jvm.Cond.code ({ cls := "FarDishes$Sheet", name := "set", desc := "(II)V" } : Jvm.MethodName) prog_9_method_4_code (4 : Nat) (Option.none : Option Jvm.ClassFile.FieldType)) ∈ qG := qG_t (gt_5 (List.mem_of_getElem? (i := 107) rfl)) rfl
theorem gw_656 : (Jvm.Cond.methodLink "FarDishes" (377 : Nat) ({ cls := "FarDishes$Sheet", name := "set", desc := "(II)V" } : Jvm.MethodName)) ∈ qG := qG_t (gt_5 (List.mem_of_getElem? (i := 104) rfl)) rfl
theorem gw_657 : (Jvm.Cond.instanceMethod ({ cls := "FarDishes$Sheet", name := "set", desc := "(II)V" } : Jvm.MethodName)) ∈ qG := qG_t (gt_5 (List.mem_of_getElem? (i := 105) rfl)) rfl
theorem gw_658 : (Jvm.Cond.selects "FarDishes$Sheet" ({ cls := "FarDishes$Sheet", name := "set", desc := "(II)V" } : Jvm.MethodName) ({ cls := "FarDishes$Sheet", name := "set", desc := "(II)V" } : Jvm.MethodName)) ∈ qG := qG_t (gt_5 (List.mem_of_getElem? (i := 106) rfl)) rfl
theorem gw_659 : (Jvm.Cond.fieldLink "FarDishes" (381 : Nat) "FarDishes$Sheet" "bits" "I") ∈ qG := qG_t (gt_2 (List.mem_of_getElem? (i := 155) rfl)) rfl
theorem gw_660 : (Jvm.Cond.code ({ cls := "FarDishes$Sheet", name := "hasRange", desc := "(II)Z" } : Jvm.MethodName) prog_9_method_5_code (3 : Nat) (Option.some Jvm.ClassFile.FieldType.boolean)) ∈ qG := qG_t (gt_5 (List.mem_of_getElem? (i := 115) rfl)) rfl
theorem gw_661 : (Jvm.Cond.methodLink "FarDishes" (384 : Nat) ({ cls := "FarDishes$Sheet", name := "hasRange", desc := "(II)Z" } : Jvm.MethodName)) ∈ qG := qG_t (gt_5 (List.mem_of_getElem? (i := 112) rfl)) rfl
theorem gw_662 : (Jvm.Cond.instanceMethod ({ cls := "FarDishes$Sheet", name := "hasRange", desc := "(II)Z" } : Jvm.MethodName)) ∈ qG := qG_t (gt_5 (List.mem_of_getElem? (i := 113) rfl)) rfl
theorem gw_663 : (Jvm.Cond.selects "FarDishes$Sheet" ({ cls := "FarDishes$Sheet", name := "hasRange", desc := "(II)Z" } : Jvm.MethodName) ({ cls := "FarDishes$Sheet", name := "hasRange", desc := "(II)Z" } : Jvm.MethodName)) ∈ qG := qG_t (gt_5 (List.mem_of_getElem? (i := 114) rfl)) rfl
theorem gw_664 : (Jvm.Cond.methodLink "FarDishes" (387 : Nat) ({ cls := "java/lang/System", name := "arraycopy", desc := "(Ljava/lang/Object;ILjava/lang/Object;II)V" } : Jvm.MethodName)) ∈ qG := qG_t (gt_5 (List.mem_of_getElem? (i := 116) rfl)) rfl
theorem gw_665 : (Jvm.Cond.code ({ cls := "FarDishes$World", name := "brokenDishes", desc := "()I" } : Jvm.MethodName) prog_12_method_15_code (3 : Nat) (Option.some Jvm.ClassFile.FieldType.int)) ∈ qG := qG_t (gt_5 (List.mem_of_getElem? (i := 136) rfl)) rfl
theorem gw_666 : (Jvm.Cond.methodLink "FarDishes" (393 : Nat) ({ cls := "FarDishes$World", name := "brokenDishes", desc := "()I" } : Jvm.MethodName)) ∈ qG := qG_t (gt_5 (List.mem_of_getElem? (i := 133) rfl)) rfl
theorem gw_667 : (Jvm.Cond.instanceMethod ({ cls := "FarDishes$World", name := "brokenDishes", desc := "()I" } : Jvm.MethodName)) ∈ qG := qG_t (gt_5 (List.mem_of_getElem? (i := 134) rfl)) rfl
theorem gw_668 : (Jvm.Cond.selects "FarDishes$World" ({ cls := "FarDishes$World", name := "brokenDishes", desc := "()I" } : Jvm.MethodName) ({ cls := "FarDishes$World", name := "brokenDishes", desc := "()I" } : Jvm.MethodName)) ∈ qG := qG_t (gt_5 (List.mem_of_getElem? (i := 135) rfl)) rfl
theorem gw_669 : (Jvm.Cond.code ({ cls := "FarDishes$World", name := "askingsIn", desc := "(I)I" } : Jvm.MethodName) prog_12_method_16_code (4 : Nat) (Option.some Jvm.ClassFile.FieldType.int)) ∈ qG := qG_t (gt_5 (List.mem_of_getElem? (i := 140) rfl)) rfl
theorem gw_670 : (Jvm.Cond.methodLink "FarDishes" (396 : Nat) ({ cls := "FarDishes$World", name := "askingsIn", desc := "(I)I" } : Jvm.MethodName)) ∈ qG := qG_t (gt_5 (List.mem_of_getElem? (i := 137) rfl)) rfl
theorem gw_671 : (Jvm.Cond.instanceMethod ({ cls := "FarDishes$World", name := "askingsIn", desc := "(I)I" } : Jvm.MethodName)) ∈ qG := qG_t (gt_5 (List.mem_of_getElem? (i := 138) rfl)) rfl
theorem gw_672 : (Jvm.Cond.selects "FarDishes$World" ({ cls := "FarDishes$World", name := "askingsIn", desc := "(I)I" } : Jvm.MethodName) ({ cls := "FarDishes$World", name := "askingsIn", desc := "(I)I" } : Jvm.MethodName)) ∈ qG := qG_t (gt_5 (List.mem_of_getElem? (i := 139) rfl)) rfl
theorem gw_673 : (Jvm.Cond.code ({ cls := "FarDishes$World", name := "allBlocks", desc := "()I" } : Jvm.MethodName) prog_12_method_17_code (3 : Nat) (Option.some Jvm.ClassFile.FieldType.int)) ∈ qG := qG_t (gt_5 (List.mem_of_getElem? (i := 144) rfl)) rfl
theorem gw_674 : (Jvm.Cond.methodLink "FarDishes" (399 : Nat) ({ cls := "FarDishes$World", name := "allBlocks", desc := "()I" } : Jvm.MethodName)) ∈ qG := qG_t (gt_5 (List.mem_of_getElem? (i := 141) rfl)) rfl
theorem gw_675 : (Jvm.Cond.instanceMethod ({ cls := "FarDishes$World", name := "allBlocks", desc := "()I" } : Jvm.MethodName)) ∈ qG := qG_t (gt_5 (List.mem_of_getElem? (i := 142) rfl)) rfl
theorem gw_676 : (Jvm.Cond.selects "FarDishes$World" ({ cls := "FarDishes$World", name := "allBlocks", desc := "()I" } : Jvm.MethodName) ({ cls := "FarDishes$World", name := "allBlocks", desc := "()I" } : Jvm.MethodName)) ∈ qG := qG_t (gt_5 (List.mem_of_getElem? (i := 143) rfl)) rfl
theorem gw_677 : (Jvm.Cond.code ({ cls := "FarDishes$Search", name := "left", desc := "()I" } : Jvm.MethodName) prog_8_method_5_code (3 : Nat) (Option.some Jvm.ClassFile.FieldType.int)) ∈ qG := qG_t (gt_5 (List.mem_of_getElem? (i := 148) rfl)) rfl
theorem gw_678 : (Jvm.Cond.methodLink "FarDishes" (402 : Nat) ({ cls := "FarDishes$Search", name := "left", desc := "()I" } : Jvm.MethodName)) ∈ qG := qG_t (gt_5 (List.mem_of_getElem? (i := 145) rfl)) rfl
theorem gw_679 : (Jvm.Cond.instanceMethod ({ cls := "FarDishes$Search", name := "left", desc := "()I" } : Jvm.MethodName)) ∈ qG := qG_t (gt_5 (List.mem_of_getElem? (i := 146) rfl)) rfl
theorem gw_680 : (Jvm.Cond.selects "FarDishes$Search" ({ cls := "FarDishes$Search", name := "left", desc := "()I" } : Jvm.MethodName) ({ cls := "FarDishes$Search", name := "left", desc := "()I" } : Jvm.MethodName)) ∈ qG := qG_t (gt_5 (List.mem_of_getElem? (i := 147) rfl)) rfl
theorem gw_681 : (Jvm.Cond.methodLink "FarDishesModel" (1 : Nat) ({ cls := "java/lang/Object", name := "<init>", desc := "()V" } : Jvm.MethodName)) ∈ qG := qG_t (gt_5 (List.mem_of_getElem? (i := 158) rfl)) rfl
theorem gw_682 : (Jvm.Cond.fieldLink "FarDishesModel" (7 : Nat) "FarDishesModel" "p" "[I") ∈ qG := qG_t (gt_5 (List.mem_of_getElem? (i := 159) rfl)) rfl
theorem gw_683 : (Jvm.Cond.fieldLink "FarDishesModel" (13 : Nat) "FarDishesModel" "image" "[I") ∈ qG := qG_t (gt_5 (List.mem_of_getElem? (i := 160) rfl)) rfl
theorem gw_684 : (Jvm.Cond.fieldLink "FarDishesModel" (16 : Nat) "FarDishesModel" "aside" "[I") ∈ qG := qG_t (gt_5 (List.mem_of_getElem? (i := 161) rfl)) rfl
theorem gw_685 : (Jvm.Cond.fieldLink "FarDishesModel" (19 : Nat) "FarDishesModel" "tape" "[I") ∈ qG := qG_t (gt_5 (List.mem_of_getElem? (i := 163) rfl)) rfl
theorem gw_686 : (Jvm.Cond.fieldLink "FarDishesModel" (22 : Nat) "FarDishesModel" "found" "[I") ∈ qG := qG_t (gt_5 (List.mem_of_getElem? (i := 165) rfl)) rfl
theorem gw_687 : (Jvm.Cond.fieldLink "FarDishesModel" (25 : Nat) "FarDishesModel" "bits" "[I") ∈ qG := qG_t (gt_5 (List.mem_of_getElem? (i := 166) rfl)) rfl
theorem gw_688 : (Jvm.Cond.fieldLink "FarDishesModel" (28 : Nat) "FarDishesModel" "sizes" "[I") ∈ qG := qG_t (gt_5 (List.mem_of_getElem? (i := 167) rfl)) rfl
theorem gw_689 : (Jvm.Cond.fieldLink "FarDishesModel" (31 : Nat) "FarDishesModel" "numbers" "[I") ∈ qG := qG_t (gt_5 (List.mem_of_getElem? (i := 168) rfl)) rfl
theorem gw_690 : (Jvm.Cond.fieldLink "FarDishesModel" (34 : Nat) "FarDishesModel" "carried" "[I") ∈ qG := qG_t (gt_5 (List.mem_of_getElem? (i := 169) rfl)) rfl
theorem gw_691 : (Jvm.Cond.fieldLink "FarDishesModel" (37 : Nat) "FarDishesModel" "one" "[I") ∈ qG := qG_t (gt_5 (List.mem_of_getElem? (i := 175) rfl)) rfl
theorem gw_692 : (Jvm.Cond.fieldLink "FarDishesModel" (40 : Nat) "FarDishesModel" "wordLetters" "[I") ∈ qG := qG_t (gt_5 (List.mem_of_getElem? (i := 176) rfl)) rfl
theorem gw_693 : (Jvm.Cond.fieldLink "FarDishesModel" (43 : Nat) "FarDishesModel" "looked" "[I") ∈ qG := qG_t (gt_5 (List.mem_of_getElem? (i := 178) rfl)) rfl
theorem gw_694 : (Jvm.Cond.fieldLink "FarDishesModel" (46 : Nat) "FarDishesModel" "on" "[I") ∈ qG := qG_t (gt_5 (List.mem_of_getElem? (i := 179) rfl)) rfl
theorem gw_695 : (Jvm.Cond.fieldLink "FarDishesModel" (49 : Nat) "FarDishesModel" "from" "[I") ∈ qG := qG_t (gt_5 (List.mem_of_getElem? (i := 180) rfl)) rfl
theorem gw_696 : (Jvm.Cond.fieldLink "FarDishesModel" (52 : Nat) "FarDishesModel" "bestOn" "[I") ∈ qG := qG_t (gt_5 (List.mem_of_getElem? (i := 181) rfl)) rfl
theorem gw_697 : (Jvm.Cond.fieldLink "FarDishesModel" (55 : Nat) "FarDishesModel" "bestFrom" "[I") ∈ qG := qG_t (gt_5 (List.mem_of_getElem? (i := 182) rfl)) rfl
theorem gw_698 : (Jvm.Cond.fieldLink "FarDishesModel" (58 : Nat) "FarDishesModel" "free" "[I") ∈ qG := qG_t (gt_5 (List.mem_of_getElem? (i := 185) rfl)) rfl
theorem gw_699 : (Jvm.Cond.arrayClass Jvm.ClassFile.FieldType.boolean) ∈ qG := qG_t (gt_6 (List.mem_of_getElem? (i := 4) rfl)) rfl
theorem gw_700 : (Jvm.Cond.fieldLink "FarDishesModel" (61 : Nat) "FarDishesModel" "wasOld" "[Z") ∈ qG := qG_t (gt_5 (List.mem_of_getElem? (i := 186) rfl)) rfl
theorem gw_701 : (Jvm.Cond.constant "FarDishesModel" (65 : Nat) (-1000001 : Int32)) ∈ qG := qG_t (gt_6 (List.mem_of_getElem? (i := 19) rfl)) rfl
theorem gw_702 : (Jvm.Cond.code ({ cls := "FarDishesModel", name := "in", desc := "(III)Z" } : Jvm.MethodName) prog_14_method_3_code (3 : Nat) (Option.some Jvm.ClassFile.FieldType.boolean)) ∈ qG := qG_t (gt_6 (List.mem_of_getElem? (i := 14) rfl)) rfl
theorem gw_703 : (Jvm.Cond.methodLink "FarDishesModel" (66 : Nat) ({ cls := "FarDishesModel", name := "in", desc := "(III)Z" } : Jvm.MethodName)) ∈ qG := qG_t (gt_6 (List.mem_of_getElem? (i := 12) rfl)) rfl
theorem gw_704 : (Jvm.Cond.static ({ cls := "FarDishesModel", name := "in", desc := "(III)Z" } : Jvm.MethodName)) ∈ qG := qG_t (gt_6 (List.mem_of_getElem? (i := 13) rfl)) rfl
theorem gw_705 : (Jvm.Cond.initialized "FarDishesModel") ∈ qG := qG_t (gt_1 (List.mem_of_getElem? (i := 13) rfl)) rfl
theorem gw_706 : (Jvm.Cond.code ({ cls := "FarDishesModel", name := "isPlace", desc := "(I)Z" } : Jvm.MethodName) prog_14_method_4_code (1 : Nat) (Option.some Jvm.ClassFile.FieldType.boolean)) ∈ qG := qG_t (gt_6 (List.mem_of_getElem? (i := 11) rfl)) rfl
theorem gw_707 : (Jvm.Cond.methodLink "FarDishesModel" (70 : Nat) ({ cls := "FarDishesModel", name := "isPlace", desc := "(I)Z" } : Jvm.MethodName)) ∈ qG := qG_t (gt_6 (List.mem_of_getElem? (i := 9) rfl)) rfl
theorem gw_708 : (Jvm.Cond.static ({ cls := "FarDishesModel", name := "isPlace", desc := "(I)Z" } : Jvm.MethodName)) ∈ qG := qG_t (gt_6 (List.mem_of_getElem? (i := 10) rfl)) rfl
theorem gw_709 : (Jvm.Cond.code ({ cls := "FarDishesModel", name := "becomes", desc := "(II)I" } : Jvm.MethodName) prog_14_method_9_code (4 : Nat) (Option.some Jvm.ClassFile.FieldType.int)) ∈ qG := qG_t (gt_6 (List.mem_of_getElem? (i := 18) rfl)) rfl
theorem gw_710 : (Jvm.Cond.methodLink "FarDishesModel" (74 : Nat) ({ cls := "FarDishesModel", name := "becomes", desc := "(II)I" } : Jvm.MethodName)) ∈ qG := qG_t (gt_6 (List.mem_of_getElem? (i := 15) rfl)) rfl
theorem gw_711 : (Jvm.Cond.instanceMethod ({ cls := "FarDishesModel", name := "becomes", desc := "(II)I" } : Jvm.MethodName)) ∈ qG := qG_t (gt_6 (List.mem_of_getElem? (i := 17) rfl)) rfl
theorem gw_712 : Cond.selects (⟨"FarDishesModel", "becomes", "(II)I"⟩ : MethodName).cls (⟨"FarDishesModel", "becomes", "(II)I"⟩ : MethodName) (⟨"FarDishesModel", "becomes", "(II)I"⟩ : MethodName) ∈ qG := qG_s (List.mem_map.mpr ⟨((⟨"FarDishesModel", "becomes", "(II)I"⟩ : MethodName), 28), List.mem_of_getElem? (i := 35) rfl, rfl⟩) rfl
theorem gw_713 : (Jvm.Cond.code ({ cls := "FarDishesModel", name := "finds", desc := "(I)I" } : Jvm.MethodName) prog_14_method_2_code (2 : Nat) (Option.some Jvm.ClassFile.FieldType.int)) ∈ qG := qG_t (gt_6 (List.mem_of_getElem? (i := 23) rfl)) rfl
theorem gw_714 : (Jvm.Cond.methodLink "FarDishesModel" (78 : Nat) ({ cls := "FarDishesModel", name := "finds", desc := "(I)I" } : Jvm.MethodName)) ∈ qG := qG_t (gt_6 (List.mem_of_getElem? (i := 20) rfl)) rfl
theorem gw_715 : (Jvm.Cond.instanceMethod ({ cls := "FarDishesModel", name := "finds", desc := "(I)I" } : Jvm.MethodName)) ∈ qG := qG_t (gt_6 (List.mem_of_getElem? (i := 22) rfl)) rfl
theorem gw_716 : Cond.selects (⟨"FarDishesModel", "finds", "(I)I"⟩ : MethodName).cls (⟨"FarDishesModel", "finds", "(I)I"⟩ : MethodName) (⟨"FarDishesModel", "finds", "(I)I"⟩ : MethodName) ∈ qG := qG_s (List.mem_map.mpr ⟨((⟨"FarDishesModel", "finds", "(I)I"⟩ : MethodName), 28), List.mem_of_getElem? (i := 36) rfl, rfl⟩) rfl
theorem gw_717 : (Jvm.Cond.constant "FarDishesModel" (82 : Nat) (-1000002 : Int32)) ∈ qG := qG_t (gt_6 (List.mem_of_getElem? (i := 28) rfl)) rfl
theorem gw_718 : (Jvm.Cond.code ({ cls := "FarDishesModel", name := "isDish", desc := "(I)Z" } : Jvm.MethodName) prog_14_method_5_code (2 : Nat) (Option.some Jvm.ClassFile.FieldType.boolean)) ∈ qG := qG_t (gt_6 (List.mem_of_getElem? (i := 36) rfl)) rfl
theorem gw_719 : (Jvm.Cond.methodLink "FarDishesModel" (83 : Nat) ({ cls := "FarDishesModel", name := "isDish", desc := "(I)Z" } : Jvm.MethodName)) ∈ qG := qG_t (gt_6 (List.mem_of_getElem? (i := 33) rfl)) rfl
theorem gw_720 : (Jvm.Cond.instanceMethod ({ cls := "FarDishesModel", name := "isDish", desc := "(I)Z" } : Jvm.MethodName)) ∈ qG := qG_t (gt_6 (List.mem_of_getElem? (i := 35) rfl)) rfl
theorem gw_721 : Cond.selects (⟨"FarDishesModel", "isDish", "(I)Z"⟩ : MethodName).cls (⟨"FarDishesModel", "isDish", "(I)Z"⟩ : MethodName) (⟨"FarDishesModel", "isDish", "(I)Z"⟩ : MethodName) ∈ qG := qG_s (List.mem_map.mpr ⟨((⟨"FarDishesModel", "isDish", "(I)Z"⟩ : MethodName), 28), List.mem_of_getElem? (i := 37) rfl, rfl⟩) rfl
theorem gw_722 : (Jvm.Cond.code ({ cls := "FarDishesModel", name := "running", desc := "(I)I" } : Jvm.MethodName) prog_14_method_13_code (4 : Nat) (Option.some Jvm.ClassFile.FieldType.int)) ∈ qG := qG_t (gt_6 (List.mem_of_getElem? (i := 44) rfl)) rfl
theorem gw_723 : (Jvm.Cond.methodLink "FarDishesModel" (86 : Nat) ({ cls := "FarDishesModel", name := "running", desc := "(I)I" } : Jvm.MethodName)) ∈ qG := qG_t (gt_6 (List.mem_of_getElem? (i := 41) rfl)) rfl
theorem gw_724 : (Jvm.Cond.instanceMethod ({ cls := "FarDishesModel", name := "running", desc := "(I)I" } : Jvm.MethodName)) ∈ qG := qG_t (gt_6 (List.mem_of_getElem? (i := 43) rfl)) rfl
theorem gw_725 : Cond.selects (⟨"FarDishesModel", "running", "(I)I"⟩ : MethodName).cls (⟨"FarDishesModel", "running", "(I)I"⟩ : MethodName) (⟨"FarDishesModel", "running", "(I)I"⟩ : MethodName) ∈ qG := qG_s (List.mem_map.mpr ⟨((⟨"FarDishesModel", "running", "(I)I"⟩ : MethodName), 28), List.mem_of_getElem? (i := 38) rfl, rfl⟩) rfl
theorem gw_726 : (Jvm.Cond.code ({ cls := "FarDishesModel", name := "isCraft", desc := "(I)Z" } : Jvm.MethodName) prog_14_method_6_code (2 : Nat) (Option.some Jvm.ClassFile.FieldType.boolean)) ∈ qG := qG_t (gt_6 (List.mem_of_getElem? (i := 56) rfl)) rfl
theorem gw_727 : (Jvm.Cond.methodLink "FarDishesModel" (89 : Nat) ({ cls := "FarDishesModel", name := "isCraft", desc := "(I)Z" } : Jvm.MethodName)) ∈ qG := qG_t (gt_6 (List.mem_of_getElem? (i := 53) rfl)) rfl
theorem gw_728 : (Jvm.Cond.instanceMethod ({ cls := "FarDishesModel", name := "isCraft", desc := "(I)Z" } : Jvm.MethodName)) ∈ qG := qG_t (gt_6 (List.mem_of_getElem? (i := 55) rfl)) rfl
theorem gw_729 : Cond.selects (⟨"FarDishesModel", "isCraft", "(I)Z"⟩ : MethodName).cls (⟨"FarDishesModel", "isCraft", "(I)Z"⟩ : MethodName) (⟨"FarDishesModel", "isCraft", "(I)Z"⟩ : MethodName) ∈ qG := qG_s (List.mem_map.mpr ⟨((⟨"FarDishesModel", "isCraft", "(I)Z"⟩ : MethodName), 28), List.mem_of_getElem? (i := 39) rfl, rfl⟩) rfl
theorem gw_730 : (Jvm.Cond.code ({ cls := "FarDishesModel", name := "since", desc := "(III)I" } : Jvm.MethodName) prog_14_method_18_code (4 : Nat) (Option.some Jvm.ClassFile.FieldType.int)) ∈ qG := qG_t (gt_6 (List.mem_of_getElem? (i := 75) rfl)) rfl
theorem gw_731 : (Jvm.Cond.methodLink "FarDishesModel" (92 : Nat) ({ cls := "FarDishesModel", name := "since", desc := "(III)I" } : Jvm.MethodName)) ∈ qG := qG_t (gt_6 (List.mem_of_getElem? (i := 72) rfl)) rfl
theorem gw_732 : (Jvm.Cond.instanceMethod ({ cls := "FarDishesModel", name := "since", desc := "(III)I" } : Jvm.MethodName)) ∈ qG := qG_t (gt_6 (List.mem_of_getElem? (i := 74) rfl)) rfl
theorem gw_733 : Cond.selects (⟨"FarDishesModel", "since", "(III)I"⟩ : MethodName).cls (⟨"FarDishesModel", "since", "(III)I"⟩ : MethodName) (⟨"FarDishesModel", "since", "(III)I"⟩ : MethodName) ∈ qG := qG_s (List.mem_map.mpr ⟨((⟨"FarDishesModel", "since", "(III)I"⟩ : MethodName), 28), List.mem_of_getElem? (i := 41) rfl, rfl⟩) rfl
theorem gw_734 : (Jvm.Cond.code ({ cls := "FarDishesModel", name := "isHour", desc := "(I)Z" } : Jvm.MethodName) prog_14_method_8_code (1 : Nat) (Option.some Jvm.ClassFile.FieldType.boolean)) ∈ qG := qG_t (gt_6 (List.mem_of_getElem? (i := 67) rfl)) rfl
theorem gw_735 : (Jvm.Cond.methodLink "FarDishesModel" (96 : Nat) ({ cls := "FarDishesModel", name := "isHour", desc := "(I)Z" } : Jvm.MethodName)) ∈ qG := qG_t (gt_6 (List.mem_of_getElem? (i := 65) rfl)) rfl
theorem gw_736 : (Jvm.Cond.static ({ cls := "FarDishesModel", name := "isHour", desc := "(I)Z" } : Jvm.MethodName)) ∈ qG := qG_t (gt_6 (List.mem_of_getElem? (i := 66) rfl)) rfl
theorem gw_737 : (Jvm.Cond.code ({ cls := "FarDishesModel", name := "isUp", desc := "(III)Z" } : Jvm.MethodName) prog_14_method_19_code (4 : Nat) (Option.some Jvm.ClassFile.FieldType.boolean)) ∈ qG := qG_t (gt_6 (List.mem_of_getElem? (i := 71) rfl)) rfl
theorem gw_738 : (Jvm.Cond.methodLink "FarDishesModel" (99 : Nat) ({ cls := "FarDishesModel", name := "isUp", desc := "(III)Z" } : Jvm.MethodName)) ∈ qG := qG_t (gt_6 (List.mem_of_getElem? (i := 68) rfl)) rfl
theorem gw_739 : (Jvm.Cond.instanceMethod ({ cls := "FarDishesModel", name := "isUp", desc := "(III)Z" } : Jvm.MethodName)) ∈ qG := qG_t (gt_6 (List.mem_of_getElem? (i := 70) rfl)) rfl
theorem gw_740 : Cond.selects (⟨"FarDishesModel", "isUp", "(III)Z"⟩ : MethodName).cls (⟨"FarDishesModel", "isUp", "(III)Z"⟩ : MethodName) (⟨"FarDishesModel", "isUp", "(III)Z"⟩ : MethodName) ∈ qG := qG_s (List.mem_map.mpr ⟨((⟨"FarDishesModel", "isUp", "(III)Z"⟩ : MethodName), 28), List.mem_of_getElem? (i := 40) rfl, rfl⟩) rfl
theorem gw_741 : (Jvm.Cond.code ({ cls := "FarDishesModel", name := "risesAt", desc := "(IIII)I" } : Jvm.MethodName) prog_14_method_21_code (7 : Nat) (Option.some Jvm.ClassFile.FieldType.int)) ∈ qG := qG_t (gt_6 (List.mem_of_getElem? (i := 83) rfl)) rfl
theorem gw_742 : (Jvm.Cond.methodLink "FarDishesModel" (102 : Nat) ({ cls := "FarDishesModel", name := "risesAt", desc := "(IIII)I" } : Jvm.MethodName)) ∈ qG := qG_t (gt_6 (List.mem_of_getElem? (i := 80) rfl)) rfl
theorem gw_743 : (Jvm.Cond.instanceMethod ({ cls := "FarDishesModel", name := "risesAt", desc := "(IIII)I" } : Jvm.MethodName)) ∈ qG := qG_t (gt_6 (List.mem_of_getElem? (i := 82) rfl)) rfl
theorem gw_744 : Cond.selects (⟨"FarDishesModel", "risesAt", "(IIII)I"⟩ : MethodName).cls (⟨"FarDishesModel", "risesAt", "(IIII)I"⟩ : MethodName) (⟨"FarDishesModel", "risesAt", "(IIII)I"⟩ : MethodName) ∈ qG := qG_s (List.mem_map.mpr ⟨((⟨"FarDishesModel", "risesAt", "(IIII)I"⟩ : MethodName), 28), List.mem_of_getElem? (i := 42) rfl, rfl⟩) rfl
theorem gw_745 : (Jvm.Cond.constant "FarDishesModel" (106 : Nat) (-1000004 : Int32)) ∈ qG := qG_t (gt_6 (List.mem_of_getElem? (i := 84) rfl)) rfl
theorem gw_746 : (Jvm.Cond.code ({ cls := "FarDishesModel", name := "linkOf", desc := "(III)I" } : Jvm.MethodName) prog_14_method_23_code (5 : Nat) (Option.some Jvm.ClassFile.FieldType.int)) ∈ qG := qG_t (gt_6 (List.mem_of_getElem? (i := 92) rfl)) rfl
theorem gw_747 : (Jvm.Cond.methodLink "FarDishesModel" (107 : Nat) ({ cls := "FarDishesModel", name := "linkOf", desc := "(III)I" } : Jvm.MethodName)) ∈ qG := qG_t (gt_6 (List.mem_of_getElem? (i := 89) rfl)) rfl
theorem gw_748 : (Jvm.Cond.instanceMethod ({ cls := "FarDishesModel", name := "linkOf", desc := "(III)I" } : Jvm.MethodName)) ∈ qG := qG_t (gt_6 (List.mem_of_getElem? (i := 91) rfl)) rfl
theorem gw_749 : Cond.selects (⟨"FarDishesModel", "linkOf", "(III)I"⟩ : MethodName).cls (⟨"FarDishesModel", "linkOf", "(III)I"⟩ : MethodName) (⟨"FarDishesModel", "linkOf", "(III)I"⟩ : MethodName) ∈ qG := qG_s (List.mem_map.mpr ⟨((⟨"FarDishesModel", "linkOf", "(III)I"⟩ : MethodName), 28), List.mem_of_getElem? (i := 43) rfl, rfl⟩) rfl
theorem gw_750 : (Jvm.Cond.fieldLink "FarDishesModel" (110 : Nat) "FarDishesModel" "taped" "I") ∈ qG := qG_t (gt_5 (List.mem_of_getElem? (i := 164) rfl)) rfl
theorem gw_751 : (Jvm.Cond.code ({ cls := "FarDishesModel", name := "byteAt", desc := "(I)I" } : Jvm.MethodName) prog_14_method_27_code (2 : Nat) (Option.some Jvm.ClassFile.FieldType.int)) ∈ qG := qG_t (gt_6 (List.mem_of_getElem? (i := 116) rfl)) rfl
theorem gw_752 : (Jvm.Cond.methodLink "FarDishesModel" (114 : Nat) ({ cls := "FarDishesModel", name := "byteAt", desc := "(I)I" } : Jvm.MethodName)) ∈ qG := qG_t (gt_6 (List.mem_of_getElem? (i := 113) rfl)) rfl
theorem gw_753 : (Jvm.Cond.instanceMethod ({ cls := "FarDishesModel", name := "byteAt", desc := "(I)I" } : Jvm.MethodName)) ∈ qG := qG_t (gt_6 (List.mem_of_getElem? (i := 115) rfl)) rfl
theorem gw_754 : Cond.selects (⟨"FarDishesModel", "byteAt", "(I)I"⟩ : MethodName).cls (⟨"FarDishesModel", "byteAt", "(I)I"⟩ : MethodName) (⟨"FarDishesModel", "byteAt", "(I)I"⟩ : MethodName) ∈ qG := qG_s (List.mem_map.mpr ⟨((⟨"FarDishesModel", "byteAt", "(I)I"⟩ : MethodName), 28), List.mem_of_getElem? (i := 46) rfl, rfl⟩) rfl
theorem gw_755 : (Jvm.Cond.fieldLink "FarDishesModel" (117 : Nat) "FarDishesModel" "begin" "I") ∈ qG := qG_t (gt_5 (List.mem_of_getElem? (i := 171) rfl)) rfl
theorem gw_756 : (Jvm.Cond.fieldLink "FarDishesModel" (120 : Nat) "FarDishesModel" "at" "I") ∈ qG := qG_t (gt_5 (List.mem_of_getElem? (i := 170) rfl)) rfl
theorem gw_757 : (Jvm.Cond.fieldLink "FarDishesModel" (123 : Nat) "FarDishesModel" "tells" "I") ∈ qG := qG_t (gt_5 (List.mem_of_getElem? (i := 173) rfl)) rfl
theorem gw_758 : (Jvm.Cond.fieldLink "FarDishesModel" (126 : Nat) "FarDishesModel" "token" "I") ∈ qG := qG_t (gt_5 (List.mem_of_getElem? (i := 172) rfl)) rfl
theorem gw_759 : (Jvm.Cond.code ({ cls := "FarDishesModel", name := "isLetter", desc := "(I)Z" } : Jvm.MethodName) prog_14_method_28_code (2 : Nat) (Option.some Jvm.ClassFile.FieldType.boolean)) ∈ qG := qG_t (gt_6 (List.mem_of_getElem? (i := 120) rfl)) rfl
theorem gw_760 : (Jvm.Cond.methodLink "FarDishesModel" (129 : Nat) ({ cls := "FarDishesModel", name := "isLetter", desc := "(I)Z" } : Jvm.MethodName)) ∈ qG := qG_t (gt_6 (List.mem_of_getElem? (i := 117) rfl)) rfl
theorem gw_761 : (Jvm.Cond.instanceMethod ({ cls := "FarDishesModel", name := "isLetter", desc := "(I)Z" } : Jvm.MethodName)) ∈ qG := qG_t (gt_6 (List.mem_of_getElem? (i := 119) rfl)) rfl
theorem gw_762 : Cond.selects (⟨"FarDishesModel", "isLetter", "(I)Z"⟩ : MethodName).cls (⟨"FarDishesModel", "isLetter", "(I)Z"⟩ : MethodName) (⟨"FarDishesModel", "isLetter", "(I)Z"⟩ : MethodName) ∈ qG := qG_s (List.mem_map.mpr ⟨((⟨"FarDishesModel", "isLetter", "(I)Z"⟩ : MethodName), 28), List.mem_of_getElem? (i := 47) rfl, rfl⟩) rfl
theorem gw_763 : (Jvm.Cond.code ({ cls := "FarDishesModel", name := "wordOf", desc := "(I)I" } : Jvm.MethodName) prog_14_method_30_code (6 : Nat) (Option.some Jvm.ClassFile.FieldType.int)) ∈ qG := qG_t (gt_6 (List.mem_of_getElem? (i := 124) rfl)) rfl
theorem gw_764 : (Jvm.Cond.methodLink "FarDishesModel" (132 : Nat) ({ cls := "FarDishesModel", name := "wordOf", desc := "(I)I" } : Jvm.MethodName)) ∈ qG := qG_t (gt_6 (List.mem_of_getElem? (i := 121) rfl)) rfl
theorem gw_765 : (Jvm.Cond.instanceMethod ({ cls := "FarDishesModel", name := "wordOf", desc := "(I)I" } : Jvm.MethodName)) ∈ qG := qG_t (gt_6 (List.mem_of_getElem? (i := 123) rfl)) rfl
theorem gw_766 : Cond.selects (⟨"FarDishesModel", "wordOf", "(I)I"⟩ : MethodName).cls (⟨"FarDishesModel", "wordOf", "(I)I"⟩ : MethodName) (⟨"FarDishesModel", "wordOf", "(I)I"⟩ : MethodName) ∈ qG := qG_s (List.mem_map.mpr ⟨((⟨"FarDishesModel", "wordOf", "(I)I"⟩ : MethodName), 28), List.mem_of_getElem? (i := 48) rfl, rfl⟩) rfl
theorem gw_767 : (Jvm.Cond.code ({ cls := "FarDishesModel", name := "isDigit", desc := "(I)Z" } : Jvm.MethodName) prog_14_method_29_code (2 : Nat) (Option.some Jvm.ClassFile.FieldType.boolean)) ∈ qG := qG_t (gt_6 (List.mem_of_getElem? (i := 128) rfl)) rfl
theorem gw_768 : (Jvm.Cond.methodLink "FarDishesModel" (135 : Nat) ({ cls := "FarDishesModel", name := "isDigit", desc := "(I)Z" } : Jvm.MethodName)) ∈ qG := qG_t (gt_6 (List.mem_of_getElem? (i := 125) rfl)) rfl
theorem gw_769 : (Jvm.Cond.instanceMethod ({ cls := "FarDishesModel", name := "isDigit", desc := "(I)Z" } : Jvm.MethodName)) ∈ qG := qG_t (gt_6 (List.mem_of_getElem? (i := 127) rfl)) rfl
theorem gw_770 : Cond.selects (⟨"FarDishesModel", "isDigit", "(I)Z"⟩ : MethodName).cls (⟨"FarDishesModel", "isDigit", "(I)Z"⟩ : MethodName) (⟨"FarDishesModel", "isDigit", "(I)Z"⟩ : MethodName) ∈ qG := qG_s (List.mem_map.mpr ⟨((⟨"FarDishesModel", "isDigit", "(I)Z"⟩ : MethodName), 28), List.mem_of_getElem? (i := 49) rfl, rfl⟩) rfl
theorem gw_771 : (Jvm.Cond.fieldLink "FarDishesModel" (138 : Nat) "FarDishesModel" "fault" "I") ∈ qG := qG_t (gt_5 (List.mem_of_getElem? (i := 174) rfl)) rfl
theorem gw_772 : (Jvm.Cond.code ({ cls := "FarDishesModel", name := "wrong", desc := "()V" } : Jvm.MethodName) prog_14_method_32_code (1 : Nat) (Option.none : Option Jvm.ClassFile.FieldType)) ∈ qG := qG_t (gt_6 (List.mem_of_getElem? (i := 136) rfl)) rfl
theorem gw_773 : (Jvm.Cond.methodLink "FarDishesModel" (141 : Nat) ({ cls := "FarDishesModel", name := "wrong", desc := "()V" } : Jvm.MethodName)) ∈ qG := qG_t (gt_6 (List.mem_of_getElem? (i := 133) rfl)) rfl
theorem gw_774 : (Jvm.Cond.instanceMethod ({ cls := "FarDishesModel", name := "wrong", desc := "()V" } : Jvm.MethodName)) ∈ qG := qG_t (gt_6 (List.mem_of_getElem? (i := 135) rfl)) rfl
theorem gw_775 : Cond.selects (⟨"FarDishesModel", "wrong", "()V"⟩ : MethodName).cls (⟨"FarDishesModel", "wrong", "()V"⟩ : MethodName) (⟨"FarDishesModel", "wrong", "()V"⟩ : MethodName) ∈ qG := qG_s (List.mem_map.mpr ⟨((⟨"FarDishesModel", "wrong", "()V"⟩ : MethodName), 28), List.mem_of_getElem? (i := 51) rfl, rfl⟩) rfl
theorem gw_776 : (Jvm.Cond.code ({ cls := "FarDishesModel", name := "next", desc := "()V" } : Jvm.MethodName) prog_14_method_31_code (1 : Nat) (Option.none : Option Jvm.ClassFile.FieldType)) ∈ qG := qG_t (gt_6 (List.mem_of_getElem? (i := 112) rfl)) rfl
theorem gw_777 : (Jvm.Cond.methodLink "FarDishesModel" (144 : Nat) ({ cls := "FarDishesModel", name := "next", desc := "()V" } : Jvm.MethodName)) ∈ qG := qG_t (gt_6 (List.mem_of_getElem? (i := 109) rfl)) rfl
theorem gw_778 : (Jvm.Cond.instanceMethod ({ cls := "FarDishesModel", name := "next", desc := "()V" } : Jvm.MethodName)) ∈ qG := qG_t (gt_6 (List.mem_of_getElem? (i := 111) rfl)) rfl
theorem gw_779 : Cond.selects (⟨"FarDishesModel", "next", "()V"⟩ : MethodName).cls (⟨"FarDishesModel", "next", "()V"⟩ : MethodName) (⟨"FarDishesModel", "next", "()V"⟩ : MethodName) ∈ qG := qG_s (List.mem_map.mpr ⟨((⟨"FarDishesModel", "next", "()V"⟩ : MethodName), 28), List.mem_of_getElem? (i := 45) rfl, rfl⟩) rfl
theorem gw_780 : (Jvm.Cond.code ({ cls := "FarDishesModel", name := "after", desc := "(III)I" } : Jvm.MethodName) prog_14_method_33_code (5 : Nat) (Option.some Jvm.ClassFile.FieldType.int)) ∈ qG := qG_t (gt_6 (List.mem_of_getElem? (i := 140) rfl)) rfl
theorem gw_781 : (Jvm.Cond.methodLink "FarDishesModel" (147 : Nat) ({ cls := "FarDishesModel", name := "after", desc := "(III)I" } : Jvm.MethodName)) ∈ qG := qG_t (gt_6 (List.mem_of_getElem? (i := 137) rfl)) rfl
theorem gw_782 : (Jvm.Cond.instanceMethod ({ cls := "FarDishesModel", name := "after", desc := "(III)I" } : Jvm.MethodName)) ∈ qG := qG_t (gt_6 (List.mem_of_getElem? (i := 139) rfl)) rfl
theorem gw_783 : Cond.selects (⟨"FarDishesModel", "after", "(III)I"⟩ : MethodName).cls (⟨"FarDishesModel", "after", "(III)I"⟩ : MethodName) (⟨"FarDishesModel", "after", "(III)I"⟩ : MethodName) ∈ qG := qG_s (List.mem_map.mpr ⟨((⟨"FarDishesModel", "after", "(III)I"⟩ : MethodName), 28), List.mem_of_getElem? (i := 52) rfl, rfl⟩) rfl
theorem gw_784 : (Jvm.Cond.code ({ cls := "FarDishesModel", name := "reads", desc := "(I)V" } : Jvm.MethodName) prog_14_method_34_code (2 : Nat) (Option.none : Option Jvm.ClassFile.FieldType)) ∈ qG := qG_t (gt_6 (List.mem_of_getElem? (i := 132) rfl)) rfl
theorem gw_785 : (Jvm.Cond.methodLink "FarDishesModel" (150 : Nat) ({ cls := "FarDishesModel", name := "reads", desc := "(I)V" } : Jvm.MethodName)) ∈ qG := qG_t (gt_6 (List.mem_of_getElem? (i := 129) rfl)) rfl
theorem gw_786 : (Jvm.Cond.instanceMethod ({ cls := "FarDishesModel", name := "reads", desc := "(I)V" } : Jvm.MethodName)) ∈ qG := qG_t (gt_6 (List.mem_of_getElem? (i := 131) rfl)) rfl
theorem gw_787 : Cond.selects (⟨"FarDishesModel", "reads", "(I)V"⟩ : MethodName).cls (⟨"FarDishesModel", "reads", "(I)V"⟩ : MethodName) (⟨"FarDishesModel", "reads", "(I)V"⟩ : MethodName) ∈ qG := qG_s (List.mem_map.mpr ⟨((⟨"FarDishesModel", "reads", "(I)V"⟩ : MethodName), 28), List.mem_of_getElem? (i := 50) rfl, rfl⟩) rfl
theorem gw_788 : (Jvm.Cond.code ({ cls := "FarDishesModel", name := "readAll", desc := "()I" } : Jvm.MethodName) prog_14_method_35_code (3 : Nat) (Option.some Jvm.ClassFile.FieldType.int)) ∈ qG := qG_t (gt_6 (List.mem_of_getElem? (i := 108) rfl)) rfl
theorem gw_789 : (Jvm.Cond.methodLink "FarDishesModel" (154 : Nat) ({ cls := "FarDishesModel", name := "readAll", desc := "()I" } : Jvm.MethodName)) ∈ qG := qG_t (gt_6 (List.mem_of_getElem? (i := 105) rfl)) rfl
theorem gw_790 : (Jvm.Cond.instanceMethod ({ cls := "FarDishesModel", name := "readAll", desc := "()I" } : Jvm.MethodName)) ∈ qG := qG_t (gt_6 (List.mem_of_getElem? (i := 107) rfl)) rfl
theorem gw_791 : Cond.selects (⟨"FarDishesModel", "readAll", "()I"⟩ : MethodName).cls (⟨"FarDishesModel", "readAll", "()I"⟩ : MethodName) (⟨"FarDishesModel", "readAll", "()I"⟩ : MethodName) ∈ qG := qG_s (List.mem_map.mpr ⟨((⟨"FarDishesModel", "readAll", "()I"⟩ : MethodName), 28), List.mem_of_getElem? (i := 44) rfl, rfl⟩) rfl
theorem gw_792 : (Jvm.Cond.code ({ cls := "FarDishesModel", name := "isHear", desc := "(I)Z" } : Jvm.MethodName) prog_14_method_37_code (1 : Nat) (Option.some Jvm.ClassFile.FieldType.boolean)) ∈ qG := qG_t (gt_6 (List.mem_of_getElem? (i := 155) rfl)) rfl
theorem gw_793 : (Jvm.Cond.methodLink "FarDishesModel" (158 : Nat) ({ cls := "FarDishesModel", name := "isHear", desc := "(I)Z" } : Jvm.MethodName)) ∈ qG := qG_t (gt_6 (List.mem_of_getElem? (i := 153) rfl)) rfl
theorem gw_794 : (Jvm.Cond.static ({ cls := "FarDishesModel", name := "isHear", desc := "(I)Z" } : Jvm.MethodName)) ∈ qG := qG_t (gt_6 (List.mem_of_getElem? (i := 154) rfl)) rfl
theorem gw_795 : (Jvm.Cond.code ({ cls := "FarDishesModel", name := "isBoth", desc := "(I)Z" } : Jvm.MethodName) prog_14_method_38_code (1 : Nat) (Option.some Jvm.ClassFile.FieldType.boolean)) ∈ qG := qG_t (gt_6 (List.mem_of_getElem? (i := 158) rfl)) rfl
theorem gw_796 : (Jvm.Cond.methodLink "FarDishesModel" (161 : Nat) ({ cls := "FarDishesModel", name := "isBoth", desc := "(I)Z" } : Jvm.MethodName)) ∈ qG := qG_t (gt_6 (List.mem_of_getElem? (i := 156) rfl)) rfl
theorem gw_797 : (Jvm.Cond.static ({ cls := "FarDishesModel", name := "isBoth", desc := "(I)Z" } : Jvm.MethodName)) ∈ qG := qG_t (gt_6 (List.mem_of_getElem? (i := 157) rfl)) rfl
theorem gw_798 : (Jvm.Cond.code ({ cls := "FarDishesModel", name := "isAsking", desc := "(I)Z" } : Jvm.MethodName) prog_14_method_7_code (2 : Nat) (Option.some Jvm.ClassFile.FieldType.boolean)) ∈ qG := qG_t (gt_6 (List.mem_of_getElem? (i := 148) rfl)) rfl
theorem gw_799 : (Jvm.Cond.methodLink "FarDishesModel" (164 : Nat) ({ cls := "FarDishesModel", name := "isAsking", desc := "(I)Z" } : Jvm.MethodName)) ∈ qG := qG_t (gt_6 (List.mem_of_getElem? (i := 145) rfl)) rfl
theorem gw_800 : (Jvm.Cond.instanceMethod ({ cls := "FarDishesModel", name := "isAsking", desc := "(I)Z" } : Jvm.MethodName)) ∈ qG := qG_t (gt_6 (List.mem_of_getElem? (i := 147) rfl)) rfl
theorem gw_801 : Cond.selects (⟨"FarDishesModel", "isAsking", "(I)Z"⟩ : MethodName).cls (⟨"FarDishesModel", "isAsking", "(I)Z"⟩ : MethodName) (⟨"FarDishesModel", "isAsking", "(I)Z"⟩ : MethodName) ∈ qG := qG_s (List.mem_map.mpr ⟨((⟨"FarDishesModel", "isAsking", "(I)Z"⟩ : MethodName), 28), List.mem_of_getElem? (i := 53) rfl, rfl⟩) rfl
theorem gw_802 : (Jvm.Cond.code ({ cls := "FarDishesModel", name := "weightOf", desc := "(I)I" } : Jvm.MethodName) prog_14_method_39_code (5 : Nat) (Option.some Jvm.ClassFile.FieldType.int)) ∈ qG := qG_t (gt_6 (List.mem_of_getElem? (i := 152) rfl)) rfl
theorem gw_803 : (Jvm.Cond.methodLink "FarDishesModel" (167 : Nat) ({ cls := "FarDishesModel", name := "weightOf", desc := "(I)I" } : Jvm.MethodName)) ∈ qG := qG_t (gt_6 (List.mem_of_getElem? (i := 149) rfl)) rfl
theorem gw_804 : (Jvm.Cond.instanceMethod ({ cls := "FarDishesModel", name := "weightOf", desc := "(I)I" } : Jvm.MethodName)) ∈ qG := qG_t (gt_6 (List.mem_of_getElem? (i := 151) rfl)) rfl
theorem gw_805 : Cond.selects (⟨"FarDishesModel", "weightOf", "(I)I"⟩ : MethodName).cls (⟨"FarDishesModel", "weightOf", "(I)I"⟩ : MethodName) (⟨"FarDishesModel", "weightOf", "(I)I"⟩ : MethodName) ∈ qG := qG_s (List.mem_map.mpr ⟨((⟨"FarDishesModel", "weightOf", "(I)I"⟩ : MethodName), 28), List.mem_of_getElem? (i := 54) rfl, rfl⟩) rfl
theorem gw_806 : (Jvm.Cond.constant "FarDishesModel" (170 : Nat) (-1000003 : Int32)) ∈ qG := qG_t (gt_6 (List.mem_of_getElem? (i := 163) rfl)) rfl
theorem gw_807 : (Jvm.Cond.constant "FarDishesModel" (171 : Nat) (-1000005 : Int32)) ∈ qG := qG_t (gt_6 (List.mem_of_getElem? (i := 168) rfl)) rfl
theorem gw_808 : (Jvm.Cond.code ({ cls := "FarDishesModel", name := "waits", desc := "(I)V" } : Jvm.MethodName) prog_14_method_42_code (2 : Nat) (Option.none : Option Jvm.ClassFile.FieldType)) ∈ qG := qG_t (gt_6 (List.mem_of_getElem? (i := 172) rfl)) rfl
theorem gw_809 : (Jvm.Cond.methodLink "FarDishesModel" (172 : Nat) ({ cls := "FarDishesModel", name := "waits", desc := "(I)V" } : Jvm.MethodName)) ∈ qG := qG_t (gt_6 (List.mem_of_getElem? (i := 169) rfl)) rfl
theorem gw_810 : (Jvm.Cond.instanceMethod ({ cls := "FarDishesModel", name := "waits", desc := "(I)V" } : Jvm.MethodName)) ∈ qG := qG_t (gt_6 (List.mem_of_getElem? (i := 171) rfl)) rfl
theorem gw_811 : Cond.selects (⟨"FarDishesModel", "waits", "(I)V"⟩ : MethodName).cls (⟨"FarDishesModel", "waits", "(I)V"⟩ : MethodName) (⟨"FarDishesModel", "waits", "(I)V"⟩ : MethodName) ∈ qG := qG_s (List.mem_map.mpr ⟨((⟨"FarDishesModel", "waits", "(I)V"⟩ : MethodName), 28), List.mem_of_getElem? (i := 55) rfl, rfl⟩) rfl
theorem gw_812 : (Jvm.Cond.fieldLink "FarDishesModel" (175 : Nat) "FarDishesModel" "lookedMany" "I") ∈ qG := qG_t (gt_5 (List.mem_of_getElem? (i := 177) rfl)) rfl
theorem gw_813 : (Jvm.Cond.fieldLink "FarDishesModel" (178 : Nat) "FarDishesModel" "bestWeight" "I") ∈ qG := qG_t (gt_5 (List.mem_of_getElem? (i := 183) rfl)) rfl
theorem gw_814 : (Jvm.Cond.fieldLink "FarDishesModel" (181 : Nat) "FarDishesModel" "bestMany" "I") ∈ qG := qG_t (gt_5 (List.mem_of_getElem? (i := 184) rfl)) rfl
theorem gw_815 : (Jvm.Cond.code ({ cls := "FarDishesModel", name := "fits", desc := "(II)I" } : Jvm.MethodName) prog_14_method_46_code (5 : Nat) (Option.some Jvm.ClassFile.FieldType.int)) ∈ qG := qG_t (gt_6 (List.mem_of_getElem? (i := 200) rfl)) rfl
theorem gw_816 : (Jvm.Cond.methodLink "FarDishesModel" (184 : Nat) ({ cls := "FarDishesModel", name := "fits", desc := "(II)I" } : Jvm.MethodName)) ∈ qG := qG_t (gt_6 (List.mem_of_getElem? (i := 197) rfl)) rfl
theorem gw_817 : (Jvm.Cond.instanceMethod ({ cls := "FarDishesModel", name := "fits", desc := "(II)I" } : Jvm.MethodName)) ∈ qG := qG_t (gt_6 (List.mem_of_getElem? (i := 199) rfl)) rfl
theorem gw_818 : Cond.selects (⟨"FarDishesModel", "fits", "(II)I"⟩ : MethodName).cls (⟨"FarDishesModel", "fits", "(II)I"⟩ : MethodName) (⟨"FarDishesModel", "fits", "(II)I"⟩ : MethodName) ∈ qG := qG_s (List.mem_map.mpr ⟨((⟨"FarDishesModel", "fits", "(II)I"⟩ : MethodName), 28), List.mem_of_getElem? (i := 61) rfl, rfl⟩) rfl
theorem gw_819 : (Jvm.Cond.code ({ cls := "FarDishesModel", name := "tries", desc := "(III)V" } : Jvm.MethodName) prog_14_method_47_code (8 : Nat) (Option.none : Option Jvm.ClassFile.FieldType)) ∈ qG := qG_t (gt_6 (List.mem_of_getElem? (i := 196) rfl)) rfl
theorem gw_820 : (Jvm.Cond.methodLink "FarDishesModel" (187 : Nat) ({ cls := "FarDishesModel", name := "tries", desc := "(III)V" } : Jvm.MethodName)) ∈ qG := qG_t (gt_6 (List.mem_of_getElem? (i := 193) rfl)) rfl
theorem gw_821 : (Jvm.Cond.instanceMethod ({ cls := "FarDishesModel", name := "tries", desc := "(III)V" } : Jvm.MethodName)) ∈ qG := qG_t (gt_6 (List.mem_of_getElem? (i := 195) rfl)) rfl
theorem gw_822 : Cond.selects (⟨"FarDishesModel", "tries", "(III)V"⟩ : MethodName).cls (⟨"FarDishesModel", "tries", "(III)V"⟩ : MethodName) (⟨"FarDishesModel", "tries", "(III)V"⟩ : MethodName) ∈ qG := qG_s (List.mem_map.mpr ⟨((⟨"FarDishesModel", "tries", "(III)V"⟩ : MethodName), 28), List.mem_of_getElem? (i := 60) rfl, rfl⟩) rfl
theorem gw_823 : (Jvm.Cond.code ({ cls := "FarDishesModel", name := "findFree", desc := "()V" } : Jvm.MethodName) prog_14_method_45_code (5 : Nat) (Option.none : Option Jvm.ClassFile.FieldType)) ∈ qG := qG_t (gt_6 (List.mem_of_getElem? (i := 192) rfl)) rfl
theorem gw_824 : (Jvm.Cond.methodLink "FarDishesModel" (191 : Nat) ({ cls := "FarDishesModel", name := "findFree", desc := "()V" } : Jvm.MethodName)) ∈ qG := qG_t (gt_6 (List.mem_of_getElem? (i := 189) rfl)) rfl
theorem gw_825 : (Jvm.Cond.instanceMethod ({ cls := "FarDishesModel", name := "findFree", desc := "()V" } : Jvm.MethodName)) ∈ qG := qG_t (gt_6 (List.mem_of_getElem? (i := 191) rfl)) rfl
theorem gw_826 : Cond.selects (⟨"FarDishesModel", "findFree", "()V"⟩ : MethodName).cls (⟨"FarDishesModel", "findFree", "()V"⟩ : MethodName) (⟨"FarDishesModel", "findFree", "()V"⟩ : MethodName) ∈ qG := qG_s (List.mem_map.mpr ⟨((⟨"FarDishesModel", "findFree", "()V"⟩ : MethodName), 28), List.mem_of_getElem? (i := 59) rfl, rfl⟩) rfl
theorem gw_827 : (Jvm.Cond.code ({ cls := "FarDishesModel", name := "looks", desc := "(I)V" } : Jvm.MethodName) prog_14_method_44_code (3 : Nat) (Option.none : Option Jvm.ClassFile.FieldType)) ∈ qG := qG_t (gt_6 (List.mem_of_getElem? (i := 184) rfl)) rfl
theorem gw_828 : (Jvm.Cond.methodLink "FarDishesModel" (194 : Nat) ({ cls := "FarDishesModel", name := "looks", desc := "(I)V" } : Jvm.MethodName)) ∈ qG := qG_t (gt_6 (List.mem_of_getElem? (i := 181) rfl)) rfl
theorem gw_829 : (Jvm.Cond.instanceMethod ({ cls := "FarDishesModel", name := "looks", desc := "(I)V" } : Jvm.MethodName)) ∈ qG := qG_t (gt_6 (List.mem_of_getElem? (i := 183) rfl)) rfl
theorem gw_830 : Cond.selects (⟨"FarDishesModel", "looks", "(I)V"⟩ : MethodName).cls (⟨"FarDishesModel", "looks", "(I)V"⟩ : MethodName) (⟨"FarDishesModel", "looks", "(I)V"⟩ : MethodName) ∈ qG := qG_s (List.mem_map.mpr ⟨((⟨"FarDishesModel", "looks", "(I)V"⟩ : MethodName), 28), List.mem_of_getElem? (i := 57) rfl, rfl⟩) rfl
theorem gw_831 : (Jvm.Cond.code ({ cls := "FarDishesModel", name := "plans", desc := "()V" } : Jvm.MethodName) prog_14_method_48_code (1 : Nat) (Option.none : Option Jvm.ClassFile.FieldType)) ∈ qG := qG_t (gt_6 (List.mem_of_getElem? (i := 188) rfl)) rfl
theorem gw_832 : (Jvm.Cond.methodLink "FarDishesModel" (197 : Nat) ({ cls := "FarDishesModel", name := "plans", desc := "()V" } : Jvm.MethodName)) ∈ qG := qG_t (gt_6 (List.mem_of_getElem? (i := 185) rfl)) rfl
theorem gw_833 : (Jvm.Cond.instanceMethod ({ cls := "FarDishesModel", name := "plans", desc := "()V" } : Jvm.MethodName)) ∈ qG := qG_t (gt_6 (List.mem_of_getElem? (i := 187) rfl)) rfl
theorem gw_834 : Cond.selects (⟨"FarDishesModel", "plans", "()V"⟩ : MethodName).cls (⟨"FarDishesModel", "plans", "()V"⟩ : MethodName) (⟨"FarDishesModel", "plans", "()V"⟩ : MethodName) ∈ qG := qG_s (List.mem_map.mpr ⟨((⟨"FarDishesModel", "plans", "()V"⟩ : MethodName), 28), List.mem_of_getElem? (i := 58) rfl, rfl⟩) rfl
theorem gw_835 : (Jvm.Cond.code ({ cls := "FarDishesModel", name := "placeOf", desc := "(I)I" } : Jvm.MethodName) prog_14_method_50_code (4 : Nat) (Option.some Jvm.ClassFile.FieldType.int)) ∈ qG := qG_t (gt_6 (List.mem_of_getElem? (i := 208) rfl)) rfl
theorem gw_836 : (Jvm.Cond.methodLink "FarDishesModel" (200 : Nat) ({ cls := "FarDishesModel", name := "placeOf", desc := "(I)I" } : Jvm.MethodName)) ∈ qG := qG_t (gt_6 (List.mem_of_getElem? (i := 205) rfl)) rfl
theorem gw_837 : (Jvm.Cond.instanceMethod ({ cls := "FarDishesModel", name := "placeOf", desc := "(I)I" } : Jvm.MethodName)) ∈ qG := qG_t (gt_6 (List.mem_of_getElem? (i := 207) rfl)) rfl
theorem gw_838 : Cond.selects (⟨"FarDishesModel", "placeOf", "(I)I"⟩ : MethodName).cls (⟨"FarDishesModel", "placeOf", "(I)I"⟩ : MethodName) (⟨"FarDishesModel", "placeOf", "(I)I"⟩ : MethodName) ∈ qG := qG_s (List.mem_map.mpr ⟨((⟨"FarDishesModel", "placeOf", "(I)I"⟩ : MethodName), 28), List.mem_of_getElem? (i := 63) rfl, rfl⟩) rfl
theorem gw_839 : (Jvm.Cond.code ({ cls := "FarDishesModel", name := "planNow", desc := "()V" } : Jvm.MethodName) prog_14_method_49_code (1 : Nat) (Option.none : Option Jvm.ClassFile.FieldType)) ∈ qG := qG_t (gt_6 (List.mem_of_getElem? (i := 180) rfl)) rfl
theorem gw_840 : (Jvm.Cond.methodLink "FarDishesModel" (203 : Nat) ({ cls := "FarDishesModel", name := "planNow", desc := "()V" } : Jvm.MethodName)) ∈ qG := qG_t (gt_6 (List.mem_of_getElem? (i := 177) rfl)) rfl
theorem gw_841 : (Jvm.Cond.instanceMethod ({ cls := "FarDishesModel", name := "planNow", desc := "()V" } : Jvm.MethodName)) ∈ qG := qG_t (gt_6 (List.mem_of_getElem? (i := 179) rfl)) rfl
theorem gw_842 : Cond.selects (⟨"FarDishesModel", "planNow", "()V"⟩ : MethodName).cls (⟨"FarDishesModel", "planNow", "()V"⟩ : MethodName) (⟨"FarDishesModel", "planNow", "()V"⟩ : MethodName) ∈ qG := qG_s (List.mem_map.mpr ⟨((⟨"FarDishesModel", "planNow", "()V"⟩ : MethodName), 28), List.mem_of_getElem? (i := 56) rfl, rfl⟩) rfl
theorem gw_843 : (Jvm.Cond.code ({ cls := "FarDishesModel", name := "isIn", desc := "(I)Z" } : Jvm.MethodName) prog_14_method_51_code (3 : Nat) (Option.some Jvm.ClassFile.FieldType.boolean)) ∈ qG := qG_t (gt_6 (List.mem_of_getElem? (i := 204) rfl)) rfl
theorem gw_844 : (Jvm.Cond.methodLink "FarDishesModel" (206 : Nat) ({ cls := "FarDishesModel", name := "isIn", desc := "(I)Z" } : Jvm.MethodName)) ∈ qG := qG_t (gt_6 (List.mem_of_getElem? (i := 201) rfl)) rfl
theorem gw_845 : (Jvm.Cond.instanceMethod ({ cls := "FarDishesModel", name := "isIn", desc := "(I)Z" } : Jvm.MethodName)) ∈ qG := qG_t (gt_6 (List.mem_of_getElem? (i := 203) rfl)) rfl
theorem gw_846 : Cond.selects (⟨"FarDishesModel", "isIn", "(I)Z"⟩ : MethodName).cls (⟨"FarDishesModel", "isIn", "(I)Z"⟩ : MethodName) (⟨"FarDishesModel", "isIn", "(I)Z"⟩ : MethodName) ∈ qG := qG_s (List.mem_map.mpr ⟨((⟨"FarDishesModel", "isIn", "(I)Z"⟩ : MethodName), 28), List.mem_of_getElem? (i := 62) rfl, rfl⟩) rfl
theorem gw_847 : (Jvm.Cond.code ({ cls := "FarDishesModel", name := "inPlan", desc := "()I" } : Jvm.MethodName) prog_14_method_55_code (3 : Nat) (Option.some Jvm.ClassFile.FieldType.int)) ∈ qG := qG_t (gt_6 (List.mem_of_getElem? (i := 224) rfl)) rfl
theorem gw_848 : (Jvm.Cond.methodLink "FarDishesModel" (209 : Nat) ({ cls := "FarDishesModel", name := "inPlan", desc := "()I" } : Jvm.MethodName)) ∈ qG := qG_t (gt_6 (List.mem_of_getElem? (i := 221) rfl)) rfl
theorem gw_849 : (Jvm.Cond.instanceMethod ({ cls := "FarDishesModel", name := "inPlan", desc := "()I" } : Jvm.MethodName)) ∈ qG := qG_t (gt_6 (List.mem_of_getElem? (i := 223) rfl)) rfl
theorem gw_850 : Cond.selects (⟨"FarDishesModel", "inPlan", "()I"⟩ : MethodName).cls (⟨"FarDishesModel", "inPlan", "()I"⟩ : MethodName) (⟨"FarDishesModel", "inPlan", "()I"⟩ : MethodName) ∈ qG := qG_s (List.mem_map.mpr ⟨((⟨"FarDishesModel", "inPlan", "()I"⟩ : MethodName), 28), List.mem_of_getElem? (i := 64) rfl, rfl⟩) rfl
theorem gw_851 : (Jvm.Cond.code ({ cls := "FarDishesModel", name := "isAlone", desc := "(I)Z" } : Jvm.MethodName) prog_14_method_57_code (2 : Nat) (Option.some Jvm.ClassFile.FieldType.boolean)) ∈ qG := qG_t (gt_6 (List.mem_of_getElem? (i := 232) rfl)) rfl
theorem gw_852 : (Jvm.Cond.methodLink "FarDishesModel" (212 : Nat) ({ cls := "FarDishesModel", name := "isAlone", desc := "(I)Z" } : Jvm.MethodName)) ∈ qG := qG_t (gt_6 (List.mem_of_getElem? (i := 229) rfl)) rfl
theorem gw_853 : (Jvm.Cond.instanceMethod ({ cls := "FarDishesModel", name := "isAlone", desc := "(I)Z" } : Jvm.MethodName)) ∈ qG := qG_t (gt_6 (List.mem_of_getElem? (i := 231) rfl)) rfl
theorem gw_854 : Cond.selects (⟨"FarDishesModel", "isAlone", "(I)Z"⟩ : MethodName).cls (⟨"FarDishesModel", "isAlone", "(I)Z"⟩ : MethodName) (⟨"FarDishesModel", "isAlone", "(I)Z"⟩ : MethodName) ∈ qG := qG_s (List.mem_map.mpr ⟨((⟨"FarDishesModel", "isAlone", "(I)Z"⟩ : MethodName), 28), List.mem_of_getElem? (i := 65) rfl, rfl⟩) rfl
theorem gw_855 : (Jvm.Cond.code ({ cls := "FarDishesModel", name := "isSheet", desc := "(I)Z" } : Jvm.MethodName) prog_14_method_87_code (1 : Nat) (Option.some Jvm.ClassFile.FieldType.boolean)) ∈ qG := qG_t (gt_6 (List.mem_of_getElem? (i := 239) rfl)) rfl
theorem gw_856 : (Jvm.Cond.methodLink "FarDishesModel" (215 : Nat) ({ cls := "FarDishesModel", name := "isSheet", desc := "(I)Z" } : Jvm.MethodName)) ∈ qG := qG_t (gt_6 (List.mem_of_getElem? (i := 237) rfl)) rfl
theorem gw_857 : (Jvm.Cond.static ({ cls := "FarDishesModel", name := "isSheet", desc := "(I)Z" } : Jvm.MethodName)) ∈ qG := qG_t (gt_6 (List.mem_of_getElem? (i := 238) rfl)) rfl
theorem gw_858 : (Jvm.Cond.constant "FarDishesModel" (218 : Nat) (-1000006 : Int32)) ∈ qG := qG_t (gt_7 (List.mem_of_getElem? (i := 0) rfl)) rfl
theorem gw_859 : (Jvm.Cond.constant "FarDishesModel" (219 : Nat) (-1000007 : Int32)) ∈ qG := qG_t (gt_7 (List.mem_of_getElem? (i := 1) rfl)) rfl
theorem gw_860 : (Jvm.Cond.code ({ cls := "FarDishesModel", name := "takesOut", desc := "(II)V" } : Jvm.MethodName) prog_14_method_65_code (4 : Nat) (Option.none : Option Jvm.ClassFile.FieldType)) ∈ qG := qG_t (gt_7 (List.mem_of_getElem? (i := 37) rfl)) rfl
theorem gw_861 : (Jvm.Cond.methodLink "FarDishesModel" (220 : Nat) ({ cls := "FarDishesModel", name := "takesOut", desc := "(II)V" } : Jvm.MethodName)) ∈ qG := qG_t (gt_7 (List.mem_of_getElem? (i := 34) rfl)) rfl
theorem gw_862 : (Jvm.Cond.instanceMethod ({ cls := "FarDishesModel", name := "takesOut", desc := "(II)V" } : Jvm.MethodName)) ∈ qG := qG_t (gt_7 (List.mem_of_getElem? (i := 36) rfl)) rfl
theorem gw_863 : Cond.selects (⟨"FarDishesModel", "takesOut", "(II)V"⟩ : MethodName).cls (⟨"FarDishesModel", "takesOut", "(II)V"⟩ : MethodName) (⟨"FarDishesModel", "takesOut", "(II)V"⟩ : MethodName) ∈ qG := qG_s (List.mem_map.mpr ⟨((⟨"FarDishesModel", "takesOut", "(II)V"⟩ : MethodName), 28), List.mem_of_getElem? (i := 71) rfl, rfl⟩) rfl
theorem gw_864 : (Jvm.Cond.code ({ cls := "FarDishesModel", name := "sends", desc := "(II)I" } : Jvm.MethodName) prog_14_method_62_code (9 : Nat) (Option.some Jvm.ClassFile.FieldType.int)) ∈ qG := qG_t (gt_7 (List.mem_of_getElem? (i := 21) rfl)) rfl
theorem gw_865 : (Jvm.Cond.methodLink "FarDishesModel" (224 : Nat) ({ cls := "FarDishesModel", name := "sends", desc := "(II)I" } : Jvm.MethodName)) ∈ qG := qG_t (gt_7 (List.mem_of_getElem? (i := 18) rfl)) rfl
theorem gw_866 : (Jvm.Cond.instanceMethod ({ cls := "FarDishesModel", name := "sends", desc := "(II)I" } : Jvm.MethodName)) ∈ qG := qG_t (gt_7 (List.mem_of_getElem? (i := 20) rfl)) rfl
theorem gw_867 : Cond.selects (⟨"FarDishesModel", "sends", "(II)I"⟩ : MethodName).cls (⟨"FarDishesModel", "sends", "(II)I"⟩ : MethodName) (⟨"FarDishesModel", "sends", "(II)I"⟩ : MethodName) ∈ qG := qG_s (List.mem_map.mpr ⟨((⟨"FarDishesModel", "sends", "(II)I"⟩ : MethodName), 28), List.mem_of_getElem? (i := 67) rfl, rfl⟩) rfl
theorem gw_868 : (Jvm.Cond.code ({ cls := "FarDishesModel", name := "ordersGo", desc := "(I)V" } : Jvm.MethodName) prog_14_method_63_code (6 : Nat) (Option.none : Option Jvm.ClassFile.FieldType)) ∈ qG := qG_t (gt_7 (List.mem_of_getElem? (i := 25) rfl)) rfl
theorem gw_869 : (Jvm.Cond.methodLink "FarDishesModel" (227 : Nat) ({ cls := "FarDishesModel", name := "ordersGo", desc := "(I)V" } : Jvm.MethodName)) ∈ qG := qG_t (gt_7 (List.mem_of_getElem? (i := 22) rfl)) rfl
theorem gw_870 : (Jvm.Cond.instanceMethod ({ cls := "FarDishesModel", name := "ordersGo", desc := "(I)V" } : Jvm.MethodName)) ∈ qG := qG_t (gt_7 (List.mem_of_getElem? (i := 24) rfl)) rfl
theorem gw_871 : Cond.selects (⟨"FarDishesModel", "ordersGo", "(I)V"⟩ : MethodName).cls (⟨"FarDishesModel", "ordersGo", "(I)V"⟩ : MethodName) (⟨"FarDishesModel", "ordersGo", "(I)V"⟩ : MethodName) ∈ qG := qG_s (List.mem_map.mpr ⟨((⟨"FarDishesModel", "ordersGo", "(I)V"⟩ : MethodName), 28), List.mem_of_getElem? (i := 68) rfl, rfl⟩) rfl
theorem gw_872 : (Jvm.Cond.code ({ cls := "FarDishesModel", name := "ordersEnd", desc := "()V" } : Jvm.MethodName) prog_14_method_64_code (6 : Nat) (Option.none : Option Jvm.ClassFile.FieldType)) ∈ qG := qG_t (gt_7 (List.mem_of_getElem? (i := 29) rfl)) rfl
theorem gw_873 : (Jvm.Cond.methodLink "FarDishesModel" (230 : Nat) ({ cls := "FarDishesModel", name := "ordersEnd", desc := "()V" } : Jvm.MethodName)) ∈ qG := qG_t (gt_7 (List.mem_of_getElem? (i := 26) rfl)) rfl
theorem gw_874 : (Jvm.Cond.instanceMethod ({ cls := "FarDishesModel", name := "ordersEnd", desc := "()V" } : Jvm.MethodName)) ∈ qG := qG_t (gt_7 (List.mem_of_getElem? (i := 28) rfl)) rfl
theorem gw_875 : Cond.selects (⟨"FarDishesModel", "ordersEnd", "()V"⟩ : MethodName).cls (⟨"FarDishesModel", "ordersEnd", "()V"⟩ : MethodName) (⟨"FarDishesModel", "ordersEnd", "()V"⟩ : MethodName) ∈ qG := qG_s (List.mem_map.mpr ⟨((⟨"FarDishesModel", "ordersEnd", "()V"⟩ : MethodName), 28), List.mem_of_getElem? (i := 69) rfl, rfl⟩) rfl
theorem gw_876 : (Jvm.Cond.code ({ cls := "FarDishesModel", name := "makes", desc := "(I)V" } : Jvm.MethodName) prog_14_method_66_code (5 : Nat) (Option.none : Option Jvm.ClassFile.FieldType)) ∈ qG := qG_t (gt_7 (List.mem_of_getElem? (i := 33) rfl)) rfl
theorem gw_877 : (Jvm.Cond.methodLink "FarDishesModel" (233 : Nat) ({ cls := "FarDishesModel", name := "makes", desc := "(I)V" } : Jvm.MethodName)) ∈ qG := qG_t (gt_7 (List.mem_of_getElem? (i := 30) rfl)) rfl
theorem gw_878 : (Jvm.Cond.instanceMethod ({ cls := "FarDishesModel", name := "makes", desc := "(I)V" } : Jvm.MethodName)) ∈ qG := qG_t (gt_7 (List.mem_of_getElem? (i := 32) rfl)) rfl
theorem gw_879 : Cond.selects (⟨"FarDishesModel", "makes", "(I)V"⟩ : MethodName).cls (⟨"FarDishesModel", "makes", "(I)V"⟩ : MethodName) (⟨"FarDishesModel", "makes", "(I)V"⟩ : MethodName) ∈ qG := qG_s (List.mem_map.mpr ⟨((⟨"FarDishesModel", "makes", "(I)V"⟩ : MethodName), 28), List.mem_of_getElem? (i := 70) rfl, rfl⟩) rfl
theorem gw_880 : (Jvm.Cond.code ({ cls := "FarDishesModel", name := "goes", desc := "()I" } : Jvm.MethodName) prog_14_method_67_code (6 : Nat) (Option.some Jvm.ClassFile.FieldType.int)) ∈ qG := qG_t (gt_7 (List.mem_of_getElem? (i := 17) rfl)) rfl
theorem gw_881 : (Jvm.Cond.methodLink "FarDishesModel" (236 : Nat) ({ cls := "FarDishesModel", name := "goes", desc := "()I" } : Jvm.MethodName)) ∈ qG := qG_t (gt_7 (List.mem_of_getElem? (i := 14) rfl)) rfl
theorem gw_882 : (Jvm.Cond.instanceMethod ({ cls := "FarDishesModel", name := "goes", desc := "()I" } : Jvm.MethodName)) ∈ qG := qG_t (gt_7 (List.mem_of_getElem? (i := 16) rfl)) rfl
theorem gw_883 : Cond.selects (⟨"FarDishesModel", "goes", "()I"⟩ : MethodName).cls (⟨"FarDishesModel", "goes", "()I"⟩ : MethodName) (⟨"FarDishesModel", "goes", "()I"⟩ : MethodName) ∈ qG := qG_s (List.mem_map.mpr ⟨((⟨"FarDishesModel", "goes", "()I"⟩ : MethodName), 28), List.mem_of_getElem? (i := 66) rfl, rfl⟩) rfl
theorem gw_884 : (Jvm.Cond.code ({ cls := "FarDishesModel", name := "keeps", desc := "([I[I)V" } : Jvm.MethodName) prog_14_method_71_code (4 : Nat) (Option.none : Option Jvm.ClassFile.FieldType)) ∈ qG := qG_t (gt_7 (List.mem_of_getElem? (i := 53) rfl)) rfl
theorem gw_885 : (Jvm.Cond.methodLink "FarDishesModel" (239 : Nat) ({ cls := "FarDishesModel", name := "keeps", desc := "([I[I)V" } : Jvm.MethodName)) ∈ qG := qG_t (gt_7 (List.mem_of_getElem? (i := 50) rfl)) rfl
theorem gw_886 : (Jvm.Cond.instanceMethod ({ cls := "FarDishesModel", name := "keeps", desc := "([I[I)V" } : Jvm.MethodName)) ∈ qG := qG_t (gt_7 (List.mem_of_getElem? (i := 52) rfl)) rfl
theorem gw_887 : Cond.selects (⟨"FarDishesModel", "keeps", "([I[I)V"⟩ : MethodName).cls (⟨"FarDishesModel", "keeps", "([I[I)V"⟩ : MethodName) (⟨"FarDishesModel", "keeps", "([I[I)V"⟩ : MethodName) ∈ qG := qG_s (List.mem_map.mpr ⟨((⟨"FarDishesModel", "keeps", "([I[I)V"⟩ : MethodName), 28), List.mem_of_getElem? (i := 72) rfl, rfl⟩) rfl
theorem gw_888 : (Jvm.Cond.code ({ cls := "FarDishesModel", name := "isOrder", desc := "(II)Z" } : Jvm.MethodName) prog_14_method_74_code (3 : Nat) (Option.some Jvm.ClassFile.FieldType.boolean)) ∈ qG := qG_t (gt_7 (List.mem_of_getElem? (i := 65) rfl)) rfl
theorem gw_889 : (Jvm.Cond.methodLink "FarDishesModel" (243 : Nat) ({ cls := "FarDishesModel", name := "isOrder", desc := "(II)Z" } : Jvm.MethodName)) ∈ qG := qG_t (gt_7 (List.mem_of_getElem? (i := 62) rfl)) rfl
theorem gw_890 : (Jvm.Cond.instanceMethod ({ cls := "FarDishesModel", name := "isOrder", desc := "(II)Z" } : Jvm.MethodName)) ∈ qG := qG_t (gt_7 (List.mem_of_getElem? (i := 64) rfl)) rfl
theorem gw_891 : Cond.selects (⟨"FarDishesModel", "isOrder", "(II)Z"⟩ : MethodName).cls (⟨"FarDishesModel", "isOrder", "(II)Z"⟩ : MethodName) (⟨"FarDishesModel", "isOrder", "(II)Z"⟩ : MethodName) ∈ qG := qG_s (List.mem_map.mpr ⟨((⟨"FarDishesModel", "isOrder", "(II)Z"⟩ : MethodName), 28), List.mem_of_getElem? (i := 73) rfl, rfl⟩) rfl
theorem gw_892 : (Jvm.Cond.code ({ cls := "FarDishesModel", name := "isTableState", desc := "(I)Z" } : Jvm.MethodName) prog_14_method_77_code (1 : Nat) (Option.some Jvm.ClassFile.FieldType.boolean)) ∈ qG := qG_t (gt_7 (List.mem_of_getElem? (i := 76) rfl)) rfl
theorem gw_893 : (Jvm.Cond.methodLink "FarDishesModel" (247 : Nat) ({ cls := "FarDishesModel", name := "isTableState", desc := "(I)Z" } : Jvm.MethodName)) ∈ qG := qG_t (gt_7 (List.mem_of_getElem? (i := 74) rfl)) rfl
theorem gw_894 : (Jvm.Cond.static ({ cls := "FarDishesModel", name := "isTableState", desc := "(I)Z" } : Jvm.MethodName)) ∈ qG := qG_t (gt_7 (List.mem_of_getElem? (i := 75) rfl)) rfl
theorem gw_895 : (Jvm.Cond.code ({ cls := "FarDishesModel", name := "daysOf", desc := "(II)I" } : Jvm.MethodName) prog_14_method_79_code (5 : Nat) (Option.some Jvm.ClassFile.FieldType.int)) ∈ qG := qG_t (gt_7 (List.mem_of_getElem? (i := 84) rfl)) rfl
theorem gw_896 : (Jvm.Cond.methodLink "FarDishesModel" (250 : Nat) ({ cls := "FarDishesModel", name := "daysOf", desc := "(II)I" } : Jvm.MethodName)) ∈ qG := qG_t (gt_7 (List.mem_of_getElem? (i := 81) rfl)) rfl
theorem gw_897 : (Jvm.Cond.instanceMethod ({ cls := "FarDishesModel", name := "daysOf", desc := "(II)I" } : Jvm.MethodName)) ∈ qG := qG_t (gt_7 (List.mem_of_getElem? (i := 83) rfl)) rfl
theorem gw_898 : Cond.selects (⟨"FarDishesModel", "daysOf", "(II)I"⟩ : MethodName).cls (⟨"FarDishesModel", "daysOf", "(II)I"⟩ : MethodName) (⟨"FarDishesModel", "daysOf", "(II)I"⟩ : MethodName) ∈ qG := qG_s (List.mem_map.mpr ⟨((⟨"FarDishesModel", "daysOf", "(II)I"⟩ : MethodName), 28), List.mem_of_getElem? (i := 74) rfl, rfl⟩) rfl
theorem gw_899 : (Jvm.Cond.code ({ cls := "FarDishesModel", name := "nextCell", desc := "(I)I" } : Jvm.MethodName) prog_14_method_83_code (5 : Nat) (Option.some Jvm.ClassFile.FieldType.int)) ∈ qG := qG_t (gt_7 (List.mem_of_getElem? (i := 100) rfl)) rfl
theorem gw_900 : (Jvm.Cond.methodLink "FarDishesModel" (253 : Nat) ({ cls := "FarDishesModel", name := "nextCell", desc := "(I)I" } : Jvm.MethodName)) ∈ qG := qG_t (gt_7 (List.mem_of_getElem? (i := 97) rfl)) rfl
theorem gw_901 : (Jvm.Cond.instanceMethod ({ cls := "FarDishesModel", name := "nextCell", desc := "(I)I" } : Jvm.MethodName)) ∈ qG := qG_t (gt_7 (List.mem_of_getElem? (i := 99) rfl)) rfl
theorem gw_902 : Cond.selects (⟨"FarDishesModel", "nextCell", "(I)I"⟩ : MethodName).cls (⟨"FarDishesModel", "nextCell", "(I)I"⟩ : MethodName) (⟨"FarDishesModel", "nextCell", "(I)I"⟩ : MethodName) ∈ qG := qG_s (List.mem_map.mpr ⟨((⟨"FarDishesModel", "nextCell", "(I)I"⟩ : MethodName), 28), List.mem_of_getElem? (i := 75) rfl, rfl⟩) rfl
theorem gw_903 : (Jvm.Cond.fieldLink "FarDishesModel" (256 : Nat) "FarDishesModel" "hasImage" "Z") ∈ qG := qG_t (gt_5 (List.mem_of_getElem? (i := 162) rfl)) rfl
theorem gw_904 : (Jvm.Cond.code ({ cls := "FarDishesModel", name := "manyIn", desc := "(I)I" } : Jvm.MethodName) prog_14_method_94_code (4 : Nat) (Option.some Jvm.ClassFile.FieldType.int)) ∈ qG := qG_t (gt_7 (List.mem_of_getElem? (i := 140) rfl)) rfl
theorem gw_905 : (Jvm.Cond.methodLink "FarDishesModel" (260 : Nat) ({ cls := "FarDishesModel", name := "manyIn", desc := "(I)I" } : Jvm.MethodName)) ∈ qG := qG_t (gt_7 (List.mem_of_getElem? (i := 137) rfl)) rfl
theorem gw_906 : (Jvm.Cond.instanceMethod ({ cls := "FarDishesModel", name := "manyIn", desc := "(I)I" } : Jvm.MethodName)) ∈ qG := qG_t (gt_7 (List.mem_of_getElem? (i := 139) rfl)) rfl
theorem gw_907 : Cond.selects (⟨"FarDishesModel", "manyIn", "(I)I"⟩ : MethodName).cls (⟨"FarDishesModel", "manyIn", "(I)I"⟩ : MethodName) (⟨"FarDishesModel", "manyIn", "(I)I"⟩ : MethodName) ∈ qG := qG_s (List.mem_map.mpr ⟨((⟨"FarDishesModel", "manyIn", "(I)I"⟩ : MethodName), 28), List.mem_of_getElem? (i := 76) rfl, rfl⟩) rfl
theorem gw_908 : (Jvm.Cond.classLink "FarDishesLaw" (7 : Nat) "FarDishes") ∈ qG := qG_t (gt_1 (List.mem_of_getElem? (i := 20) rfl)) rfl
theorem gw_909 : (Jvm.Cond.instantiable "FarDishes" (8 : Nat)) ∈ qG := qG_t (gt_1 (List.mem_of_getElem? (i := 21) rfl)) rfl
theorem gw_910 : (Jvm.Cond.code ({ cls := "FarDishes", name := "<init>", desc := "()V" } : Jvm.MethodName) prog_1_method_1_code (2 : Nat) (Option.none : Option Jvm.ClassFile.FieldType)) ∈ qG := qG_t (gt_1 (List.mem_of_getElem? (i := 24) rfl)) rfl
theorem gw_911 : (Jvm.Cond.methodLink "FarDishesLaw" (9 : Nat) ({ cls := "FarDishes", name := "<init>", desc := "()V" } : Jvm.MethodName)) ∈ qG := qG_t (gt_1 (List.mem_of_getElem? (i := 22) rfl)) rfl
theorem gw_912 : (Jvm.Cond.instanceMethod ({ cls := "FarDishes", name := "<init>", desc := "()V" } : Jvm.MethodName)) ∈ qG := qG_t (gt_1 (List.mem_of_getElem? (i := 23) rfl)) rfl
theorem gw_913 : (Jvm.Cond.classLink "FarDishesLaw" (10 : Nat) "FarDishesModel") ∈ qG := qG_t (gt_5 (List.mem_of_getElem? (i := 153) rfl)) rfl
theorem gw_914 : (Jvm.Cond.instantiable "FarDishesModel" (28 : Nat)) ∈ qG := qG_t (gt_5 (List.mem_of_getElem? (i := 154) rfl)) rfl
theorem gw_915 : (Jvm.Cond.code ({ cls := "FarDishesModel", name := "<init>", desc := "()V" } : Jvm.MethodName) prog_14_method_1_code (3 : Nat) (Option.none : Option Jvm.ClassFile.FieldType)) ∈ qG := qG_t (gt_5 (List.mem_of_getElem? (i := 157) rfl)) rfl
theorem gw_916 : (Jvm.Cond.methodLink "FarDishesLaw" (12 : Nat) ({ cls := "FarDishesModel", name := "<init>", desc := "()V" } : Jvm.MethodName)) ∈ qG := qG_t (gt_5 (List.mem_of_getElem? (i := 155) rfl)) rfl
theorem gw_917 : (Jvm.Cond.instanceMethod ({ cls := "FarDishesModel", name := "<init>", desc := "()V" } : Jvm.MethodName)) ∈ qG := qG_t (gt_5 (List.mem_of_getElem? (i := 156) rfl)) rfl
theorem gw_918 : (Jvm.Cond.code ({ cls := "FarDishes", name := "rain", desc := "(III)I" } : Jvm.MethodName) prog_1_method_2_code (4 : Nat) (Option.some Jvm.ClassFile.FieldType.int)) ∈ qG := qG_t (gt_2 (List.mem_of_getElem? (i := 195) rfl)) rfl
theorem gw_919 : (Jvm.Cond.methodLink "FarDishesLaw" (13 : Nat) ({ cls := "FarDishes", name := "rain", desc := "(III)I" } : Jvm.MethodName)) ∈ qG := qG_t (gt_2 (List.mem_of_getElem? (i := 192) rfl)) rfl
theorem gw_920 : (Jvm.Cond.instanceMethod ({ cls := "FarDishes", name := "rain", desc := "(III)I" } : Jvm.MethodName)) ∈ qG := qG_t (gt_2 (List.mem_of_getElem? (i := 193) rfl)) rfl
theorem gw_921 : (Jvm.Cond.selects "FarDishes" ({ cls := "FarDishes", name := "rain", desc := "(III)I" } : Jvm.MethodName) ({ cls := "FarDishes", name := "rain", desc := "(III)I" } : Jvm.MethodName)) ∈ qG := qG_t (gt_2 (List.mem_of_getElem? (i := 194) rfl)) rfl
theorem gw_922 : (Jvm.Cond.code ({ cls := "FarDishesModel", name := "rain", desc := "(III)I" } : Jvm.MethodName) prog_14_method_10_code (4 : Nat) (Option.some Jvm.ClassFile.FieldType.int)) ∈ qG := qG_t (gt_6 (List.mem_of_getElem? (i := 8) rfl)) rfl
theorem gw_923 : (Jvm.Cond.methodLink "FarDishesLaw" (17 : Nat) ({ cls := "FarDishesModel", name := "rain", desc := "(III)I" } : Jvm.MethodName)) ∈ qG := qG_t (gt_6 (List.mem_of_getElem? (i := 5) rfl)) rfl
theorem gw_924 : (Jvm.Cond.instanceMethod ({ cls := "FarDishesModel", name := "rain", desc := "(III)I" } : Jvm.MethodName)) ∈ qG := qG_t (gt_6 (List.mem_of_getElem? (i := 6) rfl)) rfl
theorem gw_925 : (Jvm.Cond.selects "FarDishesModel" ({ cls := "FarDishesModel", name := "rain", desc := "(III)I" } : Jvm.MethodName) ({ cls := "FarDishesModel", name := "rain", desc := "(III)I" } : Jvm.MethodName)) ∈ qG := qG_t (gt_6 (List.mem_of_getElem? (i := 7) rfl)) rfl
theorem gw_926 : (Jvm.Cond.code ({ cls := "FarDishes", name := "dish", desc := "(III)I" } : Jvm.MethodName) prog_1_method_3_code (4 : Nat) (Option.some Jvm.ClassFile.FieldType.int)) ∈ qG := qG_t (gt_2 (List.mem_of_getElem? (i := 211) rfl)) rfl
theorem gw_927 : (Jvm.Cond.methodLink "FarDishesLaw" (18 : Nat) ({ cls := "FarDishes", name := "dish", desc := "(III)I" } : Jvm.MethodName)) ∈ qG := qG_t (gt_2 (List.mem_of_getElem? (i := 208) rfl)) rfl
theorem gw_928 : (Jvm.Cond.instanceMethod ({ cls := "FarDishes", name := "dish", desc := "(III)I" } : Jvm.MethodName)) ∈ qG := qG_t (gt_2 (List.mem_of_getElem? (i := 209) rfl)) rfl
theorem gw_929 : (Jvm.Cond.selects "FarDishes" ({ cls := "FarDishes", name := "dish", desc := "(III)I" } : Jvm.MethodName) ({ cls := "FarDishes", name := "dish", desc := "(III)I" } : Jvm.MethodName)) ∈ qG := qG_t (gt_2 (List.mem_of_getElem? (i := 210) rfl)) rfl
theorem gw_930 : (Jvm.Cond.code ({ cls := "FarDishesModel", name := "dish", desc := "(III)I" } : Jvm.MethodName) prog_14_method_11_code (5 : Nat) (Option.some Jvm.ClassFile.FieldType.int)) ∈ qG := qG_t (gt_6 (List.mem_of_getElem? (i := 27) rfl)) rfl
theorem gw_931 : (Jvm.Cond.methodLink "FarDishesLaw" (21 : Nat) ({ cls := "FarDishesModel", name := "dish", desc := "(III)I" } : Jvm.MethodName)) ∈ qG := qG_t (gt_6 (List.mem_of_getElem? (i := 24) rfl)) rfl
theorem gw_932 : (Jvm.Cond.instanceMethod ({ cls := "FarDishesModel", name := "dish", desc := "(III)I" } : Jvm.MethodName)) ∈ qG := qG_t (gt_6 (List.mem_of_getElem? (i := 25) rfl)) rfl
theorem gw_933 : (Jvm.Cond.selects "FarDishesModel" ({ cls := "FarDishesModel", name := "dish", desc := "(III)I" } : Jvm.MethodName) ({ cls := "FarDishesModel", name := "dish", desc := "(III)I" } : Jvm.MethodName)) ∈ qG := qG_t (gt_6 (List.mem_of_getElem? (i := 26) rfl)) rfl
theorem gw_934 : (Jvm.Cond.code ({ cls := "FarDishes", name := "mend", desc := "(IZ)I" } : Jvm.MethodName) prog_1_method_4_code (5 : Nat) (Option.some Jvm.ClassFile.FieldType.int)) ∈ qG := qG_t (gt_2 (List.mem_of_getElem? (i := 224) rfl)) rfl
theorem gw_935 : (Jvm.Cond.methodLink "FarDishesLaw" (22 : Nat) ({ cls := "FarDishes", name := "mend", desc := "(IZ)I" } : Jvm.MethodName)) ∈ qG := qG_t (gt_2 (List.mem_of_getElem? (i := 221) rfl)) rfl
theorem gw_936 : (Jvm.Cond.instanceMethod ({ cls := "FarDishes", name := "mend", desc := "(IZ)I" } : Jvm.MethodName)) ∈ qG := qG_t (gt_2 (List.mem_of_getElem? (i := 222) rfl)) rfl
theorem gw_937 : (Jvm.Cond.selects "FarDishes" ({ cls := "FarDishes", name := "mend", desc := "(IZ)I" } : Jvm.MethodName) ({ cls := "FarDishes", name := "mend", desc := "(IZ)I" } : Jvm.MethodName)) ∈ qG := qG_t (gt_2 (List.mem_of_getElem? (i := 223) rfl)) rfl
theorem gw_938 : (Jvm.Cond.code ({ cls := "FarDishesModel", name := "mend", desc := "(IZ)I" } : Jvm.MethodName) prog_14_method_12_code (4 : Nat) (Option.some Jvm.ClassFile.FieldType.int)) ∈ qG := qG_t (gt_6 (List.mem_of_getElem? (i := 32) rfl)) rfl
theorem gw_939 : (Jvm.Cond.methodLink "FarDishesLaw" (26 : Nat) ({ cls := "FarDishesModel", name := "mend", desc := "(IZ)I" } : Jvm.MethodName)) ∈ qG := qG_t (gt_6 (List.mem_of_getElem? (i := 29) rfl)) rfl
theorem gw_940 : (Jvm.Cond.instanceMethod ({ cls := "FarDishesModel", name := "mend", desc := "(IZ)I" } : Jvm.MethodName)) ∈ qG := qG_t (gt_6 (List.mem_of_getElem? (i := 30) rfl)) rfl
theorem gw_941 : (Jvm.Cond.selects "FarDishesModel" ({ cls := "FarDishesModel", name := "mend", desc := "(IZ)I" } : Jvm.MethodName) ({ cls := "FarDishesModel", name := "mend", desc := "(IZ)I" } : Jvm.MethodName)) ∈ qG := qG_t (gt_6 (List.mem_of_getElem? (i := 31) rfl)) rfl
theorem gw_942 : (Jvm.Cond.code ({ cls := "FarDishes", name := "dishIs", desc := "(II)I" } : Jvm.MethodName) prog_1_method_5_code (4 : Nat) (Option.some Jvm.ClassFile.FieldType.int)) ∈ qG := qG_t (gt_2 (List.mem_of_getElem? (i := 232) rfl)) rfl
theorem gw_943 : (Jvm.Cond.methodLink "FarDishesLaw" (27 : Nat) ({ cls := "FarDishes", name := "dishIs", desc := "(II)I" } : Jvm.MethodName)) ∈ qG := qG_t (gt_2 (List.mem_of_getElem? (i := 229) rfl)) rfl
theorem gw_944 : (Jvm.Cond.instanceMethod ({ cls := "FarDishes", name := "dishIs", desc := "(II)I" } : Jvm.MethodName)) ∈ qG := qG_t (gt_2 (List.mem_of_getElem? (i := 230) rfl)) rfl
theorem gw_945 : (Jvm.Cond.selects "FarDishes" ({ cls := "FarDishes", name := "dishIs", desc := "(II)I" } : Jvm.MethodName) ({ cls := "FarDishes", name := "dishIs", desc := "(II)I" } : Jvm.MethodName)) ∈ qG := qG_t (gt_2 (List.mem_of_getElem? (i := 231) rfl)) rfl
theorem gw_946 : (Jvm.Cond.code ({ cls := "FarDishesModel", name := "dishIs", desc := "(II)I" } : Jvm.MethodName) prog_14_method_14_code (3 : Nat) (Option.some Jvm.ClassFile.FieldType.int)) ∈ qG := qG_t (gt_6 (List.mem_of_getElem? (i := 40) rfl)) rfl
theorem gw_947 : (Jvm.Cond.methodLink "FarDishesLaw" (31 : Nat) ({ cls := "FarDishesModel", name := "dishIs", desc := "(II)I" } : Jvm.MethodName)) ∈ qG := qG_t (gt_6 (List.mem_of_getElem? (i := 37) rfl)) rfl
theorem gw_948 : (Jvm.Cond.instanceMethod ({ cls := "FarDishesModel", name := "dishIs", desc := "(II)I" } : Jvm.MethodName)) ∈ qG := qG_t (gt_6 (List.mem_of_getElem? (i := 38) rfl)) rfl
theorem gw_949 : (Jvm.Cond.selects "FarDishesModel" ({ cls := "FarDishesModel", name := "dishIs", desc := "(II)I" } : Jvm.MethodName) ({ cls := "FarDishesModel", name := "dishIs", desc := "(II)I" } : Jvm.MethodName)) ∈ qG := qG_t (gt_6 (List.mem_of_getElem? (i := 39) rfl)) rfl
theorem gw_950 : (Jvm.Cond.code ({ cls := "FarDishes", name := "craft", desc := "(III)I" } : Jvm.MethodName) prog_1_method_6_code (6 : Nat) (Option.some Jvm.ClassFile.FieldType.int)) ∈ qG := qG_t (gt_3 (List.mem_of_getElem? (i := 0) rfl)) rfl
theorem gw_951 : (Jvm.Cond.methodLink "FarDishesLaw" (32 : Nat) ({ cls := "FarDishes", name := "craft", desc := "(III)I" } : Jvm.MethodName)) ∈ qG := qG_t (gt_2 (List.mem_of_getElem? (i := 237) rfl)) rfl
theorem gw_952 : (Jvm.Cond.instanceMethod ({ cls := "FarDishes", name := "craft", desc := "(III)I" } : Jvm.MethodName)) ∈ qG := qG_t (gt_2 (List.mem_of_getElem? (i := 238) rfl)) rfl
theorem gw_953 : (Jvm.Cond.selects "FarDishes" ({ cls := "FarDishes", name := "craft", desc := "(III)I" } : Jvm.MethodName) ({ cls := "FarDishes", name := "craft", desc := "(III)I" } : Jvm.MethodName)) ∈ qG := qG_t (gt_2 (List.mem_of_getElem? (i := 239) rfl)) rfl
theorem gw_954 : (Jvm.Cond.code ({ cls := "FarDishesModel", name := "craft", desc := "(III)I" } : Jvm.MethodName) prog_14_method_15_code (5 : Nat) (Option.some Jvm.ClassFile.FieldType.int)) ∈ qG := qG_t (gt_6 (List.mem_of_getElem? (i := 48) rfl)) rfl
theorem gw_955 : (Jvm.Cond.methodLink "FarDishesLaw" (35 : Nat) ({ cls := "FarDishesModel", name := "craft", desc := "(III)I" } : Jvm.MethodName)) ∈ qG := qG_t (gt_6 (List.mem_of_getElem? (i := 45) rfl)) rfl
theorem gw_956 : (Jvm.Cond.instanceMethod ({ cls := "FarDishesModel", name := "craft", desc := "(III)I" } : Jvm.MethodName)) ∈ qG := qG_t (gt_6 (List.mem_of_getElem? (i := 46) rfl)) rfl
theorem gw_957 : (Jvm.Cond.selects "FarDishesModel" ({ cls := "FarDishesModel", name := "craft", desc := "(III)I" } : Jvm.MethodName) ({ cls := "FarDishesModel", name := "craft", desc := "(III)I" } : Jvm.MethodName)) ∈ qG := qG_t (gt_6 (List.mem_of_getElem? (i := 47) rfl)) rfl
theorem gw_958 : (Jvm.Cond.code ({ cls := "FarDishes", name := "craftIs", desc := "(II)I" } : Jvm.MethodName) prog_1_method_7_code (4 : Nat) (Option.some Jvm.ClassFile.FieldType.int)) ∈ qG := qG_t (gt_3 (List.mem_of_getElem? (i := 20) rfl)) rfl
theorem gw_959 : (Jvm.Cond.methodLink "FarDishesLaw" (36 : Nat) ({ cls := "FarDishes", name := "craftIs", desc := "(II)I" } : Jvm.MethodName)) ∈ qG := qG_t (gt_3 (List.mem_of_getElem? (i := 17) rfl)) rfl
theorem gw_960 : (Jvm.Cond.instanceMethod ({ cls := "FarDishes", name := "craftIs", desc := "(II)I" } : Jvm.MethodName)) ∈ qG := qG_t (gt_3 (List.mem_of_getElem? (i := 18) rfl)) rfl
theorem gw_961 : (Jvm.Cond.selects "FarDishes" ({ cls := "FarDishes", name := "craftIs", desc := "(II)I" } : Jvm.MethodName) ({ cls := "FarDishes", name := "craftIs", desc := "(II)I" } : Jvm.MethodName)) ∈ qG := qG_t (gt_3 (List.mem_of_getElem? (i := 19) rfl)) rfl
theorem gw_962 : (Jvm.Cond.code ({ cls := "FarDishesModel", name := "craftIs", desc := "(II)I" } : Jvm.MethodName) prog_14_method_16_code (5 : Nat) (Option.some Jvm.ClassFile.FieldType.int)) ∈ qG := qG_t (gt_6 (List.mem_of_getElem? (i := 52) rfl)) rfl
theorem gw_963 : (Jvm.Cond.methodLink "FarDishesLaw" (39 : Nat) ({ cls := "FarDishesModel", name := "craftIs", desc := "(II)I" } : Jvm.MethodName)) ∈ qG := qG_t (gt_6 (List.mem_of_getElem? (i := 49) rfl)) rfl
theorem gw_964 : (Jvm.Cond.instanceMethod ({ cls := "FarDishesModel", name := "craftIs", desc := "(II)I" } : Jvm.MethodName)) ∈ qG := qG_t (gt_6 (List.mem_of_getElem? (i := 50) rfl)) rfl
theorem gw_965 : (Jvm.Cond.selects "FarDishesModel" ({ cls := "FarDishesModel", name := "craftIs", desc := "(II)I" } : Jvm.MethodName) ({ cls := "FarDishesModel", name := "craftIs", desc := "(II)I" } : Jvm.MethodName)) ∈ qG := qG_t (gt_6 (List.mem_of_getElem? (i := 51) rfl)) rfl
theorem gw_966 : (Jvm.Cond.code ({ cls := "FarDishes", name := "rises", desc := "(IIII)I" } : Jvm.MethodName) prog_1_method_8_code (5 : Nat) (Option.some Jvm.ClassFile.FieldType.int)) ∈ qG := qG_t (gt_3 (List.mem_of_getElem? (i := 32) rfl)) rfl
theorem gw_967 : (Jvm.Cond.methodLink "FarDishesLaw" (40 : Nat) ({ cls := "FarDishes", name := "rises", desc := "(IIII)I" } : Jvm.MethodName)) ∈ qG := qG_t (gt_3 (List.mem_of_getElem? (i := 29) rfl)) rfl
theorem gw_968 : (Jvm.Cond.instanceMethod ({ cls := "FarDishes", name := "rises", desc := "(IIII)I" } : Jvm.MethodName)) ∈ qG := qG_t (gt_3 (List.mem_of_getElem? (i := 30) rfl)) rfl
theorem gw_969 : (Jvm.Cond.selects "FarDishes" ({ cls := "FarDishes", name := "rises", desc := "(IIII)I" } : Jvm.MethodName) ({ cls := "FarDishes", name := "rises", desc := "(IIII)I" } : Jvm.MethodName)) ∈ qG := qG_t (gt_3 (List.mem_of_getElem? (i := 31) rfl)) rfl
theorem gw_970 : (Jvm.Cond.code ({ cls := "FarDishesModel", name := "rises", desc := "(IIII)I" } : Jvm.MethodName) prog_14_method_17_code (5 : Nat) (Option.some Jvm.ClassFile.FieldType.int)) ∈ qG := qG_t (gt_6 (List.mem_of_getElem? (i := 60) rfl)) rfl
theorem gw_971 : (Jvm.Cond.methodLink "FarDishesLaw" (44 : Nat) ({ cls := "FarDishesModel", name := "rises", desc := "(IIII)I" } : Jvm.MethodName)) ∈ qG := qG_t (gt_6 (List.mem_of_getElem? (i := 57) rfl)) rfl
theorem gw_972 : (Jvm.Cond.instanceMethod ({ cls := "FarDishesModel", name := "rises", desc := "(IIII)I" } : Jvm.MethodName)) ∈ qG := qG_t (gt_6 (List.mem_of_getElem? (i := 58) rfl)) rfl
theorem gw_973 : (Jvm.Cond.selects "FarDishesModel" ({ cls := "FarDishesModel", name := "rises", desc := "(IIII)I" } : Jvm.MethodName) ({ cls := "FarDishesModel", name := "rises", desc := "(IIII)I" } : Jvm.MethodName)) ∈ qG := qG_t (gt_6 (List.mem_of_getElem? (i := 59) rfl)) rfl
theorem gw_974 : (Jvm.Cond.code ({ cls := "FarDishes", name := "up", desc := "(III)I" } : Jvm.MethodName) prog_1_method_9_code (4 : Nat) (Option.some Jvm.ClassFile.FieldType.int)) ∈ qG := qG_t (gt_3 (List.mem_of_getElem? (i := 40) rfl)) rfl
theorem gw_975 : (Jvm.Cond.methodLink "FarDishesLaw" (45 : Nat) ({ cls := "FarDishes", name := "up", desc := "(III)I" } : Jvm.MethodName)) ∈ qG := qG_t (gt_3 (List.mem_of_getElem? (i := 37) rfl)) rfl
theorem gw_976 : (Jvm.Cond.instanceMethod ({ cls := "FarDishes", name := "up", desc := "(III)I" } : Jvm.MethodName)) ∈ qG := qG_t (gt_3 (List.mem_of_getElem? (i := 38) rfl)) rfl
theorem gw_977 : (Jvm.Cond.selects "FarDishes" ({ cls := "FarDishes", name := "up", desc := "(III)I" } : Jvm.MethodName) ({ cls := "FarDishes", name := "up", desc := "(III)I" } : Jvm.MethodName)) ∈ qG := qG_t (gt_3 (List.mem_of_getElem? (i := 39) rfl)) rfl
theorem gw_978 : (Jvm.Cond.code ({ cls := "FarDishesModel", name := "up", desc := "(III)I" } : Jvm.MethodName) prog_14_method_20_code (4 : Nat) (Option.some Jvm.ClassFile.FieldType.int)) ∈ qG := qG_t (gt_6 (List.mem_of_getElem? (i := 64) rfl)) rfl
theorem gw_979 : (Jvm.Cond.methodLink "FarDishesLaw" (48 : Nat) ({ cls := "FarDishesModel", name := "up", desc := "(III)I" } : Jvm.MethodName)) ∈ qG := qG_t (gt_6 (List.mem_of_getElem? (i := 61) rfl)) rfl
theorem gw_980 : (Jvm.Cond.instanceMethod ({ cls := "FarDishesModel", name := "up", desc := "(III)I" } : Jvm.MethodName)) ∈ qG := qG_t (gt_6 (List.mem_of_getElem? (i := 62) rfl)) rfl
theorem gw_981 : (Jvm.Cond.selects "FarDishesModel" ({ cls := "FarDishesModel", name := "up", desc := "(III)I" } : Jvm.MethodName) ({ cls := "FarDishesModel", name := "up", desc := "(III)I" } : Jvm.MethodName)) ∈ qG := qG_t (gt_6 (List.mem_of_getElem? (i := 63) rfl)) rfl
theorem gw_982 : (Jvm.Cond.code ({ cls := "FarDishes", name := "rise", desc := "(IIII)I" } : Jvm.MethodName) prog_1_method_10_code (6 : Nat) (Option.some Jvm.ClassFile.FieldType.int)) ∈ qG := qG_t (gt_3 (List.mem_of_getElem? (i := 52) rfl)) rfl
theorem gw_983 : (Jvm.Cond.methodLink "FarDishesLaw" (49 : Nat) ({ cls := "FarDishes", name := "rise", desc := "(IIII)I" } : Jvm.MethodName)) ∈ qG := qG_t (gt_3 (List.mem_of_getElem? (i := 49) rfl)) rfl
theorem gw_984 : (Jvm.Cond.instanceMethod ({ cls := "FarDishes", name := "rise", desc := "(IIII)I" } : Jvm.MethodName)) ∈ qG := qG_t (gt_3 (List.mem_of_getElem? (i := 50) rfl)) rfl
theorem gw_985 : (Jvm.Cond.selects "FarDishes" ({ cls := "FarDishes", name := "rise", desc := "(IIII)I" } : Jvm.MethodName) ({ cls := "FarDishes", name := "rise", desc := "(IIII)I" } : Jvm.MethodName)) ∈ qG := qG_t (gt_3 (List.mem_of_getElem? (i := 51) rfl)) rfl
theorem gw_986 : (Jvm.Cond.code ({ cls := "FarDishesModel", name := "rise", desc := "(IIII)I" } : Jvm.MethodName) prog_14_method_22_code (6 : Nat) (Option.some Jvm.ClassFile.FieldType.int)) ∈ qG := qG_t (gt_6 (List.mem_of_getElem? (i := 79) rfl)) rfl
theorem gw_987 : (Jvm.Cond.methodLink "FarDishesLaw" (52 : Nat) ({ cls := "FarDishesModel", name := "rise", desc := "(IIII)I" } : Jvm.MethodName)) ∈ qG := qG_t (gt_6 (List.mem_of_getElem? (i := 76) rfl)) rfl
theorem gw_988 : (Jvm.Cond.instanceMethod ({ cls := "FarDishesModel", name := "rise", desc := "(IIII)I" } : Jvm.MethodName)) ∈ qG := qG_t (gt_6 (List.mem_of_getElem? (i := 77) rfl)) rfl
theorem gw_989 : (Jvm.Cond.selects "FarDishesModel" ({ cls := "FarDishesModel", name := "rise", desc := "(IIII)I" } : Jvm.MethodName) ({ cls := "FarDishesModel", name := "rise", desc := "(IIII)I" } : Jvm.MethodName)) ∈ qG := qG_t (gt_6 (List.mem_of_getElem? (i := 78) rfl)) rfl
theorem gw_990 : (Jvm.Cond.code ({ cls := "FarDishes", name := "link", desc := "(III)I" } : Jvm.MethodName) prog_1_method_11_code (4 : Nat) (Option.some Jvm.ClassFile.FieldType.int)) ∈ qG := qG_t (gt_3 (List.mem_of_getElem? (i := 61) rfl)) rfl
theorem gw_991 : (Jvm.Cond.methodLink "FarDishesLaw" (53 : Nat) ({ cls := "FarDishes", name := "link", desc := "(III)I" } : Jvm.MethodName)) ∈ qG := qG_t (gt_3 (List.mem_of_getElem? (i := 58) rfl)) rfl
theorem gw_992 : (Jvm.Cond.instanceMethod ({ cls := "FarDishes", name := "link", desc := "(III)I" } : Jvm.MethodName)) ∈ qG := qG_t (gt_3 (List.mem_of_getElem? (i := 59) rfl)) rfl
theorem gw_993 : (Jvm.Cond.selects "FarDishes" ({ cls := "FarDishes", name := "link", desc := "(III)I" } : Jvm.MethodName) ({ cls := "FarDishes", name := "link", desc := "(III)I" } : Jvm.MethodName)) ∈ qG := qG_t (gt_3 (List.mem_of_getElem? (i := 60) rfl)) rfl
theorem gw_994 : (Jvm.Cond.code ({ cls := "FarDishesModel", name := "link", desc := "(III)I" } : Jvm.MethodName) prog_14_method_24_code (4 : Nat) (Option.some Jvm.ClassFile.FieldType.int)) ∈ qG := qG_t (gt_6 (List.mem_of_getElem? (i := 88) rfl)) rfl
theorem gw_995 : (Jvm.Cond.methodLink "FarDishesLaw" (56 : Nat) ({ cls := "FarDishesModel", name := "link", desc := "(III)I" } : Jvm.MethodName)) ∈ qG := qG_t (gt_6 (List.mem_of_getElem? (i := 85) rfl)) rfl
theorem gw_996 : (Jvm.Cond.instanceMethod ({ cls := "FarDishesModel", name := "link", desc := "(III)I" } : Jvm.MethodName)) ∈ qG := qG_t (gt_6 (List.mem_of_getElem? (i := 86) rfl)) rfl
theorem gw_997 : (Jvm.Cond.selects "FarDishesModel" ({ cls := "FarDishesModel", name := "link", desc := "(III)I" } : Jvm.MethodName) ({ cls := "FarDishesModel", name := "link", desc := "(III)I" } : Jvm.MethodName)) ∈ qG := qG_t (gt_6 (List.mem_of_getElem? (i := 87) rfl)) rfl
theorem gw_998 : (Jvm.Cond.code ({ cls := "FarDishes", name := "feed", desc := "(II)I" } : Jvm.MethodName) prog_1_method_12_code (3 : Nat) (Option.some Jvm.ClassFile.FieldType.int)) ∈ qG := qG_t (gt_3 (List.mem_of_getElem? (i := 72) rfl)) rfl
theorem gw_999 : (Jvm.Cond.methodLink "FarDishesLaw" (57 : Nat) ({ cls := "FarDishes", name := "feed", desc := "(II)I" } : Jvm.MethodName)) ∈ qG := qG_t (gt_3 (List.mem_of_getElem? (i := 69) rfl)) rfl
theorem gw_1000 : (Jvm.Cond.instanceMethod ({ cls := "FarDishes", name := "feed", desc := "(II)I" } : Jvm.MethodName)) ∈ qG := qG_t (gt_3 (List.mem_of_getElem? (i := 70) rfl)) rfl
theorem gw_1001 : (Jvm.Cond.selects "FarDishes" ({ cls := "FarDishes", name := "feed", desc := "(II)I" } : Jvm.MethodName) ({ cls := "FarDishes", name := "feed", desc := "(II)I" } : Jvm.MethodName)) ∈ qG := qG_t (gt_3 (List.mem_of_getElem? (i := 71) rfl)) rfl
theorem gw_1002 : (Jvm.Cond.code ({ cls := "FarDishesModel", name := "feed", desc := "(II)I" } : Jvm.MethodName) prog_14_method_25_code (4 : Nat) (Option.some Jvm.ClassFile.FieldType.int)) ∈ qG := qG_t (gt_6 (List.mem_of_getElem? (i := 96) rfl)) rfl
theorem gw_1003 : (Jvm.Cond.methodLink "FarDishesLaw" (60 : Nat) ({ cls := "FarDishesModel", name := "feed", desc := "(II)I" } : Jvm.MethodName)) ∈ qG := qG_t (gt_6 (List.mem_of_getElem? (i := 93) rfl)) rfl
theorem gw_1004 : (Jvm.Cond.instanceMethod ({ cls := "FarDishesModel", name := "feed", desc := "(II)I" } : Jvm.MethodName)) ∈ qG := qG_t (gt_6 (List.mem_of_getElem? (i := 94) rfl)) rfl
theorem gw_1005 : (Jvm.Cond.selects "FarDishesModel" ({ cls := "FarDishesModel", name := "feed", desc := "(II)I" } : Jvm.MethodName) ({ cls := "FarDishesModel", name := "feed", desc := "(II)I" } : Jvm.MethodName)) ∈ qG := qG_t (gt_6 (List.mem_of_getElem? (i := 95) rfl)) rfl
theorem gw_1006 : (Jvm.Cond.code ({ cls := "FarDishes", name := "wipe", desc := "()I" } : Jvm.MethodName) prog_1_method_13_code (1 : Nat) (Option.some Jvm.ClassFile.FieldType.int)) ∈ qG := qG_t (gt_3 (List.mem_of_getElem? (i := 80) rfl)) rfl
theorem gw_1007 : (Jvm.Cond.methodLink "FarDishesLaw" (61 : Nat) ({ cls := "FarDishes", name := "wipe", desc := "()I" } : Jvm.MethodName)) ∈ qG := qG_t (gt_3 (List.mem_of_getElem? (i := 77) rfl)) rfl
theorem gw_1008 : (Jvm.Cond.instanceMethod ({ cls := "FarDishes", name := "wipe", desc := "()I" } : Jvm.MethodName)) ∈ qG := qG_t (gt_3 (List.mem_of_getElem? (i := 78) rfl)) rfl
theorem gw_1009 : (Jvm.Cond.selects "FarDishes" ({ cls := "FarDishes", name := "wipe", desc := "()I" } : Jvm.MethodName) ({ cls := "FarDishes", name := "wipe", desc := "()I" } : Jvm.MethodName)) ∈ qG := qG_t (gt_3 (List.mem_of_getElem? (i := 79) rfl)) rfl
theorem gw_1010 : (Jvm.Cond.code ({ cls := "FarDishesModel", name := "wipe", desc := "()I" } : Jvm.MethodName) prog_14_method_26_code (2 : Nat) (Option.some Jvm.ClassFile.FieldType.int)) ∈ qG := qG_t (gt_6 (List.mem_of_getElem? (i := 100) rfl)) rfl
theorem gw_1011 : (Jvm.Cond.methodLink "FarDishesLaw" (65 : Nat) ({ cls := "FarDishesModel", name := "wipe", desc := "()I" } : Jvm.MethodName)) ∈ qG := qG_t (gt_6 (List.mem_of_getElem? (i := 97) rfl)) rfl
theorem gw_1012 : (Jvm.Cond.instanceMethod ({ cls := "FarDishesModel", name := "wipe", desc := "()I" } : Jvm.MethodName)) ∈ qG := qG_t (gt_6 (List.mem_of_getElem? (i := 98) rfl)) rfl
theorem gw_1013 : (Jvm.Cond.selects "FarDishesModel" ({ cls := "FarDishesModel", name := "wipe", desc := "()I" } : Jvm.MethodName) ({ cls := "FarDishesModel", name := "wipe", desc := "()I" } : Jvm.MethodName)) ∈ qG := qG_t (gt_6 (List.mem_of_getElem? (i := 99) rfl)) rfl
theorem gw_1014 : (Jvm.Cond.code ({ cls := "FarDishes", name := "asks", desc := "()I" } : Jvm.MethodName) prog_1_method_14_code (3 : Nat) (Option.some Jvm.ClassFile.FieldType.int)) ∈ qG := qG_t (gt_3 (List.mem_of_getElem? (i := 88) rfl)) rfl
theorem gw_1015 : (Jvm.Cond.methodLink "FarDishesLaw" (66 : Nat) ({ cls := "FarDishes", name := "asks", desc := "()I" } : Jvm.MethodName)) ∈ qG := qG_t (gt_3 (List.mem_of_getElem? (i := 85) rfl)) rfl
theorem gw_1016 : (Jvm.Cond.instanceMethod ({ cls := "FarDishes", name := "asks", desc := "()I" } : Jvm.MethodName)) ∈ qG := qG_t (gt_3 (List.mem_of_getElem? (i := 86) rfl)) rfl
theorem gw_1017 : (Jvm.Cond.selects "FarDishes" ({ cls := "FarDishes", name := "asks", desc := "()I" } : Jvm.MethodName) ({ cls := "FarDishes", name := "asks", desc := "()I" } : Jvm.MethodName)) ∈ qG := qG_t (gt_3 (List.mem_of_getElem? (i := 87) rfl)) rfl
theorem gw_1018 : (Jvm.Cond.code ({ cls := "FarDishesModel", name := "asks", desc := "()I" } : Jvm.MethodName) prog_14_method_36_code (5 : Nat) (Option.some Jvm.ClassFile.FieldType.int)) ∈ qG := qG_t (gt_6 (List.mem_of_getElem? (i := 104) rfl)) rfl
theorem gw_1019 : (Jvm.Cond.methodLink "FarDishesLaw" (69 : Nat) ({ cls := "FarDishesModel", name := "asks", desc := "()I" } : Jvm.MethodName)) ∈ qG := qG_t (gt_6 (List.mem_of_getElem? (i := 101) rfl)) rfl
theorem gw_1020 : (Jvm.Cond.instanceMethod ({ cls := "FarDishesModel", name := "asks", desc := "()I" } : Jvm.MethodName)) ∈ qG := qG_t (gt_6 (List.mem_of_getElem? (i := 102) rfl)) rfl
theorem gw_1021 : (Jvm.Cond.selects "FarDishesModel" ({ cls := "FarDishesModel", name := "asks", desc := "()I" } : Jvm.MethodName) ({ cls := "FarDishesModel", name := "asks", desc := "()I" } : Jvm.MethodName)) ∈ qG := qG_t (gt_6 (List.mem_of_getElem? (i := 103) rfl)) rfl
theorem gw_1022 : (Jvm.Cond.code ({ cls := "FarDishes", name := "asking", desc := "(II)I" } : Jvm.MethodName) prog_1_method_15_code (4 : Nat) (Option.some Jvm.ClassFile.FieldType.int)) ∈ qG := qG_t (gt_3 (List.mem_of_getElem? (i := 202) rfl)) rfl
theorem gw_1023 : (Jvm.Cond.methodLink "FarDishesLaw" (70 : Nat) ({ cls := "FarDishes", name := "asking", desc := "(II)I" } : Jvm.MethodName)) ∈ qG := qG_t (gt_3 (List.mem_of_getElem? (i := 199) rfl)) rfl
theorem gw_1024 : (Jvm.Cond.instanceMethod ({ cls := "FarDishes", name := "asking", desc := "(II)I" } : Jvm.MethodName)) ∈ qG := qG_t (gt_3 (List.mem_of_getElem? (i := 200) rfl)) rfl
theorem gw_1025 : (Jvm.Cond.selects "FarDishes" ({ cls := "FarDishes", name := "asking", desc := "(II)I" } : Jvm.MethodName) ({ cls := "FarDishes", name := "asking", desc := "(II)I" } : Jvm.MethodName)) ∈ qG := qG_t (gt_3 (List.mem_of_getElem? (i := 201) rfl)) rfl
theorem gw_1026 : (Jvm.Cond.code ({ cls := "FarDishesModel", name := "asking", desc := "(II)I" } : Jvm.MethodName) prog_14_method_40_code (3 : Nat) (Option.some Jvm.ClassFile.FieldType.int)) ∈ qG := qG_t (gt_6 (List.mem_of_getElem? (i := 144) rfl)) rfl
theorem gw_1027 : (Jvm.Cond.methodLink "FarDishesLaw" (73 : Nat) ({ cls := "FarDishesModel", name := "asking", desc := "(II)I" } : Jvm.MethodName)) ∈ qG := qG_t (gt_6 (List.mem_of_getElem? (i := 141) rfl)) rfl
theorem gw_1028 : (Jvm.Cond.instanceMethod ({ cls := "FarDishesModel", name := "asking", desc := "(II)I" } : Jvm.MethodName)) ∈ qG := qG_t (gt_6 (List.mem_of_getElem? (i := 142) rfl)) rfl
theorem gw_1029 : (Jvm.Cond.selects "FarDishesModel" ({ cls := "FarDishesModel", name := "asking", desc := "(II)I" } : Jvm.MethodName) ({ cls := "FarDishesModel", name := "asking", desc := "(II)I" } : Jvm.MethodName)) ∈ qG := qG_t (gt_6 (List.mem_of_getElem? (i := 143) rfl)) rfl
theorem gw_1030 : (Jvm.Cond.code ({ cls := "FarDishes", name := "as", desc := "(II)I" } : Jvm.MethodName) prog_1_method_16_code (3 : Nat) (Option.some Jvm.ClassFile.FieldType.int)) ∈ qG := qG_t (gt_3 (List.mem_of_getElem? (i := 218) rfl)) rfl
theorem gw_1031 : (Jvm.Cond.methodLink "FarDishesLaw" (74 : Nat) ({ cls := "FarDishes", name := "as", desc := "(II)I" } : Jvm.MethodName)) ∈ qG := qG_t (gt_3 (List.mem_of_getElem? (i := 215) rfl)) rfl
theorem gw_1032 : (Jvm.Cond.instanceMethod ({ cls := "FarDishes", name := "as", desc := "(II)I" } : Jvm.MethodName)) ∈ qG := qG_t (gt_3 (List.mem_of_getElem? (i := 216) rfl)) rfl
theorem gw_1033 : (Jvm.Cond.selects "FarDishes" ({ cls := "FarDishes", name := "as", desc := "(II)I" } : Jvm.MethodName) ({ cls := "FarDishes", name := "as", desc := "(II)I" } : Jvm.MethodName)) ∈ qG := qG_t (gt_3 (List.mem_of_getElem? (i := 217) rfl)) rfl
theorem gw_1034 : (Jvm.Cond.code ({ cls := "FarDishesModel", name := "as", desc := "(II)I" } : Jvm.MethodName) prog_14_method_41_code (5 : Nat) (Option.some Jvm.ClassFile.FieldType.int)) ∈ qG := qG_t (gt_6 (List.mem_of_getElem? (i := 162) rfl)) rfl
theorem gw_1035 : (Jvm.Cond.methodLink "FarDishesLaw" (77 : Nat) ({ cls := "FarDishesModel", name := "as", desc := "(II)I" } : Jvm.MethodName)) ∈ qG := qG_t (gt_6 (List.mem_of_getElem? (i := 159) rfl)) rfl
theorem gw_1036 : (Jvm.Cond.instanceMethod ({ cls := "FarDishesModel", name := "as", desc := "(II)I" } : Jvm.MethodName)) ∈ qG := qG_t (gt_6 (List.mem_of_getElem? (i := 160) rfl)) rfl
theorem gw_1037 : (Jvm.Cond.selects "FarDishesModel" ({ cls := "FarDishesModel", name := "as", desc := "(II)I" } : Jvm.MethodName) ({ cls := "FarDishesModel", name := "as", desc := "(II)I" } : Jvm.MethodName)) ∈ qG := qG_t (gt_6 (List.mem_of_getElem? (i := 161) rfl)) rfl
theorem gw_1038 : (Jvm.Cond.code ({ cls := "FarDishes", name := "worth", desc := "(II)I" } : Jvm.MethodName) prog_1_method_17_code (5 : Nat) (Option.some Jvm.ClassFile.FieldType.int)) ∈ qG := qG_t (gt_3 (List.mem_of_getElem? (i := 229) rfl)) rfl
theorem gw_1039 : (Jvm.Cond.methodLink "FarDishesLaw" (78 : Nat) ({ cls := "FarDishes", name := "worth", desc := "(II)I" } : Jvm.MethodName)) ∈ qG := qG_t (gt_3 (List.mem_of_getElem? (i := 226) rfl)) rfl
theorem gw_1040 : (Jvm.Cond.instanceMethod ({ cls := "FarDishes", name := "worth", desc := "(II)I" } : Jvm.MethodName)) ∈ qG := qG_t (gt_3 (List.mem_of_getElem? (i := 227) rfl)) rfl
theorem gw_1041 : (Jvm.Cond.selects "FarDishes" ({ cls := "FarDishes", name := "worth", desc := "(II)I" } : Jvm.MethodName) ({ cls := "FarDishes", name := "worth", desc := "(II)I" } : Jvm.MethodName)) ∈ qG := qG_t (gt_3 (List.mem_of_getElem? (i := 228) rfl)) rfl
theorem gw_1042 : (Jvm.Cond.code ({ cls := "FarDishesModel", name := "worth", desc := "(II)I" } : Jvm.MethodName) prog_14_method_43_code (3 : Nat) (Option.some Jvm.ClassFile.FieldType.int)) ∈ qG := qG_t (gt_6 (List.mem_of_getElem? (i := 167) rfl)) rfl
theorem gw_1043 : (Jvm.Cond.methodLink "FarDishesLaw" (81 : Nat) ({ cls := "FarDishesModel", name := "worth", desc := "(II)I" } : Jvm.MethodName)) ∈ qG := qG_t (gt_6 (List.mem_of_getElem? (i := 164) rfl)) rfl
theorem gw_1044 : (Jvm.Cond.instanceMethod ({ cls := "FarDishesModel", name := "worth", desc := "(II)I" } : Jvm.MethodName)) ∈ qG := qG_t (gt_6 (List.mem_of_getElem? (i := 165) rfl)) rfl
theorem gw_1045 : (Jvm.Cond.selects "FarDishesModel" ({ cls := "FarDishesModel", name := "worth", desc := "(II)I" } : Jvm.MethodName) ({ cls := "FarDishesModel", name := "worth", desc := "(II)I" } : Jvm.MethodName)) ∈ qG := qG_t (gt_6 (List.mem_of_getElem? (i := 166) rfl)) rfl
theorem gw_1046 : (Jvm.Cond.code ({ cls := "FarDishes", name := "plan", desc := "(I)I" } : Jvm.MethodName) prog_1_method_18_code (2 : Nat) (Option.some Jvm.ClassFile.FieldType.int)) ∈ qG := qG_t (gt_3 (List.mem_of_getElem? (i := 235) rfl)) rfl
theorem gw_1047 : (Jvm.Cond.methodLink "FarDishesLaw" (82 : Nat) ({ cls := "FarDishes", name := "plan", desc := "(I)I" } : Jvm.MethodName)) ∈ qG := qG_t (gt_3 (List.mem_of_getElem? (i := 232) rfl)) rfl
theorem gw_1048 : (Jvm.Cond.instanceMethod ({ cls := "FarDishes", name := "plan", desc := "(I)I" } : Jvm.MethodName)) ∈ qG := qG_t (gt_3 (List.mem_of_getElem? (i := 233) rfl)) rfl
theorem gw_1049 : (Jvm.Cond.selects "FarDishes" ({ cls := "FarDishes", name := "plan", desc := "(I)I" } : Jvm.MethodName) ({ cls := "FarDishes", name := "plan", desc := "(I)I" } : Jvm.MethodName)) ∈ qG := qG_t (gt_3 (List.mem_of_getElem? (i := 234) rfl)) rfl
theorem gw_1050 : (Jvm.Cond.code ({ cls := "FarDishesModel", name := "plan", desc := "(I)I" } : Jvm.MethodName) prog_14_method_52_code (2 : Nat) (Option.some Jvm.ClassFile.FieldType.int)) ∈ qG := qG_t (gt_6 (List.mem_of_getElem? (i := 176) rfl)) rfl
theorem gw_1051 : (Jvm.Cond.methodLink "FarDishesLaw" (86 : Nat) ({ cls := "FarDishesModel", name := "plan", desc := "(I)I" } : Jvm.MethodName)) ∈ qG := qG_t (gt_6 (List.mem_of_getElem? (i := 173) rfl)) rfl
theorem gw_1052 : (Jvm.Cond.instanceMethod ({ cls := "FarDishesModel", name := "plan", desc := "(I)I" } : Jvm.MethodName)) ∈ qG := qG_t (gt_6 (List.mem_of_getElem? (i := 174) rfl)) rfl
theorem gw_1053 : (Jvm.Cond.selects "FarDishesModel" ({ cls := "FarDishesModel", name := "plan", desc := "(I)I" } : Jvm.MethodName) ({ cls := "FarDishesModel", name := "plan", desc := "(I)I" } : Jvm.MethodName)) ∈ qG := qG_t (gt_6 (List.mem_of_getElem? (i := 175) rfl)) rfl
theorem gw_1054 : (Jvm.Cond.code ({ cls := "FarDishes", name := "begins", desc := "(I)I" } : Jvm.MethodName) prog_1_method_19_code (3 : Nat) (Option.some Jvm.ClassFile.FieldType.int)) ∈ qG := qG_t (gt_4 (List.mem_of_getElem? (i := 61) rfl)) rfl
theorem gw_1055 : (Jvm.Cond.methodLink "FarDishesLaw" (87 : Nat) ({ cls := "FarDishes", name := "begins", desc := "(I)I" } : Jvm.MethodName)) ∈ qG := qG_t (gt_4 (List.mem_of_getElem? (i := 58) rfl)) rfl
theorem gw_1056 : (Jvm.Cond.instanceMethod ({ cls := "FarDishes", name := "begins", desc := "(I)I" } : Jvm.MethodName)) ∈ qG := qG_t (gt_4 (List.mem_of_getElem? (i := 59) rfl)) rfl
theorem gw_1057 : (Jvm.Cond.selects "FarDishes" ({ cls := "FarDishes", name := "begins", desc := "(I)I" } : Jvm.MethodName) ({ cls := "FarDishes", name := "begins", desc := "(I)I" } : Jvm.MethodName)) ∈ qG := qG_t (gt_4 (List.mem_of_getElem? (i := 60) rfl)) rfl
theorem gw_1058 : (Jvm.Cond.code ({ cls := "FarDishesModel", name := "begins", desc := "(I)I" } : Jvm.MethodName) prog_14_method_53_code (2 : Nat) (Option.some Jvm.ClassFile.FieldType.int)) ∈ qG := qG_t (gt_6 (List.mem_of_getElem? (i := 212) rfl)) rfl
theorem gw_1059 : (Jvm.Cond.methodLink "FarDishesLaw" (90 : Nat) ({ cls := "FarDishesModel", name := "begins", desc := "(I)I" } : Jvm.MethodName)) ∈ qG := qG_t (gt_6 (List.mem_of_getElem? (i := 209) rfl)) rfl
theorem gw_1060 : (Jvm.Cond.instanceMethod ({ cls := "FarDishesModel", name := "begins", desc := "(I)I" } : Jvm.MethodName)) ∈ qG := qG_t (gt_6 (List.mem_of_getElem? (i := 210) rfl)) rfl
theorem gw_1061 : (Jvm.Cond.selects "FarDishesModel" ({ cls := "FarDishesModel", name := "begins", desc := "(I)I" } : Jvm.MethodName) ({ cls := "FarDishesModel", name := "begins", desc := "(I)I" } : Jvm.MethodName)) ∈ qG := qG_t (gt_6 (List.mem_of_getElem? (i := 211) rfl)) rfl
theorem gw_1062 : (Jvm.Cond.code ({ cls := "FarDishes", name := "without", desc := "(I)I" } : Jvm.MethodName) prog_1_method_20_code (2 : Nat) (Option.some Jvm.ClassFile.FieldType.int)) ∈ qG := qG_t (gt_4 (List.mem_of_getElem? (i := 69) rfl)) rfl
theorem gw_1063 : (Jvm.Cond.methodLink "FarDishesLaw" (91 : Nat) ({ cls := "FarDishes", name := "without", desc := "(I)I" } : Jvm.MethodName)) ∈ qG := qG_t (gt_4 (List.mem_of_getElem? (i := 66) rfl)) rfl
theorem gw_1064 : (Jvm.Cond.instanceMethod ({ cls := "FarDishes", name := "without", desc := "(I)I" } : Jvm.MethodName)) ∈ qG := qG_t (gt_4 (List.mem_of_getElem? (i := 67) rfl)) rfl
theorem gw_1065 : (Jvm.Cond.selects "FarDishes" ({ cls := "FarDishes", name := "without", desc := "(I)I" } : Jvm.MethodName) ({ cls := "FarDishes", name := "without", desc := "(I)I" } : Jvm.MethodName)) ∈ qG := qG_t (gt_4 (List.mem_of_getElem? (i := 68) rfl)) rfl
theorem gw_1066 : (Jvm.Cond.code ({ cls := "FarDishesModel", name := "without", desc := "(I)I" } : Jvm.MethodName) prog_14_method_54_code (2 : Nat) (Option.some Jvm.ClassFile.FieldType.int)) ∈ qG := qG_t (gt_6 (List.mem_of_getElem? (i := 216) rfl)) rfl
theorem gw_1067 : (Jvm.Cond.methodLink "FarDishesLaw" (94 : Nat) ({ cls := "FarDishesModel", name := "without", desc := "(I)I" } : Jvm.MethodName)) ∈ qG := qG_t (gt_6 (List.mem_of_getElem? (i := 213) rfl)) rfl
theorem gw_1068 : (Jvm.Cond.instanceMethod ({ cls := "FarDishesModel", name := "without", desc := "(I)I" } : Jvm.MethodName)) ∈ qG := qG_t (gt_6 (List.mem_of_getElem? (i := 214) rfl)) rfl
theorem gw_1069 : (Jvm.Cond.selects "FarDishesModel" ({ cls := "FarDishesModel", name := "without", desc := "(I)I" } : Jvm.MethodName) ({ cls := "FarDishesModel", name := "without", desc := "(I)I" } : Jvm.MethodName)) ∈ qG := qG_t (gt_6 (List.mem_of_getElem? (i := 215) rfl)) rfl
theorem gw_1070 : (Jvm.Cond.code ({ cls := "FarDishes", name := "takes", desc := "(II)I" } : Jvm.MethodName) prog_1_method_21_code (4 : Nat) (Option.some Jvm.ClassFile.FieldType.int)) ∈ qG := qG_t (gt_4 (List.mem_of_getElem? (i := 73) rfl)) rfl
theorem gw_1071 : (Jvm.Cond.methodLink "FarDishesLaw" (95 : Nat) ({ cls := "FarDishes", name := "takes", desc := "(II)I" } : Jvm.MethodName)) ∈ qG := qG_t (gt_4 (List.mem_of_getElem? (i := 70) rfl)) rfl
theorem gw_1072 : (Jvm.Cond.instanceMethod ({ cls := "FarDishes", name := "takes", desc := "(II)I" } : Jvm.MethodName)) ∈ qG := qG_t (gt_4 (List.mem_of_getElem? (i := 71) rfl)) rfl
theorem gw_1073 : (Jvm.Cond.selects "FarDishes" ({ cls := "FarDishes", name := "takes", desc := "(II)I" } : Jvm.MethodName) ({ cls := "FarDishes", name := "takes", desc := "(II)I" } : Jvm.MethodName)) ∈ qG := qG_t (gt_4 (List.mem_of_getElem? (i := 72) rfl)) rfl
theorem gw_1074 : (Jvm.Cond.code ({ cls := "FarDishesModel", name := "takes", desc := "(II)I" } : Jvm.MethodName) prog_14_method_56_code (5 : Nat) (Option.some Jvm.ClassFile.FieldType.int)) ∈ qG := qG_t (gt_6 (List.mem_of_getElem? (i := 220) rfl)) rfl
theorem gw_1075 : (Jvm.Cond.methodLink "FarDishesLaw" (98 : Nat) ({ cls := "FarDishesModel", name := "takes", desc := "(II)I" } : Jvm.MethodName)) ∈ qG := qG_t (gt_6 (List.mem_of_getElem? (i := 217) rfl)) rfl
theorem gw_1076 : (Jvm.Cond.instanceMethod ({ cls := "FarDishesModel", name := "takes", desc := "(II)I" } : Jvm.MethodName)) ∈ qG := qG_t (gt_6 (List.mem_of_getElem? (i := 218) rfl)) rfl
theorem gw_1077 : (Jvm.Cond.selects "FarDishesModel" ({ cls := "FarDishesModel", name := "takes", desc := "(II)I" } : Jvm.MethodName) ({ cls := "FarDishesModel", name := "takes", desc := "(II)I" } : Jvm.MethodName)) ∈ qG := qG_t (gt_6 (List.mem_of_getElem? (i := 219) rfl)) rfl
theorem gw_1078 : (Jvm.Cond.code ({ cls := "FarDishes", name := "bars", desc := "(II)I" } : Jvm.MethodName) prog_1_method_22_code (6 : Nat) (Option.some Jvm.ClassFile.FieldType.int)) ∈ qG := qG_t (gt_4 (List.mem_of_getElem? (i := 85) rfl)) rfl
theorem gw_1079 : (Jvm.Cond.methodLink "FarDishesLaw" (99 : Nat) ({ cls := "FarDishes", name := "bars", desc := "(II)I" } : Jvm.MethodName)) ∈ qG := qG_t (gt_4 (List.mem_of_getElem? (i := 82) rfl)) rfl
theorem gw_1080 : (Jvm.Cond.instanceMethod ({ cls := "FarDishes", name := "bars", desc := "(II)I" } : Jvm.MethodName)) ∈ qG := qG_t (gt_4 (List.mem_of_getElem? (i := 83) rfl)) rfl
theorem gw_1081 : (Jvm.Cond.selects "FarDishes" ({ cls := "FarDishes", name := "bars", desc := "(II)I" } : Jvm.MethodName) ({ cls := "FarDishes", name := "bars", desc := "(II)I" } : Jvm.MethodName)) ∈ qG := qG_t (gt_4 (List.mem_of_getElem? (i := 84) rfl)) rfl
theorem gw_1082 : (Jvm.Cond.code ({ cls := "FarDishesModel", name := "bars", desc := "(II)I" } : Jvm.MethodName) prog_14_method_58_code (4 : Nat) (Option.some Jvm.ClassFile.FieldType.int)) ∈ qG := qG_t (gt_6 (List.mem_of_getElem? (i := 228) rfl)) rfl
theorem gw_1083 : (Jvm.Cond.methodLink "FarDishesLaw" (102 : Nat) ({ cls := "FarDishesModel", name := "bars", desc := "(II)I" } : Jvm.MethodName)) ∈ qG := qG_t (gt_6 (List.mem_of_getElem? (i := 225) rfl)) rfl
theorem gw_1084 : (Jvm.Cond.instanceMethod ({ cls := "FarDishesModel", name := "bars", desc := "(II)I" } : Jvm.MethodName)) ∈ qG := qG_t (gt_6 (List.mem_of_getElem? (i := 226) rfl)) rfl
theorem gw_1085 : (Jvm.Cond.selects "FarDishesModel" ({ cls := "FarDishesModel", name := "bars", desc := "(II)I" } : Jvm.MethodName) ({ cls := "FarDishesModel", name := "bars", desc := "(II)I" } : Jvm.MethodName)) ∈ qG := qG_t (gt_6 (List.mem_of_getElem? (i := 227) rfl)) rfl
theorem gw_1086 : (Jvm.Cond.code ({ cls := "FarDishes", name := "judge", desc := "(I)I" } : Jvm.MethodName) prog_1_method_23_code (4 : Nat) (Option.some Jvm.ClassFile.FieldType.int)) ∈ qG := qG_t (gt_4 (List.mem_of_getElem? (i := 95) rfl)) rfl
theorem gw_1087 : (Jvm.Cond.methodLink "FarDishesLaw" (103 : Nat) ({ cls := "FarDishes", name := "judge", desc := "(I)I" } : Jvm.MethodName)) ∈ qG := qG_t (gt_4 (List.mem_of_getElem? (i := 92) rfl)) rfl
theorem gw_1088 : (Jvm.Cond.instanceMethod ({ cls := "FarDishes", name := "judge", desc := "(I)I" } : Jvm.MethodName)) ∈ qG := qG_t (gt_4 (List.mem_of_getElem? (i := 93) rfl)) rfl
theorem gw_1089 : (Jvm.Cond.selects "FarDishes" ({ cls := "FarDishes", name := "judge", desc := "(I)I" } : Jvm.MethodName) ({ cls := "FarDishes", name := "judge", desc := "(I)I" } : Jvm.MethodName)) ∈ qG := qG_t (gt_4 (List.mem_of_getElem? (i := 94) rfl)) rfl
theorem gw_1090 : (Jvm.Cond.code ({ cls := "FarDishesModel", name := "judge", desc := "(I)I" } : Jvm.MethodName) prog_14_method_59_code (7 : Nat) (Option.some Jvm.ClassFile.FieldType.int)) ∈ qG := qG_t (gt_6 (List.mem_of_getElem? (i := 236) rfl)) rfl
theorem gw_1091 : (Jvm.Cond.methodLink "FarDishesLaw" (106 : Nat) ({ cls := "FarDishesModel", name := "judge", desc := "(I)I" } : Jvm.MethodName)) ∈ qG := qG_t (gt_6 (List.mem_of_getElem? (i := 233) rfl)) rfl
theorem gw_1092 : (Jvm.Cond.instanceMethod ({ cls := "FarDishesModel", name := "judge", desc := "(I)I" } : Jvm.MethodName)) ∈ qG := qG_t (gt_6 (List.mem_of_getElem? (i := 234) rfl)) rfl
theorem gw_1093 : (Jvm.Cond.selects "FarDishesModel" ({ cls := "FarDishesModel", name := "judge", desc := "(I)I" } : Jvm.MethodName) ({ cls := "FarDishesModel", name := "judge", desc := "(I)I" } : Jvm.MethodName)) ∈ qG := qG_t (gt_6 (List.mem_of_getElem? (i := 235) rfl)) rfl
theorem gw_1094 : (Jvm.Cond.code ({ cls := "FarDishes", name := "hold", desc := "()I" } : Jvm.MethodName) prog_1_method_24_code (1 : Nat) (Option.some Jvm.ClassFile.FieldType.int)) ∈ qG := qG_t (gt_4 (List.mem_of_getElem? (i := 113) rfl)) rfl
theorem gw_1095 : (Jvm.Cond.methodLink "FarDishesLaw" (107 : Nat) ({ cls := "FarDishes", name := "hold", desc := "()I" } : Jvm.MethodName)) ∈ qG := qG_t (gt_4 (List.mem_of_getElem? (i := 110) rfl)) rfl
theorem gw_1096 : (Jvm.Cond.instanceMethod ({ cls := "FarDishes", name := "hold", desc := "()I" } : Jvm.MethodName)) ∈ qG := qG_t (gt_4 (List.mem_of_getElem? (i := 111) rfl)) rfl
theorem gw_1097 : (Jvm.Cond.selects "FarDishes" ({ cls := "FarDishes", name := "hold", desc := "()I" } : Jvm.MethodName) ({ cls := "FarDishes", name := "hold", desc := "()I" } : Jvm.MethodName)) ∈ qG := qG_t (gt_4 (List.mem_of_getElem? (i := 112) rfl)) rfl
theorem gw_1098 : (Jvm.Cond.code ({ cls := "FarDishesModel", name := "hold", desc := "()I" } : Jvm.MethodName) prog_14_method_60_code (2 : Nat) (Option.some Jvm.ClassFile.FieldType.int)) ∈ qG := qG_t (gt_7 (List.mem_of_getElem? (i := 5) rfl)) rfl
theorem gw_1099 : (Jvm.Cond.methodLink "FarDishesLaw" (110 : Nat) ({ cls := "FarDishesModel", name := "hold", desc := "()I" } : Jvm.MethodName)) ∈ qG := qG_t (gt_7 (List.mem_of_getElem? (i := 2) rfl)) rfl
theorem gw_1100 : (Jvm.Cond.instanceMethod ({ cls := "FarDishesModel", name := "hold", desc := "()I" } : Jvm.MethodName)) ∈ qG := qG_t (gt_7 (List.mem_of_getElem? (i := 3) rfl)) rfl
theorem gw_1101 : (Jvm.Cond.selects "FarDishesModel" ({ cls := "FarDishesModel", name := "hold", desc := "()I" } : Jvm.MethodName) ({ cls := "FarDishesModel", name := "hold", desc := "()I" } : Jvm.MethodName)) ∈ qG := qG_t (gt_7 (List.mem_of_getElem? (i := 4) rfl)) rfl
theorem gw_1102 : (Jvm.Cond.code ({ cls := "FarDishes", name := "drop", desc := "(I)I" } : Jvm.MethodName) prog_1_method_25_code (4 : Nat) (Option.some Jvm.ClassFile.FieldType.int)) ∈ qG := qG_t (gt_4 (List.mem_of_getElem? (i := 125) rfl)) rfl
theorem gw_1103 : (Jvm.Cond.methodLink "FarDishesLaw" (111 : Nat) ({ cls := "FarDishes", name := "drop", desc := "(I)I" } : Jvm.MethodName)) ∈ qG := qG_t (gt_4 (List.mem_of_getElem? (i := 122) rfl)) rfl
theorem gw_1104 : (Jvm.Cond.instanceMethod ({ cls := "FarDishes", name := "drop", desc := "(I)I" } : Jvm.MethodName)) ∈ qG := qG_t (gt_4 (List.mem_of_getElem? (i := 123) rfl)) rfl
theorem gw_1105 : (Jvm.Cond.selects "FarDishes" ({ cls := "FarDishes", name := "drop", desc := "(I)I" } : Jvm.MethodName) ({ cls := "FarDishes", name := "drop", desc := "(I)I" } : Jvm.MethodName)) ∈ qG := qG_t (gt_4 (List.mem_of_getElem? (i := 124) rfl)) rfl
theorem gw_1106 : (Jvm.Cond.code ({ cls := "FarDishesModel", name := "drop", desc := "(I)I" } : Jvm.MethodName) prog_14_method_61_code (3 : Nat) (Option.some Jvm.ClassFile.FieldType.int)) ∈ qG := qG_t (gt_7 (List.mem_of_getElem? (i := 9) rfl)) rfl
theorem gw_1107 : (Jvm.Cond.methodLink "FarDishesLaw" (114 : Nat) ({ cls := "FarDishesModel", name := "drop", desc := "(I)I" } : Jvm.MethodName)) ∈ qG := qG_t (gt_7 (List.mem_of_getElem? (i := 6) rfl)) rfl
theorem gw_1108 : (Jvm.Cond.instanceMethod ({ cls := "FarDishesModel", name := "drop", desc := "(I)I" } : Jvm.MethodName)) ∈ qG := qG_t (gt_7 (List.mem_of_getElem? (i := 7) rfl)) rfl
theorem gw_1109 : (Jvm.Cond.selects "FarDishesModel" ({ cls := "FarDishesModel", name := "drop", desc := "(I)I" } : Jvm.MethodName) ({ cls := "FarDishesModel", name := "drop", desc := "(I)I" } : Jvm.MethodName)) ∈ qG := qG_t (gt_7 (List.mem_of_getElem? (i := 8) rfl)) rfl
theorem gw_1110 : (Jvm.Cond.code ({ cls := "FarDishes", name := "run", desc := "(I)I" } : Jvm.MethodName) prog_1_method_26_code (3 : Nat) (Option.some Jvm.ClassFile.FieldType.int)) ∈ qG := qG_t (gt_4 (List.mem_of_getElem? (i := 129) rfl)) rfl
theorem gw_1111 : (Jvm.Cond.methodLink "FarDishesLaw" (115 : Nat) ({ cls := "FarDishes", name := "run", desc := "(I)I" } : Jvm.MethodName)) ∈ qG := qG_t (gt_4 (List.mem_of_getElem? (i := 126) rfl)) rfl
theorem gw_1112 : (Jvm.Cond.instanceMethod ({ cls := "FarDishes", name := "run", desc := "(I)I" } : Jvm.MethodName)) ∈ qG := qG_t (gt_4 (List.mem_of_getElem? (i := 127) rfl)) rfl
theorem gw_1113 : (Jvm.Cond.selects "FarDishes" ({ cls := "FarDishes", name := "run", desc := "(I)I" } : Jvm.MethodName) ({ cls := "FarDishes", name := "run", desc := "(I)I" } : Jvm.MethodName)) ∈ qG := qG_t (gt_4 (List.mem_of_getElem? (i := 128) rfl)) rfl
theorem gw_1114 : (Jvm.Cond.code ({ cls := "FarDishesModel", name := "run", desc := "(I)I" } : Jvm.MethodName) prog_14_method_68_code (4 : Nat) (Option.some Jvm.ClassFile.FieldType.int)) ∈ qG := qG_t (gt_7 (List.mem_of_getElem? (i := 13) rfl)) rfl
theorem gw_1115 : (Jvm.Cond.methodLink "FarDishesLaw" (118 : Nat) ({ cls := "FarDishesModel", name := "run", desc := "(I)I" } : Jvm.MethodName)) ∈ qG := qG_t (gt_7 (List.mem_of_getElem? (i := 10) rfl)) rfl
theorem gw_1116 : (Jvm.Cond.instanceMethod ({ cls := "FarDishesModel", name := "run", desc := "(I)I" } : Jvm.MethodName)) ∈ qG := qG_t (gt_7 (List.mem_of_getElem? (i := 11) rfl)) rfl
theorem gw_1117 : (Jvm.Cond.selects "FarDishesModel" ({ cls := "FarDishesModel", name := "run", desc := "(I)I" } : Jvm.MethodName) ({ cls := "FarDishesModel", name := "run", desc := "(I)I" } : Jvm.MethodName)) ∈ qG := qG_t (gt_7 (List.mem_of_getElem? (i := 12) rfl)) rfl
theorem gw_1118 : (Jvm.Cond.code ({ cls := "FarDishes", name := "block", desc := "(III)I" } : Jvm.MethodName) prog_1_method_27_code (5 : Nat) (Option.some Jvm.ClassFile.FieldType.int)) ∈ qG := qG_t (gt_4 (List.mem_of_getElem? (i := 188) rfl)) rfl
theorem gw_1119 : (Jvm.Cond.methodLink "FarDishesLaw" (119 : Nat) ({ cls := "FarDishes", name := "block", desc := "(III)I" } : Jvm.MethodName)) ∈ qG := qG_t (gt_4 (List.mem_of_getElem? (i := 185) rfl)) rfl
theorem gw_1120 : (Jvm.Cond.instanceMethod ({ cls := "FarDishes", name := "block", desc := "(III)I" } : Jvm.MethodName)) ∈ qG := qG_t (gt_4 (List.mem_of_getElem? (i := 186) rfl)) rfl
theorem gw_1121 : (Jvm.Cond.selects "FarDishes" ({ cls := "FarDishes", name := "block", desc := "(III)I" } : Jvm.MethodName) ({ cls := "FarDishes", name := "block", desc := "(III)I" } : Jvm.MethodName)) ∈ qG := qG_t (gt_4 (List.mem_of_getElem? (i := 187) rfl)) rfl
theorem gw_1122 : (Jvm.Cond.code ({ cls := "FarDishesModel", name := "block", desc := "(III)I" } : Jvm.MethodName) prog_14_method_69_code (5 : Nat) (Option.some Jvm.ClassFile.FieldType.int)) ∈ qG := qG_t (gt_7 (List.mem_of_getElem? (i := 41) rfl)) rfl
theorem gw_1123 : (Jvm.Cond.methodLink "FarDishesLaw" (122 : Nat) ({ cls := "FarDishesModel", name := "block", desc := "(III)I" } : Jvm.MethodName)) ∈ qG := qG_t (gt_7 (List.mem_of_getElem? (i := 38) rfl)) rfl
theorem gw_1124 : (Jvm.Cond.instanceMethod ({ cls := "FarDishesModel", name := "block", desc := "(III)I" } : Jvm.MethodName)) ∈ qG := qG_t (gt_7 (List.mem_of_getElem? (i := 39) rfl)) rfl
theorem gw_1125 : (Jvm.Cond.selects "FarDishesModel" ({ cls := "FarDishesModel", name := "block", desc := "(III)I" } : Jvm.MethodName) ({ cls := "FarDishesModel", name := "block", desc := "(III)I" } : Jvm.MethodName)) ∈ qG := qG_t (gt_7 (List.mem_of_getElem? (i := 40) rfl)) rfl
theorem gw_1126 : (Jvm.Cond.code ({ cls := "FarDishes", name := "name", desc := "(II)I" } : Jvm.MethodName) prog_1_method_28_code (4 : Nat) (Option.some Jvm.ClassFile.FieldType.int)) ∈ qG := qG_t (gt_4 (List.mem_of_getElem? (i := 192) rfl)) rfl
theorem gw_1127 : (Jvm.Cond.methodLink "FarDishesLaw" (123 : Nat) ({ cls := "FarDishes", name := "name", desc := "(II)I" } : Jvm.MethodName)) ∈ qG := qG_t (gt_4 (List.mem_of_getElem? (i := 189) rfl)) rfl
theorem gw_1128 : (Jvm.Cond.instanceMethod ({ cls := "FarDishes", name := "name", desc := "(II)I" } : Jvm.MethodName)) ∈ qG := qG_t (gt_4 (List.mem_of_getElem? (i := 190) rfl)) rfl
theorem gw_1129 : (Jvm.Cond.selects "FarDishes" ({ cls := "FarDishes", name := "name", desc := "(II)I" } : Jvm.MethodName) ({ cls := "FarDishes", name := "name", desc := "(II)I" } : Jvm.MethodName)) ∈ qG := qG_t (gt_4 (List.mem_of_getElem? (i := 191) rfl)) rfl
theorem gw_1130 : (Jvm.Cond.code ({ cls := "FarDishesModel", name := "name", desc := "(II)I" } : Jvm.MethodName) prog_14_method_70_code (6 : Nat) (Option.some Jvm.ClassFile.FieldType.int)) ∈ qG := qG_t (gt_7 (List.mem_of_getElem? (i := 45) rfl)) rfl
theorem gw_1131 : (Jvm.Cond.methodLink "FarDishesLaw" (126 : Nat) ({ cls := "FarDishesModel", name := "name", desc := "(II)I" } : Jvm.MethodName)) ∈ qG := qG_t (gt_7 (List.mem_of_getElem? (i := 42) rfl)) rfl
theorem gw_1132 : (Jvm.Cond.instanceMethod ({ cls := "FarDishesModel", name := "name", desc := "(II)I" } : Jvm.MethodName)) ∈ qG := qG_t (gt_7 (List.mem_of_getElem? (i := 43) rfl)) rfl
theorem gw_1133 : (Jvm.Cond.selects "FarDishesModel" ({ cls := "FarDishesModel", name := "name", desc := "(II)I" } : Jvm.MethodName) ({ cls := "FarDishesModel", name := "name", desc := "(II)I" } : Jvm.MethodName)) ∈ qG := qG_t (gt_7 (List.mem_of_getElem? (i := 44) rfl)) rfl
theorem gw_1134 : (Jvm.Cond.code ({ cls := "FarDishes", name := "over", desc := "(II)I" } : Jvm.MethodName) prog_1_method_29_code (4 : Nat) (Option.some Jvm.ClassFile.FieldType.int)) ∈ qG := qG_t (gt_4 (List.mem_of_getElem? (i := 200) rfl)) rfl
theorem gw_1135 : (Jvm.Cond.methodLink "FarDishesLaw" (127 : Nat) ({ cls := "FarDishes", name := "over", desc := "(II)I" } : Jvm.MethodName)) ∈ qG := qG_t (gt_4 (List.mem_of_getElem? (i := 197) rfl)) rfl
theorem gw_1136 : (Jvm.Cond.instanceMethod ({ cls := "FarDishes", name := "over", desc := "(II)I" } : Jvm.MethodName)) ∈ qG := qG_t (gt_4 (List.mem_of_getElem? (i := 198) rfl)) rfl
theorem gw_1137 : (Jvm.Cond.selects "FarDishes" ({ cls := "FarDishes", name := "over", desc := "(II)I" } : Jvm.MethodName) ({ cls := "FarDishes", name := "over", desc := "(II)I" } : Jvm.MethodName)) ∈ qG := qG_t (gt_4 (List.mem_of_getElem? (i := 199) rfl)) rfl
theorem gw_1138 : (Jvm.Cond.code ({ cls := "FarDishesModel", name := "over", desc := "(II)I" } : Jvm.MethodName) prog_14_method_72_code (4 : Nat) (Option.some Jvm.ClassFile.FieldType.int)) ∈ qG := qG_t (gt_7 (List.mem_of_getElem? (i := 49) rfl)) rfl
theorem gw_1139 : (Jvm.Cond.methodLink "FarDishesLaw" (130 : Nat) ({ cls := "FarDishesModel", name := "over", desc := "(II)I" } : Jvm.MethodName)) ∈ qG := qG_t (gt_7 (List.mem_of_getElem? (i := 46) rfl)) rfl
theorem gw_1140 : (Jvm.Cond.instanceMethod ({ cls := "FarDishesModel", name := "over", desc := "(II)I" } : Jvm.MethodName)) ∈ qG := qG_t (gt_7 (List.mem_of_getElem? (i := 47) rfl)) rfl
theorem gw_1141 : (Jvm.Cond.selects "FarDishesModel" ({ cls := "FarDishesModel", name := "over", desc := "(II)I" } : Jvm.MethodName) ({ cls := "FarDishesModel", name := "over", desc := "(II)I" } : Jvm.MethodName)) ∈ qG := qG_t (gt_7 (List.mem_of_getElem? (i := 48) rfl)) rfl
theorem gw_1142 : (Jvm.Cond.code ({ cls := "FarDishes", name := "order", desc := "(II)I" } : Jvm.MethodName) prog_1_method_30_code (4 : Nat) (Option.some Jvm.ClassFile.FieldType.int)) ∈ qG := qG_t (gt_4 (List.mem_of_getElem? (i := 209) rfl)) rfl
theorem gw_1143 : (Jvm.Cond.methodLink "FarDishesLaw" (131 : Nat) ({ cls := "FarDishes", name := "order", desc := "(II)I" } : Jvm.MethodName)) ∈ qG := qG_t (gt_4 (List.mem_of_getElem? (i := 206) rfl)) rfl
theorem gw_1144 : (Jvm.Cond.instanceMethod ({ cls := "FarDishes", name := "order", desc := "(II)I" } : Jvm.MethodName)) ∈ qG := qG_t (gt_4 (List.mem_of_getElem? (i := 207) rfl)) rfl
theorem gw_1145 : (Jvm.Cond.selects "FarDishes" ({ cls := "FarDishes", name := "order", desc := "(II)I" } : Jvm.MethodName) ({ cls := "FarDishes", name := "order", desc := "(II)I" } : Jvm.MethodName)) ∈ qG := qG_t (gt_4 (List.mem_of_getElem? (i := 208) rfl)) rfl
theorem gw_1146 : (Jvm.Cond.code ({ cls := "FarDishesModel", name := "order", desc := "(II)I" } : Jvm.MethodName) prog_14_method_73_code (5 : Nat) (Option.some Jvm.ClassFile.FieldType.int)) ∈ qG := qG_t (gt_7 (List.mem_of_getElem? (i := 57) rfl)) rfl
theorem gw_1147 : (Jvm.Cond.methodLink "FarDishesLaw" (134 : Nat) ({ cls := "FarDishesModel", name := "order", desc := "(II)I" } : Jvm.MethodName)) ∈ qG := qG_t (gt_7 (List.mem_of_getElem? (i := 54) rfl)) rfl
theorem gw_1148 : (Jvm.Cond.instanceMethod ({ cls := "FarDishesModel", name := "order", desc := "(II)I" } : Jvm.MethodName)) ∈ qG := qG_t (gt_7 (List.mem_of_getElem? (i := 55) rfl)) rfl
theorem gw_1149 : (Jvm.Cond.selects "FarDishesModel" ({ cls := "FarDishesModel", name := "order", desc := "(II)I" } : Jvm.MethodName) ({ cls := "FarDishesModel", name := "order", desc := "(II)I" } : Jvm.MethodName)) ∈ qG := qG_t (gt_7 (List.mem_of_getElem? (i := 56) rfl)) rfl
theorem gw_1150 : (Jvm.Cond.code ({ cls := "FarDishes", name := "again", desc := "(II)I" } : Jvm.MethodName) prog_1_method_31_code (4 : Nat) (Option.some Jvm.ClassFile.FieldType.int)) ∈ qG := qG_t (gt_4 (List.mem_of_getElem? (i := 217) rfl)) rfl
theorem gw_1151 : (Jvm.Cond.methodLink "FarDishesLaw" (135 : Nat) ({ cls := "FarDishes", name := "again", desc := "(II)I" } : Jvm.MethodName)) ∈ qG := qG_t (gt_4 (List.mem_of_getElem? (i := 214) rfl)) rfl
theorem gw_1152 : (Jvm.Cond.instanceMethod ({ cls := "FarDishes", name := "again", desc := "(II)I" } : Jvm.MethodName)) ∈ qG := qG_t (gt_4 (List.mem_of_getElem? (i := 215) rfl)) rfl
theorem gw_1153 : (Jvm.Cond.selects "FarDishes" ({ cls := "FarDishes", name := "again", desc := "(II)I" } : Jvm.MethodName) ({ cls := "FarDishes", name := "again", desc := "(II)I" } : Jvm.MethodName)) ∈ qG := qG_t (gt_4 (List.mem_of_getElem? (i := 216) rfl)) rfl
theorem gw_1154 : (Jvm.Cond.code ({ cls := "FarDishesModel", name := "again", desc := "(II)I" } : Jvm.MethodName) prog_14_method_75_code (4 : Nat) (Option.some Jvm.ClassFile.FieldType.int)) ∈ qG := qG_t (gt_7 (List.mem_of_getElem? (i := 61) rfl)) rfl
theorem gw_1155 : (Jvm.Cond.methodLink "FarDishesLaw" (138 : Nat) ({ cls := "FarDishesModel", name := "again", desc := "(II)I" } : Jvm.MethodName)) ∈ qG := qG_t (gt_7 (List.mem_of_getElem? (i := 58) rfl)) rfl
theorem gw_1156 : (Jvm.Cond.instanceMethod ({ cls := "FarDishesModel", name := "again", desc := "(II)I" } : Jvm.MethodName)) ∈ qG := qG_t (gt_7 (List.mem_of_getElem? (i := 59) rfl)) rfl
theorem gw_1157 : (Jvm.Cond.selects "FarDishesModel" ({ cls := "FarDishesModel", name := "again", desc := "(II)I" } : Jvm.MethodName) ({ cls := "FarDishesModel", name := "again", desc := "(II)I" } : Jvm.MethodName)) ∈ qG := qG_t (gt_7 (List.mem_of_getElem? (i := 60) rfl)) rfl
theorem gw_1158 : (Jvm.Cond.code ({ cls := "FarDishes", name := "orderIs", desc := "(III)I" } : Jvm.MethodName) prog_1_method_32_code (5 : Nat) (Option.some Jvm.ClassFile.FieldType.int)) ∈ qG := qG_t (gt_4 (List.mem_of_getElem? (i := 229) rfl)) rfl
theorem gw_1159 : (Jvm.Cond.methodLink "FarDishesLaw" (139 : Nat) ({ cls := "FarDishes", name := "orderIs", desc := "(III)I" } : Jvm.MethodName)) ∈ qG := qG_t (gt_4 (List.mem_of_getElem? (i := 226) rfl)) rfl
theorem gw_1160 : (Jvm.Cond.instanceMethod ({ cls := "FarDishes", name := "orderIs", desc := "(III)I" } : Jvm.MethodName)) ∈ qG := qG_t (gt_4 (List.mem_of_getElem? (i := 227) rfl)) rfl
theorem gw_1161 : (Jvm.Cond.selects "FarDishes" ({ cls := "FarDishes", name := "orderIs", desc := "(III)I" } : Jvm.MethodName) ({ cls := "FarDishes", name := "orderIs", desc := "(III)I" } : Jvm.MethodName)) ∈ qG := qG_t (gt_4 (List.mem_of_getElem? (i := 228) rfl)) rfl
theorem gw_1162 : (Jvm.Cond.code ({ cls := "FarDishesModel", name := "orderIs", desc := "(III)I" } : Jvm.MethodName) prog_14_method_76_code (4 : Nat) (Option.some Jvm.ClassFile.FieldType.int)) ∈ qG := qG_t (gt_7 (List.mem_of_getElem? (i := 69) rfl)) rfl
theorem gw_1163 : (Jvm.Cond.methodLink "FarDishesLaw" (142 : Nat) ({ cls := "FarDishesModel", name := "orderIs", desc := "(III)I" } : Jvm.MethodName)) ∈ qG := qG_t (gt_7 (List.mem_of_getElem? (i := 66) rfl)) rfl
theorem gw_1164 : (Jvm.Cond.instanceMethod ({ cls := "FarDishesModel", name := "orderIs", desc := "(III)I" } : Jvm.MethodName)) ∈ qG := qG_t (gt_7 (List.mem_of_getElem? (i := 67) rfl)) rfl
theorem gw_1165 : (Jvm.Cond.selects "FarDishesModel" ({ cls := "FarDishesModel", name := "orderIs", desc := "(III)I" } : Jvm.MethodName) ({ cls := "FarDishesModel", name := "orderIs", desc := "(III)I" } : Jvm.MethodName)) ∈ qG := qG_t (gt_7 (List.mem_of_getElem? (i := 68) rfl)) rfl
theorem gw_1166 : (Jvm.Cond.code ({ cls := "FarDishes", name := "table", desc := "(IIIZ)I" } : Jvm.MethodName) prog_1_method_33_code (5 : Nat) (Option.some Jvm.ClassFile.FieldType.int)) ∈ qG := qG_t (gt_4 (List.mem_of_getElem? (i := 233) rfl)) rfl
theorem gw_1167 : (Jvm.Cond.methodLink "FarDishesLaw" (143 : Nat) ({ cls := "FarDishes", name := "table", desc := "(IIIZ)I" } : Jvm.MethodName)) ∈ qG := qG_t (gt_4 (List.mem_of_getElem? (i := 230) rfl)) rfl
theorem gw_1168 : (Jvm.Cond.instanceMethod ({ cls := "FarDishes", name := "table", desc := "(IIIZ)I" } : Jvm.MethodName)) ∈ qG := qG_t (gt_4 (List.mem_of_getElem? (i := 231) rfl)) rfl
theorem gw_1169 : (Jvm.Cond.selects "FarDishes" ({ cls := "FarDishes", name := "table", desc := "(IIIZ)I" } : Jvm.MethodName) ({ cls := "FarDishes", name := "table", desc := "(IIIZ)I" } : Jvm.MethodName)) ∈ qG := qG_t (gt_4 (List.mem_of_getElem? (i := 232) rfl)) rfl
theorem gw_1170 : (Jvm.Cond.code ({ cls := "FarDishesModel", name := "table", desc := "(IIIZ)I" } : Jvm.MethodName) prog_14_method_78_code (5 : Nat) (Option.some Jvm.ClassFile.FieldType.int)) ∈ qG := qG_t (gt_7 (List.mem_of_getElem? (i := 73) rfl)) rfl
theorem gw_1171 : (Jvm.Cond.methodLink "FarDishesLaw" (147 : Nat) ({ cls := "FarDishesModel", name := "table", desc := "(IIIZ)I" } : Jvm.MethodName)) ∈ qG := qG_t (gt_7 (List.mem_of_getElem? (i := 70) rfl)) rfl
theorem gw_1172 : (Jvm.Cond.instanceMethod ({ cls := "FarDishesModel", name := "table", desc := "(IIIZ)I" } : Jvm.MethodName)) ∈ qG := qG_t (gt_7 (List.mem_of_getElem? (i := 71) rfl)) rfl
theorem gw_1173 : (Jvm.Cond.selects "FarDishesModel" ({ cls := "FarDishesModel", name := "table", desc := "(IIIZ)I" } : Jvm.MethodName) ({ cls := "FarDishesModel", name := "table", desc := "(IIIZ)I" } : Jvm.MethodName)) ∈ qG := qG_t (gt_7 (List.mem_of_getElem? (i := 72) rfl)) rfl
theorem gw_1174 : (Jvm.Cond.code ({ cls := "FarDishes", name := "silence", desc := "(II)I" } : Jvm.MethodName) prog_1_method_34_code (4 : Nat) (Option.some Jvm.ClassFile.FieldType.int)) ∈ qG := qG_t (gt_5 (List.mem_of_getElem? (i := 1) rfl)) rfl
theorem gw_1175 : (Jvm.Cond.methodLink "FarDishesLaw" (148 : Nat) ({ cls := "FarDishes", name := "silence", desc := "(II)I" } : Jvm.MethodName)) ∈ qG := qG_t (gt_4 (List.mem_of_getElem? (i := 238) rfl)) rfl
theorem gw_1176 : (Jvm.Cond.instanceMethod ({ cls := "FarDishes", name := "silence", desc := "(II)I" } : Jvm.MethodName)) ∈ qG := qG_t (gt_4 (List.mem_of_getElem? (i := 239) rfl)) rfl
theorem gw_1177 : (Jvm.Cond.selects "FarDishes" ({ cls := "FarDishes", name := "silence", desc := "(II)I" } : Jvm.MethodName) ({ cls := "FarDishes", name := "silence", desc := "(II)I" } : Jvm.MethodName)) ∈ qG := qG_t (gt_5 (List.mem_of_getElem? (i := 0) rfl)) rfl
theorem gw_1178 : (Jvm.Cond.code ({ cls := "FarDishesModel", name := "silence", desc := "(II)I" } : Jvm.MethodName) prog_14_method_80_code (4 : Nat) (Option.some Jvm.ClassFile.FieldType.int)) ∈ qG := qG_t (gt_7 (List.mem_of_getElem? (i := 80) rfl)) rfl
theorem gw_1179 : (Jvm.Cond.methodLink "FarDishesLaw" (151 : Nat) ({ cls := "FarDishesModel", name := "silence", desc := "(II)I" } : Jvm.MethodName)) ∈ qG := qG_t (gt_7 (List.mem_of_getElem? (i := 77) rfl)) rfl
theorem gw_1180 : (Jvm.Cond.instanceMethod ({ cls := "FarDishesModel", name := "silence", desc := "(II)I" } : Jvm.MethodName)) ∈ qG := qG_t (gt_7 (List.mem_of_getElem? (i := 78) rfl)) rfl
theorem gw_1181 : (Jvm.Cond.selects "FarDishesModel" ({ cls := "FarDishesModel", name := "silence", desc := "(II)I" } : Jvm.MethodName) ({ cls := "FarDishesModel", name := "silence", desc := "(II)I" } : Jvm.MethodName)) ∈ qG := qG_t (gt_7 (List.mem_of_getElem? (i := 79) rfl)) rfl
theorem gw_1182 : (Jvm.Cond.code ({ cls := "FarDishes", name := "ever", desc := "(I)I" } : Jvm.MethodName) prog_1_method_35_code (2 : Nat) (Option.some Jvm.ClassFile.FieldType.int)) ∈ qG := qG_t (gt_5 (List.mem_of_getElem? (i := 9) rfl)) rfl
theorem gw_1183 : (Jvm.Cond.methodLink "FarDishesLaw" (152 : Nat) ({ cls := "FarDishes", name := "ever", desc := "(I)I" } : Jvm.MethodName)) ∈ qG := qG_t (gt_5 (List.mem_of_getElem? (i := 6) rfl)) rfl
theorem gw_1184 : (Jvm.Cond.instanceMethod ({ cls := "FarDishes", name := "ever", desc := "(I)I" } : Jvm.MethodName)) ∈ qG := qG_t (gt_5 (List.mem_of_getElem? (i := 7) rfl)) rfl
theorem gw_1185 : (Jvm.Cond.selects "FarDishes" ({ cls := "FarDishes", name := "ever", desc := "(I)I" } : Jvm.MethodName) ({ cls := "FarDishes", name := "ever", desc := "(I)I" } : Jvm.MethodName)) ∈ qG := qG_t (gt_5 (List.mem_of_getElem? (i := 8) rfl)) rfl
theorem gw_1186 : (Jvm.Cond.code ({ cls := "FarDishesModel", name := "ever", desc := "(I)I" } : Jvm.MethodName) prog_14_method_81_code (4 : Nat) (Option.some Jvm.ClassFile.FieldType.int)) ∈ qG := qG_t (gt_7 (List.mem_of_getElem? (i := 88) rfl)) rfl
theorem gw_1187 : (Jvm.Cond.methodLink "FarDishesLaw" (155 : Nat) ({ cls := "FarDishesModel", name := "ever", desc := "(I)I" } : Jvm.MethodName)) ∈ qG := qG_t (gt_7 (List.mem_of_getElem? (i := 85) rfl)) rfl
theorem gw_1188 : (Jvm.Cond.instanceMethod ({ cls := "FarDishesModel", name := "ever", desc := "(I)I" } : Jvm.MethodName)) ∈ qG := qG_t (gt_7 (List.mem_of_getElem? (i := 86) rfl)) rfl
theorem gw_1189 : (Jvm.Cond.selects "FarDishesModel" ({ cls := "FarDishesModel", name := "ever", desc := "(I)I" } : Jvm.MethodName) ({ cls := "FarDishesModel", name := "ever", desc := "(I)I" } : Jvm.MethodName)) ∈ qG := qG_t (gt_7 (List.mem_of_getElem? (i := 87) rfl)) rfl
theorem gw_1190 : (Jvm.Cond.code ({ cls := "FarDishes", name := "cell", desc := "(II)I" } : Jvm.MethodName) prog_1_method_36_code (3 : Nat) (Option.some Jvm.ClassFile.FieldType.int)) ∈ qG := qG_t (gt_5 (List.mem_of_getElem? (i := 18) rfl)) rfl
theorem gw_1191 : (Jvm.Cond.methodLink "FarDishesLaw" (156 : Nat) ({ cls := "FarDishes", name := "cell", desc := "(II)I" } : Jvm.MethodName)) ∈ qG := qG_t (gt_5 (List.mem_of_getElem? (i := 15) rfl)) rfl
theorem gw_1192 : (Jvm.Cond.instanceMethod ({ cls := "FarDishes", name := "cell", desc := "(II)I" } : Jvm.MethodName)) ∈ qG := qG_t (gt_5 (List.mem_of_getElem? (i := 16) rfl)) rfl
theorem gw_1193 : (Jvm.Cond.selects "FarDishes" ({ cls := "FarDishes", name := "cell", desc := "(II)I" } : Jvm.MethodName) ({ cls := "FarDishes", name := "cell", desc := "(II)I" } : Jvm.MethodName)) ∈ qG := qG_t (gt_5 (List.mem_of_getElem? (i := 17) rfl)) rfl
theorem gw_1194 : (Jvm.Cond.code ({ cls := "FarDishesModel", name := "cell", desc := "(II)I" } : Jvm.MethodName) prog_14_method_82_code (3 : Nat) (Option.some Jvm.ClassFile.FieldType.int)) ∈ qG := qG_t (gt_7 (List.mem_of_getElem? (i := 92) rfl)) rfl
theorem gw_1195 : (Jvm.Cond.methodLink "FarDishesLaw" (159 : Nat) ({ cls := "FarDishesModel", name := "cell", desc := "(II)I" } : Jvm.MethodName)) ∈ qG := qG_t (gt_7 (List.mem_of_getElem? (i := 89) rfl)) rfl
theorem gw_1196 : (Jvm.Cond.instanceMethod ({ cls := "FarDishesModel", name := "cell", desc := "(II)I" } : Jvm.MethodName)) ∈ qG := qG_t (gt_7 (List.mem_of_getElem? (i := 90) rfl)) rfl
theorem gw_1197 : (Jvm.Cond.selects "FarDishesModel" ({ cls := "FarDishesModel", name := "cell", desc := "(II)I" } : Jvm.MethodName) ({ cls := "FarDishesModel", name := "cell", desc := "(II)I" } : Jvm.MethodName)) ∈ qG := qG_t (gt_7 (List.mem_of_getElem? (i := 91) rfl)) rfl
theorem gw_1198 : (Jvm.Cond.code ({ cls := "FarDishes", name := "seek", desc := "()I" } : Jvm.MethodName) prog_1_method_37_code (2 : Nat) (Option.some Jvm.ClassFile.FieldType.int)) ∈ qG := qG_t (gt_5 (List.mem_of_getElem? (i := 27) rfl)) rfl
theorem gw_1199 : (Jvm.Cond.methodLink "FarDishesLaw" (160 : Nat) ({ cls := "FarDishes", name := "seek", desc := "()I" } : Jvm.MethodName)) ∈ qG := qG_t (gt_5 (List.mem_of_getElem? (i := 24) rfl)) rfl
theorem gw_1200 : (Jvm.Cond.instanceMethod ({ cls := "FarDishes", name := "seek", desc := "()I" } : Jvm.MethodName)) ∈ qG := qG_t (gt_5 (List.mem_of_getElem? (i := 25) rfl)) rfl
theorem gw_1201 : (Jvm.Cond.selects "FarDishes" ({ cls := "FarDishes", name := "seek", desc := "()I" } : Jvm.MethodName) ({ cls := "FarDishes", name := "seek", desc := "()I" } : Jvm.MethodName)) ∈ qG := qG_t (gt_5 (List.mem_of_getElem? (i := 26) rfl)) rfl
theorem gw_1202 : (Jvm.Cond.code ({ cls := "FarDishesModel", name := "seek", desc := "()I" } : Jvm.MethodName) prog_14_method_84_code (2 : Nat) (Option.some Jvm.ClassFile.FieldType.int)) ∈ qG := qG_t (gt_7 (List.mem_of_getElem? (i := 96) rfl)) rfl
theorem gw_1203 : (Jvm.Cond.methodLink "FarDishesLaw" (163 : Nat) ({ cls := "FarDishesModel", name := "seek", desc := "()I" } : Jvm.MethodName)) ∈ qG := qG_t (gt_7 (List.mem_of_getElem? (i := 93) rfl)) rfl
theorem gw_1204 : (Jvm.Cond.instanceMethod ({ cls := "FarDishesModel", name := "seek", desc := "()I" } : Jvm.MethodName)) ∈ qG := qG_t (gt_7 (List.mem_of_getElem? (i := 94) rfl)) rfl
theorem gw_1205 : (Jvm.Cond.selects "FarDishesModel" ({ cls := "FarDishesModel", name := "seek", desc := "()I" } : Jvm.MethodName) ({ cls := "FarDishesModel", name := "seek", desc := "()I" } : Jvm.MethodName)) ∈ qG := qG_t (gt_7 (List.mem_of_getElem? (i := 95) rfl)) rfl
theorem gw_1206 : (Jvm.Cond.code ({ cls := "FarDishes", name := "stop", desc := "(I)I" } : Jvm.MethodName) prog_1_method_38_code (3 : Nat) (Option.some Jvm.ClassFile.FieldType.int)) ∈ qG := qG_t (gt_5 (List.mem_of_getElem? (i := 42) rfl)) rfl
theorem gw_1207 : (Jvm.Cond.methodLink "FarDishesLaw" (164 : Nat) ({ cls := "FarDishes", name := "stop", desc := "(I)I" } : Jvm.MethodName)) ∈ qG := qG_t (gt_5 (List.mem_of_getElem? (i := 39) rfl)) rfl
theorem gw_1208 : (Jvm.Cond.instanceMethod ({ cls := "FarDishes", name := "stop", desc := "(I)I" } : Jvm.MethodName)) ∈ qG := qG_t (gt_5 (List.mem_of_getElem? (i := 40) rfl)) rfl
theorem gw_1209 : (Jvm.Cond.selects "FarDishes" ({ cls := "FarDishes", name := "stop", desc := "(I)I" } : Jvm.MethodName) ({ cls := "FarDishes", name := "stop", desc := "(I)I" } : Jvm.MethodName)) ∈ qG := qG_t (gt_5 (List.mem_of_getElem? (i := 41) rfl)) rfl
theorem gw_1210 : (Jvm.Cond.code ({ cls := "FarDishesModel", name := "stop", desc := "(I)I" } : Jvm.MethodName) prog_14_method_85_code (6 : Nat) (Option.some Jvm.ClassFile.FieldType.int)) ∈ qG := qG_t (gt_7 (List.mem_of_getElem? (i := 104) rfl)) rfl
theorem gw_1211 : (Jvm.Cond.methodLink "FarDishesLaw" (167 : Nat) ({ cls := "FarDishesModel", name := "stop", desc := "(I)I" } : Jvm.MethodName)) ∈ qG := qG_t (gt_7 (List.mem_of_getElem? (i := 101) rfl)) rfl
theorem gw_1212 : (Jvm.Cond.instanceMethod ({ cls := "FarDishesModel", name := "stop", desc := "(I)I" } : Jvm.MethodName)) ∈ qG := qG_t (gt_7 (List.mem_of_getElem? (i := 102) rfl)) rfl
theorem gw_1213 : (Jvm.Cond.selects "FarDishesModel" ({ cls := "FarDishesModel", name := "stop", desc := "(I)I" } : Jvm.MethodName) ({ cls := "FarDishesModel", name := "stop", desc := "(I)I" } : Jvm.MethodName)) ∈ qG := qG_t (gt_7 (List.mem_of_getElem? (i := 103) rfl)) rfl
theorem gw_1214 : (Jvm.Cond.code ({ cls := "FarDishes", name := "check", desc := "(I)I" } : Jvm.MethodName) prog_1_method_39_code (4 : Nat) (Option.some Jvm.ClassFile.FieldType.int)) ∈ qG := qG_t (gt_5 (List.mem_of_getElem? (i := 54) rfl)) rfl
theorem gw_1215 : (Jvm.Cond.methodLink "FarDishesLaw" (168 : Nat) ({ cls := "FarDishes", name := "check", desc := "(I)I" } : Jvm.MethodName)) ∈ qG := qG_t (gt_5 (List.mem_of_getElem? (i := 51) rfl)) rfl
theorem gw_1216 : (Jvm.Cond.instanceMethod ({ cls := "FarDishes", name := "check", desc := "(I)I" } : Jvm.MethodName)) ∈ qG := qG_t (gt_5 (List.mem_of_getElem? (i := 52) rfl)) rfl
theorem gw_1217 : (Jvm.Cond.selects "FarDishes" ({ cls := "FarDishes", name := "check", desc := "(I)I" } : Jvm.MethodName) ({ cls := "FarDishes", name := "check", desc := "(I)I" } : Jvm.MethodName)) ∈ qG := qG_t (gt_5 (List.mem_of_getElem? (i := 53) rfl)) rfl
theorem gw_1218 : (Jvm.Cond.code ({ cls := "FarDishesModel", name := "check", desc := "(I)I" } : Jvm.MethodName) prog_14_method_86_code (3 : Nat) (Option.some Jvm.ClassFile.FieldType.int)) ∈ qG := qG_t (gt_7 (List.mem_of_getElem? (i := 108) rfl)) rfl
theorem gw_1219 : (Jvm.Cond.methodLink "FarDishesLaw" (171 : Nat) ({ cls := "FarDishesModel", name := "check", desc := "(I)I" } : Jvm.MethodName)) ∈ qG := qG_t (gt_7 (List.mem_of_getElem? (i := 105) rfl)) rfl
theorem gw_1220 : (Jvm.Cond.instanceMethod ({ cls := "FarDishesModel", name := "check", desc := "(I)I" } : Jvm.MethodName)) ∈ qG := qG_t (gt_7 (List.mem_of_getElem? (i := 106) rfl)) rfl
theorem gw_1221 : (Jvm.Cond.selects "FarDishesModel" ({ cls := "FarDishesModel", name := "check", desc := "(I)I" } : Jvm.MethodName) ({ cls := "FarDishesModel", name := "check", desc := "(I)I" } : Jvm.MethodName)) ∈ qG := qG_t (gt_7 (List.mem_of_getElem? (i := 107) rfl)) rfl
theorem gw_1222 : (Jvm.Cond.code ({ cls := "FarDishes", name := "sheet", desc := "(III)I" } : Jvm.MethodName) prog_1_method_40_code (4 : Nat) (Option.some Jvm.ClassFile.FieldType.int)) ∈ qG := qG_t (gt_5 (List.mem_of_getElem? (i := 95) rfl)) rfl
theorem gw_1223 : (Jvm.Cond.methodLink "FarDishesLaw" (172 : Nat) ({ cls := "FarDishes", name := "sheet", desc := "(III)I" } : Jvm.MethodName)) ∈ qG := qG_t (gt_5 (List.mem_of_getElem? (i := 92) rfl)) rfl
theorem gw_1224 : (Jvm.Cond.instanceMethod ({ cls := "FarDishes", name := "sheet", desc := "(III)I" } : Jvm.MethodName)) ∈ qG := qG_t (gt_5 (List.mem_of_getElem? (i := 93) rfl)) rfl
theorem gw_1225 : (Jvm.Cond.selects "FarDishes" ({ cls := "FarDishes", name := "sheet", desc := "(III)I" } : Jvm.MethodName) ({ cls := "FarDishes", name := "sheet", desc := "(III)I" } : Jvm.MethodName)) ∈ qG := qG_t (gt_5 (List.mem_of_getElem? (i := 94) rfl)) rfl
theorem gw_1226 : (Jvm.Cond.code ({ cls := "FarDishesModel", name := "sheet", desc := "(III)I" } : Jvm.MethodName) prog_14_method_88_code (5 : Nat) (Option.some Jvm.ClassFile.FieldType.int)) ∈ qG := qG_t (gt_7 (List.mem_of_getElem? (i := 112) rfl)) rfl
theorem gw_1227 : (Jvm.Cond.methodLink "FarDishesLaw" (175 : Nat) ({ cls := "FarDishesModel", name := "sheet", desc := "(III)I" } : Jvm.MethodName)) ∈ qG := qG_t (gt_7 (List.mem_of_getElem? (i := 109) rfl)) rfl
theorem gw_1228 : (Jvm.Cond.instanceMethod ({ cls := "FarDishesModel", name := "sheet", desc := "(III)I" } : Jvm.MethodName)) ∈ qG := qG_t (gt_7 (List.mem_of_getElem? (i := 110) rfl)) rfl
theorem gw_1229 : (Jvm.Cond.selects "FarDishesModel" ({ cls := "FarDishesModel", name := "sheet", desc := "(III)I" } : Jvm.MethodName) ({ cls := "FarDishesModel", name := "sheet", desc := "(III)I" } : Jvm.MethodName)) ∈ qG := qG_t (gt_7 (List.mem_of_getElem? (i := 111) rfl)) rfl
theorem gw_1230 : (Jvm.Cond.code ({ cls := "FarDishes", name := "write", desc := "(III)I" } : Jvm.MethodName) prog_1_method_41_code (5 : Nat) (Option.some Jvm.ClassFile.FieldType.int)) ∈ qG := qG_t (gt_5 (List.mem_of_getElem? (i := 103) rfl)) rfl
theorem gw_1231 : (Jvm.Cond.methodLink "FarDishesLaw" (176 : Nat) ({ cls := "FarDishes", name := "write", desc := "(III)I" } : Jvm.MethodName)) ∈ qG := qG_t (gt_5 (List.mem_of_getElem? (i := 100) rfl)) rfl
theorem gw_1232 : (Jvm.Cond.instanceMethod ({ cls := "FarDishes", name := "write", desc := "(III)I" } : Jvm.MethodName)) ∈ qG := qG_t (gt_5 (List.mem_of_getElem? (i := 101) rfl)) rfl
theorem gw_1233 : (Jvm.Cond.selects "FarDishes" ({ cls := "FarDishes", name := "write", desc := "(III)I" } : Jvm.MethodName) ({ cls := "FarDishes", name := "write", desc := "(III)I" } : Jvm.MethodName)) ∈ qG := qG_t (gt_5 (List.mem_of_getElem? (i := 102) rfl)) rfl
theorem gw_1234 : (Jvm.Cond.code ({ cls := "FarDishesModel", name := "write", desc := "(III)I" } : Jvm.MethodName) prog_14_method_89_code (4 : Nat) (Option.some Jvm.ClassFile.FieldType.int)) ∈ qG := qG_t (gt_7 (List.mem_of_getElem? (i := 116) rfl)) rfl
theorem gw_1235 : (Jvm.Cond.methodLink "FarDishesLaw" (179 : Nat) ({ cls := "FarDishesModel", name := "write", desc := "(III)I" } : Jvm.MethodName)) ∈ qG := qG_t (gt_7 (List.mem_of_getElem? (i := 113) rfl)) rfl
theorem gw_1236 : (Jvm.Cond.instanceMethod ({ cls := "FarDishesModel", name := "write", desc := "(III)I" } : Jvm.MethodName)) ∈ qG := qG_t (gt_7 (List.mem_of_getElem? (i := 114) rfl)) rfl
theorem gw_1237 : (Jvm.Cond.selects "FarDishesModel" ({ cls := "FarDishesModel", name := "write", desc := "(III)I" } : Jvm.MethodName) ({ cls := "FarDishesModel", name := "write", desc := "(III)I" } : Jvm.MethodName)) ∈ qG := qG_t (gt_7 (List.mem_of_getElem? (i := 115) rfl)) rfl
theorem gw_1238 : (Jvm.Cond.code ({ cls := "FarDishes", name := "copy", desc := "(IIIII)I" } : Jvm.MethodName) prog_1_method_42_code (8 : Nat) (Option.some Jvm.ClassFile.FieldType.int)) ∈ qG := qG_t (gt_5 (List.mem_of_getElem? (i := 111) rfl)) rfl
theorem gw_1239 : (Jvm.Cond.methodLink "FarDishesLaw" (180 : Nat) ({ cls := "FarDishes", name := "copy", desc := "(IIIII)I" } : Jvm.MethodName)) ∈ qG := qG_t (gt_5 (List.mem_of_getElem? (i := 108) rfl)) rfl
theorem gw_1240 : (Jvm.Cond.instanceMethod ({ cls := "FarDishes", name := "copy", desc := "(IIIII)I" } : Jvm.MethodName)) ∈ qG := qG_t (gt_5 (List.mem_of_getElem? (i := 109) rfl)) rfl
theorem gw_1241 : (Jvm.Cond.selects "FarDishes" ({ cls := "FarDishes", name := "copy", desc := "(IIIII)I" } : Jvm.MethodName) ({ cls := "FarDishes", name := "copy", desc := "(IIIII)I" } : Jvm.MethodName)) ∈ qG := qG_t (gt_5 (List.mem_of_getElem? (i := 110) rfl)) rfl
theorem gw_1242 : (Jvm.Cond.code ({ cls := "FarDishesModel", name := "copy", desc := "(IIIII)I" } : Jvm.MethodName) prog_14_method_90_code (7 : Nat) (Option.some Jvm.ClassFile.FieldType.int)) ∈ qG := qG_t (gt_7 (List.mem_of_getElem? (i := 120) rfl)) rfl
theorem gw_1243 : (Jvm.Cond.methodLink "FarDishesLaw" (184 : Nat) ({ cls := "FarDishesModel", name := "copy", desc := "(IIIII)I" } : Jvm.MethodName)) ∈ qG := qG_t (gt_7 (List.mem_of_getElem? (i := 117) rfl)) rfl
theorem gw_1244 : (Jvm.Cond.instanceMethod ({ cls := "FarDishesModel", name := "copy", desc := "(IIIII)I" } : Jvm.MethodName)) ∈ qG := qG_t (gt_7 (List.mem_of_getElem? (i := 118) rfl)) rfl
theorem gw_1245 : (Jvm.Cond.selects "FarDishesModel" ({ cls := "FarDishesModel", name := "copy", desc := "(IIIII)I" } : Jvm.MethodName) ({ cls := "FarDishesModel", name := "copy", desc := "(IIIII)I" } : Jvm.MethodName)) ∈ qG := qG_t (gt_7 (List.mem_of_getElem? (i := 119) rfl)) rfl
theorem gw_1246 : (Jvm.Cond.code ({ cls := "FarDishes", name := "image", desc := "()I" } : Jvm.MethodName) prog_1_method_43_code (1 : Nat) (Option.some Jvm.ClassFile.FieldType.int)) ∈ qG := qG_t (gt_5 (List.mem_of_getElem? (i := 120) rfl)) rfl
theorem gw_1247 : (Jvm.Cond.methodLink "FarDishesLaw" (185 : Nat) ({ cls := "FarDishes", name := "image", desc := "()I" } : Jvm.MethodName)) ∈ qG := qG_t (gt_5 (List.mem_of_getElem? (i := 117) rfl)) rfl
theorem gw_1248 : (Jvm.Cond.instanceMethod ({ cls := "FarDishes", name := "image", desc := "()I" } : Jvm.MethodName)) ∈ qG := qG_t (gt_5 (List.mem_of_getElem? (i := 118) rfl)) rfl
theorem gw_1249 : (Jvm.Cond.selects "FarDishes" ({ cls := "FarDishes", name := "image", desc := "()I" } : Jvm.MethodName) ({ cls := "FarDishes", name := "image", desc := "()I" } : Jvm.MethodName)) ∈ qG := qG_t (gt_5 (List.mem_of_getElem? (i := 119) rfl)) rfl
theorem gw_1250 : (Jvm.Cond.code ({ cls := "FarDishesModel", name := "image", desc := "()I" } : Jvm.MethodName) prog_14_method_91_code (1 : Nat) (Option.some Jvm.ClassFile.FieldType.int)) ∈ qG := qG_t (gt_7 (List.mem_of_getElem? (i := 124) rfl)) rfl
theorem gw_1251 : (Jvm.Cond.methodLink "FarDishesLaw" (188 : Nat) ({ cls := "FarDishesModel", name := "image", desc := "()I" } : Jvm.MethodName)) ∈ qG := qG_t (gt_7 (List.mem_of_getElem? (i := 121) rfl)) rfl
theorem gw_1252 : (Jvm.Cond.instanceMethod ({ cls := "FarDishesModel", name := "image", desc := "()I" } : Jvm.MethodName)) ∈ qG := qG_t (gt_7 (List.mem_of_getElem? (i := 122) rfl)) rfl
theorem gw_1253 : (Jvm.Cond.selects "FarDishesModel" ({ cls := "FarDishesModel", name := "image", desc := "()I" } : Jvm.MethodName) ({ cls := "FarDishesModel", name := "image", desc := "()I" } : Jvm.MethodName)) ∈ qG := qG_t (gt_7 (List.mem_of_getElem? (i := 123) rfl)) rfl
theorem gw_1254 : (Jvm.Cond.code ({ cls := "FarDishes", name := "undo", desc := "()I" } : Jvm.MethodName) prog_1_method_44_code (1 : Nat) (Option.some Jvm.ClassFile.FieldType.int)) ∈ qG := qG_t (gt_5 (List.mem_of_getElem? (i := 124) rfl)) rfl
theorem gw_1255 : (Jvm.Cond.methodLink "FarDishesLaw" (189 : Nat) ({ cls := "FarDishes", name := "undo", desc := "()I" } : Jvm.MethodName)) ∈ qG := qG_t (gt_5 (List.mem_of_getElem? (i := 121) rfl)) rfl
theorem gw_1256 : (Jvm.Cond.instanceMethod ({ cls := "FarDishes", name := "undo", desc := "()I" } : Jvm.MethodName)) ∈ qG := qG_t (gt_5 (List.mem_of_getElem? (i := 122) rfl)) rfl
theorem gw_1257 : (Jvm.Cond.selects "FarDishes" ({ cls := "FarDishes", name := "undo", desc := "()I" } : Jvm.MethodName) ({ cls := "FarDishes", name := "undo", desc := "()I" } : Jvm.MethodName)) ∈ qG := qG_t (gt_5 (List.mem_of_getElem? (i := 123) rfl)) rfl
theorem gw_1258 : (Jvm.Cond.code ({ cls := "FarDishesModel", name := "undo", desc := "()I" } : Jvm.MethodName) prog_14_method_92_code (1 : Nat) (Option.some Jvm.ClassFile.FieldType.int)) ∈ qG := qG_t (gt_7 (List.mem_of_getElem? (i := 128) rfl)) rfl
theorem gw_1259 : (Jvm.Cond.methodLink "FarDishesLaw" (192 : Nat) ({ cls := "FarDishesModel", name := "undo", desc := "()I" } : Jvm.MethodName)) ∈ qG := qG_t (gt_7 (List.mem_of_getElem? (i := 125) rfl)) rfl
theorem gw_1260 : (Jvm.Cond.instanceMethod ({ cls := "FarDishesModel", name := "undo", desc := "()I" } : Jvm.MethodName)) ∈ qG := qG_t (gt_7 (List.mem_of_getElem? (i := 126) rfl)) rfl
theorem gw_1261 : (Jvm.Cond.selects "FarDishesModel" ({ cls := "FarDishesModel", name := "undo", desc := "()I" } : Jvm.MethodName) ({ cls := "FarDishesModel", name := "undo", desc := "()I" } : Jvm.MethodName)) ∈ qG := qG_t (gt_7 (List.mem_of_getElem? (i := 127) rfl)) rfl
theorem gw_1262 : (Jvm.Cond.code ({ cls := "FarDishes", name := "tear", desc := "()I" } : Jvm.MethodName) prog_1_method_45_code (2 : Nat) (Option.some Jvm.ClassFile.FieldType.int)) ∈ qG := qG_t (gt_5 (List.mem_of_getElem? (i := 128) rfl)) rfl
theorem gw_1263 : (Jvm.Cond.methodLink "FarDishesLaw" (193 : Nat) ({ cls := "FarDishes", name := "tear", desc := "()I" } : Jvm.MethodName)) ∈ qG := qG_t (gt_5 (List.mem_of_getElem? (i := 125) rfl)) rfl
theorem gw_1264 : (Jvm.Cond.instanceMethod ({ cls := "FarDishes", name := "tear", desc := "()I" } : Jvm.MethodName)) ∈ qG := qG_t (gt_5 (List.mem_of_getElem? (i := 126) rfl)) rfl
theorem gw_1265 : (Jvm.Cond.selects "FarDishes" ({ cls := "FarDishes", name := "tear", desc := "()I" } : Jvm.MethodName) ({ cls := "FarDishes", name := "tear", desc := "()I" } : Jvm.MethodName)) ∈ qG := qG_t (gt_5 (List.mem_of_getElem? (i := 127) rfl)) rfl
theorem gw_1266 : (Jvm.Cond.code ({ cls := "FarDishesModel", name := "tear", desc := "()I" } : Jvm.MethodName) prog_14_method_93_code (2 : Nat) (Option.some Jvm.ClassFile.FieldType.int)) ∈ qG := qG_t (gt_7 (List.mem_of_getElem? (i := 132) rfl)) rfl
theorem gw_1267 : (Jvm.Cond.methodLink "FarDishesLaw" (196 : Nat) ({ cls := "FarDishesModel", name := "tear", desc := "()I" } : Jvm.MethodName)) ∈ qG := qG_t (gt_7 (List.mem_of_getElem? (i := 129) rfl)) rfl
theorem gw_1268 : (Jvm.Cond.instanceMethod ({ cls := "FarDishesModel", name := "tear", desc := "()I" } : Jvm.MethodName)) ∈ qG := qG_t (gt_7 (List.mem_of_getElem? (i := 130) rfl)) rfl
theorem gw_1269 : (Jvm.Cond.selects "FarDishesModel" ({ cls := "FarDishesModel", name := "tear", desc := "()I" } : Jvm.MethodName) ({ cls := "FarDishesModel", name := "tear", desc := "()I" } : Jvm.MethodName)) ∈ qG := qG_t (gt_7 (List.mem_of_getElem? (i := 131) rfl)) rfl
theorem gw_1270 : (Jvm.Cond.code ({ cls := "FarDishes", name := "count", desc := "(I)I" } : Jvm.MethodName) prog_1_method_46_code (2 : Nat) (Option.some Jvm.ClassFile.FieldType.int)) ∈ qG := qG_t (gt_5 (List.mem_of_getElem? (i := 132) rfl)) rfl
theorem gw_1271 : (Jvm.Cond.methodLink "FarDishesLaw" (197 : Nat) ({ cls := "FarDishes", name := "count", desc := "(I)I" } : Jvm.MethodName)) ∈ qG := qG_t (gt_5 (List.mem_of_getElem? (i := 129) rfl)) rfl
theorem gw_1272 : (Jvm.Cond.instanceMethod ({ cls := "FarDishes", name := "count", desc := "(I)I" } : Jvm.MethodName)) ∈ qG := qG_t (gt_5 (List.mem_of_getElem? (i := 130) rfl)) rfl
theorem gw_1273 : (Jvm.Cond.selects "FarDishes" ({ cls := "FarDishes", name := "count", desc := "(I)I" } : Jvm.MethodName) ({ cls := "FarDishes", name := "count", desc := "(I)I" } : Jvm.MethodName)) ∈ qG := qG_t (gt_5 (List.mem_of_getElem? (i := 131) rfl)) rfl
theorem gw_1274 : (Jvm.Cond.code ({ cls := "FarDishesModel", name := "count", desc := "(I)I" } : Jvm.MethodName) prog_14_method_95_code (4 : Nat) (Option.some Jvm.ClassFile.FieldType.int)) ∈ qG := qG_t (gt_7 (List.mem_of_getElem? (i := 136) rfl)) rfl
theorem gw_1275 : (Jvm.Cond.methodLink "FarDishesLaw" (200 : Nat) ({ cls := "FarDishesModel", name := "count", desc := "(I)I" } : Jvm.MethodName)) ∈ qG := qG_t (gt_7 (List.mem_of_getElem? (i := 133) rfl)) rfl
theorem gw_1276 : (Jvm.Cond.instanceMethod ({ cls := "FarDishesModel", name := "count", desc := "(I)I" } : Jvm.MethodName)) ∈ qG := qG_t (gt_7 (List.mem_of_getElem? (i := 134) rfl)) rfl
theorem gw_1277 : (Jvm.Cond.selects "FarDishesModel" ({ cls := "FarDishesModel", name := "count", desc := "(I)I" } : Jvm.MethodName) ({ cls := "FarDishesModel", name := "count", desc := "(I)I" } : Jvm.MethodName)) ∈ qG := qG_t (gt_7 (List.mem_of_getElem? (i := 135) rfl)) rfl
theorem gw_1278 : (Jvm.Cond.code ({ cls := "FarDishes", name := "status", desc := "(I)I" } : Jvm.MethodName) prog_1_method_47_code (4 : Nat) (Option.some Jvm.ClassFile.FieldType.int)) ∈ qG := qG_t (gt_5 (List.mem_of_getElem? (i := 152) rfl)) rfl
theorem gw_1279 : (Jvm.Cond.methodLink "FarDishesLaw" (201 : Nat) ({ cls := "FarDishes", name := "status", desc := "(I)I" } : Jvm.MethodName)) ∈ qG := qG_t (gt_5 (List.mem_of_getElem? (i := 149) rfl)) rfl
theorem gw_1280 : (Jvm.Cond.instanceMethod ({ cls := "FarDishes", name := "status", desc := "(I)I" } : Jvm.MethodName)) ∈ qG := qG_t (gt_5 (List.mem_of_getElem? (i := 150) rfl)) rfl
theorem gw_1281 : (Jvm.Cond.selects "FarDishes" ({ cls := "FarDishes", name := "status", desc := "(I)I" } : Jvm.MethodName) ({ cls := "FarDishes", name := "status", desc := "(I)I" } : Jvm.MethodName)) ∈ qG := qG_t (gt_5 (List.mem_of_getElem? (i := 151) rfl)) rfl
theorem gw_1282 : (Jvm.Cond.code ({ cls := "FarDishesModel", name := "status", desc := "(I)I" } : Jvm.MethodName) prog_14_method_96_code (4 : Nat) (Option.some Jvm.ClassFile.FieldType.int)) ∈ qG := qG_t (gt_7 (List.mem_of_getElem? (i := 144) rfl)) rfl
theorem gw_1283 : (Jvm.Cond.methodLink "FarDishesLaw" (204 : Nat) ({ cls := "FarDishesModel", name := "status", desc := "(I)I" } : Jvm.MethodName)) ∈ qG := qG_t (gt_7 (List.mem_of_getElem? (i := 141) rfl)) rfl
theorem gw_1284 : (Jvm.Cond.instanceMethod ({ cls := "FarDishesModel", name := "status", desc := "(I)I" } : Jvm.MethodName)) ∈ qG := qG_t (gt_7 (List.mem_of_getElem? (i := 142) rfl)) rfl
theorem gw_1285 : (Jvm.Cond.selects "FarDishesModel" ({ cls := "FarDishesModel", name := "status", desc := "(I)I" } : Jvm.MethodName) ({ cls := "FarDishesModel", name := "status", desc := "(I)I" } : Jvm.MethodName)) ∈ qG := qG_t (gt_7 (List.mem_of_getElem? (i := 143) rfl)) rfl
theorem gw_1286 : (Jvm.Cond.fieldLink "java/lang/String" (38 : Nat) "java/lang/String" "COMPACT_STRINGS" "Z") ∈ qG := qG_t (gt_3 (List.mem_of_getElem? (i := 122) rfl)) rfl
theorem gw_1287 : (Jvm.Cond.fieldLink "java/lang/String" (15 : Nat) "java/lang/String" "coder" "B") ∈ qG := qG_t (gt_7 (List.mem_of_getElem? (i := 146) rfl)) rfl
theorem gw_1288 : (Jvm.Cond.fieldLink "java/lang/String" (9 : Nat) "java/lang/String" "value" "[B") ∈ qG := qG_t (gt_7 (List.mem_of_getElem? (i := 145) rfl)) rfl
theorem gw_1289 : (Jvm.Cond.methodLink "java/lang/String" (335 : Nat) ({ cls := "java/lang/String", name := "coder", desc := "()B" } : Jvm.MethodName)) ∈ qG := qG_t (gt_3 (List.mem_of_getElem? (i := 118) rfl)) rfl
theorem gw_1290 : (Jvm.Cond.instanceMethod ({ cls := "java/lang/String", name := "coder", desc := "()B" } : Jvm.MethodName)) ∈ qG := qG_t (gt_3 (List.mem_of_getElem? (i := 119) rfl)) rfl
theorem gw_1291 : (Jvm.Cond.selects "java/lang/String" ({ cls := "java/lang/String", name := "coder", desc := "()B" } : Jvm.MethodName) ({ cls := "java/lang/String", name := "coder", desc := "()B" } : Jvm.MethodName)) ∈ qG := qG_t (gt_3 (List.mem_of_getElem? (i := 120) rfl)) rfl
theorem gw_1292 : (Jvm.Cond.initialized "java/lang/String") ∈ qG := qG_t (gt_1 (List.mem_of_getElem? (i := 15) rfl)) rfl
theorem gw_1293 : (Jvm.Cond.code ({ cls := "java/lang/String", name := "coder", desc := "()B" } : Jvm.MethodName) prog_16_method_152_code (1 : Nat) (Option.some Jvm.ClassFile.FieldType.byte)) ∈ qG := qG_t (gt_3 (List.mem_of_getElem? (i := 121) rfl)) rfl
theorem gw_1294 : (Jvm.Cond.methodLink "java/lang/String" (492 : Nat) ({ cls := "java/lang/String", name := "isLatin1", desc := "()Z" } : Jvm.MethodName)) ∈ qG := qG_t (gt_3 (List.mem_of_getElem? (i := 128) rfl)) rfl
theorem gw_1295 : (Jvm.Cond.instanceMethod ({ cls := "java/lang/String", name := "isLatin1", desc := "()Z" } : Jvm.MethodName)) ∈ qG := qG_t (gt_3 (List.mem_of_getElem? (i := 129) rfl)) rfl
theorem gw_1296 : (Jvm.Cond.selects "java/lang/String" ({ cls := "java/lang/String", name := "isLatin1", desc := "()Z" } : Jvm.MethodName) ({ cls := "java/lang/String", name := "isLatin1", desc := "()Z" } : Jvm.MethodName)) ∈ qG := qG_t (gt_3 (List.mem_of_getElem? (i := 130) rfl)) rfl
theorem gw_1297 : (Jvm.Cond.code ({ cls := "java/lang/String", name := "isLatin1", desc := "()Z" } : Jvm.MethodName) prog_16_method_154_code (1 : Nat) (Option.some Jvm.ClassFile.FieldType.boolean)) ∈ qG := qG_t (gt_3 (List.mem_of_getElem? (i := 131) rfl)) rfl
theorem gw_1298 : (Jvm.Cond.methodLink "java/lang/String" (495 : Nat) ({ cls := "java/lang/StringLatin1", name := "charAt", desc := "([BI)C" } : Jvm.MethodName)) ∈ qG := qG_t (gt_3 (List.mem_of_getElem? (i := 132) rfl)) rfl
theorem gw_1299 : (Jvm.Cond.static ({ cls := "java/lang/StringLatin1", name := "charAt", desc := "([BI)C" } : Jvm.MethodName)) ∈ qG := qG_t (gt_3 (List.mem_of_getElem? (i := 133) rfl)) rfl
theorem gw_1300 : (Jvm.Cond.initialized "java/lang/StringLatin1") ∈ qG := qG_t (gt_1 (List.mem_of_getElem? (i := 16) rfl)) rfl
theorem gw_1301 : (Jvm.Cond.code ({ cls := "java/lang/StringLatin1", name := "charAt", desc := "([BI)C" } : Jvm.MethodName) prog_17_method_2_code (2 : Nat) (Option.some Jvm.ClassFile.FieldType.char)) ∈ qG := qG_t (gt_3 (List.mem_of_getElem? (i := 134) rfl)) rfl
theorem gw_1302 : (Jvm.Cond.methodLink "java/lang/StringLatin1" (9 : Nat) ({ cls := "java/lang/String", name := "checkIndex", desc := "(II)V" } : Jvm.MethodName)) ∈ qG := qG_t (gt_3 (List.mem_of_getElem? (i := 135) rfl)) rfl
theorem gw_1303 : (Jvm.Cond.static ({ cls := "java/lang/String", name := "checkIndex", desc := "(II)V" } : Jvm.MethodName)) ∈ qG := qG_t (gt_3 (List.mem_of_getElem? (i := 136) rfl)) rfl
theorem gw_1304 : (Jvm.Cond.code ({ cls := "java/lang/String", name := "checkIndex", desc := "(II)V" } : Jvm.MethodName) prog_16_method_155_code (2 : Nat) (Option.none : Option Jvm.ClassFile.FieldType)) ∈ qG := qG_t (gt_3 (List.mem_of_getElem? (i := 137) rfl)) rfl
theorem gw_1305 : (Jvm.Cond.fieldLink "java/lang/String" (1053 : Nat) "jdk/internal/util/Preconditions" "SIOOBE_FORMATTER" "Ljava/util/function/BiFunction;") ∈ qG := qG_t (gt_3 (List.mem_of_getElem? (i := 138) rfl)) rfl
theorem gw_1306 : (Jvm.Cond.methodLink "java/lang/String" (1059 : Nat) ({ cls := "jdk/internal/util/Preconditions", name := "checkIndex", desc := "(IILjava/util/function/BiFunction;)I" } : Jvm.MethodName)) ∈ qG := qG_t (gt_3 (List.mem_of_getElem? (i := 140) rfl)) rfl
theorem gw_1307 : (Jvm.Cond.static ({ cls := "jdk/internal/util/Preconditions", name := "checkIndex", desc := "(IILjava/util/function/BiFunction;)I" } : Jvm.MethodName)) ∈ qG := qG_t (gt_3 (List.mem_of_getElem? (i := 141) rfl)) rfl
theorem gw_1308 : (Jvm.Cond.initialized "jdk/internal/util/Preconditions") ∈ qG := qG_t (gt_1 (List.mem_of_getElem? (i := 17) rfl)) rfl
theorem gw_1309 : (Jvm.Cond.code ({ cls := "jdk/internal/util/Preconditions", name := "checkIndex", desc := "(IILjava/util/function/BiFunction;)I" } : Jvm.MethodName) prog_20_method_11_code (3 : Nat) (Option.some Jvm.ClassFile.FieldType.int)) ∈ qG := qG_t (gt_3 (List.mem_of_getElem? (i := 142) rfl)) rfl
theorem gw_1310 : (Jvm.Cond.code ({ cls := "java/lang/String", name := "length", desc := "()I" } : Jvm.MethodName) prog_16_method_54_code (1 : Nat) (Option.some Jvm.ClassFile.FieldType.int)) ∈ qG := qG_t (gt_3 (List.mem_of_getElem? (i := 117) rfl)) rfl
theorem gw_1311 : (Jvm.Cond.code ({ cls := "java/lang/String", name := "charAt", desc := "(I)C" } : Jvm.MethodName) prog_16_method_56_code (2 : Nat) (Option.some Jvm.ClassFile.FieldType.char)) ∈ qG := qG_t (gt_3 (List.mem_of_getElem? (i := 127) rfl)) rfl
theorem gw_1312 : (Jvm.Cond.instanceMethod ({ cls := "java/lang/String", name := "length", desc := "()I" } : Jvm.MethodName)) ∈ qG := qG_t (gt_3 (List.mem_of_getElem? (i := 115) rfl)) rfl
theorem gw_1313 : (Jvm.Cond.instanceMethod ({ cls := "java/lang/String", name := "charAt", desc := "(I)C" } : Jvm.MethodName)) ∈ qG := qG_t (gt_3 (List.mem_of_getElem? (i := 125) rfl)) rfl
theorem gw_1314 : (Jvm.Cond.selects "java/lang/String" ({ cls := "java/lang/String", name := "length", desc := "()I" } : Jvm.MethodName) ({ cls := "java/lang/String", name := "length", desc := "()I" } : Jvm.MethodName)) ∈ qG := qG_t (gt_3 (List.mem_of_getElem? (i := 116) rfl)) rfl
theorem gw_1315 : (Jvm.Cond.selects "java/lang/String" ({ cls := "java/lang/String", name := "charAt", desc := "(I)C" } : Jvm.MethodName) ({ cls := "java/lang/String", name := "charAt", desc := "(I)C" } : Jvm.MethodName)) ∈ qG := qG_t (gt_3 (List.mem_of_getElem? (i := 126) rfl)) rfl
theorem gw_1316 : (Jvm.Cond.lays "FarDishes$Asking" "FarDishes$Asking" "kind" "I") ∈ qG := qG_t (gt_2 (List.mem_of_getElem? (i := 5) rfl)) rfl
theorem gw_1317 : (Jvm.Cond.lays "FarDishes$Asking" "FarDishes$Asking" "craft" "I") ∈ qG := qG_t (gt_2 (List.mem_of_getElem? (i := 7) rfl)) rfl
theorem gw_1318 : (Jvm.Cond.lays "FarDishes$Asking" "FarDishes$Asking" "n" "I") ∈ qG := qG_t (gt_2 (List.mem_of_getElem? (i := 9) rfl)) rfl
theorem gw_1319 : (Jvm.Cond.lays "FarDishes$Asking" "FarDishes$Asking" "from" "I") ∈ qG := qG_t (gt_2 (List.mem_of_getElem? (i := 11) rfl)) rfl
theorem gw_1320 : (Jvm.Cond.lays "FarDishes$Asking" "FarDishes$Asking" "to" "I") ∈ qG := qG_t (gt_2 (List.mem_of_getElem? (i := 13) rfl)) rfl
theorem gw_1321 : (Jvm.Cond.lays "FarDishes$Asking" "FarDishes$Asking" "worth" "I") ∈ qG := qG_t (gt_2 (List.mem_of_getElem? (i := 15) rfl)) rfl
theorem gw_1322 : (Jvm.Cond.lays "FarDishes$Asking" "FarDishes$Asking" "state" "I") ∈ qG := qG_t (gt_2 (List.mem_of_getElem? (i := 17) rfl)) rfl
theorem gw_1323 : (Jvm.Cond.lays "FarDishes$Asking" "FarDishes$Asking" "dish" "I") ∈ qG := qG_t (gt_2 (List.mem_of_getElem? (i := 19) rfl)) rfl
theorem gw_1324 : (Jvm.Cond.lays "FarDishes$Asking" "FarDishes$Asking" "start" "I") ∈ qG := qG_t (gt_2 (List.mem_of_getElem? (i := 21) rfl)) rfl
theorem gw_1325 : (Jvm.Cond.lays "FarDishes$Blocks" "FarDishes$Blocks" "room" "I") ∈ qG := qG_t (gt_1 (List.mem_of_getElem? (i := 110) rfl)) rfl
theorem gw_1326 : (Jvm.Cond.lays "FarDishes$Blocks" "FarDishes$Blocks" "size" "I") ∈ qG := qG_t (gt_1 (List.mem_of_getElem? (i := 112) rfl)) rfl
theorem gw_1327 : (Jvm.Cond.lays "FarDishes$Blocks" "FarDishes$Blocks" "made" "I") ∈ qG := qG_t (gt_1 (List.mem_of_getElem? (i := 114) rfl)) rfl
theorem gw_1328 : (Jvm.Cond.lays "FarDishes$Blocks" "FarDishes$Blocks" "had" "I") ∈ qG := qG_t (gt_1 (List.mem_of_getElem? (i := 116) rfl)) rfl
theorem gw_1329 : (Jvm.Cond.lays "FarDishes$Blocks" "FarDishes$Blocks" "dropped" "I") ∈ qG := qG_t (gt_1 (List.mem_of_getElem? (i := 118) rfl)) rfl
theorem gw_1330 : (Jvm.Cond.lays "FarDishes$Blocks" "FarDishes$Blocks" "lost" "I") ∈ qG := qG_t (gt_1 (List.mem_of_getElem? (i := 120) rfl)) rfl
theorem gw_1331 : (Jvm.Cond.laysFinal "FarDishes$Blocks" "FarDishes$Blocks" "number" "[I") ∈ qG := qG_t (gt_1 (List.mem_of_getElem? (i := 122) rfl)) rfl
theorem gw_1332 : (Jvm.Cond.laysFinal "FarDishes$Blocks" "FarDishes$Blocks" "sent" "[I") ∈ qG := qG_t (gt_1 (List.mem_of_getElem? (i := 124) rfl)) rfl
theorem gw_1333 : (Jvm.Cond.lays "FarDishes$Craft" "FarDishes$Craft" "loud" "I") ∈ qG := qG_t (gt_1 (List.mem_of_getElem? (i := 194) rfl)) rfl
theorem gw_1334 : (Jvm.Cond.lays "FarDishes$Craft" "FarDishes$Craft" "far" "I") ∈ qG := qG_t (gt_1 (List.mem_of_getElem? (i := 196) rfl)) rfl
theorem gw_1335 : (Jvm.Cond.lays "FarDishes$Craft" "FarDishes$Craft" "rate" "I") ∈ qG := qG_t (gt_1 (List.mem_of_getElem? (i := 198) rfl)) rfl
theorem gw_1336 : (Jvm.Cond.laysFinal "FarDishes$Craft" "FarDishes$Craft" "upFrom" "[I") ∈ qG := qG_t (gt_1 (List.mem_of_getElem? (i := 200) rfl)) rfl
theorem gw_1337 : (Jvm.Cond.laysFinal "FarDishes$Craft" "FarDishes$Craft" "upFor" "[I") ∈ qG := qG_t (gt_1 (List.mem_of_getElem? (i := 202) rfl)) rfl
theorem gw_1338 : (Jvm.Cond.laysFinal "FarDishes$Craft" "FarDishes$Craft" "blocks" "LFarDishes$Blocks;") ∈ qG := qG_t (gt_1 (List.mem_of_getElem? (i := 204) rfl)) rfl
theorem gw_1339 : (Jvm.Cond.laysFinal "FarDishes$Craft" "FarDishes$Craft" "orders" "LFarDishes$Orders;") ∈ qG := qG_t (gt_1 (List.mem_of_getElem? (i := 206) rfl)) rfl
theorem gw_1340 : (Jvm.Cond.laysFinal "FarDishes$Craft" "FarDishes$Craft" "quiet" "LFarDishes$Silence;") ∈ qG := qG_t (gt_1 (List.mem_of_getElem? (i := 208) rfl)) rfl
theorem gw_1341 : (Jvm.Cond.lays "FarDishes$Dish" "FarDishes$Dish" "place" "I") ∈ qG := qG_t (gt_1 (List.mem_of_getElem? (i := 73) rfl)) rfl
theorem gw_1342 : (Jvm.Cond.lays "FarDishes$Dish" "FarDishes$Dish" "size" "I") ∈ qG := qG_t (gt_1 (List.mem_of_getElem? (i := 75) rfl)) rfl
theorem gw_1343 : (Jvm.Cond.lays "FarDishes$Dish" "FarDishes$Dish" "turn" "I") ∈ qG := qG_t (gt_1 (List.mem_of_getElem? (i := 77) rfl)) rfl
theorem gw_1344 : (Jvm.Cond.lays "FarDishes$Dish" "FarDishes$Dish" "broken" "Z") ∈ qG := qG_t (gt_1 (List.mem_of_getElem? (i := 79) rfl)) rfl
theorem gw_1345 : (Jvm.Cond.lays "FarDishes$Orders" "FarDishes$Orders" "size" "I") ∈ qG := qG_t (gt_1 (List.mem_of_getElem? (i := 147) rfl)) rfl
theorem gw_1346 : (Jvm.Cond.laysFinal "FarDishes$Orders" "FarDishes$Orders" "sent" "[I") ∈ qG := qG_t (gt_1 (List.mem_of_getElem? (i := 149) rfl)) rfl
theorem gw_1347 : (Jvm.Cond.laysFinal "FarDishes$Orders" "FarDishes$Orders" "resent" "[I") ∈ qG := qG_t (gt_1 (List.mem_of_getElem? (i := 151) rfl)) rfl
theorem gw_1348 : (Jvm.Cond.laysFinal "FarDishes$Orders" "FarDishes$Orders" "last" "[I") ∈ qG := qG_t (gt_1 (List.mem_of_getElem? (i := 153) rfl)) rfl
theorem gw_1349 : (Jvm.Cond.laysFinal "FarDishes$Orders" "FarDishes$Orders" "gone" "[I") ∈ qG := qG_t (gt_1 (List.mem_of_getElem? (i := 155) rfl)) rfl
theorem gw_1350 : (Jvm.Cond.laysFinal "FarDishes$Orders" "FarDishes$Orders" "state" "[I") ∈ qG := qG_t (gt_1 (List.mem_of_getElem? (i := 157) rfl)) rfl
theorem gw_1351 : (Jvm.Cond.laysFinal "FarDishes$Orders" "FarDishes$Orders" "doneIn" "[I") ∈ qG := qG_t (gt_1 (List.mem_of_getElem? (i := 159) rfl)) rfl
theorem gw_1352 : (Jvm.Cond.lays "FarDishes$Planner" "FarDishes$Planner" "size" "I") ∈ qG := qG_t (gt_2 (List.mem_of_getElem? (i := 86) rfl)) rfl
theorem gw_1353 : (Jvm.Cond.lays "FarDishes$Planner" "FarDishes$Planner" "bestWeight" "I") ∈ qG := qG_t (gt_2 (List.mem_of_getElem? (i := 88) rfl)) rfl
theorem gw_1354 : (Jvm.Cond.lays "FarDishes$Planner" "FarDishes$Planner" "bestUsed" "I") ∈ qG := qG_t (gt_2 (List.mem_of_getElem? (i := 90) rfl)) rfl
theorem gw_1355 : (Jvm.Cond.laysFinal "FarDishes$Planner" "FarDishes$Planner" "asked" "[I") ∈ qG := qG_t (gt_2 (List.mem_of_getElem? (i := 92) rfl)) rfl
theorem gw_1356 : (Jvm.Cond.laysFinal "FarDishes$Planner" "FarDishes$Planner" "weights" "[I") ∈ qG := qG_t (gt_2 (List.mem_of_getElem? (i := 94) rfl)) rfl
theorem gw_1357 : (Jvm.Cond.laysFinal "FarDishes$Planner" "FarDishes$Planner" "row" "[I") ∈ qG := qG_t (gt_2 (List.mem_of_getElem? (i := 96) rfl)) rfl
theorem gw_1358 : (Jvm.Cond.laysFinal "FarDishes$Planner" "FarDishes$Planner" "starts" "[I") ∈ qG := qG_t (gt_2 (List.mem_of_getElem? (i := 98) rfl)) rfl
theorem gw_1359 : (Jvm.Cond.laysFinal "FarDishes$Planner" "FarDishes$Planner" "bestRow" "[I") ∈ qG := qG_t (gt_2 (List.mem_of_getElem? (i := 100) rfl)) rfl
theorem gw_1360 : (Jvm.Cond.laysFinal "FarDishes$Planner" "FarDishes$Planner" "bestStarts" "[I") ∈ qG := qG_t (gt_2 (List.mem_of_getElem? (i := 102) rfl)) rfl
theorem gw_1361 : (Jvm.Cond.laysFinal "FarDishes$Planner" "FarDishes$Planner" "restWeight" "[I") ∈ qG := qG_t (gt_2 (List.mem_of_getElem? (i := 104) rfl)) rfl
theorem gw_1362 : (Jvm.Cond.laysFinal "FarDishes$Planner" "FarDishes$Planner" "restHeavy" "[I") ∈ qG := qG_t (gt_2 (List.mem_of_getElem? (i := 106) rfl)) rfl
theorem gw_1363 : (Jvm.Cond.laysFinal "FarDishes$Planner" "FarDishes$Planner" "ends" "[I") ∈ qG := qG_t (gt_2 (List.mem_of_getElem? (i := 108) rfl)) rfl
theorem gw_1364 : (Jvm.Cond.laysFinal "FarDishes$Search" "FarDishes$Search" "odds" "[I") ∈ qG := qG_t (gt_1 (List.mem_of_getElem? (i := 48) rfl)) rfl
theorem gw_1365 : (Jvm.Cond.lays "FarDishes$Search" "FarDishes$Search" "looked" "J") ∈ qG := qG_t (gt_1 (List.mem_of_getElem? (i := 50) rfl)) rfl
theorem gw_1366 : (Jvm.Cond.lays "FarDishes$Sheet" "FarDishes$Sheet" "bits" "I") ∈ qG := qG_t (gt_2 (List.mem_of_getElem? (i := 160) rfl)) rfl
theorem gw_1367 : (Jvm.Cond.lays "FarDishes$Sheet" "FarDishes$Sheet" "size" "I") ∈ qG := qG_t (gt_2 (List.mem_of_getElem? (i := 162) rfl)) rfl
theorem gw_1368 : (Jvm.Cond.laysFinal "FarDishes$Sheet" "FarDishes$Sheet" "numbers" "[I") ∈ qG := qG_t (gt_2 (List.mem_of_getElem? (i := 164) rfl)) rfl
theorem gw_1369 : (Jvm.Cond.laysFinal "FarDishes$Silence" "FarDishes$Silence" "next" "[I") ∈ qG := qG_t (gt_1 (List.mem_of_getElem? (i := 170) rfl)) rfl
theorem gw_1370 : (Jvm.Cond.lays "FarDishes$Silence" "FarDishes$Silence" "heard" "I") ∈ qG := qG_t (gt_1 (List.mem_of_getElem? (i := 172) rfl)) rfl
theorem gw_1371 : (Jvm.Cond.laysFinal "FarDishes$Text" "FarDishes$Text" "bytes" "[I") ∈ qG := qG_t (gt_2 (List.mem_of_getElem? (i := 130) rfl)) rfl
theorem gw_1372 : (Jvm.Cond.lays "FarDishes$Text" "FarDishes$Text" "length" "I") ∈ qG := qG_t (gt_2 (List.mem_of_getElem? (i := 132) rfl)) rfl
theorem gw_1373 : (Jvm.Cond.laysFinal "FarDishes$Text" "FarDishes$Text" "read" "[[I") ∈ qG := qG_t (gt_2 (List.mem_of_getElem? (i := 134) rfl)) rfl
theorem gw_1374 : (Jvm.Cond.lays "FarDishes$Text" "FarDishes$Text" "ones" "I") ∈ qG := qG_t (gt_2 (List.mem_of_getElem? (i := 136) rfl)) rfl
theorem gw_1375 : (Jvm.Cond.lays "FarDishes$Text" "FarDishes$Text" "at" "I") ∈ qG := qG_t (gt_2 (List.mem_of_getElem? (i := 138) rfl)) rfl
theorem gw_1376 : (Jvm.Cond.lays "FarDishes$Text" "FarDishes$Text" "begin" "I") ∈ qG := qG_t (gt_2 (List.mem_of_getElem? (i := 140) rfl)) rfl
theorem gw_1377 : (Jvm.Cond.lays "FarDishes$Text" "FarDishes$Text" "sort" "I") ∈ qG := qG_t (gt_2 (List.mem_of_getElem? (i := 142) rfl)) rfl
theorem gw_1378 : (Jvm.Cond.lays "FarDishes$Text" "FarDishes$Text" "value" "I") ∈ qG := qG_t (gt_2 (List.mem_of_getElem? (i := 144) rfl)) rfl
theorem gw_1379 : (Jvm.Cond.lays "FarDishes$World" "FarDishes$World" "hour" "I") ∈ qG := qG_t (gt_2 (List.mem_of_getElem? (i := 47) rfl)) rfl
theorem gw_1380 : (Jvm.Cond.lays "FarDishes$World" "FarDishes$World" "dishCount" "I") ∈ qG := qG_t (gt_2 (List.mem_of_getElem? (i := 49) rfl)) rfl
theorem gw_1381 : (Jvm.Cond.lays "FarDishes$World" "FarDishes$World" "craftCount" "I") ∈ qG := qG_t (gt_2 (List.mem_of_getElem? (i := 51) rfl)) rfl
theorem gw_1382 : (Jvm.Cond.lays "FarDishes$World" "FarDishes$World" "askingCount" "I") ∈ qG := qG_t (gt_2 (List.mem_of_getElem? (i := 53) rfl)) rfl
theorem gw_1383 : (Jvm.Cond.laysFinal "FarDishes$World" "FarDishes$World" "rains" "[I") ∈ qG := qG_t (gt_2 (List.mem_of_getElem? (i := 55) rfl)) rfl
theorem gw_1384 : (Jvm.Cond.laysFinal "FarDishes$World" "FarDishes$World" "dishes" "[LFarDishes$Dish;") ∈ qG := qG_t (gt_2 (List.mem_of_getElem? (i := 57) rfl)) rfl
theorem gw_1385 : (Jvm.Cond.laysFinal "FarDishes$World" "FarDishes$World" "crafts" "[LFarDishes$Craft;") ∈ qG := qG_t (gt_2 (List.mem_of_getElem? (i := 59) rfl)) rfl
theorem gw_1386 : (Jvm.Cond.laysFinal "FarDishes$World" "FarDishes$World" "askings" "[LFarDishes$Asking;") ∈ qG := qG_t (gt_2 (List.mem_of_getElem? (i := 61) rfl)) rfl
theorem gw_1387 : (Jvm.Cond.laysFinal "FarDishes$World" "FarDishes$World" "search" "LFarDishes$Search;") ∈ qG := qG_t (gt_2 (List.mem_of_getElem? (i := 63) rfl)) rfl
theorem gw_1388 : (Jvm.Cond.laysFinal "FarDishes" "FarDishes" "now" "LFarDishes$World;") ∈ qG := qG_t (gt_2 (List.mem_of_getElem? (i := 175) rfl)) rfl
theorem gw_1389 : (Jvm.Cond.laysFinal "FarDishes" "FarDishes" "kept" "LFarDishes$World;") ∈ qG := qG_t (gt_2 (List.mem_of_getElem? (i := 177) rfl)) rfl
theorem gw_1390 : (Jvm.Cond.laysFinal "FarDishes" "FarDishes" "trial" "LFarDishes$World;") ∈ qG := qG_t (gt_2 (List.mem_of_getElem? (i := 179) rfl)) rfl
theorem gw_1391 : (Jvm.Cond.laysFinal "FarDishes" "FarDishes" "planner" "LFarDishes$Planner;") ∈ qG := qG_t (gt_2 (List.mem_of_getElem? (i := 181) rfl)) rfl
theorem gw_1392 : (Jvm.Cond.laysFinal "FarDishes" "FarDishes" "text" "LFarDishes$Text;") ∈ qG := qG_t (gt_2 (List.mem_of_getElem? (i := 183) rfl)) rfl
theorem gw_1393 : (Jvm.Cond.laysFinal "FarDishes" "FarDishes" "sheets" "[LFarDishes$Sheet;") ∈ qG := qG_t (gt_2 (List.mem_of_getElem? (i := 185) rfl)) rfl
theorem gw_1394 : (Jvm.Cond.laysFinal "FarDishes" "FarDishes" "told" "[I") ∈ qG := qG_t (gt_2 (List.mem_of_getElem? (i := 187) rfl)) rfl
theorem gw_1395 : (Jvm.Cond.lays "FarDishes" "FarDishes" "hasImage" "Z") ∈ qG := qG_t (gt_2 (List.mem_of_getElem? (i := 189) rfl)) rfl
theorem gw_1396 : (Jvm.Cond.laysFinal "FarDishesModel" "FarDishesModel" "p" "[I") ∈ qG := qG_t (gt_5 (List.mem_of_getElem? (i := 187) rfl)) rfl
theorem gw_1397 : (Jvm.Cond.laysFinal "FarDishesModel" "FarDishesModel" "image" "[I") ∈ qG := qG_t (gt_5 (List.mem_of_getElem? (i := 189) rfl)) rfl
theorem gw_1398 : (Jvm.Cond.laysFinal "FarDishesModel" "FarDishesModel" "aside" "[I") ∈ qG := qG_t (gt_5 (List.mem_of_getElem? (i := 191) rfl)) rfl
theorem gw_1399 : (Jvm.Cond.lays "FarDishesModel" "FarDishesModel" "hasImage" "Z") ∈ qG := qG_t (gt_5 (List.mem_of_getElem? (i := 193) rfl)) rfl
theorem gw_1400 : (Jvm.Cond.laysFinal "FarDishesModel" "FarDishesModel" "tape" "[I") ∈ qG := qG_t (gt_5 (List.mem_of_getElem? (i := 195) rfl)) rfl
theorem gw_1401 : (Jvm.Cond.lays "FarDishesModel" "FarDishesModel" "taped" "I") ∈ qG := qG_t (gt_5 (List.mem_of_getElem? (i := 197) rfl)) rfl
theorem gw_1402 : (Jvm.Cond.laysFinal "FarDishesModel" "FarDishesModel" "found" "[I") ∈ qG := qG_t (gt_5 (List.mem_of_getElem? (i := 199) rfl)) rfl
theorem gw_1403 : (Jvm.Cond.laysFinal "FarDishesModel" "FarDishesModel" "bits" "[I") ∈ qG := qG_t (gt_5 (List.mem_of_getElem? (i := 201) rfl)) rfl
theorem gw_1404 : (Jvm.Cond.laysFinal "FarDishesModel" "FarDishesModel" "sizes" "[I") ∈ qG := qG_t (gt_5 (List.mem_of_getElem? (i := 203) rfl)) rfl
theorem gw_1405 : (Jvm.Cond.laysFinal "FarDishesModel" "FarDishesModel" "numbers" "[I") ∈ qG := qG_t (gt_5 (List.mem_of_getElem? (i := 205) rfl)) rfl
theorem gw_1406 : (Jvm.Cond.laysFinal "FarDishesModel" "FarDishesModel" "carried" "[I") ∈ qG := qG_t (gt_5 (List.mem_of_getElem? (i := 207) rfl)) rfl
theorem gw_1407 : (Jvm.Cond.lays "FarDishesModel" "FarDishesModel" "at" "I") ∈ qG := qG_t (gt_5 (List.mem_of_getElem? (i := 209) rfl)) rfl
theorem gw_1408 : (Jvm.Cond.lays "FarDishesModel" "FarDishesModel" "begin" "I") ∈ qG := qG_t (gt_5 (List.mem_of_getElem? (i := 211) rfl)) rfl
theorem gw_1409 : (Jvm.Cond.lays "FarDishesModel" "FarDishesModel" "token" "I") ∈ qG := qG_t (gt_5 (List.mem_of_getElem? (i := 213) rfl)) rfl
theorem gw_1410 : (Jvm.Cond.lays "FarDishesModel" "FarDishesModel" "tells" "I") ∈ qG := qG_t (gt_5 (List.mem_of_getElem? (i := 215) rfl)) rfl
theorem gw_1411 : (Jvm.Cond.lays "FarDishesModel" "FarDishesModel" "fault" "I") ∈ qG := qG_t (gt_5 (List.mem_of_getElem? (i := 217) rfl)) rfl
theorem gw_1412 : (Jvm.Cond.laysFinal "FarDishesModel" "FarDishesModel" "one" "[I") ∈ qG := qG_t (gt_5 (List.mem_of_getElem? (i := 219) rfl)) rfl
theorem gw_1413 : (Jvm.Cond.laysFinal "FarDishesModel" "FarDishesModel" "wordLetters" "[I") ∈ qG := qG_t (gt_5 (List.mem_of_getElem? (i := 221) rfl)) rfl
theorem gw_1414 : (Jvm.Cond.lays "FarDishesModel" "FarDishesModel" "lookedMany" "I") ∈ qG := qG_t (gt_5 (List.mem_of_getElem? (i := 223) rfl)) rfl
theorem gw_1415 : (Jvm.Cond.laysFinal "FarDishesModel" "FarDishesModel" "looked" "[I") ∈ qG := qG_t (gt_5 (List.mem_of_getElem? (i := 225) rfl)) rfl
theorem gw_1416 : (Jvm.Cond.laysFinal "FarDishesModel" "FarDishesModel" "on" "[I") ∈ qG := qG_t (gt_5 (List.mem_of_getElem? (i := 227) rfl)) rfl
theorem gw_1417 : (Jvm.Cond.laysFinal "FarDishesModel" "FarDishesModel" "from" "[I") ∈ qG := qG_t (gt_5 (List.mem_of_getElem? (i := 229) rfl)) rfl
theorem gw_1418 : (Jvm.Cond.laysFinal "FarDishesModel" "FarDishesModel" "bestOn" "[I") ∈ qG := qG_t (gt_5 (List.mem_of_getElem? (i := 231) rfl)) rfl
theorem gw_1419 : (Jvm.Cond.laysFinal "FarDishesModel" "FarDishesModel" "bestFrom" "[I") ∈ qG := qG_t (gt_5 (List.mem_of_getElem? (i := 233) rfl)) rfl
theorem gw_1420 : (Jvm.Cond.lays "FarDishesModel" "FarDishesModel" "bestWeight" "I") ∈ qG := qG_t (gt_5 (List.mem_of_getElem? (i := 235) rfl)) rfl
theorem gw_1421 : (Jvm.Cond.lays "FarDishesModel" "FarDishesModel" "bestMany" "I") ∈ qG := qG_t (gt_5 (List.mem_of_getElem? (i := 237) rfl)) rfl
theorem gw_1422 : (Jvm.Cond.laysFinal "FarDishesModel" "FarDishesModel" "free" "[I") ∈ qG := qG_t (gt_5 (List.mem_of_getElem? (i := 239) rfl)) rfl
theorem gw_1423 : (Jvm.Cond.laysFinal "FarDishesModel" "FarDishesModel" "wasOld" "[Z") ∈ qG := qG_t (gt_6 (List.mem_of_getElem? (i := 1) rfl)) rfl
theorem iH_0 : ∀ k, k < 9 → u_lay RX0 TX0 k ∈ qG := fun k hk => match k, hk with
  | 0, _ => gw_1316
  | 1, _ => gw_1317
  | 2, _ => gw_1318
  | 3, _ => gw_1319
  | 4, _ => gw_1320
  | 5, _ => gw_1321
  | 6, _ => gw_1322
  | 7, _ => gw_1323
  | 8, _ => gw_1324
  | k + 9, hk => absurd hk (by omega)
theorem iG_0 : ∀ w ∈ u_ws RX0 TX0 9, w ∈ qG := fun w h => by
  obtain ⟨k, hk, rfl⟩ := List.mem_map.mp h
  exact iH_0 k (List.mem_range.mp hk)
theorem iH_1 : ∀ k, k < 8 → u_lay RX1 TX1 k ∈ qG := fun k hk => match k, hk with
  | 0, _ => gw_1325
  | 1, _ => gw_1326
  | 2, _ => gw_1327
  | 3, _ => gw_1328
  | 4, _ => gw_1329
  | 5, _ => gw_1330
  | 6, _ => gw_1331
  | 7, _ => gw_1332
  | k + 8, hk => absurd hk (by omega)
theorem iG_1 : ∀ w ∈ u_ws RX1 TX1 8, w ∈ qG := fun w h => by
  obtain ⟨k, hk, rfl⟩ := List.mem_map.mp h
  exact iH_1 k (List.mem_range.mp hk)
theorem iH_2 : ∀ k, k < 8 → u_lay RX2 TX2 k ∈ qG := fun k hk => match k, hk with
  | 0, _ => gw_1333
  | 1, _ => gw_1334
  | 2, _ => gw_1335
  | 3, _ => gw_1336
  | 4, _ => gw_1337
  | 5, _ => gw_1338
  | 6, _ => gw_1339
  | 7, _ => gw_1340
  | k + 8, hk => absurd hk (by omega)
theorem iG_2 : ∀ w ∈ u_ws RX2 TX2 8, w ∈ qG := fun w h => by
  obtain ⟨k, hk, rfl⟩ := List.mem_map.mp h
  exact iH_2 k (List.mem_range.mp hk)
theorem iH_3 : ∀ k, k < 4 → u_lay RX3 TX3 k ∈ qG := fun k hk => match k, hk with
  | 0, _ => gw_1341
  | 1, _ => gw_1342
  | 2, _ => gw_1343
  | 3, _ => gw_1344
  | k + 4, hk => absurd hk (by omega)
theorem iG_3 : ∀ w ∈ u_ws RX3 TX3 4, w ∈ qG := fun w h => by
  obtain ⟨k, hk, rfl⟩ := List.mem_map.mp h
  exact iH_3 k (List.mem_range.mp hk)
theorem iH_4 : ∀ k, k < 7 → u_lay RX4 TX4 k ∈ qG := fun k hk => match k, hk with
  | 0, _ => gw_1345
  | 1, _ => gw_1346
  | 2, _ => gw_1347
  | 3, _ => gw_1348
  | 4, _ => gw_1349
  | 5, _ => gw_1350
  | 6, _ => gw_1351
  | k + 7, hk => absurd hk (by omega)
theorem iG_4 : ∀ w ∈ u_ws RX4 TX4 7, w ∈ qG := fun w h => by
  obtain ⟨k, hk, rfl⟩ := List.mem_map.mp h
  exact iH_4 k (List.mem_range.mp hk)
theorem iH_5 : ∀ k, k < 12 → u_lay RX5 TX5 k ∈ qG := fun k hk => match k, hk with
  | 0, _ => gw_1352
  | 1, _ => gw_1353
  | 2, _ => gw_1354
  | 3, _ => gw_1355
  | 4, _ => gw_1356
  | 5, _ => gw_1357
  | 6, _ => gw_1358
  | 7, _ => gw_1359
  | 8, _ => gw_1360
  | 9, _ => gw_1361
  | 10, _ => gw_1362
  | 11, _ => gw_1363
  | k + 12, hk => absurd hk (by omega)
theorem iG_5 : ∀ w ∈ u_ws RX5 TX5 12, w ∈ qG := fun w h => by
  obtain ⟨k, hk, rfl⟩ := List.mem_map.mp h
  exact iH_5 k (List.mem_range.mp hk)
theorem iH_6 : ∀ k, k < 2 → u_lay RX6 TX6 k ∈ qG := fun k hk => match k, hk with
  | 0, _ => gw_1364
  | 1, _ => gw_1365
  | k + 2, hk => absurd hk (by omega)
theorem iG_6 : ∀ w ∈ u_ws RX6 TX6 2, w ∈ qG := fun w h => by
  obtain ⟨k, hk, rfl⟩ := List.mem_map.mp h
  exact iH_6 k (List.mem_range.mp hk)
theorem iH_7 : ∀ k, k < 3 → u_lay RX7 TX7 k ∈ qG := fun k hk => match k, hk with
  | 0, _ => gw_1366
  | 1, _ => gw_1367
  | 2, _ => gw_1368
  | k + 3, hk => absurd hk (by omega)
theorem iG_7 : ∀ w ∈ u_ws RX7 TX7 3, w ∈ qG := fun w h => by
  obtain ⟨k, hk, rfl⟩ := List.mem_map.mp h
  exact iH_7 k (List.mem_range.mp hk)
theorem iH_8 : ∀ k, k < 2 → u_lay RX8 TX8 k ∈ qG := fun k hk => match k, hk with
  | 0, _ => gw_1369
  | 1, _ => gw_1370
  | k + 2, hk => absurd hk (by omega)
theorem iG_8 : ∀ w ∈ u_ws RX8 TX8 2, w ∈ qG := fun w h => by
  obtain ⟨k, hk, rfl⟩ := List.mem_map.mp h
  exact iH_8 k (List.mem_range.mp hk)
theorem iH_9 : ∀ k, k < 8 → u_lay RX9 TX9 k ∈ qG := fun k hk => match k, hk with
  | 0, _ => gw_1371
  | 1, _ => gw_1372
  | 2, _ => gw_1373
  | 3, _ => gw_1374
  | 4, _ => gw_1375
  | 5, _ => gw_1376
  | 6, _ => gw_1377
  | 7, _ => gw_1378
  | k + 8, hk => absurd hk (by omega)
theorem iG_9 : ∀ w ∈ u_ws RX9 TX9 8, w ∈ qG := fun w h => by
  obtain ⟨k, hk, rfl⟩ := List.mem_map.mp h
  exact iH_9 k (List.mem_range.mp hk)
theorem iH_10 : ∀ k, k < 9 → u_lay RX10 TX10 k ∈ qG := fun k hk => match k, hk with
  | 0, _ => gw_1379
  | 1, _ => gw_1380
  | 2, _ => gw_1381
  | 3, _ => gw_1382
  | 4, _ => gw_1383
  | 5, _ => gw_1384
  | 6, _ => gw_1385
  | 7, _ => gw_1386
  | 8, _ => gw_1387
  | k + 9, hk => absurd hk (by omega)
theorem iG_10 : ∀ w ∈ u_ws RX10 TX10 9, w ∈ qG := fun w h => by
  obtain ⟨k, hk, rfl⟩ := List.mem_map.mp h
  exact iH_10 k (List.mem_range.mp hk)
theorem iH_11 : ∀ k, k < 8 → u_lay RX11 TX11 k ∈ qG := fun k hk => match k, hk with
  | 0, _ => gw_1388
  | 1, _ => gw_1389
  | 2, _ => gw_1390
  | 3, _ => gw_1391
  | 4, _ => gw_1392
  | 5, _ => gw_1393
  | 6, _ => gw_1394
  | 7, _ => gw_1395
  | k + 8, hk => absurd hk (by omega)
theorem iG_11 : ∀ w ∈ u_ws RX11 TX11 8, w ∈ qG := fun w h => by
  obtain ⟨k, hk, rfl⟩ := List.mem_map.mp h
  exact iH_11 k (List.mem_range.mp hk)
theorem iH_12 : ∀ k, k < 28 → u_lay RX12 TX12 k ∈ qG := fun k hk => match k, hk with
  | 0, _ => gw_1396
  | 1, _ => gw_1397
  | 2, _ => gw_1398
  | 3, _ => gw_1399
  | 4, _ => gw_1400
  | 5, _ => gw_1401
  | 6, _ => gw_1402
  | 7, _ => gw_1403
  | 8, _ => gw_1404
  | 9, _ => gw_1405
  | 10, _ => gw_1406
  | 11, _ => gw_1407
  | 12, _ => gw_1408
  | 13, _ => gw_1409
  | 14, _ => gw_1410
  | 15, _ => gw_1411
  | 16, _ => gw_1412
  | 17, _ => gw_1413
  | 18, _ => gw_1414
  | 19, _ => gw_1415
  | 20, _ => gw_1416
  | 21, _ => gw_1417
  | 22, _ => gw_1418
  | 23, _ => gw_1419
  | 24, _ => gw_1420
  | 25, _ => gw_1421
  | 26, _ => gw_1422
  | 27, _ => gw_1423
  | k + 28, hk => absurd hk (by omega)
theorem iG_12 : ∀ w ∈ u_ws RX12 TX12 28, w ∈ qG := fun w h => by
  obtain ⟨k, hk, rfl⟩ := List.mem_map.mp h
  exact iH_12 k (List.mem_range.mp hk)
theorem q_jwG : ∀ w ∈ q_jw, w ∈ qG := (List.forall_mem_cons.mpr ⟨gw_1286, (List.forall_mem_cons.mpr ⟨gw_1287, (List.forall_mem_cons.mpr ⟨gw_1288, (List.forall_mem_cons.mpr ⟨gw_1289, (List.forall_mem_cons.mpr ⟨gw_1290, (List.forall_mem_cons.mpr ⟨gw_1291, (List.forall_mem_cons.mpr ⟨gw_1292, (List.forall_mem_cons.mpr ⟨gw_1293, (List.forall_mem_cons.mpr ⟨gw_1294, (List.forall_mem_cons.mpr ⟨gw_1295, (List.forall_mem_cons.mpr ⟨gw_1296, (List.forall_mem_cons.mpr ⟨gw_1297, (List.forall_mem_cons.mpr ⟨gw_1298, (List.forall_mem_cons.mpr ⟨gw_1299, (List.forall_mem_cons.mpr ⟨gw_1300, (List.forall_mem_cons.mpr ⟨gw_1301, (List.forall_mem_cons.mpr ⟨gw_1302, (List.forall_mem_cons.mpr ⟨gw_1303, (List.forall_mem_cons.mpr ⟨gw_1304, (List.forall_mem_cons.mpr ⟨gw_1305, (List.forall_mem_cons.mpr ⟨gw_1306, (List.forall_mem_cons.mpr ⟨gw_1307, (List.forall_mem_cons.mpr ⟨gw_1308, (List.forall_mem_cons.mpr ⟨gw_1309, (List.forall_mem_cons.mpr ⟨gw_1310, (List.forall_mem_cons.mpr ⟨gw_1311, (List.forall_mem_cons.mpr ⟨gw_1312, (List.forall_mem_cons.mpr ⟨gw_1313, (List.forall_mem_cons.mpr ⟨gw_1314, (List.forall_mem_cons.mpr ⟨gw_1315, (fun _ h => absurd h List.not_mem_nil)⟩)⟩)⟩)⟩)⟩)⟩)⟩)⟩)⟩)⟩)⟩)⟩)⟩)⟩)⟩)⟩)⟩)⟩)⟩)⟩)⟩)⟩)⟩)⟩)⟩)⟩)⟩)⟩)⟩)⟩)
