def gws : List Cond := lw_tbl.filter goodWord
theorem gws_mem {w : Cond} (h : w ∈ lw_tbl) (g : goodWord w = true) : w ∈ gws := List.mem_filter.mpr ⟨h, g⟩
theorem gws_good {w : Cond} (h : w ∈ gws) : (w.onTables && w.keeps) = true ∨ ∃ ty, w = .arrayClass ty := good_of_word (List.mem_filter.mp h).2
theorem gws_tbl {w : Cond} (h : w ∈ gws) : w ∈ lw_tbl := (List.mem_filter.mp h).1
theorem kt_1 : ∀ w ∈ tables_1_1, w ∈ lw_tbl := fun _ h => List.mem_append_right _ (List.mem_append_left _ h)
theorem kt_2 : ∀ w ∈ tables_1_2, w ∈ lw_tbl := fun _ h => List.mem_append_right _ (List.mem_append_right _ (List.mem_append_left _ h))
theorem kt_3 : ∀ w ∈ tables_1_3, w ∈ lw_tbl := fun _ h => List.mem_append_right _ (List.mem_append_right _ (List.mem_append_right _ (List.mem_append_left _ h)))
theorem kt_4 : ∀ w ∈ tables_1_4, w ∈ lw_tbl := fun _ h => List.mem_append_right _ (List.mem_append_right _ (List.mem_append_right _ (List.mem_append_right _ (List.mem_append_left _ h))))
theorem kt_5 : ∀ w ∈ tables_1_5, w ∈ lw_tbl := fun _ h => List.mem_append_right _ (List.mem_append_right _ (List.mem_append_right _ (List.mem_append_right _ (List.mem_append_right _ (h)))))
theorem kp_1 {q : MethodName × Nat} (h : q ∈ lw_privs_1) : Cond.selects q.1.cls q.1 q.1 ∈ lw_tbl := List.mem_append_left _ (List.mem_map.mpr ⟨q, (List.mem_append_left _ h), rfl⟩)
theorem kp_2 {q : MethodName × Nat} (h : q ∈ lw_privs_2) : Cond.selects q.1.cls q.1 q.1 ∈ lw_tbl := List.mem_append_left _ (List.mem_map.mpr ⟨q, (List.mem_append_right _ (List.mem_append_left _ h)), rfl⟩)
theorem kp_3 {q : MethodName × Nat} (h : q ∈ lw_privs_3) : Cond.selects q.1.cls q.1 q.1 ∈ lw_tbl := List.mem_append_left _ (List.mem_map.mpr ⟨q, (List.mem_append_right _ (List.mem_append_right _ (List.mem_append_left _ h))), rfl⟩)
theorem kp_4 {q : MethodName × Nat} (h : q ∈ lw_privs_4) : Cond.selects q.1.cls q.1 q.1 ∈ lw_tbl := List.mem_append_left _ (List.mem_map.mpr ⟨q, (List.mem_append_right _ (List.mem_append_right _ (List.mem_append_right _ (List.mem_append_left _ h)))), rfl⟩)
theorem kp_5 {q : MethodName × Nat} (h : q ∈ lw_privs_5) : Cond.selects q.1.cls q.1 q.1 ∈ lw_tbl := List.mem_append_left _ (List.mem_map.mpr ⟨q, (List.mem_append_right _ (List.mem_append_right _ (List.mem_append_right _ (List.mem_append_right _ (h))))), rfl⟩)
theorem kw_0 : (Jvm.Cond.initialized "ClockedFlowsLaw") ∈ gws := gws_mem (kt_1 _ (List.mem_of_getElem? (i := 0) rfl)) rfl
theorem kw_1 : (Jvm.Cond.initialized "ClockedFlows") ∈ gws := gws_mem (kt_1 _ (List.mem_of_getElem? (i := 1) rfl)) rfl
theorem kw_2 : (Jvm.Cond.initialized "ClockedFlows$Text") ∈ gws := gws_mem (kt_1 _ (List.mem_of_getElem? (i := 2) rfl)) rfl
theorem kw_3 : (Jvm.Cond.initialized "ClockedFlows$Flow") ∈ gws := gws_mem (kt_1 _ (List.mem_of_getElem? (i := 3) rfl)) rfl
theorem kw_4 : (Jvm.Cond.initialized "java/util/Arrays") ∈ gws := gws_mem (kt_1 _ (List.mem_of_getElem? (i := 4) rfl)) rfl
theorem kw_5 : (Jvm.Cond.initialized "ClockedFlows$Sense") ∈ gws := gws_mem (kt_1 _ (List.mem_of_getElem? (i := 5) rfl)) rfl
theorem kw_6 : (Jvm.Cond.initialized "ClockedFlows$Doings") ∈ gws := gws_mem (kt_1 _ (List.mem_of_getElem? (i := 6) rfl)) rfl
theorem kw_7 : (Jvm.Cond.initialized "ClockedFlows$Sights") ∈ gws := gws_mem (kt_1 _ (List.mem_of_getElem? (i := 7) rfl)) rfl
theorem kw_8 : (Jvm.Cond.initialized "ClockedFlowsModel") ∈ gws := gws_mem (kt_1 _ (List.mem_of_getElem? (i := 8) rfl)) rfl
theorem kw_9 : (Jvm.Cond.initialized "java/lang/String") ∈ gws := gws_mem (kt_1 _ (List.mem_of_getElem? (i := 9) rfl)) rfl
theorem kw_10 : (Jvm.Cond.initialized "java/lang/StringLatin1") ∈ gws := gws_mem (kt_1 _ (List.mem_of_getElem? (i := 10) rfl)) rfl
theorem kw_11 : (Jvm.Cond.initialized "java/lang/Math") ∈ gws := gws_mem (kt_1 _ (List.mem_of_getElem? (i := 11) rfl)) rfl
theorem kw_12 : (Jvm.Cond.initialized "java/lang/StringUTF16") ∈ gws := gws_mem (kt_1 _ (List.mem_of_getElem? (i := 12) rfl)) rfl
theorem kw_13 : (Jvm.Cond.initialized "jdk/internal/util/Preconditions") ∈ gws := gws_mem (kt_1 _ (List.mem_of_getElem? (i := 13) rfl)) rfl
theorem kw_14 : (Jvm.Cond.initialized "java/lang/Character") ∈ gws := gws_mem (kt_1 _ (List.mem_of_getElem? (i := 14) rfl)) rfl
theorem kw_15 : (Jvm.Cond.initialized "java/lang/System") ∈ gws := gws_mem (kt_1 _ (List.mem_of_getElem? (i := 15) rfl)) rfl
theorem kw_16 : (Jvm.Cond.initialized "java/lang/Integer") ∈ gws := gws_mem (kt_1 _ (List.mem_of_getElem? (i := 16) rfl)) rfl
theorem kw_17 : (Jvm.Cond.classLink "ClockedFlowsLaw" (7 : Nat) "ClockedFlows") ∈ gws := gws_mem (kt_1 _ (List.mem_of_getElem? (i := 17) rfl)) rfl
theorem kw_18 : (Jvm.Cond.instantiable "ClockedFlows" (10 : Nat)) ∈ gws := gws_mem (kt_1 _ (List.mem_of_getElem? (i := 18) rfl)) rfl
theorem kw_19 : (Jvm.Cond.methodLink "ClockedFlowsLaw" (9 : Nat) ({ cls := "ClockedFlows", name := "<init>", desc := "()V" } : Jvm.MethodName)) ∈ gws := gws_mem (kt_1 _ (List.mem_of_getElem? (i := 19) rfl)) rfl
theorem kw_20 : (Jvm.Cond.instanceMethod ({ cls := "ClockedFlows", name := "<init>", desc := "()V" } : Jvm.MethodName)) ∈ gws := gws_mem (kt_1 _ (List.mem_of_getElem? (i := 20) rfl)) rfl
theorem kw_21 : (Jvm.Cond.code ({ cls := "ClockedFlows", name := "<init>", desc := "()V" } : Jvm.MethodName) prog_1_method_1_code (2 : Nat) (Option.none : Option Jvm.ClassFile.FieldType)) ∈ gws := gws_mem (kt_1 _ (List.mem_of_getElem? (i := 21) rfl)) rfl
theorem kw_22 : (Jvm.Cond.methodLink "ClockedFlows" (1 : Nat) ({ cls := "java/lang/Object", name := "<init>", desc := "()V" } : Jvm.MethodName)) ∈ gws := gws_mem (kt_1 _ (List.mem_of_getElem? (i := 22) rfl)) rfl
theorem kw_23 : (Jvm.Cond.instanceMethod ({ cls := "java/lang/Object", name := "<init>", desc := "()V" } : Jvm.MethodName)) ∈ gws := gws_mem (kt_1 _ (List.mem_of_getElem? (i := 23) rfl)) rfl
theorem kw_24 : (Jvm.Cond.code ({ cls := "java/lang/Object", name := "<init>", desc := "()V" } : Jvm.MethodName) object_method_1_code (1 : Nat) (Option.none : Option Jvm.ClassFile.FieldType)) ∈ gws := gws_mem (kt_1 _ (List.mem_of_getElem? (i := 24) rfl)) rfl
theorem kw_25 : (Jvm.Cond.classLink "ClockedFlows" (7 : Nat) "ClockedFlows$Text") ∈ gws := gws_mem (kt_1 _ (List.mem_of_getElem? (i := 25) rfl)) rfl
theorem kw_26 : (Jvm.Cond.instantiable "ClockedFlows$Text" (2 : Nat)) ∈ gws := gws_mem (kt_1 _ (List.mem_of_getElem? (i := 26) rfl)) rfl
theorem kw_27 : (Jvm.Cond.methodLinkNest "ClockedFlows" (9 : Nat) ({ cls := "ClockedFlows$Text", name := "<init>", desc := "()V" } : Jvm.MethodName) "ClockedFlows") ∈ lw_tbl := kt_1 _ (List.mem_of_getElem? (i := 27) rfl)
theorem kw_28 : (Jvm.Cond.instanceMethod ({ cls := "ClockedFlows$Text", name := "<init>", desc := "()V" } : Jvm.MethodName)) ∈ gws := gws_mem (kt_1 _ (List.mem_of_getElem? (i := 28) rfl)) rfl
theorem kw_29 : (Jvm.Cond.code ({ cls := "ClockedFlows$Text", name := "<init>", desc := "()V" } : Jvm.MethodName) prog_6_method_1_code (1 : Nat) (Option.none : Option Jvm.ClassFile.FieldType)) ∈ gws := gws_mem (kt_1 _ (List.mem_of_getElem? (i := 29) rfl)) rfl
theorem kw_30 : (Jvm.Cond.methodLink "ClockedFlows$Text" (3 : Nat) ({ cls := "java/lang/Object", name := "<init>", desc := "()V" } : Jvm.MethodName)) ∈ gws := gws_mem (kt_1 _ (List.mem_of_getElem? (i := 30) rfl)) rfl
theorem kw_31 : (Jvm.Cond.fieldLink "ClockedFlows$Text" (9 : Nat) "ClockedFlows$Text" "letters" "[I") ∈ gws := gws_mem (kt_1 _ (List.mem_of_getElem? (i := 31) rfl)) rfl
theorem kw_32 : (Jvm.Cond.fieldLink "ClockedFlows$Text" (15 : Nat) "ClockedFlows$Text" "length" "I") ∈ gws := gws_mem (kt_1 _ (List.mem_of_getElem? (i := 32) rfl)) rfl
theorem kw_33 : (Jvm.Cond.fieldLink "ClockedFlows" (67 : Nat) "ClockedFlows$Text" "length" "I") ∈ gws := gws_mem (kt_1 _ (List.mem_of_getElem? (i := 33) rfl)) rfl
theorem kw_34 : (Jvm.Cond.laysFinal "ClockedFlows$Text" "ClockedFlows$Text" "letters" "[I") ∈ gws := gws_mem (kt_1 _ (List.mem_of_getElem? (i := 34) rfl)) rfl
theorem kw_36 : (Jvm.Cond.lays "ClockedFlows$Text" "ClockedFlows$Text" "length" "I") ∈ gws := gws_mem (kt_1 _ (List.mem_of_getElem? (i := 36) rfl)) rfl
theorem kw_39 : (Jvm.Cond.arrayClass Jvm.ClassFile.FieldType.int) ∈ gws := gws_mem (kt_1 _ (List.mem_of_getElem? (i := 39) rfl)) rfl
theorem kw_40 : (Jvm.Cond.classLink "ClockedFlows" (16 : Nat) "ClockedFlows$Flow") ∈ gws := gws_mem (kt_1 _ (List.mem_of_getElem? (i := 40) rfl)) rfl
theorem kw_41 : (Jvm.Cond.instantiable "ClockedFlows$Flow" (6 : Nat)) ∈ gws := gws_mem (kt_1 _ (List.mem_of_getElem? (i := 41) rfl)) rfl
theorem kw_42 : (Jvm.Cond.methodLink "ClockedFlows" (18 : Nat) ({ cls := "ClockedFlows$Flow", name := "<init>", desc := "()V" } : Jvm.MethodName)) ∈ gws := gws_mem (kt_1 _ (List.mem_of_getElem? (i := 42) rfl)) rfl
theorem kw_43 : (Jvm.Cond.instanceMethod ({ cls := "ClockedFlows$Flow", name := "<init>", desc := "()V" } : Jvm.MethodName)) ∈ gws := gws_mem (kt_1 _ (List.mem_of_getElem? (i := 43) rfl)) rfl
theorem kw_44 : (Jvm.Cond.code ({ cls := "ClockedFlows$Flow", name := "<init>", desc := "()V" } : Jvm.MethodName) prog_3_method_1_code (1 : Nat) (Option.none : Option Jvm.ClassFile.FieldType)) ∈ gws := gws_mem (kt_1 _ (List.mem_of_getElem? (i := 44) rfl)) rfl
theorem kw_45 : (Jvm.Cond.methodLink "ClockedFlows$Flow" (3 : Nat) ({ cls := "java/lang/Object", name := "<init>", desc := "()V" } : Jvm.MethodName)) ∈ gws := gws_mem (kt_1 _ (List.mem_of_getElem? (i := 45) rfl)) rfl
theorem kw_46 : (Jvm.Cond.methodLink "ClockedFlows$Flow" (31 : Nat) ({ cls := "java/util/Arrays", name := "fill", desc := "([II)V" } : Jvm.MethodName)) ∈ gws := gws_mem (kt_1 _ (List.mem_of_getElem? (i := 46) rfl)) rfl
theorem kw_47 : (Jvm.Cond.static ({ cls := "java/util/Arrays", name := "fill", desc := "([II)V" } : Jvm.MethodName)) ∈ gws := gws_mem (kt_1 _ (List.mem_of_getElem? (i := 47) rfl)) rfl
theorem kw_48 : (Jvm.Cond.code ({ cls := "java/util/Arrays", name := "fill", desc := "([II)V" } : Jvm.MethodName) prog_16_method_103_code (4 : Nat) (Option.none : Option Jvm.ClassFile.FieldType)) ∈ gws := gws_mem (kt_1 _ (List.mem_of_getElem? (i := 48) rfl)) rfl
theorem kw_49 : (Jvm.Cond.fieldLink "ClockedFlows$Flow" (9 : Nat) "ClockedFlows$Flow" "count" "I") ∈ gws := gws_mem (kt_1 _ (List.mem_of_getElem? (i := 49) rfl)) rfl
theorem kw_50 : (Jvm.Cond.fieldLink "ClockedFlows$Sense" (46 : Nat) "ClockedFlows$Flow" "count" "I") ∈ gws := gws_mem (kt_1 _ (List.mem_of_getElem? (i := 50) rfl)) rfl
theorem kw_51 : (Jvm.Cond.fieldLink "ClockedFlows$Text" (23 : Nat) "ClockedFlows$Flow" "count" "I") ∈ gws := gws_mem (kt_1 _ (List.mem_of_getElem? (i := 51) rfl)) rfl
theorem kw_52 : (Jvm.Cond.fieldLink "ClockedFlows" (92 : Nat) "ClockedFlows$Flow" "count" "I") ∈ gws := gws_mem (kt_1 _ (List.mem_of_getElem? (i := 52) rfl)) rfl
theorem kw_53 : (Jvm.Cond.fieldLink "ClockedFlows$Flow" (15 : Nat) "ClockedFlows$Flow" "ticks" "I") ∈ gws := gws_mem (kt_1 _ (List.mem_of_getElem? (i := 53) rfl)) rfl
theorem kw_54 : (Jvm.Cond.fieldLink "ClockedFlows" (104 : Nat) "ClockedFlows$Flow" "ticks" "I") ∈ gws := gws_mem (kt_1 _ (List.mem_of_getElem? (i := 54) rfl)) rfl
theorem kw_55 : (Jvm.Cond.fieldLink "ClockedFlows$Flow" (18 : Nat) "ClockedFlows$Flow" "kinds" "[I") ∈ gws := gws_mem (kt_1 _ (List.mem_of_getElem? (i := 55) rfl)) rfl
theorem kw_56 : (Jvm.Cond.fieldLink "ClockedFlows$Flow" (22 : Nat) "ClockedFlows$Flow" "parts" "[I") ∈ gws := gws_mem (kt_1 _ (List.mem_of_getElem? (i := 56) rfl)) rfl
theorem kw_57 : (Jvm.Cond.fieldLink "ClockedFlows$Flow" (25 : Nat) "ClockedFlows$Flow" "held" "[I") ∈ gws := gws_mem (kt_1 _ (List.mem_of_getElem? (i := 57) rfl)) rfl
theorem kw_58 : (Jvm.Cond.fieldLink "ClockedFlows" (220 : Nat) "ClockedFlows$Flow" "held" "[I") ∈ gws := gws_mem (kt_1 _ (List.mem_of_getElem? (i := 58) rfl)) rfl
theorem kw_59 : (Jvm.Cond.fieldLink "ClockedFlows$Flow" (28 : Nat) "ClockedFlows$Flow" "values" "[I") ∈ gws := gws_mem (kt_1 _ (List.mem_of_getElem? (i := 59) rfl)) rfl
theorem kw_60 : (Jvm.Cond.lays "ClockedFlows$Flow" "ClockedFlows$Flow" "count" "I") ∈ gws := gws_mem (kt_1 _ (List.mem_of_getElem? (i := 60) rfl)) rfl
theorem kw_62 : (Jvm.Cond.lays "ClockedFlows$Flow" "ClockedFlows$Flow" "ticks" "I") ∈ gws := gws_mem (kt_1 _ (List.mem_of_getElem? (i := 62) rfl)) rfl
theorem kw_64 : (Jvm.Cond.laysFinal "ClockedFlows$Flow" "ClockedFlows$Flow" "kinds" "[I") ∈ gws := gws_mem (kt_1 _ (List.mem_of_getElem? (i := 64) rfl)) rfl
theorem kw_66 : (Jvm.Cond.laysFinal "ClockedFlows$Flow" "ClockedFlows$Flow" "parts" "[I") ∈ gws := gws_mem (kt_1 _ (List.mem_of_getElem? (i := 66) rfl)) rfl
theorem kw_68 : (Jvm.Cond.laysFinal "ClockedFlows$Flow" "ClockedFlows$Flow" "held" "[I") ∈ gws := gws_mem (kt_1 _ (List.mem_of_getElem? (i := 68) rfl)) rfl
theorem kw_70 : (Jvm.Cond.laysFinal "ClockedFlows$Flow" "ClockedFlows$Flow" "values" "[I") ∈ gws := gws_mem (kt_1 _ (List.mem_of_getElem? (i := 70) rfl)) rfl
theorem kw_73 : (Jvm.Cond.classLink "ClockedFlows" (26 : Nat) "ClockedFlows$Sense") ∈ gws := gws_mem (kt_1 _ (List.mem_of_getElem? (i := 73) rfl)) rfl
theorem kw_74 : (Jvm.Cond.instantiable "ClockedFlows$Sense" (11 : Nat)) ∈ gws := gws_mem (kt_1 _ (List.mem_of_getElem? (i := 74) rfl)) rfl
theorem kw_75 : (Jvm.Cond.methodLinkNest "ClockedFlows" (28 : Nat) ({ cls := "ClockedFlows$Sense", name := "<init>", desc := "()V" } : Jvm.MethodName) "ClockedFlows") ∈ lw_tbl := kt_1 _ (List.mem_of_getElem? (i := 75) rfl)
theorem kw_76 : (Jvm.Cond.instanceMethod ({ cls := "ClockedFlows$Sense", name := "<init>", desc := "()V" } : Jvm.MethodName)) ∈ gws := gws_mem (kt_1 _ (List.mem_of_getElem? (i := 76) rfl)) rfl
theorem kw_77 : (Jvm.Cond.code ({ cls := "ClockedFlows$Sense", name := "<init>", desc := "()V" } : Jvm.MethodName) prog_4_method_1_code (1 : Nat) (Option.none : Option Jvm.ClassFile.FieldType)) ∈ gws := gws_mem (kt_1 _ (List.mem_of_getElem? (i := 77) rfl)) rfl
theorem kw_78 : (Jvm.Cond.methodLink "ClockedFlows$Sense" (3 : Nat) ({ cls := "java/lang/Object", name := "<init>", desc := "()V" } : Jvm.MethodName)) ∈ gws := gws_mem (kt_1 _ (List.mem_of_getElem? (i := 78) rfl)) rfl
theorem kw_79 : (Jvm.Cond.fieldLink "ClockedFlows$Sense" (9 : Nat) "ClockedFlows$Sense" "clash" "I") ∈ gws := gws_mem (kt_1 _ (List.mem_of_getElem? (i := 79) rfl)) rfl
theorem kw_80 : (Jvm.Cond.fieldLink "ClockedFlows" (95 : Nat) "ClockedFlows$Sense" "clash" "I") ∈ gws := gws_mem (kt_1 _ (List.mem_of_getElem? (i := 80) rfl)) rfl
theorem kw_81 : (Jvm.Cond.fieldLink "ClockedFlows$Sense" (15 : Nat) "ClockedFlows$Sense" "knot" "I") ∈ gws := gws_mem (kt_1 _ (List.mem_of_getElem? (i := 81) rfl)) rfl
theorem kw_82 : (Jvm.Cond.fieldLink "ClockedFlows" (98 : Nat) "ClockedFlows$Sense" "knot" "I") ∈ gws := gws_mem (kt_1 _ (List.mem_of_getElem? (i := 82) rfl)) rfl
theorem kw_83 : (Jvm.Cond.fieldLink "ClockedFlows$Sense" (18 : Nat) "ClockedFlows$Sense" "raw" "I") ∈ gws := gws_mem (kt_1 _ (List.mem_of_getElem? (i := 83) rfl)) rfl
theorem kw_84 : (Jvm.Cond.fieldLink "ClockedFlows" (101 : Nat) "ClockedFlows$Sense" "raw" "I") ∈ gws := gws_mem (kt_1 _ (List.mem_of_getElem? (i := 84) rfl)) rfl
theorem kw_85 : (Jvm.Cond.fieldLink "ClockedFlows$Sense" (21 : Nat) "ClockedFlows$Sense" "count" "I") ∈ gws := gws_mem (kt_1 _ (List.mem_of_getElem? (i := 85) rfl)) rfl
theorem kw_86 : (Jvm.Cond.fieldLink "ClockedFlows$Sense" (24 : Nat) "ClockedFlows$Sense" "group" "[I") ∈ gws := gws_mem (kt_1 _ (List.mem_of_getElem? (i := 86) rfl)) rfl
theorem kw_87 : (Jvm.Cond.fieldLink "ClockedFlows$Sense" (28 : Nat) "ClockedFlows$Sense" "bound" "[I") ∈ gws := gws_mem (kt_1 _ (List.mem_of_getElem? (i := 87) rfl)) rfl
theorem kw_88 : (Jvm.Cond.fieldLink "ClockedFlows$Sense" (31 : Nat) "ClockedFlows$Sense" "settled" "[I") ∈ gws := gws_mem (kt_1 _ (List.mem_of_getElem? (i := 88) rfl)) rfl
theorem kw_89 : (Jvm.Cond.fieldLink "ClockedFlows$Flow" (63 : Nat) "ClockedFlows$Sense" "settled" "[I") ∈ gws := gws_mem (kt_1 _ (List.mem_of_getElem? (i := 89) rfl)) rfl
theorem kw_90 : (Jvm.Cond.fieldLink "ClockedFlows" (229 : Nat) "ClockedFlows$Sense" "settled" "[I") ∈ gws := gws_mem (kt_1 _ (List.mem_of_getElem? (i := 90) rfl)) rfl
theorem kw_91 : (Jvm.Cond.fieldLink "ClockedFlows$Sense" (34 : Nat) "ClockedFlows$Sense" "depth" "[I") ∈ gws := gws_mem (kt_1 _ (List.mem_of_getElem? (i := 91) rfl)) rfl
theorem kw_92 : (Jvm.Cond.fieldLink "ClockedFlows" (119 : Nat) "ClockedFlows$Sense" "depth" "[I") ∈ gws := gws_mem (kt_1 _ (List.mem_of_getElem? (i := 92) rfl)) rfl
theorem kw_93 : (Jvm.Cond.fieldLink "ClockedFlows$Sense" (37 : Nat) "ClockedFlows$Sense" "order" "[I") ∈ gws := gws_mem (kt_1 _ (List.mem_of_getElem? (i := 93) rfl)) rfl
theorem kw_94 : (Jvm.Cond.fieldLink "ClockedFlows" (122 : Nat) "ClockedFlows$Sense" "order" "[I") ∈ gws := gws_mem (kt_1 _ (List.mem_of_getElem? (i := 94) rfl)) rfl
theorem kw_95 : (Jvm.Cond.fieldLink "ClockedFlows$Sense" (40 : Nat) "ClockedFlows$Sense" "turn" "[I") ∈ gws := gws_mem (kt_1 _ (List.mem_of_getElem? (i := 95) rfl)) rfl
theorem kw_96 : (Jvm.Cond.fieldLink "ClockedFlows$Flow" (58 : Nat) "ClockedFlows$Sense" "turn" "[I") ∈ gws := gws_mem (kt_1 _ (List.mem_of_getElem? (i := 96) rfl)) rfl
theorem kw_97 : (Jvm.Cond.fieldLink "ClockedFlows$Sense" (43 : Nat) "ClockedFlows$Sense" "level" "[I") ∈ gws := gws_mem (kt_1 _ (List.mem_of_getElem? (i := 97) rfl)) rfl
theorem kw_98 : (Jvm.Cond.fieldLink "ClockedFlows" (125 : Nat) "ClockedFlows$Sense" "level" "[I") ∈ gws := gws_mem (kt_1 _ (List.mem_of_getElem? (i := 98) rfl)) rfl
theorem kw_99 : (Jvm.Cond.lays "ClockedFlows$Sense" "ClockedFlows$Sense" "clash" "I") ∈ gws := gws_mem (kt_1 _ (List.mem_of_getElem? (i := 99) rfl)) rfl
theorem kw_101 : (Jvm.Cond.lays "ClockedFlows$Sense" "ClockedFlows$Sense" "knot" "I") ∈ gws := gws_mem (kt_1 _ (List.mem_of_getElem? (i := 101) rfl)) rfl
theorem kw_103 : (Jvm.Cond.lays "ClockedFlows$Sense" "ClockedFlows$Sense" "raw" "I") ∈ gws := gws_mem (kt_1 _ (List.mem_of_getElem? (i := 103) rfl)) rfl
theorem kw_105 : (Jvm.Cond.lays "ClockedFlows$Sense" "ClockedFlows$Sense" "count" "I") ∈ gws := gws_mem (kt_1 _ (List.mem_of_getElem? (i := 105) rfl)) rfl
theorem kw_107 : (Jvm.Cond.laysFinal "ClockedFlows$Sense" "ClockedFlows$Sense" "group" "[I") ∈ gws := gws_mem (kt_1 _ (List.mem_of_getElem? (i := 107) rfl)) rfl
theorem kw_109 : (Jvm.Cond.laysFinal "ClockedFlows$Sense" "ClockedFlows$Sense" "bound" "[I") ∈ gws := gws_mem (kt_1 _ (List.mem_of_getElem? (i := 109) rfl)) rfl
theorem kw_111 : (Jvm.Cond.laysFinal "ClockedFlows$Sense" "ClockedFlows$Sense" "settled" "[I") ∈ gws := gws_mem (kt_1 _ (List.mem_of_getElem? (i := 111) rfl)) rfl
theorem kw_113 : (Jvm.Cond.laysFinal "ClockedFlows$Sense" "ClockedFlows$Sense" "depth" "[I") ∈ gws := gws_mem (kt_1 _ (List.mem_of_getElem? (i := 113) rfl)) rfl
theorem kw_115 : (Jvm.Cond.laysFinal "ClockedFlows$Sense" "ClockedFlows$Sense" "order" "[I") ∈ gws := gws_mem (kt_1 _ (List.mem_of_getElem? (i := 115) rfl)) rfl
theorem kw_117 : (Jvm.Cond.laysFinal "ClockedFlows$Sense" "ClockedFlows$Sense" "turn" "[I") ∈ gws := gws_mem (kt_1 _ (List.mem_of_getElem? (i := 117) rfl)) rfl
theorem kw_119 : (Jvm.Cond.laysFinal "ClockedFlows$Sense" "ClockedFlows$Sense" "level" "[I") ∈ gws := gws_mem (kt_1 _ (List.mem_of_getElem? (i := 119) rfl)) rfl
theorem kw_122 : (Jvm.Cond.classLink "ClockedFlows" (33 : Nat) "ClockedFlows$Doings") ∈ gws := gws_mem (kt_1 _ (List.mem_of_getElem? (i := 122) rfl)) rfl
theorem kw_123 : (Jvm.Cond.instantiable "ClockedFlows$Doings" (3 : Nat)) ∈ gws := gws_mem (kt_1 _ (List.mem_of_getElem? (i := 123) rfl)) rfl
theorem kw_124 : (Jvm.Cond.methodLink "ClockedFlows" (35 : Nat) ({ cls := "ClockedFlows$Doings", name := "<init>", desc := "()V" } : Jvm.MethodName)) ∈ gws := gws_mem (kt_1 _ (List.mem_of_getElem? (i := 124) rfl)) rfl
theorem kw_125 : (Jvm.Cond.instanceMethod ({ cls := "ClockedFlows$Doings", name := "<init>", desc := "()V" } : Jvm.MethodName)) ∈ gws := gws_mem (kt_1 _ (List.mem_of_getElem? (i := 125) rfl)) rfl
theorem kw_126 : (Jvm.Cond.code ({ cls := "ClockedFlows$Doings", name := "<init>", desc := "()V" } : Jvm.MethodName) prog_2_method_1_code (2 : Nat) (Option.none : Option Jvm.ClassFile.FieldType)) ∈ gws := gws_mem (kt_1 _ (List.mem_of_getElem? (i := 126) rfl)) rfl
theorem kw_127 : (Jvm.Cond.methodLink "ClockedFlows$Doings" (3 : Nat) ({ cls := "java/lang/Object", name := "<init>", desc := "()V" } : Jvm.MethodName)) ∈ gws := gws_mem (kt_1 _ (List.mem_of_getElem? (i := 127) rfl)) rfl
theorem kw_128 : (Jvm.Cond.classLink "ClockedFlows$Doings" (18 : Nat) "ClockedFlows$Flow") ∈ gws := gws_mem (kt_1 _ (List.mem_of_getElem? (i := 128) rfl)) rfl
theorem kw_129 : (Jvm.Cond.arrayOver (Jvm.ClassFile.FieldType.object "ClockedFlows$Flow")) ∈ lw_tbl := kt_1 _ (List.mem_of_getElem? (i := 129) rfl)
theorem kw_130 : (Jvm.Cond.methodLink "ClockedFlows$Doings" (24 : Nat) ({ cls := "ClockedFlows$Flow", name := "<init>", desc := "()V" } : Jvm.MethodName)) ∈ gws := gws_mem (kt_1 _ (List.mem_of_getElem? (i := 130) rfl)) rfl
theorem kw_131 : (Jvm.Cond.fieldLink "ClockedFlows$Doings" (9 : Nat) "ClockedFlows$Doings" "count" "I") ∈ gws := gws_mem (kt_1 _ (List.mem_of_getElem? (i := 131) rfl)) rfl
theorem kw_132 : (Jvm.Cond.fieldLink "ClockedFlows" (110 : Nat) "ClockedFlows$Doings" "count" "I") ∈ gws := gws_mem (kt_1 _ (List.mem_of_getElem? (i := 132) rfl)) rfl
theorem kw_133 : (Jvm.Cond.fieldLink "ClockedFlows$Doings" (15 : Nat) "ClockedFlows$Doings" "oldest" "I") ∈ gws := gws_mem (kt_1 _ (List.mem_of_getElem? (i := 133) rfl)) rfl
theorem kw_134 : (Jvm.Cond.fieldLink "ClockedFlows$Doings" (20 : Nat) "ClockedFlows$Doings" "row" "[LClockedFlows$Flow;") ∈ gws := gws_mem (kt_1 _ (List.mem_of_getElem? (i := 134) rfl)) rfl
theorem kw_135 : (Jvm.Cond.lays "ClockedFlows$Doings" "ClockedFlows$Doings" "count" "I") ∈ gws := gws_mem (kt_1 _ (List.mem_of_getElem? (i := 135) rfl)) rfl
theorem kw_137 : (Jvm.Cond.lays "ClockedFlows$Doings" "ClockedFlows$Doings" "oldest" "I") ∈ gws := gws_mem (kt_1 _ (List.mem_of_getElem? (i := 137) rfl)) rfl
theorem kw_139 : (Jvm.Cond.laysFinal "ClockedFlows$Doings" "ClockedFlows$Doings" "row" "[LClockedFlows$Flow;") ∈ gws := gws_mem (kt_1 _ (List.mem_of_getElem? (i := 139) rfl)) rfl
theorem kw_142 : (Jvm.Cond.classLink "ClockedFlows" (40 : Nat) "ClockedFlows$Sights") ∈ gws := gws_mem (kt_1 _ (List.mem_of_getElem? (i := 142) rfl)) rfl
theorem kw_143 : (Jvm.Cond.instantiable "ClockedFlows$Sights" (5 : Nat)) ∈ gws := gws_mem (kt_1 _ (List.mem_of_getElem? (i := 143) rfl)) rfl
theorem kw_144 : (Jvm.Cond.methodLinkNest "ClockedFlows" (42 : Nat) ({ cls := "ClockedFlows$Sights", name := "<init>", desc := "()V" } : Jvm.MethodName) "ClockedFlows") ∈ lw_tbl := kt_1 _ (List.mem_of_getElem? (i := 144) rfl)
theorem kw_145 : (Jvm.Cond.instanceMethod ({ cls := "ClockedFlows$Sights", name := "<init>", desc := "()V" } : Jvm.MethodName)) ∈ gws := gws_mem (kt_1 _ (List.mem_of_getElem? (i := 145) rfl)) rfl
theorem kw_146 : (Jvm.Cond.code ({ cls := "ClockedFlows$Sights", name := "<init>", desc := "()V" } : Jvm.MethodName) prog_5_method_1_code (1 : Nat) (Option.none : Option Jvm.ClassFile.FieldType)) ∈ gws := gws_mem (kt_1 _ (List.mem_of_getElem? (i := 146) rfl)) rfl
theorem kw_147 : (Jvm.Cond.methodLink "ClockedFlows$Sights" (3 : Nat) ({ cls := "java/lang/Object", name := "<init>", desc := "()V" } : Jvm.MethodName)) ∈ gws := gws_mem (kt_1 _ (List.mem_of_getElem? (i := 147) rfl)) rfl
theorem kw_148 : (Jvm.Cond.fieldLink "ClockedFlows$Sights" (9 : Nat) "ClockedFlows$Sights" "count" "I") ∈ gws := gws_mem (kt_1 _ (List.mem_of_getElem? (i := 148) rfl)) rfl
theorem kw_149 : (Jvm.Cond.fieldLink "ClockedFlows" (111 : Nat) "ClockedFlows$Sights" "count" "I") ∈ gws := gws_mem (kt_1 _ (List.mem_of_getElem? (i := 149) rfl)) rfl
theorem kw_150 : (Jvm.Cond.fieldLink "ClockedFlows$Sights" (15 : Nat) "ClockedFlows$Sights" "at" "[I") ∈ gws := gws_mem (kt_1 _ (List.mem_of_getElem? (i := 150) rfl)) rfl
theorem kw_151 : (Jvm.Cond.fieldLink "ClockedFlows$Sights" (19 : Nat) "ClockedFlows$Sights" "streams" "[I") ∈ gws := gws_mem (kt_1 _ (List.mem_of_getElem? (i := 151) rfl)) rfl
theorem kw_152 : (Jvm.Cond.fieldLink "ClockedFlows$Sights" (22 : Nat) "ClockedFlows$Sights" "seen" "[I") ∈ gws := gws_mem (kt_1 _ (List.mem_of_getElem? (i := 152) rfl)) rfl
theorem kw_153 : (Jvm.Cond.fieldLink "ClockedFlows$Sights" (25 : Nat) "ClockedFlows$Sights" "so" "[Z") ∈ gws := gws_mem (kt_1 _ (List.mem_of_getElem? (i := 153) rfl)) rfl
theorem kw_154 : (Jvm.Cond.lays "ClockedFlows$Sights" "ClockedFlows$Sights" "count" "I") ∈ gws := gws_mem (kt_1 _ (List.mem_of_getElem? (i := 154) rfl)) rfl
theorem kw_156 : (Jvm.Cond.laysFinal "ClockedFlows$Sights" "ClockedFlows$Sights" "at" "[I") ∈ gws := gws_mem (kt_1 _ (List.mem_of_getElem? (i := 156) rfl)) rfl
theorem kw_158 : (Jvm.Cond.laysFinal "ClockedFlows$Sights" "ClockedFlows$Sights" "streams" "[I") ∈ gws := gws_mem (kt_1 _ (List.mem_of_getElem? (i := 158) rfl)) rfl
theorem kw_160 : (Jvm.Cond.laysFinal "ClockedFlows$Sights" "ClockedFlows$Sights" "seen" "[I") ∈ gws := gws_mem (kt_1 _ (List.mem_of_getElem? (i := 160) rfl)) rfl
theorem kw_162 : (Jvm.Cond.laysFinal "ClockedFlows$Sights" "ClockedFlows$Sights" "so" "[Z") ∈ gws := gws_mem (kt_1 _ (List.mem_of_getElem? (i := 162) rfl)) rfl
theorem kw_165 : (Jvm.Cond.arrayClass Jvm.ClassFile.FieldType.boolean) ∈ gws := gws_mem (kt_1 _ (List.mem_of_getElem? (i := 165) rfl)) rfl
theorem kw_166 : (Jvm.Cond.fieldLink "ClockedFlows" (10 : Nat) "ClockedFlows" "text" "LClockedFlows$Text;") ∈ gws := gws_mem (kt_1 _ (List.mem_of_getElem? (i := 166) rfl)) rfl
theorem kw_167 : (Jvm.Cond.fieldLink "ClockedFlows" (19 : Nat) "ClockedFlows" "now" "LClockedFlows$Flow;") ∈ gws := gws_mem (kt_1 _ (List.mem_of_getElem? (i := 167) rfl)) rfl
theorem kw_168 : (Jvm.Cond.fieldLink "ClockedFlows" (23 : Nat) "ClockedFlows" "spare" "LClockedFlows$Flow;") ∈ gws := gws_mem (kt_1 _ (List.mem_of_getElem? (i := 168) rfl)) rfl
theorem kw_169 : (Jvm.Cond.fieldLink "ClockedFlows" (29 : Nat) "ClockedFlows" "sense" "LClockedFlows$Sense;") ∈ gws := gws_mem (kt_1 _ (List.mem_of_getElem? (i := 169) rfl)) rfl
theorem kw_170 : (Jvm.Cond.fieldLink "ClockedFlows" (36 : Nat) "ClockedFlows" "doings" "LClockedFlows$Doings;") ∈ gws := gws_mem (kt_1 _ (List.mem_of_getElem? (i := 170) rfl)) rfl
theorem kw_171 : (Jvm.Cond.fieldLink "ClockedFlows" (43 : Nat) "ClockedFlows" "sights" "LClockedFlows$Sights;") ∈ gws := gws_mem (kt_1 _ (List.mem_of_getElem? (i := 171) rfl)) rfl
theorem kw_172 : (Jvm.Cond.fieldLink "ClockedFlows" (47 : Nat) "ClockedFlows" "slots" "[LClockedFlows$Flow;") ∈ gws := gws_mem (kt_1 _ (List.mem_of_getElem? (i := 172) rfl)) rfl
theorem kw_173 : (Jvm.Cond.fieldLink "ClockedFlows" (51 : Nat) "ClockedFlows" "slotKept" "[Z") ∈ gws := gws_mem (kt_1 _ (List.mem_of_getElem? (i := 173) rfl)) rfl
theorem kw_174 : (Jvm.Cond.fieldLink "ClockedFlows" (55 : Nat) "ClockedFlows" "trail" "[I") ∈ gws := gws_mem (kt_1 _ (List.mem_of_getElem? (i := 174) rfl)) rfl
theorem kw_175 : (Jvm.Cond.fieldLink "ClockedFlows" (59 : Nat) "ClockedFlows" "theSeed" "J") ∈ gws := gws_mem (kt_1 _ (List.mem_of_getElem? (i := 175) rfl)) rfl
theorem kw_176 : (Jvm.Cond.laysFinal "ClockedFlows" "ClockedFlows" "text" "LClockedFlows$Text;") ∈ gws := gws_mem (kt_1 _ (List.mem_of_getElem? (i := 176) rfl)) rfl
theorem kw_178 : (Jvm.Cond.laysFinal "ClockedFlows" "ClockedFlows" "now" "LClockedFlows$Flow;") ∈ gws := gws_mem (kt_1 _ (List.mem_of_getElem? (i := 178) rfl)) rfl
theorem kw_180 : (Jvm.Cond.laysFinal "ClockedFlows" "ClockedFlows" "spare" "LClockedFlows$Flow;") ∈ gws := gws_mem (kt_1 _ (List.mem_of_getElem? (i := 180) rfl)) rfl
theorem kw_182 : (Jvm.Cond.laysFinal "ClockedFlows" "ClockedFlows" "sense" "LClockedFlows$Sense;") ∈ gws := gws_mem (kt_1 _ (List.mem_of_getElem? (i := 182) rfl)) rfl
theorem kw_184 : (Jvm.Cond.laysFinal "ClockedFlows" "ClockedFlows" "doings" "LClockedFlows$Doings;") ∈ gws := gws_mem (kt_1 _ (List.mem_of_getElem? (i := 184) rfl)) rfl
theorem kw_186 : (Jvm.Cond.laysFinal "ClockedFlows" "ClockedFlows" "sights" "LClockedFlows$Sights;") ∈ gws := gws_mem (kt_1 _ (List.mem_of_getElem? (i := 186) rfl)) rfl
theorem kw_188 : (Jvm.Cond.laysFinal "ClockedFlows" "ClockedFlows" "slots" "[LClockedFlows$Flow;") ∈ gws := gws_mem (kt_1 _ (List.mem_of_getElem? (i := 188) rfl)) rfl
theorem kw_190 : (Jvm.Cond.laysFinal "ClockedFlows" "ClockedFlows" "slotKept" "[Z") ∈ gws := gws_mem (kt_1 _ (List.mem_of_getElem? (i := 190) rfl)) rfl
theorem kw_192 : (Jvm.Cond.laysFinal "ClockedFlows" "ClockedFlows" "trail" "[I") ∈ gws := gws_mem (kt_1 _ (List.mem_of_getElem? (i := 192) rfl)) rfl
theorem kw_194 : (Jvm.Cond.lays "ClockedFlows" "ClockedFlows" "theSeed" "J") ∈ gws := gws_mem (kt_1 _ (List.mem_of_getElem? (i := 194) rfl)) rfl
theorem kw_197 : (Jvm.Cond.methodLink "ClockedFlowsLaw" (13 : Nat) ({ cls := "ClockedFlows", name := "write", desc := "(I)I" } : Jvm.MethodName)) ∈ gws := gws_mem (kt_1 _ (List.mem_of_getElem? (i := 197) rfl)) rfl
theorem kw_198 : (Jvm.Cond.instanceMethod ({ cls := "ClockedFlows", name := "write", desc := "(I)I" } : Jvm.MethodName)) ∈ gws := gws_mem (kt_1 _ (List.mem_of_getElem? (i := 198) rfl)) rfl
theorem kw_199 : (Jvm.Cond.selects "ClockedFlows" ({ cls := "ClockedFlows", name := "write", desc := "(I)I" } : Jvm.MethodName) ({ cls := "ClockedFlows", name := "write", desc := "(I)I" } : Jvm.MethodName)) ∈ gws := gws_mem (kt_1 _ (List.mem_of_getElem? (i := 199) rfl)) rfl
theorem kw_200 : (Jvm.Cond.code ({ cls := "ClockedFlows", name := "write", desc := "(I)I" } : Jvm.MethodName) prog_1_method_2_code (2 : Nat) (Option.some Jvm.ClassFile.FieldType.int)) ∈ gws := gws_mem (kt_1 _ (List.mem_of_getElem? (i := 200) rfl)) rfl
theorem kw_201 : (Jvm.Cond.methodLink "ClockedFlows" (63 : Nat) ({ cls := "ClockedFlows$Text", name := "append", desc := "(I)Z" } : Jvm.MethodName)) ∈ gws := gws_mem (kt_1 _ (List.mem_of_getElem? (i := 201) rfl)) rfl
theorem kw_202 : (Jvm.Cond.instanceMethod ({ cls := "ClockedFlows$Text", name := "append", desc := "(I)Z" } : Jvm.MethodName)) ∈ gws := gws_mem (kt_1 _ (List.mem_of_getElem? (i := 202) rfl)) rfl
theorem kw_203 : (Jvm.Cond.selects "ClockedFlows$Text" ({ cls := "ClockedFlows$Text", name := "append", desc := "(I)Z" } : Jvm.MethodName) ({ cls := "ClockedFlows$Text", name := "append", desc := "(I)Z" } : Jvm.MethodName)) ∈ gws := gws_mem (kt_1 _ (List.mem_of_getElem? (i := 203) rfl)) rfl
theorem kw_204 : (Jvm.Cond.code ({ cls := "ClockedFlows$Text", name := "append", desc := "(I)Z" } : Jvm.MethodName) prog_6_method_2_code (2 : Nat) (Option.some Jvm.ClassFile.FieldType.boolean)) ∈ gws := gws_mem (kt_1 _ (List.mem_of_getElem? (i := 204) rfl)) rfl
theorem kw_205 : (Jvm.Cond.methodLink "ClockedFlowsLaw" (18 : Nat) ({ cls := "ClockedFlows", name := "wipe", desc := "()I" } : Jvm.MethodName)) ∈ gws := gws_mem (kt_1 _ (List.mem_of_getElem? (i := 205) rfl)) rfl
theorem kw_206 : (Jvm.Cond.instanceMethod ({ cls := "ClockedFlows", name := "wipe", desc := "()I" } : Jvm.MethodName)) ∈ gws := gws_mem (kt_1 _ (List.mem_of_getElem? (i := 206) rfl)) rfl
theorem kw_207 : (Jvm.Cond.selects "ClockedFlows" ({ cls := "ClockedFlows", name := "wipe", desc := "()I" } : Jvm.MethodName) ({ cls := "ClockedFlows", name := "wipe", desc := "()I" } : Jvm.MethodName)) ∈ gws := gws_mem (kt_1 _ (List.mem_of_getElem? (i := 207) rfl)) rfl
theorem kw_208 : (Jvm.Cond.code ({ cls := "ClockedFlows", name := "wipe", desc := "()I" } : Jvm.MethodName) prog_1_method_3_code (2 : Nat) (Option.some Jvm.ClassFile.FieldType.int)) ∈ gws := gws_mem (kt_1 _ (List.mem_of_getElem? (i := 208) rfl)) rfl
theorem kw_209 : (Jvm.Cond.methodLink "ClockedFlowsLaw" (23 : Nat) ({ cls := "ClockedFlows", name := "fault", desc := "()I" } : Jvm.MethodName)) ∈ gws := gws_mem (kt_1 _ (List.mem_of_getElem? (i := 209) rfl)) rfl
theorem kw_210 : (Jvm.Cond.instanceMethod ({ cls := "ClockedFlows", name := "fault", desc := "()I" } : Jvm.MethodName)) ∈ gws := gws_mem (kt_1 _ (List.mem_of_getElem? (i := 210) rfl)) rfl
theorem kw_211 : (Jvm.Cond.selects "ClockedFlows" ({ cls := "ClockedFlows", name := "fault", desc := "()I" } : Jvm.MethodName) ({ cls := "ClockedFlows", name := "fault", desc := "()I" } : Jvm.MethodName)) ∈ gws := gws_mem (kt_1 _ (List.mem_of_getElem? (i := 211) rfl)) rfl
theorem kw_212 : (Jvm.Cond.code ({ cls := "ClockedFlows", name := "fault", desc := "()I" } : Jvm.MethodName) prog_1_method_4_code (1 : Nat) (Option.some Jvm.ClassFile.FieldType.int)) ∈ gws := gws_mem (kt_1 _ (List.mem_of_getElem? (i := 212) rfl)) rfl
theorem kw_213 : (Jvm.Cond.methodLink "ClockedFlows" (71 : Nat) ({ cls := "ClockedFlows$Text", name := "readInto", desc := "(LClockedFlows$Flow;)I" } : Jvm.MethodName)) ∈ gws := gws_mem (kt_1 _ (List.mem_of_getElem? (i := 213) rfl)) rfl
theorem kw_214 : (Jvm.Cond.instanceMethod ({ cls := "ClockedFlows$Text", name := "readInto", desc := "(LClockedFlows$Flow;)I" } : Jvm.MethodName)) ∈ gws := gws_mem (kt_1 _ (List.mem_of_getElem? (i := 214) rfl)) rfl
theorem kw_215 : (Jvm.Cond.selects "ClockedFlows$Text" ({ cls := "ClockedFlows$Text", name := "readInto", desc := "(LClockedFlows$Flow;)I" } : Jvm.MethodName) ({ cls := "ClockedFlows$Text", name := "readInto", desc := "(LClockedFlows$Flow;)I" } : Jvm.MethodName)) ∈ gws := gws_mem (kt_1 _ (List.mem_of_getElem? (i := 215) rfl)) rfl
theorem kw_216 : (Jvm.Cond.code ({ cls := "ClockedFlows$Text", name := "readInto", desc := "(LClockedFlows$Flow;)I" } : Jvm.MethodName) prog_6_method_3_code (6 : Nat) (Option.some Jvm.ClassFile.FieldType.int)) ∈ gws := gws_mem (kt_1 _ (List.mem_of_getElem? (i := 216) rfl)) rfl
theorem kw_217 : (Jvm.Cond.methodLink "ClockedFlows$Text" (19 : Nat) ({ cls := "ClockedFlows$Text", name := "letterAt", desc := "(I)I" } : Jvm.MethodName)) ∈ gws := gws_mem (kt_1 _ (List.mem_of_getElem? (i := 217) rfl)) rfl
theorem kw_219 : (Jvm.Cond.instanceMethod ({ cls := "ClockedFlows$Text", name := "letterAt", desc := "(I)I" } : Jvm.MethodName)) ∈ gws := gws_mem (kt_1 _ (List.mem_of_getElem? (i := 219) rfl)) rfl
theorem kw_220 : (Jvm.Cond.code ({ cls := "ClockedFlows$Text", name := "letterAt", desc := "(I)I" } : Jvm.MethodName) prog_6_method_5_code (2 : Nat) (Option.some Jvm.ClassFile.FieldType.int)) ∈ gws := gws_mem (kt_1 _ (List.mem_of_getElem? (i := 220) rfl)) rfl
theorem kw_221 : (Jvm.Cond.methodLink "ClockedFlows$Text" (28 : Nat) ({ cls := "ClockedFlows$Text", name := "readEquation", desc := "(LClockedFlows$Flow;II)I" } : Jvm.MethodName)) ∈ gws := gws_mem (kt_1 _ (List.mem_of_getElem? (i := 221) rfl)) rfl
theorem kw_223 : (Jvm.Cond.instanceMethod ({ cls := "ClockedFlows$Text", name := "readEquation", desc := "(LClockedFlows$Flow;II)I" } : Jvm.MethodName)) ∈ gws := gws_mem (kt_1 _ (List.mem_of_getElem? (i := 223) rfl)) rfl
theorem kw_224 : (Jvm.Cond.code ({ cls := "ClockedFlows$Text", name := "readEquation", desc := "(LClockedFlows$Flow;II)I" } : Jvm.MethodName) prog_6_method_4_code (8 : Nat) (Option.some Jvm.ClassFile.FieldType.int)) ∈ gws := gws_mem (kt_1 _ (List.mem_of_getElem? (i := 224) rfl)) rfl
theorem kw_225 : (Jvm.Cond.stringRef "ClockedFlows$Text" (38 : Nat) "IK+-<?FPAWNM") ∈ lw_tbl := kt_1 _ (List.mem_of_getElem? (i := 225) rfl)
theorem kw_226 : (Jvm.Cond.methodLink "ClockedFlows$Text" (40 : Nat) ({ cls := "java/lang/String", name := "indexOf", desc := "(I)I" } : Jvm.MethodName)) ∈ gws := gws_mem (kt_1 _ (List.mem_of_getElem? (i := 226) rfl)) rfl
theorem kw_227 : (Jvm.Cond.instanceMethod ({ cls := "java/lang/String", name := "indexOf", desc := "(I)I" } : Jvm.MethodName)) ∈ gws := gws_mem (kt_1 _ (List.mem_of_getElem? (i := 227) rfl)) rfl
theorem kw_228 : (Jvm.Cond.selects "java/lang/String" ({ cls := "java/lang/String", name := "indexOf", desc := "(I)I" } : Jvm.MethodName) ({ cls := "java/lang/String", name := "indexOf", desc := "(I)I" } : Jvm.MethodName)) ∈ gws := gws_mem (kt_1 _ (List.mem_of_getElem? (i := 228) rfl)) rfl
theorem kw_229 : (Jvm.Cond.code ({ cls := "java/lang/String", name := "indexOf", desc := "(I)I" } : Jvm.MethodName) prog_12_method_79_code (2 : Nat) (Option.some Jvm.ClassFile.FieldType.int)) ∈ gws := gws_mem (kt_1 _ (List.mem_of_getElem? (i := 229) rfl)) rfl
theorem kw_230 : (Jvm.Cond.methodLink "java/lang/String" (633 : Nat) ({ cls := "java/lang/String", name := "indexOf", desc := "(II)I" } : Jvm.MethodName)) ∈ gws := gws_mem (kt_1 _ (List.mem_of_getElem? (i := 230) rfl)) rfl
theorem kw_231 : (Jvm.Cond.instanceMethod ({ cls := "java/lang/String", name := "indexOf", desc := "(II)I" } : Jvm.MethodName)) ∈ gws := gws_mem (kt_1 _ (List.mem_of_getElem? (i := 231) rfl)) rfl
theorem kw_232 : (Jvm.Cond.selects "java/lang/String" ({ cls := "java/lang/String", name := "indexOf", desc := "(II)I" } : Jvm.MethodName) ({ cls := "java/lang/String", name := "indexOf", desc := "(II)I" } : Jvm.MethodName)) ∈ gws := gws_mem (kt_1 _ (List.mem_of_getElem? (i := 232) rfl)) rfl
theorem kw_233 : (Jvm.Cond.code ({ cls := "java/lang/String", name := "indexOf", desc := "(II)I" } : Jvm.MethodName) prog_12_method_80_code (3 : Nat) (Option.some Jvm.ClassFile.FieldType.int)) ∈ gws := gws_mem (kt_1 _ (List.mem_of_getElem? (i := 233) rfl)) rfl
theorem kw_234 : (Jvm.Cond.methodLink "java/lang/String" (492 : Nat) ({ cls := "java/lang/String", name := "isLatin1", desc := "()Z" } : Jvm.MethodName)) ∈ gws := gws_mem (kt_1 _ (List.mem_of_getElem? (i := 234) rfl)) rfl
theorem kw_235 : (Jvm.Cond.instanceMethod ({ cls := "java/lang/String", name := "isLatin1", desc := "()Z" } : Jvm.MethodName)) ∈ gws := gws_mem (kt_1 _ (List.mem_of_getElem? (i := 235) rfl)) rfl
theorem kw_236 : (Jvm.Cond.selects "java/lang/String" ({ cls := "java/lang/String", name := "isLatin1", desc := "()Z" } : Jvm.MethodName) ({ cls := "java/lang/String", name := "isLatin1", desc := "()Z" } : Jvm.MethodName)) ∈ gws := gws_mem (kt_1 _ (List.mem_of_getElem? (i := 236) rfl)) rfl
theorem kw_237 : (Jvm.Cond.code ({ cls := "java/lang/String", name := "isLatin1", desc := "()Z" } : Jvm.MethodName) prog_12_method_154_code (1 : Nat) (Option.some Jvm.ClassFile.FieldType.boolean)) ∈ gws := gws_mem (kt_1 _ (List.mem_of_getElem? (i := 237) rfl)) rfl
theorem kw_238 : (Jvm.Cond.fieldLink "java/lang/String" (38 : Nat) "java/lang/String" "COMPACT_STRINGS" "Z") ∈ gws := gws_mem (kt_1 _ (List.mem_of_getElem? (i := 238) rfl)) rfl
theorem kw_239 : (Jvm.Cond.laysStatic "java/lang/String" "COMPACT_STRINGS" "Z") ∈ lw_tbl := kt_1 _ (List.mem_of_getElem? (i := 239) rfl)
theorem kw_240 : (Jvm.Cond.methodLink "java/lang/String" (505 : Nat) ({ cls := "java/lang/String", name := "length", desc := "()I" } : Jvm.MethodName)) ∈ gws := gws_mem (kt_2 _ (List.mem_of_getElem? (i := 0) rfl)) rfl
theorem kw_241 : (Jvm.Cond.instanceMethod ({ cls := "java/lang/String", name := "length", desc := "()I" } : Jvm.MethodName)) ∈ gws := gws_mem (kt_2 _ (List.mem_of_getElem? (i := 1) rfl)) rfl
theorem kw_242 : (Jvm.Cond.selects "java/lang/String" ({ cls := "java/lang/String", name := "length", desc := "()I" } : Jvm.MethodName) ({ cls := "java/lang/String", name := "length", desc := "()I" } : Jvm.MethodName)) ∈ gws := gws_mem (kt_2 _ (List.mem_of_getElem? (i := 2) rfl)) rfl
theorem kw_243 : (Jvm.Cond.code ({ cls := "java/lang/String", name := "length", desc := "()I" } : Jvm.MethodName) prog_12_method_54_code (1 : Nat) (Option.some Jvm.ClassFile.FieldType.int)) ∈ gws := gws_mem (kt_2 _ (List.mem_of_getElem? (i := 3) rfl)) rfl
theorem kw_244 : (Jvm.Cond.methodLink "java/lang/String" (335 : Nat) ({ cls := "java/lang/String", name := "coder", desc := "()B" } : Jvm.MethodName)) ∈ gws := gws_mem (kt_2 _ (List.mem_of_getElem? (i := 4) rfl)) rfl
theorem kw_245 : (Jvm.Cond.instanceMethod ({ cls := "java/lang/String", name := "coder", desc := "()B" } : Jvm.MethodName)) ∈ gws := gws_mem (kt_2 _ (List.mem_of_getElem? (i := 5) rfl)) rfl
theorem kw_246 : (Jvm.Cond.selects "java/lang/String" ({ cls := "java/lang/String", name := "coder", desc := "()B" } : Jvm.MethodName) ({ cls := "java/lang/String", name := "coder", desc := "()B" } : Jvm.MethodName)) ∈ gws := gws_mem (kt_2 _ (List.mem_of_getElem? (i := 6) rfl)) rfl
theorem kw_247 : (Jvm.Cond.code ({ cls := "java/lang/String", name := "coder", desc := "()B" } : Jvm.MethodName) prog_12_method_152_code (1 : Nat) (Option.some Jvm.ClassFile.FieldType.byte)) ∈ gws := gws_mem (kt_2 _ (List.mem_of_getElem? (i := 7) rfl)) rfl
theorem kw_248 : (Jvm.Cond.methodLink "java/lang/String" (637 : Nat) ({ cls := "java/lang/StringLatin1", name := "indexOf", desc := "([BIII)I" } : Jvm.MethodName)) ∈ gws := gws_mem (kt_2 _ (List.mem_of_getElem? (i := 8) rfl)) rfl
theorem kw_249 : (Jvm.Cond.static ({ cls := "java/lang/StringLatin1", name := "indexOf", desc := "([BIII)I" } : Jvm.MethodName)) ∈ gws := gws_mem (kt_2 _ (List.mem_of_getElem? (i := 9) rfl)) rfl
theorem kw_250 : (Jvm.Cond.code ({ cls := "java/lang/StringLatin1", name := "indexOf", desc := "([BIII)I" } : Jvm.MethodName) prog_13_method_22_code (4 : Nat) (Option.some Jvm.ClassFile.FieldType.int)) ∈ gws := gws_mem (kt_2 _ (List.mem_of_getElem? (i := 10) rfl)) rfl
theorem kw_251 : (Jvm.Cond.methodLink "java/lang/StringLatin1" (88 : Nat) ({ cls := "java/lang/StringLatin1", name := "canEncode", desc := "(I)Z" } : Jvm.MethodName)) ∈ gws := gws_mem (kt_2 _ (List.mem_of_getElem? (i := 11) rfl)) rfl
theorem kw_252 : (Jvm.Cond.static ({ cls := "java/lang/StringLatin1", name := "canEncode", desc := "(I)Z" } : Jvm.MethodName)) ∈ gws := gws_mem (kt_2 _ (List.mem_of_getElem? (i := 12) rfl)) rfl
theorem kw_253 : (Jvm.Cond.code ({ cls := "java/lang/StringLatin1", name := "canEncode", desc := "(I)Z" } : Jvm.MethodName) prog_13_method_4_code (1 : Nat) (Option.some Jvm.ClassFile.FieldType.boolean)) ∈ gws := gws_mem (kt_2 _ (List.mem_of_getElem? (i := 13) rfl)) rfl
theorem kw_254 : (Jvm.Cond.methodLink "java/lang/StringLatin1" (92 : Nat) ({ cls := "java/lang/Math", name := "max", desc := "(II)I" } : Jvm.MethodName)) ∈ gws := gws_mem (kt_2 _ (List.mem_of_getElem? (i := 14) rfl)) rfl
theorem kw_255 : (Jvm.Cond.static ({ cls := "java/lang/Math", name := "max", desc := "(II)I" } : Jvm.MethodName)) ∈ gws := gws_mem (kt_2 _ (List.mem_of_getElem? (i := 15) rfl)) rfl
theorem kw_256 : (Jvm.Cond.code ({ cls := "java/lang/Math", name := "max", desc := "(II)I" } : Jvm.MethodName) prog_11_method_65_code (2 : Nat) (Option.some Jvm.ClassFile.FieldType.int)) ∈ gws := gws_mem (kt_2 _ (List.mem_of_getElem? (i := 16) rfl)) rfl
theorem kw_257 : (Jvm.Cond.methodLink "java/lang/StringLatin1" (38 : Nat) ({ cls := "java/lang/Math", name := "min", desc := "(II)I" } : Jvm.MethodName)) ∈ gws := gws_mem (kt_2 _ (List.mem_of_getElem? (i := 17) rfl)) rfl
theorem kw_258 : (Jvm.Cond.static ({ cls := "java/lang/Math", name := "min", desc := "(II)I" } : Jvm.MethodName)) ∈ gws := gws_mem (kt_2 _ (List.mem_of_getElem? (i := 18) rfl)) rfl
theorem kw_259 : (Jvm.Cond.code ({ cls := "java/lang/Math", name := "min", desc := "(II)I" } : Jvm.MethodName) prog_11_method_69_code (2 : Nat) (Option.some Jvm.ClassFile.FieldType.int)) ∈ gws := gws_mem (kt_2 _ (List.mem_of_getElem? (i := 19) rfl)) rfl
theorem kw_260 : (Jvm.Cond.methodLink "java/lang/StringLatin1" (95 : Nat) ({ cls := "java/lang/StringLatin1", name := "indexOfChar", desc := "([BIII)I" } : Jvm.MethodName)) ∈ gws := gws_mem (kt_2 _ (List.mem_of_getElem? (i := 20) rfl)) rfl
theorem kw_261 : (Jvm.Cond.static ({ cls := "java/lang/StringLatin1", name := "indexOfChar", desc := "([BIII)I" } : Jvm.MethodName)) ∈ gws := gws_mem (kt_2 _ (List.mem_of_getElem? (i := 21) rfl)) rfl
theorem kw_262 : (Jvm.Cond.code ({ cls := "java/lang/StringLatin1", name := "indexOfChar", desc := "([BIII)I" } : Jvm.MethodName) prog_13_method_23_code (6 : Nat) (Option.some Jvm.ClassFile.FieldType.int)) ∈ gws := gws_mem (kt_2 _ (List.mem_of_getElem? (i := 22) rfl)) rfl
theorem kw_263 : (Jvm.Cond.methodLink "java/lang/String" (640 : Nat) ({ cls := "java/lang/StringUTF16", name := "indexOf", desc := "([BIII)I" } : Jvm.MethodName)) ∈ gws := gws_mem (kt_2 _ (List.mem_of_getElem? (i := 23) rfl)) rfl
theorem kw_264 : (Jvm.Cond.static ({ cls := "java/lang/StringUTF16", name := "indexOf", desc := "([BIII)I" } : Jvm.MethodName)) ∈ gws := gws_mem (kt_2 _ (List.mem_of_getElem? (i := 24) rfl)) rfl
theorem kw_265 : (Jvm.Cond.code ({ cls := "java/lang/StringUTF16", name := "indexOf", desc := "([BIII)I" } : Jvm.MethodName) prog_14_method_40_code (4 : Nat) (Option.some Jvm.ClassFile.FieldType.int)) ∈ gws := gws_mem (kt_2 _ (List.mem_of_getElem? (i := 25) rfl)) rfl
theorem kw_266 : (Jvm.Cond.methodLink "java/lang/StringUTF16" (224 : Nat) ({ cls := "java/lang/Math", name := "max", desc := "(II)I" } : Jvm.MethodName)) ∈ gws := gws_mem (kt_2 _ (List.mem_of_getElem? (i := 26) rfl)) rfl
theorem kw_267 : (Jvm.Cond.methodLink "java/lang/StringUTF16" (183 : Nat) ({ cls := "java/lang/Math", name := "min", desc := "(II)I" } : Jvm.MethodName)) ∈ gws := gws_mem (kt_2 _ (List.mem_of_getElem? (i := 27) rfl)) rfl
theorem kw_268 : (Jvm.Cond.constant "java/lang/StringUTF16" (227 : Nat) (65536 : Int32)) ∈ gws := gws_mem (kt_2 _ (List.mem_of_getElem? (i := 28) rfl)) rfl
theorem kw_269 : (Jvm.Cond.methodLink "java/lang/StringUTF16" (228 : Nat) ({ cls := "java/lang/StringUTF16", name := "indexOfChar", desc := "([BIII)I" } : Jvm.MethodName)) ∈ gws := gws_mem (kt_2 _ (List.mem_of_getElem? (i := 29) rfl)) rfl
theorem kw_270 : (Jvm.Cond.static ({ cls := "java/lang/StringUTF16", name := "indexOfChar", desc := "([BIII)I" } : Jvm.MethodName)) ∈ gws := gws_mem (kt_2 _ (List.mem_of_getElem? (i := 30) rfl)) rfl
theorem kw_271 : (Jvm.Cond.code ({ cls := "java/lang/StringUTF16", name := "indexOfChar", desc := "([BIII)I" } : Jvm.MethodName) prog_14_method_47_code (4 : Nat) (Option.some Jvm.ClassFile.FieldType.int)) ∈ gws := gws_mem (kt_2 _ (List.mem_of_getElem? (i := 31) rfl)) rfl
theorem kw_272 : (Jvm.Cond.methodLink "java/lang/StringUTF16" (96 : Nat) ({ cls := "java/lang/StringUTF16", name := "checkBoundsBeginEnd", desc := "(II[B)V" } : Jvm.MethodName)) ∈ gws := gws_mem (kt_2 _ (List.mem_of_getElem? (i := 32) rfl)) rfl
theorem kw_273 : (Jvm.Cond.static ({ cls := "java/lang/StringUTF16", name := "checkBoundsBeginEnd", desc := "(II[B)V" } : Jvm.MethodName)) ∈ gws := gws_mem (kt_2 _ (List.mem_of_getElem? (i := 33) rfl)) rfl
theorem kw_274 : (Jvm.Cond.code ({ cls := "java/lang/StringUTF16", name := "checkBoundsBeginEnd", desc := "(II[B)V" } : Jvm.MethodName) prog_14_method_93_code (3 : Nat) (Option.none : Option Jvm.ClassFile.FieldType)) ∈ gws := gws_mem (kt_2 _ (List.mem_of_getElem? (i := 34) rfl)) rfl
theorem kw_275 : (Jvm.Cond.methodLink "java/lang/StringUTF16" (48 : Nat) ({ cls := "java/lang/StringUTF16", name := "length", desc := "([B)I" } : Jvm.MethodName)) ∈ gws := gws_mem (kt_2 _ (List.mem_of_getElem? (i := 35) rfl)) rfl
theorem kw_276 : (Jvm.Cond.static ({ cls := "java/lang/StringUTF16", name := "length", desc := "([B)I" } : Jvm.MethodName)) ∈ gws := gws_mem (kt_2 _ (List.mem_of_getElem? (i := 36) rfl)) rfl
theorem kw_277 : (Jvm.Cond.code ({ cls := "java/lang/StringUTF16", name := "length", desc := "([B)I" } : Jvm.MethodName) prog_14_method_6_code (1 : Nat) (Option.some Jvm.ClassFile.FieldType.int)) ∈ gws := gws_mem (kt_2 _ (List.mem_of_getElem? (i := 37) rfl)) rfl
theorem kw_278 : (Jvm.Cond.methodLink "java/lang/StringUTF16" (241 : Nat) ({ cls := "java/lang/String", name := "checkBoundsBeginEnd", desc := "(III)V" } : Jvm.MethodName)) ∈ gws := gws_mem (kt_2 _ (List.mem_of_getElem? (i := 38) rfl)) rfl
theorem kw_279 : (Jvm.Cond.static ({ cls := "java/lang/String", name := "checkBoundsBeginEnd", desc := "(III)V" } : Jvm.MethodName)) ∈ gws := gws_mem (kt_2 _ (List.mem_of_getElem? (i := 39) rfl)) rfl
theorem kw_280 : (Jvm.Cond.code ({ cls := "java/lang/String", name := "checkBoundsBeginEnd", desc := "(III)V" } : Jvm.MethodName) prog_12_method_158_code (3 : Nat) (Option.none : Option Jvm.ClassFile.FieldType)) ∈ gws := gws_mem (kt_2 _ (List.mem_of_getElem? (i := 40) rfl)) rfl
theorem kw_281 : (Jvm.Cond.fieldLink "java/lang/String" (1053 : Nat) "jdk/internal/util/Preconditions" "SIOOBE_FORMATTER" "Ljava/util/function/BiFunction;") ∈ gws := gws_mem (kt_2 _ (List.mem_of_getElem? (i := 41) rfl)) rfl
theorem kw_282 : (Jvm.Cond.laysStatic "jdk/internal/util/Preconditions" "SIOOBE_FORMATTER" "Ljava/util/function/BiFunction;") ∈ lw_tbl := kt_2 _ (List.mem_of_getElem? (i := 42) rfl)
theorem kw_283 : (Jvm.Cond.methodLink "java/lang/String" (1062 : Nat) ({ cls := "jdk/internal/util/Preconditions", name := "checkFromToIndex", desc := "(IIILjava/util/function/BiFunction;)I" } : Jvm.MethodName)) ∈ gws := gws_mem (kt_2 _ (List.mem_of_getElem? (i := 43) rfl)) rfl
theorem kw_284 : (Jvm.Cond.static ({ cls := "jdk/internal/util/Preconditions", name := "checkFromToIndex", desc := "(IIILjava/util/function/BiFunction;)I" } : Jvm.MethodName)) ∈ gws := gws_mem (kt_2 _ (List.mem_of_getElem? (i := 44) rfl)) rfl
theorem kw_285 : (Jvm.Cond.code ({ cls := "jdk/internal/util/Preconditions", name := "checkFromToIndex", desc := "(IIILjava/util/function/BiFunction;)I" } : Jvm.MethodName) prog_17_method_12_code (4 : Nat) (Option.some Jvm.ClassFile.FieldType.int)) ∈ gws := gws_mem (kt_2 _ (List.mem_of_getElem? (i := 45) rfl)) rfl
theorem kw_286 : (Jvm.Cond.methodLink "java/lang/StringUTF16" (244 : Nat) ({ cls := "java/lang/StringUTF16", name := "indexOfCharUnsafe", desc := "([BIII)I" } : Jvm.MethodName)) ∈ gws := gws_mem (kt_2 _ (List.mem_of_getElem? (i := 46) rfl)) rfl
theorem kw_287 : (Jvm.Cond.static ({ cls := "java/lang/StringUTF16", name := "indexOfCharUnsafe", desc := "([BIII)I" } : Jvm.MethodName)) ∈ gws := gws_mem (kt_2 _ (List.mem_of_getElem? (i := 47) rfl)) rfl
theorem kw_288 : (Jvm.Cond.code ({ cls := "java/lang/StringUTF16", name := "indexOfCharUnsafe", desc := "([BIII)I" } : Jvm.MethodName) prog_14_method_48_code (5 : Nat) (Option.some Jvm.ClassFile.FieldType.int)) ∈ gws := gws_mem (kt_2 _ (List.mem_of_getElem? (i := 48) rfl)) rfl
theorem kw_289 : (Jvm.Cond.methodLink "java/lang/StringUTF16" (71 : Nat) ({ cls := "java/lang/StringUTF16", name := "getChar", desc := "([BI)C" } : Jvm.MethodName)) ∈ gws := gws_mem (kt_2 _ (List.mem_of_getElem? (i := 49) rfl)) rfl
theorem kw_290 : (Jvm.Cond.static ({ cls := "java/lang/StringUTF16", name := "getChar", desc := "([BI)C" } : Jvm.MethodName)) ∈ gws := gws_mem (kt_2 _ (List.mem_of_getElem? (i := 50) rfl)) rfl
theorem kw_291 : (Jvm.Cond.code ({ cls := "java/lang/StringUTF16", name := "getChar", desc := "([BI)C" } : Jvm.MethodName) prog_14_method_5_code (2 : Nat) (Option.some Jvm.ClassFile.FieldType.char)) ∈ gws := gws_mem (kt_2 _ (List.mem_of_getElem? (i := 51) rfl)) rfl
theorem kw_292 : (Jvm.Cond.fieldLink "java/lang/StringUTF16" (44 : Nat) "java/lang/StringUTF16" "$assertionsDisabled" "Z") ∈ gws := gws_mem (kt_2 _ (List.mem_of_getElem? (i := 52) rfl)) rfl
theorem kw_293 : (Jvm.Cond.laysStatic "java/lang/StringUTF16" "$assertionsDisabled" "Z") ∈ lw_tbl := kt_2 _ (List.mem_of_getElem? (i := 53) rfl)
theorem kw_294 : (Jvm.Cond.fieldLink "java/lang/StringUTF16" (59 : Nat) "java/lang/StringUTF16" "HI_BYTE_SHIFT" "I") ∈ gws := gws_mem (kt_2 _ (List.mem_of_getElem? (i := 54) rfl)) rfl
theorem kw_295 : (Jvm.Cond.laysStatic "java/lang/StringUTF16" "HI_BYTE_SHIFT" "I") ∈ lw_tbl := kt_2 _ (List.mem_of_getElem? (i := 55) rfl)
theorem kw_296 : (Jvm.Cond.fieldLink "java/lang/StringUTF16" (63 : Nat) "java/lang/StringUTF16" "LO_BYTE_SHIFT" "I") ∈ gws := gws_mem (kt_2 _ (List.mem_of_getElem? (i := 56) rfl)) rfl
theorem kw_297 : (Jvm.Cond.laysStatic "java/lang/StringUTF16" "LO_BYTE_SHIFT" "I") ∈ lw_tbl := kt_2 _ (List.mem_of_getElem? (i := 57) rfl)
theorem kw_298 : (Jvm.Cond.methodLink "java/lang/StringUTF16" (232 : Nat) ({ cls := "java/lang/StringUTF16", name := "indexOfSupplementary", desc := "([BIII)I" } : Jvm.MethodName)) ∈ gws := gws_mem (kt_2 _ (List.mem_of_getElem? (i := 58) rfl)) rfl
theorem kw_299 : (Jvm.Cond.static ({ cls := "java/lang/StringUTF16", name := "indexOfSupplementary", desc := "([BIII)I" } : Jvm.MethodName)) ∈ gws := gws_mem (kt_2 _ (List.mem_of_getElem? (i := 59) rfl)) rfl
theorem kw_300 : (Jvm.Cond.code ({ cls := "java/lang/StringUTF16", name := "indexOfSupplementary", desc := "([BIII)I" } : Jvm.MethodName) prog_14_method_49_code (7 : Nat) (Option.some Jvm.ClassFile.FieldType.int)) ∈ gws := gws_mem (kt_2 _ (List.mem_of_getElem? (i := 60) rfl)) rfl
theorem kw_301 : (Jvm.Cond.methodLink "java/lang/StringUTF16" (164 : Nat) ({ cls := "java/lang/Character", name := "isValidCodePoint", desc := "(I)Z" } : Jvm.MethodName)) ∈ gws := gws_mem (kt_2 _ (List.mem_of_getElem? (i := 61) rfl)) rfl
theorem kw_302 : (Jvm.Cond.static ({ cls := "java/lang/Character", name := "isValidCodePoint", desc := "(I)Z" } : Jvm.MethodName)) ∈ gws := gws_mem (kt_2 _ (List.mem_of_getElem? (i := 62) rfl)) rfl
theorem kw_303 : (Jvm.Cond.code ({ cls := "java/lang/Character", name := "isValidCodePoint", desc := "(I)Z" } : Jvm.MethodName) prog_9_method_11_code (2 : Nat) (Option.some Jvm.ClassFile.FieldType.boolean)) ∈ gws := gws_mem (kt_2 _ (List.mem_of_getElem? (i := 63) rfl)) rfl
theorem kw_304 : (Jvm.Cond.methodLink "java/lang/StringUTF16" (157 : Nat) ({ cls := "java/lang/Character", name := "highSurrogate", desc := "(I)C" } : Jvm.MethodName)) ∈ gws := gws_mem (kt_2 _ (List.mem_of_getElem? (i := 64) rfl)) rfl
theorem kw_305 : (Jvm.Cond.static ({ cls := "java/lang/Character", name := "highSurrogate", desc := "(I)C" } : Jvm.MethodName)) ∈ gws := gws_mem (kt_2 _ (List.mem_of_getElem? (i := 65) rfl)) rfl
theorem kw_306 : (Jvm.Cond.code ({ cls := "java/lang/Character", name := "highSurrogate", desc := "(I)C" } : Jvm.MethodName) prog_9_method_28_code (1 : Nat) (Option.some Jvm.ClassFile.FieldType.char)) ∈ gws := gws_mem (kt_2 _ (List.mem_of_getElem? (i := 66) rfl)) rfl
theorem kw_307 : (Jvm.Cond.constant "java/lang/Character" (110 : Nat) (55232 : Int32)) ∈ gws := gws_mem (kt_2 _ (List.mem_of_getElem? (i := 67) rfl)) rfl
theorem kw_308 : (Jvm.Cond.methodLink "java/lang/StringUTF16" (161 : Nat) ({ cls := "java/lang/Character", name := "lowSurrogate", desc := "(I)C" } : Jvm.MethodName)) ∈ gws := gws_mem (kt_2 _ (List.mem_of_getElem? (i := 68) rfl)) rfl
theorem kw_309 : (Jvm.Cond.static ({ cls := "java/lang/Character", name := "lowSurrogate", desc := "(I)C" } : Jvm.MethodName)) ∈ gws := gws_mem (kt_2 _ (List.mem_of_getElem? (i := 69) rfl)) rfl
theorem kw_310 : (Jvm.Cond.code ({ cls := "java/lang/Character", name := "lowSurrogate", desc := "(I)C" } : Jvm.MethodName) prog_9_method_29_code (1 : Nat) (Option.some Jvm.ClassFile.FieldType.char)) ∈ gws := gws_mem (kt_2 _ (List.mem_of_getElem? (i := 70) rfl)) rfl
theorem kw_311 : (Jvm.Cond.constant "java/lang/Character" (76 : Nat) (56320 : Int32)) ∈ gws := gws_mem (kt_2 _ (List.mem_of_getElem? (i := 71) rfl)) rfl
theorem kw_312 : (Jvm.Cond.methodLink "ClockedFlows$Text" (45 : Nat) ({ cls := "ClockedFlows$Flow", name := "equate", desc := "(IIIII)V" } : Jvm.MethodName)) ∈ gws := gws_mem (kt_2 _ (List.mem_of_getElem? (i := 72) rfl)) rfl
theorem kw_313 : (Jvm.Cond.instanceMethod ({ cls := "ClockedFlows$Flow", name := "equate", desc := "(IIIII)V" } : Jvm.MethodName)) ∈ gws := gws_mem (kt_2 _ (List.mem_of_getElem? (i := 73) rfl)) rfl
theorem kw_314 : (Jvm.Cond.selects "ClockedFlows$Flow" ({ cls := "ClockedFlows$Flow", name := "equate", desc := "(IIIII)V" } : Jvm.MethodName) ({ cls := "ClockedFlows$Flow", name := "equate", desc := "(IIIII)V" } : Jvm.MethodName)) ∈ gws := gws_mem (kt_2 _ (List.mem_of_getElem? (i := 74) rfl)) rfl
theorem kw_315 : (Jvm.Cond.code ({ cls := "ClockedFlows$Flow", name := "equate", desc := "(IIIII)V" } : Jvm.MethodName) prog_3_method_3_code (6 : Nat) (Option.none : Option Jvm.ClassFile.FieldType)) ∈ gws := gws_mem (kt_2 _ (List.mem_of_getElem? (i := 75) rfl)) rfl
theorem kw_316 : (Jvm.Cond.methodLink "ClockedFlows$Flow" (43 : Nat) ({ cls := "ClockedFlows$Flow", name := "setPart", desc := "(III)V" } : Jvm.MethodName)) ∈ gws := gws_mem (kt_2 _ (List.mem_of_getElem? (i := 76) rfl)) rfl
theorem kw_317 : (Jvm.Cond.instanceMethod ({ cls := "ClockedFlows$Flow", name := "setPart", desc := "(III)V" } : Jvm.MethodName)) ∈ gws := gws_mem (kt_2 _ (List.mem_of_getElem? (i := 77) rfl)) rfl
theorem kw_318 : (Jvm.Cond.selects "ClockedFlows$Flow" ({ cls := "ClockedFlows$Flow", name := "setPart", desc := "(III)V" } : Jvm.MethodName) ({ cls := "ClockedFlows$Flow", name := "setPart", desc := "(III)V" } : Jvm.MethodName)) ∈ gws := gws_mem (kt_2 _ (List.mem_of_getElem? (i := 78) rfl)) rfl
theorem kw_319 : (Jvm.Cond.code ({ cls := "ClockedFlows$Flow", name := "setPart", desc := "(III)V" } : Jvm.MethodName) prog_3_method_4_code (4 : Nat) (Option.none : Option Jvm.ClassFile.FieldType)) ∈ gws := gws_mem (kt_2 _ (List.mem_of_getElem? (i := 79) rfl)) rfl
theorem kw_320 : (Jvm.Cond.methodLinkNest "ClockedFlows$Text" (35 : Nat) ({ cls := "ClockedFlows", name := "figuresOf", desc := "(I)I" } : Jvm.MethodName) "ClockedFlows") ∈ lw_tbl := kt_2 _ (List.mem_of_getElem? (i := 80) rfl)
theorem kw_321 : (Jvm.Cond.static ({ cls := "ClockedFlows", name := "figuresOf", desc := "(I)I" } : Jvm.MethodName)) ∈ gws := gws_mem (kt_2 _ (List.mem_of_getElem? (i := 81) rfl)) rfl
theorem kw_322 : (Jvm.Cond.code ({ cls := "ClockedFlows", name := "figuresOf", desc := "(I)I" } : Jvm.MethodName) prog_1_method_40_code (1 : Nat) (Option.some Jvm.ClassFile.FieldType.int)) ∈ gws := gws_mem (kt_2 _ (List.mem_of_getElem? (i := 82) rfl)) rfl
theorem kw_323 : (Jvm.Cond.fieldLink "ClockedFlows" (239 : Nat) "ClockedFlows" "FIGURES_OF_KIND" "[I") ∈ gws := gws_mem (kt_2 _ (List.mem_of_getElem? (i := 83) rfl)) rfl
theorem kw_324 : (Jvm.Cond.laysStatic "ClockedFlows" "FIGURES_OF_KIND" "[I") ∈ lw_tbl := kt_2 _ (List.mem_of_getElem? (i := 84) rfl)
theorem kw_325 : (Jvm.Cond.methodLinkNest "ClockedFlows$Text" (49 : Nat) ({ cls := "ClockedFlows", name := "isFigure", desc := "(IIII)Z" } : Jvm.MethodName) "ClockedFlows") ∈ lw_tbl := kt_2 _ (List.mem_of_getElem? (i := 85) rfl)
theorem kw_326 : (Jvm.Cond.static ({ cls := "ClockedFlows", name := "isFigure", desc := "(IIII)Z" } : Jvm.MethodName)) ∈ gws := gws_mem (kt_2 _ (List.mem_of_getElem? (i := 86) rfl)) rfl
theorem kw_327 : (Jvm.Cond.code ({ cls := "ClockedFlows", name := "isFigure", desc := "(IIII)Z" } : Jvm.MethodName) prog_1_method_42_code (5 : Nat) (Option.some Jvm.ClassFile.FieldType.boolean)) ∈ gws := gws_mem (kt_2 _ (List.mem_of_getElem? (i := 87) rfl)) rfl
theorem kw_328 : (Jvm.Cond.methodLink "ClockedFlows" (131 : Nat) ({ cls := "ClockedFlows", name := "figuresOf", desc := "(I)I" } : Jvm.MethodName)) ∈ gws := gws_mem (kt_2 _ (List.mem_of_getElem? (i := 88) rfl)) rfl
theorem kw_329 : (Jvm.Cond.methodLink "ClockedFlows" (242 : Nat) ({ cls := "ClockedFlows", name := "namesStream", desc := "(II)Z" } : Jvm.MethodName)) ∈ gws := gws_mem (kt_2 _ (List.mem_of_getElem? (i := 89) rfl)) rfl
theorem kw_330 : (Jvm.Cond.static ({ cls := "ClockedFlows", name := "namesStream", desc := "(II)Z" } : Jvm.MethodName)) ∈ gws := gws_mem (kt_2 _ (List.mem_of_getElem? (i := 90) rfl)) rfl
theorem kw_331 : (Jvm.Cond.code ({ cls := "ClockedFlows", name := "namesStream", desc := "(II)Z" } : Jvm.MethodName) prog_1_method_41_code (2 : Nat) (Option.some Jvm.ClassFile.FieldType.boolean)) ∈ gws := gws_mem (kt_2 _ (List.mem_of_getElem? (i := 91) rfl)) rfl
theorem kw_332 : (Jvm.Cond.methodLink "ClockedFlows$Text" (53 : Nat) ({ cls := "ClockedFlows$Flow", name := "setPart", desc := "(III)V" } : Jvm.MethodName)) ∈ gws := gws_mem (kt_2 _ (List.mem_of_getElem? (i := 92) rfl)) rfl
theorem kw_333 : (Jvm.Cond.methodLink "ClockedFlows$Text" (32 : Nat) ({ cls := "ClockedFlows$Flow", name := "kindOf", desc := "(I)I" } : Jvm.MethodName)) ∈ gws := gws_mem (kt_2 _ (List.mem_of_getElem? (i := 93) rfl)) rfl
theorem kw_334 : (Jvm.Cond.instanceMethod ({ cls := "ClockedFlows$Flow", name := "kindOf", desc := "(I)I" } : Jvm.MethodName)) ∈ gws := gws_mem (kt_2 _ (List.mem_of_getElem? (i := 94) rfl)) rfl
theorem kw_335 : (Jvm.Cond.selects "ClockedFlows$Flow" ({ cls := "ClockedFlows$Flow", name := "kindOf", desc := "(I)I" } : Jvm.MethodName) ({ cls := "ClockedFlows$Flow", name := "kindOf", desc := "(I)I" } : Jvm.MethodName)) ∈ gws := gws_mem (kt_2 _ (List.mem_of_getElem? (i := 95) rfl)) rfl
theorem kw_336 : (Jvm.Cond.code ({ cls := "ClockedFlows$Flow", name := "kindOf", desc := "(I)I" } : Jvm.MethodName) prog_3_method_7_code (2 : Nat) (Option.some Jvm.ClassFile.FieldType.int)) ∈ gws := gws_mem (kt_2 _ (List.mem_of_getElem? (i := 96) rfl)) rfl
theorem kw_337 : (Jvm.Cond.arrayClass Jvm.ClassFile.FieldType.byte) ∈ gws := gws_mem (kt_2 _ (List.mem_of_getElem? (i := 97) rfl)) rfl
theorem kw_338 : (Jvm.Cond.methodLink "ClockedFlowsLaw" (27 : Nat) ({ cls := "ClockedFlows", name := "program", desc := "()I" } : Jvm.MethodName)) ∈ gws := gws_mem (kt_2 _ (List.mem_of_getElem? (i := 98) rfl)) rfl
theorem kw_339 : (Jvm.Cond.instanceMethod ({ cls := "ClockedFlows", name := "program", desc := "()I" } : Jvm.MethodName)) ∈ gws := gws_mem (kt_2 _ (List.mem_of_getElem? (i := 99) rfl)) rfl
theorem kw_340 : (Jvm.Cond.selects "ClockedFlows" ({ cls := "ClockedFlows", name := "program", desc := "()I" } : Jvm.MethodName) ({ cls := "ClockedFlows", name := "program", desc := "()I" } : Jvm.MethodName)) ∈ gws := gws_mem (kt_2 _ (List.mem_of_getElem? (i := 100) rfl)) rfl
theorem kw_341 : (Jvm.Cond.code ({ cls := "ClockedFlows", name := "program", desc := "()I" } : Jvm.MethodName) prog_1_method_5_code (2 : Nat) (Option.some Jvm.ClassFile.FieldType.int)) ∈ gws := gws_mem (kt_2 _ (List.mem_of_getElem? (i := 101) rfl)) rfl
theorem kw_342 : (Jvm.Cond.methodLink "ClockedFlows" (75 : Nat) ({ cls := "ClockedFlows$Flow", name := "become", desc := "(LClockedFlows$Flow;)V" } : Jvm.MethodName)) ∈ gws := gws_mem (kt_2 _ (List.mem_of_getElem? (i := 102) rfl)) rfl
theorem kw_343 : (Jvm.Cond.instanceMethod ({ cls := "ClockedFlows$Flow", name := "become", desc := "(LClockedFlows$Flow;)V" } : Jvm.MethodName)) ∈ gws := gws_mem (kt_2 _ (List.mem_of_getElem? (i := 103) rfl)) rfl
theorem kw_344 : (Jvm.Cond.selects "ClockedFlows$Flow" ({ cls := "ClockedFlows$Flow", name := "become", desc := "(LClockedFlows$Flow;)V" } : Jvm.MethodName) ({ cls := "ClockedFlows$Flow", name := "become", desc := "(LClockedFlows$Flow;)V" } : Jvm.MethodName)) ∈ gws := gws_mem (kt_2 _ (List.mem_of_getElem? (i := 104) rfl)) rfl
theorem kw_345 : (Jvm.Cond.code ({ cls := "ClockedFlows$Flow", name := "become", desc := "(LClockedFlows$Flow;)V" } : Jvm.MethodName) prog_3_method_2_code (2 : Nat) (Option.none : Option Jvm.ClassFile.FieldType)) ∈ gws := gws_mem (kt_2 _ (List.mem_of_getElem? (i := 105) rfl)) rfl
theorem kw_346 : (Jvm.Cond.methodLink "ClockedFlows$Flow" (37 : Nat) ({ cls := "java/lang/System", name := "arraycopy", desc := "(Ljava/lang/Object;ILjava/lang/Object;II)V" } : Jvm.MethodName)) ∈ gws := gws_mem (kt_2 _ (List.mem_of_getElem? (i := 106) rfl)) rfl
theorem kw_347 : (Jvm.Cond.static ({ cls := "java/lang/System", name := "arraycopy", desc := "(Ljava/lang/Object;ILjava/lang/Object;II)V" } : Jvm.MethodName)) ∈ gws := gws_mem (kt_2 _ (List.mem_of_getElem? (i := 107) rfl)) rfl
theorem kw_348 : (Jvm.Cond.native ({ cls := "java/lang/System", name := "arraycopy", desc := "(Ljava/lang/Object;ILjava/lang/Object;II)V" } : Jvm.MethodName)) ∈ gws := gws_mem (kt_2 _ (List.mem_of_getElem? (i := 108) rfl)) rfl
theorem kw_349 : (Jvm.Cond.methodLink "ClockedFlows" (79 : Nat) ({ cls := "ClockedFlows$Flow", name := "restart", desc := "()V" } : Jvm.MethodName)) ∈ gws := gws_mem (kt_2 _ (List.mem_of_getElem? (i := 109) rfl)) rfl
theorem kw_350 : (Jvm.Cond.instanceMethod ({ cls := "ClockedFlows$Flow", name := "restart", desc := "()V" } : Jvm.MethodName)) ∈ gws := gws_mem (kt_2 _ (List.mem_of_getElem? (i := 110) rfl)) rfl
theorem kw_351 : (Jvm.Cond.selects "ClockedFlows$Flow" ({ cls := "ClockedFlows$Flow", name := "restart", desc := "()V" } : Jvm.MethodName) ({ cls := "ClockedFlows$Flow", name := "restart", desc := "()V" } : Jvm.MethodName)) ∈ gws := gws_mem (kt_2 _ (List.mem_of_getElem? (i := 111) rfl)) rfl
theorem kw_352 : (Jvm.Cond.code ({ cls := "ClockedFlows$Flow", name := "restart", desc := "()V" } : Jvm.MethodName) prog_3_method_9_code (2 : Nat) (Option.none : Option Jvm.ClassFile.FieldType)) ∈ gws := gws_mem (kt_2 _ (List.mem_of_getElem? (i := 112) rfl)) rfl
theorem kw_353 : (Jvm.Cond.methodLink "ClockedFlows$Flow" (51 : Nat) ({ cls := "ClockedFlows$Flow", name := "heldAtFirst", desc := "(I)I" } : Jvm.MethodName)) ∈ gws := gws_mem (kt_2 _ (List.mem_of_getElem? (i := 113) rfl)) rfl
theorem kw_355 : (Jvm.Cond.instanceMethod ({ cls := "ClockedFlows$Flow", name := "heldAtFirst", desc := "(I)I" } : Jvm.MethodName)) ∈ gws := gws_mem (kt_2 _ (List.mem_of_getElem? (i := 115) rfl)) rfl
theorem kw_356 : (Jvm.Cond.code ({ cls := "ClockedFlows$Flow", name := "heldAtFirst", desc := "(I)I" } : Jvm.MethodName) prog_3_method_10_code (2 : Nat) (Option.some Jvm.ClassFile.FieldType.int)) ∈ gws := gws_mem (kt_2 _ (List.mem_of_getElem? (i := 116) rfl)) rfl
theorem kw_357 : (Jvm.Cond.methodLink "ClockedFlows$Flow" (55 : Nat) ({ cls := "ClockedFlows$Flow", name := "kindOf", desc := "(I)I" } : Jvm.MethodName)) ∈ gws := gws_mem (kt_2 _ (List.mem_of_getElem? (i := 117) rfl)) rfl
theorem kw_358 : (Jvm.Cond.methodLink "ClockedFlows$Flow" (47 : Nat) ({ cls := "ClockedFlows$Flow", name := "part", desc := "(II)I" } : Jvm.MethodName)) ∈ gws := gws_mem (kt_2 _ (List.mem_of_getElem? (i := 118) rfl)) rfl
theorem kw_359 : (Jvm.Cond.instanceMethod ({ cls := "ClockedFlows$Flow", name := "part", desc := "(II)I" } : Jvm.MethodName)) ∈ gws := gws_mem (kt_2 _ (List.mem_of_getElem? (i := 119) rfl)) rfl
theorem kw_360 : (Jvm.Cond.selects "ClockedFlows$Flow" ({ cls := "ClockedFlows$Flow", name := "part", desc := "(II)I" } : Jvm.MethodName) ({ cls := "ClockedFlows$Flow", name := "part", desc := "(II)I" } : Jvm.MethodName)) ∈ gws := gws_mem (kt_2 _ (List.mem_of_getElem? (i := 120) rfl)) rfl
theorem kw_361 : (Jvm.Cond.code ({ cls := "ClockedFlows$Flow", name := "part", desc := "(II)I" } : Jvm.MethodName) prog_3_method_5_code (3 : Nat) (Option.some Jvm.ClassFile.FieldType.int)) ∈ gws := gws_mem (kt_2 _ (List.mem_of_getElem? (i := 121) rfl)) rfl
theorem kw_362 : (Jvm.Cond.methodLink "ClockedFlows" (82 : Nat) ({ cls := "ClockedFlows$Doings", name := "forget", desc := "()V" } : Jvm.MethodName)) ∈ gws := gws_mem (kt_2 _ (List.mem_of_getElem? (i := 122) rfl)) rfl
theorem kw_363 : (Jvm.Cond.instanceMethod ({ cls := "ClockedFlows$Doings", name := "forget", desc := "()V" } : Jvm.MethodName)) ∈ gws := gws_mem (kt_2 _ (List.mem_of_getElem? (i := 123) rfl)) rfl
theorem kw_364 : (Jvm.Cond.selects "ClockedFlows$Doings" ({ cls := "ClockedFlows$Doings", name := "forget", desc := "()V" } : Jvm.MethodName) ({ cls := "ClockedFlows$Doings", name := "forget", desc := "()V" } : Jvm.MethodName)) ∈ gws := gws_mem (kt_2 _ (List.mem_of_getElem? (i := 124) rfl)) rfl
theorem kw_365 : (Jvm.Cond.code ({ cls := "ClockedFlows$Doings", name := "forget", desc := "()V" } : Jvm.MethodName) prog_2_method_2_code (1 : Nat) (Option.none : Option Jvm.ClassFile.FieldType)) ∈ gws := gws_mem (kt_2 _ (List.mem_of_getElem? (i := 125) rfl)) rfl
theorem kw_366 : (Jvm.Cond.methodLink "ClockedFlows" (85 : Nat) ({ cls := "ClockedFlows$Sense", name := "study", desc := "(LClockedFlows$Flow;)V" } : Jvm.MethodName)) ∈ gws := gws_mem (kt_2 _ (List.mem_of_getElem? (i := 126) rfl)) rfl
theorem kw_367 : (Jvm.Cond.instanceMethod ({ cls := "ClockedFlows$Sense", name := "study", desc := "(LClockedFlows$Flow;)V" } : Jvm.MethodName)) ∈ gws := gws_mem (kt_2 _ (List.mem_of_getElem? (i := 127) rfl)) rfl
theorem kw_368 : (Jvm.Cond.selects "ClockedFlows$Sense" ({ cls := "ClockedFlows$Sense", name := "study", desc := "(LClockedFlows$Flow;)V" } : Jvm.MethodName) ({ cls := "ClockedFlows$Sense", name := "study", desc := "(LClockedFlows$Flow;)V" } : Jvm.MethodName)) ∈ gws := gws_mem (kt_2 _ (List.mem_of_getElem? (i := 128) rfl)) rfl
theorem kw_369 : (Jvm.Cond.code ({ cls := "ClockedFlows$Sense", name := "study", desc := "(LClockedFlows$Flow;)V" } : Jvm.MethodName) prog_4_method_3_code (2 : Nat) (Option.none : Option Jvm.ClassFile.FieldType)) ∈ gws := gws_mem (kt_2 _ (List.mem_of_getElem? (i := 129) rfl)) rfl
theorem kw_370 : (Jvm.Cond.methodLink "ClockedFlows$Sense" (49 : Nat) ({ cls := "java/lang/Math", name := "min", desc := "(II)I" } : Jvm.MethodName)) ∈ gws := gws_mem (kt_2 _ (List.mem_of_getElem? (i := 130) rfl)) rfl
theorem kw_371 : (Jvm.Cond.methodLink "ClockedFlows$Sense" (55 : Nat) ({ cls := "ClockedFlows$Sense", name := "findClash", desc := "(LClockedFlows$Flow;)I" } : Jvm.MethodName)) ∈ gws := gws_mem (kt_2 _ (List.mem_of_getElem? (i := 131) rfl)) rfl
theorem kw_373 : (Jvm.Cond.instanceMethod ({ cls := "ClockedFlows$Sense", name := "findClash", desc := "(LClockedFlows$Flow;)I" } : Jvm.MethodName)) ∈ gws := gws_mem (kt_2 _ (List.mem_of_getElem? (i := 133) rfl)) rfl
theorem kw_374 : (Jvm.Cond.code ({ cls := "ClockedFlows$Sense", name := "findClash", desc := "(LClockedFlows$Flow;)I" } : Jvm.MethodName) prog_4_method_5_code (3 : Nat) (Option.some Jvm.ClassFile.FieldType.int)) ∈ gws := gws_mem (kt_2 _ (List.mem_of_getElem? (i := 134) rfl)) rfl
theorem kw_375 : (Jvm.Cond.methodLink "ClockedFlows$Sense" (76 : Nat) ({ cls := "ClockedFlows$Sense", name := "meet", desc := "(LClockedFlows$Flow;I)Z" } : Jvm.MethodName)) ∈ gws := gws_mem (kt_2 _ (List.mem_of_getElem? (i := 135) rfl)) rfl
theorem kw_377 : (Jvm.Cond.instanceMethod ({ cls := "ClockedFlows$Sense", name := "meet", desc := "(LClockedFlows$Flow;I)Z" } : Jvm.MethodName)) ∈ gws := gws_mem (kt_2 _ (List.mem_of_getElem? (i := 137) rfl)) rfl
theorem kw_378 : (Jvm.Cond.code ({ cls := "ClockedFlows$Sense", name := "meet", desc := "(LClockedFlows$Flow;I)Z" } : Jvm.MethodName) prog_4_method_6_code (5 : Nat) (Option.some Jvm.ClassFile.FieldType.boolean)) ∈ gws := gws_mem (kt_2 _ (List.mem_of_getElem? (i := 138) rfl)) rfl
theorem kw_379 : (Jvm.Cond.methodLink "ClockedFlows$Sense" (84 : Nat) ({ cls := "ClockedFlows$Flow", name := "streamPart", desc := "(II)I" } : Jvm.MethodName)) ∈ gws := gws_mem (kt_2 _ (List.mem_of_getElem? (i := 139) rfl)) rfl
theorem kw_380 : (Jvm.Cond.instanceMethod ({ cls := "ClockedFlows$Flow", name := "streamPart", desc := "(II)I" } : Jvm.MethodName)) ∈ gws := gws_mem (kt_2 _ (List.mem_of_getElem? (i := 140) rfl)) rfl
theorem kw_381 : (Jvm.Cond.selects "ClockedFlows$Flow" ({ cls := "ClockedFlows$Flow", name := "streamPart", desc := "(II)I" } : Jvm.MethodName) ({ cls := "ClockedFlows$Flow", name := "streamPart", desc := "(II)I" } : Jvm.MethodName)) ∈ gws := gws_mem (kt_2 _ (List.mem_of_getElem? (i := 141) rfl)) rfl
theorem kw_382 : (Jvm.Cond.code ({ cls := "ClockedFlows$Flow", name := "streamPart", desc := "(II)I" } : Jvm.MethodName) prog_3_method_6_code (4 : Nat) (Option.some Jvm.ClassFile.FieldType.int)) ∈ gws := gws_mem (kt_2 _ (List.mem_of_getElem? (i := 142) rfl)) rfl
theorem kw_383 : (Jvm.Cond.methodLink "ClockedFlows$Sense" (87 : Nat) ({ cls := "ClockedFlows$Flow", name := "kindOf", desc := "(I)I" } : Jvm.MethodName)) ∈ gws := gws_mem (kt_2 _ (List.mem_of_getElem? (i := 143) rfl)) rfl
theorem kw_384 : (Jvm.Cond.methodLink "ClockedFlows$Sense" (90 : Nat) ({ cls := "ClockedFlows$Sense", name := "bind", desc := "(II)Z" } : Jvm.MethodName)) ∈ gws := gws_mem (kt_2 _ (List.mem_of_getElem? (i := 144) rfl)) rfl
theorem kw_386 : (Jvm.Cond.instanceMethod ({ cls := "ClockedFlows$Sense", name := "bind", desc := "(II)Z" } : Jvm.MethodName)) ∈ gws := gws_mem (kt_2 _ (List.mem_of_getElem? (i := 146) rfl)) rfl
theorem kw_387 : (Jvm.Cond.code ({ cls := "ClockedFlows$Sense", name := "bind", desc := "(II)Z" } : Jvm.MethodName) prog_4_method_9_code (4 : Nat) (Option.some Jvm.ClassFile.FieldType.boolean)) ∈ gws := gws_mem (kt_2 _ (List.mem_of_getElem? (i := 147) rfl)) rfl
theorem kw_388 : (Jvm.Cond.methodLink "ClockedFlows$Sense" (94 : Nat) ({ cls := "ClockedFlows$Sense", name := "liken", desc := "(II)Z" } : Jvm.MethodName)) ∈ gws := gws_mem (kt_2 _ (List.mem_of_getElem? (i := 148) rfl)) rfl
theorem kw_390 : (Jvm.Cond.instanceMethod ({ cls := "ClockedFlows$Sense", name := "liken", desc := "(II)Z" } : Jvm.MethodName)) ∈ gws := gws_mem (kt_2 _ (List.mem_of_getElem? (i := 150) rfl)) rfl
theorem kw_391 : (Jvm.Cond.code ({ cls := "ClockedFlows$Sense", name := "liken", desc := "(II)Z" } : Jvm.MethodName) prog_4_method_8_code (6 : Nat) (Option.some Jvm.ClassFile.FieldType.boolean)) ∈ gws := gws_mem (kt_2 _ (List.mem_of_getElem? (i := 151) rfl)) rfl
theorem kw_392 : (Jvm.Cond.methodLink "ClockedFlows$Sense" (97 : Nat) ({ cls := "ClockedFlows$Sense", name := "likenAll", desc := "(LClockedFlows$Flow;I)Z" } : Jvm.MethodName)) ∈ gws := gws_mem (kt_2 _ (List.mem_of_getElem? (i := 152) rfl)) rfl
theorem kw_394 : (Jvm.Cond.instanceMethod ({ cls := "ClockedFlows$Sense", name := "likenAll", desc := "(LClockedFlows$Flow;I)Z" } : Jvm.MethodName)) ∈ gws := gws_mem (kt_2 _ (List.mem_of_getElem? (i := 154) rfl)) rfl
theorem kw_395 : (Jvm.Cond.code ({ cls := "ClockedFlows$Sense", name := "likenAll", desc := "(LClockedFlows$Flow;I)Z" } : Jvm.MethodName) prog_4_method_7_code (4 : Nat) (Option.some Jvm.ClassFile.FieldType.boolean)) ∈ gws := gws_mem (kt_2 _ (List.mem_of_getElem? (i := 155) rfl)) rfl
theorem kw_396 : (Jvm.Cond.methodLinkNest "ClockedFlows$Sense" (100 : Nat) ({ cls := "ClockedFlows", name := "namesStream", desc := "(II)Z" } : Jvm.MethodName) "ClockedFlows") ∈ lw_tbl := kt_2 _ (List.mem_of_getElem? (i := 156) rfl)
theorem kw_397 : (Jvm.Cond.methodLink "ClockedFlows$Sense" (80 : Nat) ({ cls := "ClockedFlows$Sense", name := "haveEnds", desc := "()Z" } : Jvm.MethodName)) ∈ gws := gws_mem (kt_2 _ (List.mem_of_getElem? (i := 157) rfl)) rfl
theorem kw_399 : (Jvm.Cond.instanceMethod ({ cls := "ClockedFlows$Sense", name := "haveEnds", desc := "()Z" } : Jvm.MethodName)) ∈ gws := gws_mem (kt_2 _ (List.mem_of_getElem? (i := 159) rfl)) rfl
theorem kw_400 : (Jvm.Cond.code ({ cls := "ClockedFlows$Sense", name := "haveEnds", desc := "()Z" } : Jvm.MethodName) prog_4_method_10_code (4 : Nat) (Option.some Jvm.ClassFile.FieldType.boolean)) ∈ gws := gws_mem (kt_2 _ (List.mem_of_getElem? (i := 160) rfl)) rfl
theorem kw_401 : (Jvm.Cond.methodLinkNest "ClockedFlows$Sense" (72 : Nat) ({ cls := "ClockedFlows", name := "streamOf", desc := "(I)I" } : Jvm.MethodName) "ClockedFlows") ∈ lw_tbl := kt_2 _ (List.mem_of_getElem? (i := 161) rfl)
theorem kw_402 : (Jvm.Cond.static ({ cls := "ClockedFlows", name := "streamOf", desc := "(I)I" } : Jvm.MethodName)) ∈ gws := gws_mem (kt_2 _ (List.mem_of_getElem? (i := 162) rfl)) rfl
theorem kw_403 : (Jvm.Cond.code ({ cls := "ClockedFlows", name := "streamOf", desc := "(I)I" } : Jvm.MethodName) prog_1_method_38_code (2 : Nat) (Option.some Jvm.ClassFile.FieldType.int)) ∈ gws := gws_mem (kt_2 _ (List.mem_of_getElem? (i := 163) rfl)) rfl
theorem kw_404 : (Jvm.Cond.methodLink "ClockedFlows$Sense" (59 : Nat) ({ cls := "ClockedFlows$Sense", name := "settle", desc := "()V" } : Jvm.MethodName)) ∈ gws := gws_mem (kt_2 _ (List.mem_of_getElem? (i := 164) rfl)) rfl
theorem kw_406 : (Jvm.Cond.instanceMethod ({ cls := "ClockedFlows$Sense", name := "settle", desc := "()V" } : Jvm.MethodName)) ∈ gws := gws_mem (kt_2 _ (List.mem_of_getElem? (i := 166) rfl)) rfl
theorem kw_407 : (Jvm.Cond.code ({ cls := "ClockedFlows$Sense", name := "settle", desc := "()V" } : Jvm.MethodName) prog_4_method_11_code (4 : Nat) (Option.none : Option Jvm.ClassFile.FieldType)) ∈ gws := gws_mem (kt_2 _ (List.mem_of_getElem? (i := 167) rfl)) rfl
theorem kw_408 : (Jvm.Cond.methodLink "ClockedFlows$Sense" (62 : Nat) ({ cls := "ClockedFlows$Sense", name := "putInOrder", desc := "(LClockedFlows$Flow;)V" } : Jvm.MethodName)) ∈ gws := gws_mem (kt_2 _ (List.mem_of_getElem? (i := 168) rfl)) rfl
theorem kw_410 : (Jvm.Cond.instanceMethod ({ cls := "ClockedFlows$Sense", name := "putInOrder", desc := "(LClockedFlows$Flow;)V" } : Jvm.MethodName)) ∈ gws := gws_mem (kt_2 _ (List.mem_of_getElem? (i := 170) rfl)) rfl
theorem kw_411 : (Jvm.Cond.code ({ cls := "ClockedFlows$Sense", name := "putInOrder", desc := "(LClockedFlows$Flow;)V" } : Jvm.MethodName) prog_4_method_12_code (5 : Nat) (Option.none : Option Jvm.ClassFile.FieldType)) ∈ gws := gws_mem (kt_2 _ (List.mem_of_getElem? (i := 171) rfl)) rfl
theorem kw_412 : (Jvm.Cond.methodLink "ClockedFlows$Sense" (103 : Nat) ({ cls := "java/util/Arrays", name := "fill", desc := "([II)V" } : Jvm.MethodName)) ∈ gws := gws_mem (kt_2 _ (List.mem_of_getElem? (i := 172) rfl)) rfl
theorem kw_413 : (Jvm.Cond.methodLink "ClockedFlows$Sense" (109 : Nat) ({ cls := "ClockedFlows$Sense", name := "leastReady", desc := "(LClockedFlows$Flow;I)I" } : Jvm.MethodName)) ∈ gws := gws_mem (kt_2 _ (List.mem_of_getElem? (i := 173) rfl)) rfl
theorem kw_415 : (Jvm.Cond.instanceMethod ({ cls := "ClockedFlows$Sense", name := "leastReady", desc := "(LClockedFlows$Flow;I)I" } : Jvm.MethodName)) ∈ gws := gws_mem (kt_2 _ (List.mem_of_getElem? (i := 175) rfl)) rfl
theorem kw_416 : (Jvm.Cond.code ({ cls := "ClockedFlows$Sense", name := "leastReady", desc := "(LClockedFlows$Flow;I)I" } : Jvm.MethodName) prog_4_method_13_code (4 : Nat) (Option.some Jvm.ClassFile.FieldType.int)) ∈ gws := gws_mem (kt_2 _ (List.mem_of_getElem? (i := 176) rfl)) rfl
theorem kw_417 : (Jvm.Cond.methodLink "ClockedFlows$Sense" (113 : Nat) ({ cls := "ClockedFlows$Sense", name := "waits", desc := "(LClockedFlows$Flow;I)I" } : Jvm.MethodName)) ∈ gws := gws_mem (kt_2 _ (List.mem_of_getElem? (i := 177) rfl)) rfl
theorem kw_419 : (Jvm.Cond.instanceMethod ({ cls := "ClockedFlows$Sense", name := "waits", desc := "(LClockedFlows$Flow;I)I" } : Jvm.MethodName)) ∈ gws := gws_mem (kt_2 _ (List.mem_of_getElem? (i := 179) rfl)) rfl
theorem kw_420 : (Jvm.Cond.code ({ cls := "ClockedFlows$Sense", name := "waits", desc := "(LClockedFlows$Flow;I)I" } : Jvm.MethodName) prog_4_method_14_code (6 : Nat) (Option.some Jvm.ClassFile.FieldType.int)) ∈ gws := gws_mem (kt_2 _ (List.mem_of_getElem? (i := 180) rfl)) rfl
theorem kw_421 : (Jvm.Cond.methodLink "ClockedFlows$Sense" (66 : Nat) ({ cls := "ClockedFlows$Sense", name := "findLevels", desc := "(LClockedFlows$Flow;)V" } : Jvm.MethodName)) ∈ gws := gws_mem (kt_2 _ (List.mem_of_getElem? (i := 181) rfl)) rfl
theorem kw_423 : (Jvm.Cond.instanceMethod ({ cls := "ClockedFlows$Sense", name := "findLevels", desc := "(LClockedFlows$Flow;)V" } : Jvm.MethodName)) ∈ gws := gws_mem (kt_2 _ (List.mem_of_getElem? (i := 183) rfl)) rfl
theorem kw_424 : (Jvm.Cond.code ({ cls := "ClockedFlows$Sense", name := "findLevels", desc := "(LClockedFlows$Flow;)V" } : Jvm.MethodName) prog_4_method_15_code (4 : Nat) (Option.none : Option Jvm.ClassFile.FieldType)) ∈ gws := gws_mem (kt_2 _ (List.mem_of_getElem? (i := 184) rfl)) rfl
theorem kw_425 : (Jvm.Cond.methodLink "ClockedFlows$Sense" (116 : Nat) ({ cls := "ClockedFlows$Sense", name := "levelByParts", desc := "(LClockedFlows$Flow;I)I" } : Jvm.MethodName)) ∈ gws := gws_mem (kt_2 _ (List.mem_of_getElem? (i := 185) rfl)) rfl
theorem kw_427 : (Jvm.Cond.instanceMethod ({ cls := "ClockedFlows$Sense", name := "levelByParts", desc := "(LClockedFlows$Flow;I)I" } : Jvm.MethodName)) ∈ gws := gws_mem (kt_2 _ (List.mem_of_getElem? (i := 187) rfl)) rfl
theorem kw_428 : (Jvm.Cond.code ({ cls := "ClockedFlows$Sense", name := "levelByParts", desc := "(LClockedFlows$Flow;I)I" } : Jvm.MethodName) prog_4_method_16_code (3 : Nat) (Option.some Jvm.ClassFile.FieldType.int)) ∈ gws := gws_mem (kt_2 _ (List.mem_of_getElem? (i := 188) rfl)) rfl
theorem kw_429 : (Jvm.Cond.methodLink "ClockedFlows$Sense" (119 : Nat) ({ cls := "ClockedFlows$Sense", name := "highest", desc := "(LClockedFlows$Flow;I)I" } : Jvm.MethodName)) ∈ gws := gws_mem (kt_2 _ (List.mem_of_getElem? (i := 189) rfl)) rfl
theorem kw_431 : (Jvm.Cond.instanceMethod ({ cls := "ClockedFlows$Sense", name := "highest", desc := "(LClockedFlows$Flow;I)I" } : Jvm.MethodName)) ∈ gws := gws_mem (kt_2 _ (List.mem_of_getElem? (i := 191) rfl)) rfl
theorem kw_432 : (Jvm.Cond.code ({ cls := "ClockedFlows$Sense", name := "highest", desc := "(LClockedFlows$Flow;I)I" } : Jvm.MethodName) prog_4_method_17_code (5 : Nat) (Option.some Jvm.ClassFile.FieldType.int)) ∈ gws := gws_mem (kt_2 _ (List.mem_of_getElem? (i := 192) rfl)) rfl
theorem kw_433 : (Jvm.Cond.methodLink "ClockedFlows$Sense" (122 : Nat) ({ cls := "java/lang/Math", name := "max", desc := "(II)I" } : Jvm.MethodName)) ∈ gws := gws_mem (kt_2 _ (List.mem_of_getElem? (i := 193) rfl)) rfl
theorem kw_434 : (Jvm.Cond.methodLink "ClockedFlows$Sense" (69 : Nat) ({ cls := "ClockedFlows$Sense", name := "findRaw", desc := "(LClockedFlows$Flow;)I" } : Jvm.MethodName)) ∈ gws := gws_mem (kt_2 _ (List.mem_of_getElem? (i := 194) rfl)) rfl
theorem kw_436 : (Jvm.Cond.instanceMethod ({ cls := "ClockedFlows$Sense", name := "findRaw", desc := "(LClockedFlows$Flow;)I" } : Jvm.MethodName)) ∈ gws := gws_mem (kt_2 _ (List.mem_of_getElem? (i := 196) rfl)) rfl
theorem kw_437 : (Jvm.Cond.code ({ cls := "ClockedFlows$Sense", name := "findRaw", desc := "(LClockedFlows$Flow;)I" } : Jvm.MethodName) prog_4_method_18_code (3 : Nat) (Option.some Jvm.ClassFile.FieldType.int)) ∈ gws := gws_mem (kt_2 _ (List.mem_of_getElem? (i := 197) rfl)) rfl
theorem kw_438 : (Jvm.Cond.methodLink "ClockedFlows$Sense" (125 : Nat) ({ cls := "ClockedFlows$Sense", name := "isRaw", desc := "(LClockedFlows$Flow;I)Z" } : Jvm.MethodName)) ∈ gws := gws_mem (kt_2 _ (List.mem_of_getElem? (i := 198) rfl)) rfl
theorem kw_440 : (Jvm.Cond.instanceMethod ({ cls := "ClockedFlows$Sense", name := "isRaw", desc := "(LClockedFlows$Flow;I)Z" } : Jvm.MethodName)) ∈ gws := gws_mem (kt_2 _ (List.mem_of_getElem? (i := 200) rfl)) rfl
theorem kw_441 : (Jvm.Cond.code ({ cls := "ClockedFlows$Sense", name := "isRaw", desc := "(LClockedFlows$Flow;I)Z" } : Jvm.MethodName) prog_4_method_19_code (3 : Nat) (Option.some Jvm.ClassFile.FieldType.boolean)) ∈ gws := gws_mem (kt_2 _ (List.mem_of_getElem? (i := 201) rfl)) rfl
theorem kw_442 : (Jvm.Cond.methodLink "ClockedFlows" (88 : Nat) ({ cls := "ClockedFlows", name := "soundness", desc := "()I" } : Jvm.MethodName)) ∈ gws := gws_mem (kt_2 _ (List.mem_of_getElem? (i := 202) rfl)) rfl
theorem kw_444 : (Jvm.Cond.instanceMethod ({ cls := "ClockedFlows", name := "soundness", desc := "()I" } : Jvm.MethodName)) ∈ gws := gws_mem (kt_2 _ (List.mem_of_getElem? (i := 204) rfl)) rfl
theorem kw_445 : (Jvm.Cond.code ({ cls := "ClockedFlows", name := "soundness", desc := "()I" } : Jvm.MethodName) prog_1_method_27_code (1 : Nat) (Option.some Jvm.ClassFile.FieldType.int)) ∈ gws := gws_mem (kt_2 _ (List.mem_of_getElem? (i := 205) rfl)) rfl
theorem kw_446 : (Jvm.Cond.methodLink "ClockedFlows" (144 : Nat) ({ cls := "ClockedFlows$Sense", name := "isSound", desc := "()Z" } : Jvm.MethodName)) ∈ gws := gws_mem (kt_2 _ (List.mem_of_getElem? (i := 206) rfl)) rfl
theorem kw_447 : (Jvm.Cond.instanceMethod ({ cls := "ClockedFlows$Sense", name := "isSound", desc := "()Z" } : Jvm.MethodName)) ∈ gws := gws_mem (kt_2 _ (List.mem_of_getElem? (i := 207) rfl)) rfl
theorem kw_448 : (Jvm.Cond.selects "ClockedFlows$Sense" ({ cls := "ClockedFlows$Sense", name := "isSound", desc := "()Z" } : Jvm.MethodName) ({ cls := "ClockedFlows$Sense", name := "isSound", desc := "()Z" } : Jvm.MethodName)) ∈ gws := gws_mem (kt_2 _ (List.mem_of_getElem? (i := 208) rfl)) rfl
theorem kw_449 : (Jvm.Cond.code ({ cls := "ClockedFlows$Sense", name := "isSound", desc := "()Z" } : Jvm.MethodName) prog_4_method_2_code (1 : Nat) (Option.some Jvm.ClassFile.FieldType.boolean)) ∈ gws := gws_mem (kt_2 _ (List.mem_of_getElem? (i := 209) rfl)) rfl
theorem kw_450 : (Jvm.Cond.methodLink "ClockedFlowsLaw" (31 : Nat) ({ cls := "ClockedFlows", name := "about", desc := "(I)I" } : Jvm.MethodName)) ∈ gws := gws_mem (kt_2 _ (List.mem_of_getElem? (i := 210) rfl)) rfl
theorem kw_451 : (Jvm.Cond.instanceMethod ({ cls := "ClockedFlows", name := "about", desc := "(I)I" } : Jvm.MethodName)) ∈ gws := gws_mem (kt_2 _ (List.mem_of_getElem? (i := 211) rfl)) rfl
theorem kw_452 : (Jvm.Cond.selects "ClockedFlows" ({ cls := "ClockedFlows", name := "about", desc := "(I)I" } : Jvm.MethodName) ({ cls := "ClockedFlows", name := "about", desc := "(I)I" } : Jvm.MethodName)) ∈ gws := gws_mem (kt_2 _ (List.mem_of_getElem? (i := 212) rfl)) rfl
theorem kw_453 : (Jvm.Cond.code ({ cls := "ClockedFlows", name := "about", desc := "(I)I" } : Jvm.MethodName) prog_1_method_6_code (2 : Nat) (Option.some Jvm.ClassFile.FieldType.int)) ∈ gws := gws_mem (kt_2 _ (List.mem_of_getElem? (i := 213) rfl)) rfl
theorem kw_454 : (Jvm.Cond.methodLink "ClockedFlows" (107 : Nat) ({ cls := "ClockedFlows$Flow", name := "thereBits", desc := "()I" } : Jvm.MethodName)) ∈ gws := gws_mem (kt_2 _ (List.mem_of_getElem? (i := 214) rfl)) rfl
theorem kw_455 : (Jvm.Cond.instanceMethod ({ cls := "ClockedFlows$Flow", name := "thereBits", desc := "()I" } : Jvm.MethodName)) ∈ gws := gws_mem (kt_2 _ (List.mem_of_getElem? (i := 215) rfl)) rfl
theorem kw_456 : (Jvm.Cond.selects "ClockedFlows$Flow" ({ cls := "ClockedFlows$Flow", name := "thereBits", desc := "()I" } : Jvm.MethodName) ({ cls := "ClockedFlows$Flow", name := "thereBits", desc := "()I" } : Jvm.MethodName)) ∈ gws := gws_mem (kt_2 _ (List.mem_of_getElem? (i := 216) rfl)) rfl
theorem kw_457 : (Jvm.Cond.code ({ cls := "ClockedFlows$Flow", name := "thereBits", desc := "()I" } : Jvm.MethodName) prog_3_method_11_code (3 : Nat) (Option.some Jvm.ClassFile.FieldType.int)) ∈ gws := gws_mem (kt_2 _ (List.mem_of_getElem? (i := 217) rfl)) rfl
theorem kw_458 : (Jvm.Cond.methodLink "ClockedFlowsLaw" (35 : Nat) ({ cls := "ClockedFlows", name := "stream", desc := "(II)I" } : Jvm.MethodName)) ∈ gws := gws_mem (kt_2 _ (List.mem_of_getElem? (i := 218) rfl)) rfl
theorem kw_459 : (Jvm.Cond.instanceMethod ({ cls := "ClockedFlows", name := "stream", desc := "(II)I" } : Jvm.MethodName)) ∈ gws := gws_mem (kt_2 _ (List.mem_of_getElem? (i := 219) rfl)) rfl
theorem kw_460 : (Jvm.Cond.selects "ClockedFlows" ({ cls := "ClockedFlows", name := "stream", desc := "(II)I" } : Jvm.MethodName) ({ cls := "ClockedFlows", name := "stream", desc := "(II)I" } : Jvm.MethodName)) ∈ gws := gws_mem (kt_2 _ (List.mem_of_getElem? (i := 220) rfl)) rfl
theorem kw_461 : (Jvm.Cond.code ({ cls := "ClockedFlows", name := "stream", desc := "(II)I" } : Jvm.MethodName) prog_1_method_7_code (3 : Nat) (Option.some Jvm.ClassFile.FieldType.int)) ∈ gws := gws_mem (kt_2 _ (List.mem_of_getElem? (i := 221) rfl)) rfl
theorem kw_462 : (Jvm.Cond.methodLink "ClockedFlows" (112 : Nat) ({ cls := "ClockedFlows", name := "isStream", desc := "(I)Z" } : Jvm.MethodName)) ∈ gws := gws_mem (kt_2 _ (List.mem_of_getElem? (i := 222) rfl)) rfl
theorem kw_464 : (Jvm.Cond.instanceMethod ({ cls := "ClockedFlows", name := "isStream", desc := "(I)Z" } : Jvm.MethodName)) ∈ gws := gws_mem (kt_2 _ (List.mem_of_getElem? (i := 224) rfl)) rfl
theorem kw_465 : (Jvm.Cond.code ({ cls := "ClockedFlows", name := "isStream", desc := "(I)Z" } : Jvm.MethodName) prog_1_method_26_code (2 : Nat) (Option.some Jvm.ClassFile.FieldType.boolean)) ∈ gws := gws_mem (kt_2 _ (List.mem_of_getElem? (i := 225) rfl)) rfl
theorem kw_466 : (Jvm.Cond.methodLink "ClockedFlows" (115 : Nat) ({ cls := "ClockedFlows$Flow", name := "kindOf", desc := "(I)I" } : Jvm.MethodName)) ∈ gws := gws_mem (kt_2 _ (List.mem_of_getElem? (i := 226) rfl)) rfl
theorem kw_467 : (Jvm.Cond.methodLink "ClockedFlows" (128 : Nat) ({ cls := "ClockedFlows$Flow", name := "valueOf", desc := "(I)I" } : Jvm.MethodName)) ∈ gws := gws_mem (kt_2 _ (List.mem_of_getElem? (i := 227) rfl)) rfl
theorem kw_468 : (Jvm.Cond.instanceMethod ({ cls := "ClockedFlows$Flow", name := "valueOf", desc := "(I)I" } : Jvm.MethodName)) ∈ gws := gws_mem (kt_2 _ (List.mem_of_getElem? (i := 228) rfl)) rfl
theorem kw_469 : (Jvm.Cond.selects "ClockedFlows$Flow" ({ cls := "ClockedFlows$Flow", name := "valueOf", desc := "(I)I" } : Jvm.MethodName) ({ cls := "ClockedFlows$Flow", name := "valueOf", desc := "(I)I" } : Jvm.MethodName)) ∈ gws := gws_mem (kt_2 _ (List.mem_of_getElem? (i := 229) rfl)) rfl
theorem kw_470 : (Jvm.Cond.code ({ cls := "ClockedFlows$Flow", name := "valueOf", desc := "(I)I" } : Jvm.MethodName) prog_3_method_8_code (2 : Nat) (Option.some Jvm.ClassFile.FieldType.int)) ∈ gws := gws_mem (kt_2 _ (List.mem_of_getElem? (i := 230) rfl)) rfl
theorem kw_471 : (Jvm.Cond.methodLink "ClockedFlowsLaw" (40 : Nat) ({ cls := "ClockedFlows", name := "figure", desc := "(II)I" } : Jvm.MethodName)) ∈ gws := gws_mem (kt_2 _ (List.mem_of_getElem? (i := 231) rfl)) rfl
theorem kw_472 : (Jvm.Cond.instanceMethod ({ cls := "ClockedFlows", name := "figure", desc := "(II)I" } : Jvm.MethodName)) ∈ gws := gws_mem (kt_2 _ (List.mem_of_getElem? (i := 232) rfl)) rfl
theorem kw_473 : (Jvm.Cond.selects "ClockedFlows" ({ cls := "ClockedFlows", name := "figure", desc := "(II)I" } : Jvm.MethodName) ({ cls := "ClockedFlows", name := "figure", desc := "(II)I" } : Jvm.MethodName)) ∈ gws := gws_mem (kt_2 _ (List.mem_of_getElem? (i := 233) rfl)) rfl
theorem kw_474 : (Jvm.Cond.code ({ cls := "ClockedFlows", name := "figure", desc := "(II)I" } : Jvm.MethodName) prog_1_method_8_code (3 : Nat) (Option.some Jvm.ClassFile.FieldType.int)) ∈ gws := gws_mem (kt_2 _ (List.mem_of_getElem? (i := 234) rfl)) rfl
theorem kw_475 : (Jvm.Cond.methodLink "ClockedFlows" (134 : Nat) ({ cls := "ClockedFlows$Flow", name := "part", desc := "(II)I" } : Jvm.MethodName)) ∈ gws := gws_mem (kt_2 _ (List.mem_of_getElem? (i := 235) rfl)) rfl
theorem kw_476 : (Jvm.Cond.methodLink "ClockedFlowsLaw" (44 : Nat) ({ cls := "ClockedFlows", name := "clock", desc := "(II)I" } : Jvm.MethodName)) ∈ gws := gws_mem (kt_2 _ (List.mem_of_getElem? (i := 236) rfl)) rfl
theorem kw_477 : (Jvm.Cond.instanceMethod ({ cls := "ClockedFlows", name := "clock", desc := "(II)I" } : Jvm.MethodName)) ∈ gws := gws_mem (kt_2 _ (List.mem_of_getElem? (i := 237) rfl)) rfl
theorem kw_478 : (Jvm.Cond.selects "ClockedFlows" ({ cls := "ClockedFlows", name := "clock", desc := "(II)I" } : Jvm.MethodName) ({ cls := "ClockedFlows", name := "clock", desc := "(II)I" } : Jvm.MethodName)) ∈ gws := gws_mem (kt_2 _ (List.mem_of_getElem? (i := 238) rfl)) rfl
theorem kw_479 : (Jvm.Cond.code ({ cls := "ClockedFlows", name := "clock", desc := "(II)I" } : Jvm.MethodName) prog_1_method_9_code (3 : Nat) (Option.some Jvm.ClassFile.FieldType.int)) ∈ gws := gws_mem (kt_2 _ (List.mem_of_getElem? (i := 239) rfl)) rfl
theorem kw_480 : (Jvm.Cond.methodLink "ClockedFlows" (138 : Nat) ({ cls := "ClockedFlows$Sense", name := "clockAt", desc := "(II)I" } : Jvm.MethodName)) ∈ gws := gws_mem (kt_3 _ (List.mem_of_getElem? (i := 0) rfl)) rfl
theorem kw_481 : (Jvm.Cond.instanceMethod ({ cls := "ClockedFlows$Sense", name := "clockAt", desc := "(II)I" } : Jvm.MethodName)) ∈ gws := gws_mem (kt_3 _ (List.mem_of_getElem? (i := 1) rfl)) rfl
theorem kw_482 : (Jvm.Cond.selects "ClockedFlows$Sense" ({ cls := "ClockedFlows$Sense", name := "clockAt", desc := "(II)I" } : Jvm.MethodName) ({ cls := "ClockedFlows$Sense", name := "clockAt", desc := "(II)I" } : Jvm.MethodName)) ∈ gws := gws_mem (kt_3 _ (List.mem_of_getElem? (i := 2) rfl)) rfl
theorem kw_483 : (Jvm.Cond.code ({ cls := "ClockedFlows$Sense", name := "clockAt", desc := "(II)I" } : Jvm.MethodName) prog_4_method_4_code (5 : Nat) (Option.some Jvm.ClassFile.FieldType.int)) ∈ gws := gws_mem (kt_3 _ (List.mem_of_getElem? (i := 3) rfl)) rfl
theorem kw_484 : (Jvm.Cond.methodLink "ClockedFlowsLaw" (48 : Nat) ({ cls := "ClockedFlows", name := "tick", desc := "(II)I" } : Jvm.MethodName)) ∈ gws := gws_mem (kt_3 _ (List.mem_of_getElem? (i := 4) rfl)) rfl
theorem kw_485 : (Jvm.Cond.instanceMethod ({ cls := "ClockedFlows", name := "tick", desc := "(II)I" } : Jvm.MethodName)) ∈ gws := gws_mem (kt_3 _ (List.mem_of_getElem? (i := 5) rfl)) rfl
theorem kw_486 : (Jvm.Cond.selects "ClockedFlows" ({ cls := "ClockedFlows", name := "tick", desc := "(II)I" } : Jvm.MethodName) ({ cls := "ClockedFlows", name := "tick", desc := "(II)I" } : Jvm.MethodName)) ∈ gws := gws_mem (kt_3 _ (List.mem_of_getElem? (i := 6) rfl)) rfl
theorem kw_487 : (Jvm.Cond.code ({ cls := "ClockedFlows", name := "tick", desc := "(II)I" } : Jvm.MethodName) prog_1_method_10_code (3 : Nat) (Option.some Jvm.ClassFile.FieldType.int)) ∈ gws := gws_mem (kt_3 _ (List.mem_of_getElem? (i := 7) rfl)) rfl
theorem kw_488 : (Jvm.Cond.methodLink "ClockedFlows" (141 : Nat) ({ cls := "ClockedFlows", name := "isValue", desc := "(I)Z" } : Jvm.MethodName)) ∈ gws := gws_mem (kt_3 _ (List.mem_of_getElem? (i := 8) rfl)) rfl
theorem kw_489 : (Jvm.Cond.static ({ cls := "ClockedFlows", name := "isValue", desc := "(I)Z" } : Jvm.MethodName)) ∈ gws := gws_mem (kt_3 _ (List.mem_of_getElem? (i := 9) rfl)) rfl
theorem kw_490 : (Jvm.Cond.code ({ cls := "ClockedFlows", name := "isValue", desc := "(I)Z" } : Jvm.MethodName) prog_1_method_39_code (1 : Nat) (Option.some Jvm.ClassFile.FieldType.boolean)) ∈ gws := gws_mem (kt_3 _ (List.mem_of_getElem? (i := 10) rfl)) rfl
theorem kw_491 : (Jvm.Cond.methodLink "ClockedFlows" (148 : Nat) ({ cls := "ClockedFlows$Doings", name := "remember", desc := "(LClockedFlows$Flow;)V" } : Jvm.MethodName)) ∈ gws := gws_mem (kt_3 _ (List.mem_of_getElem? (i := 11) rfl)) rfl
theorem kw_492 : (Jvm.Cond.instanceMethod ({ cls := "ClockedFlows$Doings", name := "remember", desc := "(LClockedFlows$Flow;)V" } : Jvm.MethodName)) ∈ gws := gws_mem (kt_3 _ (List.mem_of_getElem? (i := 12) rfl)) rfl
theorem kw_493 : (Jvm.Cond.selects "ClockedFlows$Doings" ({ cls := "ClockedFlows$Doings", name := "remember", desc := "(LClockedFlows$Flow;)V" } : Jvm.MethodName) ({ cls := "ClockedFlows$Doings", name := "remember", desc := "(LClockedFlows$Flow;)V" } : Jvm.MethodName)) ∈ gws := gws_mem (kt_3 _ (List.mem_of_getElem? (i := 13) rfl)) rfl
theorem kw_494 : (Jvm.Cond.code ({ cls := "ClockedFlows$Doings", name := "remember", desc := "(LClockedFlows$Flow;)V" } : Jvm.MethodName) prog_2_method_3_code (2 : Nat) (Option.none : Option Jvm.ClassFile.FieldType)) ∈ gws := gws_mem (kt_3 _ (List.mem_of_getElem? (i := 14) rfl)) rfl
theorem kw_495 : (Jvm.Cond.methodLinkNest "ClockedFlows$Doings" (25 : Nat) ({ cls := "ClockedFlows", name := "carry", desc := "(LClockedFlows$Flow;LClockedFlows$Flow;)V" } : Jvm.MethodName) "ClockedFlows") ∈ lw_tbl := kt_3 _ (List.mem_of_getElem? (i := 15) rfl)
theorem kw_496 : (Jvm.Cond.static ({ cls := "ClockedFlows", name := "carry", desc := "(LClockedFlows$Flow;LClockedFlows$Flow;)V" } : Jvm.MethodName)) ∈ gws := gws_mem (kt_3 _ (List.mem_of_getElem? (i := 16) rfl)) rfl
theorem kw_497 : (Jvm.Cond.code ({ cls := "ClockedFlows", name := "carry", desc := "(LClockedFlows$Flow;LClockedFlows$Flow;)V" } : Jvm.MethodName) prog_1_method_37_code (2 : Nat) (Option.none : Option Jvm.ClassFile.FieldType)) ∈ gws := gws_mem (kt_3 _ (List.mem_of_getElem? (i := 17) rfl)) rfl
theorem kw_498 : (Jvm.Cond.methodLink "ClockedFlows" (151 : Nat) ({ cls := "ClockedFlows$Flow", name := "work", desc := "(LClockedFlows$Sense;II)V" } : Jvm.MethodName)) ∈ gws := gws_mem (kt_3 _ (List.mem_of_getElem? (i := 18) rfl)) rfl
theorem kw_499 : (Jvm.Cond.instanceMethod ({ cls := "ClockedFlows$Flow", name := "work", desc := "(LClockedFlows$Sense;II)V" } : Jvm.MethodName)) ∈ gws := gws_mem (kt_3 _ (List.mem_of_getElem? (i := 19) rfl)) rfl
theorem kw_500 : (Jvm.Cond.selects "ClockedFlows$Flow" ({ cls := "ClockedFlows$Flow", name := "work", desc := "(LClockedFlows$Sense;II)V" } : Jvm.MethodName) ({ cls := "ClockedFlows$Flow", name := "work", desc := "(LClockedFlows$Sense;II)V" } : Jvm.MethodName)) ∈ gws := gws_mem (kt_3 _ (List.mem_of_getElem? (i := 20) rfl)) rfl
theorem kw_501 : (Jvm.Cond.code ({ cls := "ClockedFlows$Flow", name := "work", desc := "(LClockedFlows$Sense;II)V" } : Jvm.MethodName) prog_3_method_13_code (6 : Nat) (Option.none : Option Jvm.ClassFile.FieldType)) ∈ gws := gws_mem (kt_3 _ (List.mem_of_getElem? (i := 21) rfl)) rfl
theorem kw_502 : (Jvm.Cond.methodLink "ClockedFlows$Flow" (66 : Nat) ({ cls := "ClockedFlows$Flow", name := "isThere", desc := "(I)Z" } : Jvm.MethodName)) ∈ gws := gws_mem (kt_3 _ (List.mem_of_getElem? (i := 22) rfl)) rfl
theorem kw_504 : (Jvm.Cond.instanceMethod ({ cls := "ClockedFlows$Flow", name := "isThere", desc := "(I)Z" } : Jvm.MethodName)) ∈ gws := gws_mem (kt_3 _ (List.mem_of_getElem? (i := 24) rfl)) rfl
theorem kw_505 : (Jvm.Cond.code ({ cls := "ClockedFlows$Flow", name := "isThere", desc := "(I)Z" } : Jvm.MethodName) prog_3_method_14_code (3 : Nat) (Option.some Jvm.ClassFile.FieldType.boolean)) ∈ gws := gws_mem (kt_3 _ (List.mem_of_getElem? (i := 25) rfl)) rfl
theorem kw_506 : (Jvm.Cond.methodLinkNest "ClockedFlows$Flow" (77 : Nat) ({ cls := "ClockedFlows", name := "streamOf", desc := "(I)I" } : Jvm.MethodName) "ClockedFlows") ∈ lw_tbl := kt_3 _ (List.mem_of_getElem? (i := 26) rfl)
theorem kw_507 : (Jvm.Cond.methodLink "ClockedFlows$Flow" (80 : Nat) ({ cls := "ClockedFlows$Flow", name := "valueOf", desc := "(I)I" } : Jvm.MethodName)) ∈ gws := gws_mem (kt_3 _ (List.mem_of_getElem? (i := 27) rfl)) rfl
theorem kw_508 : (Jvm.Cond.methodLink "ClockedFlows$Flow" (70 : Nat) ({ cls := "ClockedFlows$Flow", name := "reckon", desc := "(III)I" } : Jvm.MethodName)) ∈ gws := gws_mem (kt_3 _ (List.mem_of_getElem? (i := 28) rfl)) rfl
theorem kw_510 : (Jvm.Cond.instanceMethod ({ cls := "ClockedFlows$Flow", name := "reckon", desc := "(III)I" } : Jvm.MethodName)) ∈ gws := gws_mem (kt_3 _ (List.mem_of_getElem? (i := 30) rfl)) rfl
theorem kw_511 : (Jvm.Cond.code ({ cls := "ClockedFlows$Flow", name := "reckon", desc := "(III)I" } : Jvm.MethodName) prog_3_method_16_code (6 : Nat) (Option.some Jvm.ClassFile.FieldType.int)) ∈ gws := gws_mem (kt_3 _ (List.mem_of_getElem? (i := 31) rfl)) rfl
theorem kw_512 : (Jvm.Cond.methodLink "ClockedFlows$Flow" (83 : Nat) ({ cls := "ClockedFlows$Flow", name := "combine", desc := "(III)I" } : Jvm.MethodName)) ∈ gws := gws_mem (kt_3 _ (List.mem_of_getElem? (i := 32) rfl)) rfl
theorem kw_514 : (Jvm.Cond.instanceMethod ({ cls := "ClockedFlows$Flow", name := "combine", desc := "(III)I" } : Jvm.MethodName)) ∈ gws := gws_mem (kt_3 _ (List.mem_of_getElem? (i := 34) rfl)) rfl
theorem kw_515 : (Jvm.Cond.code ({ cls := "ClockedFlows$Flow", name := "combine", desc := "(III)I" } : Jvm.MethodName) prog_3_method_17_code (4 : Nat) (Option.some Jvm.ClassFile.FieldType.int)) ∈ gws := gws_mem (kt_3 _ (List.mem_of_getElem? (i := 35) rfl)) rfl
theorem kw_516 : (Jvm.Cond.methodLink "ClockedFlows$Flow" (86 : Nat) ({ cls := "ClockedFlows$Flow", name := "choose", desc := "(III)I" } : Jvm.MethodName)) ∈ gws := gws_mem (kt_3 _ (List.mem_of_getElem? (i := 36) rfl)) rfl
theorem kw_518 : (Jvm.Cond.instanceMethod ({ cls := "ClockedFlows$Flow", name := "choose", desc := "(III)I" } : Jvm.MethodName)) ∈ gws := gws_mem (kt_3 _ (List.mem_of_getElem? (i := 38) rfl)) rfl
theorem kw_519 : (Jvm.Cond.code ({ cls := "ClockedFlows$Flow", name := "choose", desc := "(III)I" } : Jvm.MethodName) prog_3_method_18_code (4 : Nat) (Option.some Jvm.ClassFile.FieldType.int)) ∈ gws := gws_mem (kt_3 _ (List.mem_of_getElem? (i := 39) rfl)) rfl
theorem kw_520 : (Jvm.Cond.methodLink "ClockedFlows$Flow" (74 : Nat) ({ cls := "ClockedFlows$Flow", name := "heldNext", desc := "(I)I" } : Jvm.MethodName)) ∈ gws := gws_mem (kt_3 _ (List.mem_of_getElem? (i := 40) rfl)) rfl
theorem kw_522 : (Jvm.Cond.instanceMethod ({ cls := "ClockedFlows$Flow", name := "heldNext", desc := "(I)I" } : Jvm.MethodName)) ∈ gws := gws_mem (kt_3 _ (List.mem_of_getElem? (i := 42) rfl)) rfl
theorem kw_523 : (Jvm.Cond.code ({ cls := "ClockedFlows$Flow", name := "heldNext", desc := "(I)I" } : Jvm.MethodName) prog_3_method_15_code (2 : Nat) (Option.some Jvm.ClassFile.FieldType.int)) ∈ gws := gws_mem (kt_3 _ (List.mem_of_getElem? (i := 43) rfl)) rfl
theorem kw_524 : (Jvm.Cond.methodLink "ClockedFlows" (155 : Nat) ({ cls := "java/lang/Integer", name := "bitCount", desc := "(I)I" } : Jvm.MethodName)) ∈ gws := gws_mem (kt_3 _ (List.mem_of_getElem? (i := 44) rfl)) rfl
theorem kw_525 : (Jvm.Cond.static ({ cls := "java/lang/Integer", name := "bitCount", desc := "(I)I" } : Jvm.MethodName)) ∈ gws := gws_mem (kt_3 _ (List.mem_of_getElem? (i := 45) rfl)) rfl
theorem kw_526 : (Jvm.Cond.code ({ cls := "java/lang/Integer", name := "bitCount", desc := "(I)I" } : Jvm.MethodName) prog_10_method_49_code (1 : Nat) (Option.some Jvm.ClassFile.FieldType.int)) ∈ gws := gws_mem (kt_3 _ (List.mem_of_getElem? (i := 46) rfl)) rfl
theorem kw_527 : (Jvm.Cond.constant "java/lang/Integer" (265 : Nat) (1431655765 : Int32)) ∈ gws := gws_mem (kt_3 _ (List.mem_of_getElem? (i := 47) rfl)) rfl
theorem kw_528 : (Jvm.Cond.constant "java/lang/Integer" (266 : Nat) (858993459 : Int32)) ∈ gws := gws_mem (kt_3 _ (List.mem_of_getElem? (i := 48) rfl)) rfl
theorem kw_529 : (Jvm.Cond.constant "java/lang/Integer" (267 : Nat) (252645135 : Int32)) ∈ gws := gws_mem (kt_3 _ (List.mem_of_getElem? (i := 49) rfl)) rfl
theorem kw_530 : (Jvm.Cond.methodLink "ClockedFlowsLaw" (52 : Nat) ({ cls := "ClockedFlows", name := "afresh", desc := "()I" } : Jvm.MethodName)) ∈ gws := gws_mem (kt_3 _ (List.mem_of_getElem? (i := 50) rfl)) rfl
theorem kw_531 : (Jvm.Cond.instanceMethod ({ cls := "ClockedFlows", name := "afresh", desc := "()I" } : Jvm.MethodName)) ∈ gws := gws_mem (kt_3 _ (List.mem_of_getElem? (i := 51) rfl)) rfl
theorem kw_532 : (Jvm.Cond.selects "ClockedFlows" ({ cls := "ClockedFlows", name := "afresh", desc := "()I" } : Jvm.MethodName) ({ cls := "ClockedFlows", name := "afresh", desc := "()I" } : Jvm.MethodName)) ∈ gws := gws_mem (kt_3 _ (List.mem_of_getElem? (i := 52) rfl)) rfl
theorem kw_533 : (Jvm.Cond.code ({ cls := "ClockedFlows", name := "afresh", desc := "()I" } : Jvm.MethodName) prog_1_method_11_code (2 : Nat) (Option.some Jvm.ClassFile.FieldType.int)) ∈ gws := gws_mem (kt_3 _ (List.mem_of_getElem? (i := 53) rfl)) rfl
theorem kw_534 : (Jvm.Cond.methodLink "ClockedFlowsLaw" (56 : Nat) ({ cls := "ClockedFlows", name := "tell", desc := "(IIIII)I" } : Jvm.MethodName)) ∈ gws := gws_mem (kt_3 _ (List.mem_of_getElem? (i := 54) rfl)) rfl
theorem kw_535 : (Jvm.Cond.instanceMethod ({ cls := "ClockedFlows", name := "tell", desc := "(IIIII)I" } : Jvm.MethodName)) ∈ gws := gws_mem (kt_3 _ (List.mem_of_getElem? (i := 55) rfl)) rfl
theorem kw_536 : (Jvm.Cond.selects "ClockedFlows" ({ cls := "ClockedFlows", name := "tell", desc := "(IIIII)I" } : Jvm.MethodName) ({ cls := "ClockedFlows", name := "tell", desc := "(IIIII)I" } : Jvm.MethodName)) ∈ gws := gws_mem (kt_3 _ (List.mem_of_getElem? (i := 56) rfl)) rfl
theorem kw_537 : (Jvm.Cond.code ({ cls := "ClockedFlows", name := "tell", desc := "(IIIII)I" } : Jvm.MethodName) prog_1_method_12_code (6 : Nat) (Option.some Jvm.ClassFile.FieldType.int)) ∈ gws := gws_mem (kt_3 _ (List.mem_of_getElem? (i := 57) rfl)) rfl
theorem kw_538 : (Jvm.Cond.methodLink "ClockedFlows" (160 : Nat) ({ cls := "ClockedFlows", name := "isEquation", desc := "(IIII)Z" } : Jvm.MethodName)) ∈ gws := gws_mem (kt_3 _ (List.mem_of_getElem? (i := 58) rfl)) rfl
theorem kw_540 : (Jvm.Cond.instanceMethod ({ cls := "ClockedFlows", name := "isEquation", desc := "(IIII)Z" } : Jvm.MethodName)) ∈ gws := gws_mem (kt_3 _ (List.mem_of_getElem? (i := 60) rfl)) rfl
theorem kw_541 : (Jvm.Cond.code ({ cls := "ClockedFlows", name := "isEquation", desc := "(IIII)Z" } : Jvm.MethodName) prog_1_method_28_code (5 : Nat) (Option.some Jvm.ClassFile.FieldType.boolean)) ∈ gws := gws_mem (kt_3 _ (List.mem_of_getElem? (i := 61) rfl)) rfl
theorem kw_542 : (Jvm.Cond.methodLink "ClockedFlows" (217 : Nat) ({ cls := "ClockedFlows", name := "isFigure", desc := "(IIII)Z" } : Jvm.MethodName)) ∈ gws := gws_mem (kt_3 _ (List.mem_of_getElem? (i := 62) rfl)) rfl
theorem kw_543 : (Jvm.Cond.methodLink "ClockedFlows" (164 : Nat) ({ cls := "ClockedFlows$Flow", name := "equate", desc := "(IIIII)V" } : Jvm.MethodName)) ∈ gws := gws_mem (kt_3 _ (List.mem_of_getElem? (i := 63) rfl)) rfl
theorem kw_544 : (Jvm.Cond.methodLink "ClockedFlowsLaw" (61 : Nat) ({ cls := "ClockedFlows", name := "undo", desc := "()I" } : Jvm.MethodName)) ∈ gws := gws_mem (kt_3 _ (List.mem_of_getElem? (i := 64) rfl)) rfl
theorem kw_545 : (Jvm.Cond.instanceMethod ({ cls := "ClockedFlows", name := "undo", desc := "()I" } : Jvm.MethodName)) ∈ gws := gws_mem (kt_3 _ (List.mem_of_getElem? (i := 65) rfl)) rfl
theorem kw_546 : (Jvm.Cond.selects "ClockedFlows" ({ cls := "ClockedFlows", name := "undo", desc := "()I" } : Jvm.MethodName) ({ cls := "ClockedFlows", name := "undo", desc := "()I" } : Jvm.MethodName)) ∈ gws := gws_mem (kt_3 _ (List.mem_of_getElem? (i := 66) rfl)) rfl
theorem kw_547 : (Jvm.Cond.code ({ cls := "ClockedFlows", name := "undo", desc := "()I" } : Jvm.MethodName) prog_1_method_13_code (1 : Nat) (Option.some Jvm.ClassFile.FieldType.int)) ∈ gws := gws_mem (kt_3 _ (List.mem_of_getElem? (i := 67) rfl)) rfl
theorem kw_548 : (Jvm.Cond.methodLink "ClockedFlows" (168 : Nat) ({ cls := "ClockedFlows$Doings", name := "takeBack", desc := "(LClockedFlows$Flow;)V" } : Jvm.MethodName)) ∈ gws := gws_mem (kt_3 _ (List.mem_of_getElem? (i := 68) rfl)) rfl
theorem kw_549 : (Jvm.Cond.instanceMethod ({ cls := "ClockedFlows$Doings", name := "takeBack", desc := "(LClockedFlows$Flow;)V" } : Jvm.MethodName)) ∈ gws := gws_mem (kt_3 _ (List.mem_of_getElem? (i := 69) rfl)) rfl
theorem kw_550 : (Jvm.Cond.selects "ClockedFlows$Doings" ({ cls := "ClockedFlows$Doings", name := "takeBack", desc := "(LClockedFlows$Flow;)V" } : Jvm.MethodName) ({ cls := "ClockedFlows$Doings", name := "takeBack", desc := "(LClockedFlows$Flow;)V" } : Jvm.MethodName)) ∈ gws := gws_mem (kt_3 _ (List.mem_of_getElem? (i := 70) rfl)) rfl
theorem kw_551 : (Jvm.Cond.code ({ cls := "ClockedFlows$Doings", name := "takeBack", desc := "(LClockedFlows$Flow;)V" } : Jvm.MethodName) prog_2_method_4_code (2 : Nat) (Option.none : Option Jvm.ClassFile.FieldType)) ∈ gws := gws_mem (kt_3 _ (List.mem_of_getElem? (i := 71) rfl)) rfl
theorem kw_552 : (Jvm.Cond.methodLink "ClockedFlowsLaw" (65 : Nat) ({ cls := "ClockedFlows", name := "later", desc := "(IIII)I" } : Jvm.MethodName)) ∈ gws := gws_mem (kt_3 _ (List.mem_of_getElem? (i := 72) rfl)) rfl
theorem kw_553 : (Jvm.Cond.instanceMethod ({ cls := "ClockedFlows", name := "later", desc := "(IIII)I" } : Jvm.MethodName)) ∈ gws := gws_mem (kt_3 _ (List.mem_of_getElem? (i := 73) rfl)) rfl
theorem kw_554 : (Jvm.Cond.selects "ClockedFlows" ({ cls := "ClockedFlows", name := "later", desc := "(IIII)I" } : Jvm.MethodName) ({ cls := "ClockedFlows", name := "later", desc := "(IIII)I" } : Jvm.MethodName)) ∈ gws := gws_mem (kt_3 _ (List.mem_of_getElem? (i := 74) rfl)) rfl
theorem kw_555 : (Jvm.Cond.code ({ cls := "ClockedFlows", name := "later", desc := "(IIII)I" } : Jvm.MethodName) prog_1_method_14_code (6 : Nat) (Option.some Jvm.ClassFile.FieldType.int)) ∈ gws := gws_mem (kt_3 _ (List.mem_of_getElem? (i := 75) rfl)) rfl
theorem kw_556 : (Jvm.Cond.methodLink "ClockedFlowsLaw" (70 : Nat) ({ cls := "ClockedFlows", name := "first", desc := "(IIII)I" } : Jvm.MethodName)) ∈ gws := gws_mem (kt_3 _ (List.mem_of_getElem? (i := 76) rfl)) rfl
theorem kw_557 : (Jvm.Cond.instanceMethod ({ cls := "ClockedFlows", name := "first", desc := "(IIII)I" } : Jvm.MethodName)) ∈ gws := gws_mem (kt_3 _ (List.mem_of_getElem? (i := 77) rfl)) rfl
theorem kw_558 : (Jvm.Cond.selects "ClockedFlows" ({ cls := "ClockedFlows", name := "first", desc := "(IIII)I" } : Jvm.MethodName) ({ cls := "ClockedFlows", name := "first", desc := "(IIII)I" } : Jvm.MethodName)) ∈ gws := gws_mem (kt_3 _ (List.mem_of_getElem? (i := 78) rfl)) rfl
theorem kw_559 : (Jvm.Cond.code ({ cls := "ClockedFlows", name := "first", desc := "(IIII)I" } : Jvm.MethodName) prog_1_method_15_code (6 : Nat) (Option.some Jvm.ClassFile.FieldType.int)) ∈ gws := gws_mem (kt_3 _ (List.mem_of_getElem? (i := 79) rfl)) rfl
theorem kw_560 : (Jvm.Cond.methodLink "ClockedFlowsLaw" (74 : Nat) ({ cls := "ClockedFlows", name := "round", desc := "(III)I" } : Jvm.MethodName)) ∈ gws := gws_mem (kt_3 _ (List.mem_of_getElem? (i := 80) rfl)) rfl
theorem kw_561 : (Jvm.Cond.instanceMethod ({ cls := "ClockedFlows", name := "round", desc := "(III)I" } : Jvm.MethodName)) ∈ gws := gws_mem (kt_3 _ (List.mem_of_getElem? (i := 81) rfl)) rfl
theorem kw_562 : (Jvm.Cond.selects "ClockedFlows" ({ cls := "ClockedFlows", name := "round", desc := "(III)I" } : Jvm.MethodName) ({ cls := "ClockedFlows", name := "round", desc := "(III)I" } : Jvm.MethodName)) ∈ gws := gws_mem (kt_3 _ (List.mem_of_getElem? (i := 82) rfl)) rfl
theorem kw_563 : (Jvm.Cond.code ({ cls := "ClockedFlows", name := "round", desc := "(III)I" } : Jvm.MethodName) prog_1_method_16_code (6 : Nat) (Option.some Jvm.ClassFile.FieldType.int)) ∈ gws := gws_mem (kt_3 _ (List.mem_of_getElem? (i := 83) rfl)) rfl
theorem kw_564 : (Jvm.Cond.methodLink "ClockedFlows" (171 : Nat) ({ cls := "ClockedFlows", name := "layTrail", desc := "(II)V" } : Jvm.MethodName)) ∈ gws := gws_mem (kt_3 _ (List.mem_of_getElem? (i := 84) rfl)) rfl
theorem kw_566 : (Jvm.Cond.instanceMethod ({ cls := "ClockedFlows", name := "layTrail", desc := "(II)V" } : Jvm.MethodName)) ∈ gws := gws_mem (kt_3 _ (List.mem_of_getElem? (i := 86) rfl)) rfl
theorem kw_567 : (Jvm.Cond.code ({ cls := "ClockedFlows", name := "layTrail", desc := "(II)V" } : Jvm.MethodName) prog_1_method_29_code (4 : Nat) (Option.none : Option Jvm.ClassFile.FieldType)) ∈ gws := gws_mem (kt_3 _ (List.mem_of_getElem? (i := 87) rfl)) rfl
theorem kw_568 : (Jvm.Cond.methodLink "ClockedFlows" (223 : Nat) ({ cls := "java/lang/System", name := "arraycopy", desc := "(Ljava/lang/Object;ILjava/lang/Object;II)V" } : Jvm.MethodName)) ∈ gws := gws_mem (kt_3 _ (List.mem_of_getElem? (i := 88) rfl)) rfl
theorem kw_569 : (Jvm.Cond.methodLink "ClockedFlows" (175 : Nat) ({ cls := "ClockedFlows", name := "sameOnTrail", desc := "(II)Z" } : Jvm.MethodName)) ∈ gws := gws_mem (kt_3 _ (List.mem_of_getElem? (i := 89) rfl)) rfl
theorem kw_571 : (Jvm.Cond.instanceMethod ({ cls := "ClockedFlows", name := "sameOnTrail", desc := "(II)Z" } : Jvm.MethodName)) ∈ gws := gws_mem (kt_3 _ (List.mem_of_getElem? (i := 91) rfl)) rfl
theorem kw_572 : (Jvm.Cond.code ({ cls := "ClockedFlows", name := "sameOnTrail", desc := "(II)Z" } : Jvm.MethodName) prog_1_method_30_code (4 : Nat) (Option.some Jvm.ClassFile.FieldType.boolean)) ∈ gws := gws_mem (kt_3 _ (List.mem_of_getElem? (i := 92) rfl)) rfl
theorem kw_573 : (Jvm.Cond.methodLink "ClockedFlowsLaw" (81 : Nat) ({ cls := "ClockedFlows", name := "judge", desc := "(IJ)I" } : Jvm.MethodName)) ∈ gws := gws_mem (kt_3 _ (List.mem_of_getElem? (i := 93) rfl)) rfl
theorem kw_574 : (Jvm.Cond.instanceMethod ({ cls := "ClockedFlows", name := "judge", desc := "(IJ)I" } : Jvm.MethodName)) ∈ gws := gws_mem (kt_3 _ (List.mem_of_getElem? (i := 94) rfl)) rfl
theorem kw_575 : (Jvm.Cond.selects "ClockedFlows" ({ cls := "ClockedFlows", name := "judge", desc := "(IJ)I" } : Jvm.MethodName) ({ cls := "ClockedFlows", name := "judge", desc := "(IJ)I" } : Jvm.MethodName)) ∈ gws := gws_mem (kt_3 _ (List.mem_of_getElem? (i := 95) rfl)) rfl
theorem kw_576 : (Jvm.Cond.code ({ cls := "ClockedFlows", name := "judge", desc := "(IJ)I" } : Jvm.MethodName) prog_1_method_17_code (8 : Nat) (Option.some Jvm.ClassFile.FieldType.int)) ∈ gws := gws_mem (kt_3 _ (List.mem_of_getElem? (i := 96) rfl)) rfl
theorem kw_577 : (Jvm.Cond.constantLong "ClockedFlows" (179 : Nat) (100000 : Int64)) ∈ gws := gws_mem (kt_3 _ (List.mem_of_getElem? (i := 97) rfl)) rfl
theorem kw_578 : (Jvm.Cond.methodLink "ClockedFlows" (181 : Nat) ({ cls := "ClockedFlows", name := "power", desc := "(JI)J" } : Jvm.MethodName)) ∈ gws := gws_mem (kt_3 _ (List.mem_of_getElem? (i := 98) rfl)) rfl
theorem kw_579 : (Jvm.Cond.static ({ cls := "ClockedFlows", name := "power", desc := "(JI)J" } : Jvm.MethodName)) ∈ gws := gws_mem (kt_3 _ (List.mem_of_getElem? (i := 99) rfl)) rfl
theorem kw_580 : (Jvm.Cond.code ({ cls := "ClockedFlows", name := "power", desc := "(JI)J" } : Jvm.MethodName) prog_1_method_36_code (6 : Nat) (Option.some Jvm.ClassFile.FieldType.long)) ∈ gws := gws_mem (kt_3 _ (List.mem_of_getElem? (i := 100) rfl)) rfl
theorem kw_581 : (Jvm.Cond.methodLink "ClockedFlows" (185 : Nat) ({ cls := "ClockedFlows", name := "holds", desc := "(I)Z" } : Jvm.MethodName)) ∈ gws := gws_mem (kt_3 _ (List.mem_of_getElem? (i := 101) rfl)) rfl
theorem kw_583 : (Jvm.Cond.instanceMethod ({ cls := "ClockedFlows", name := "holds", desc := "(I)Z" } : Jvm.MethodName)) ∈ gws := gws_mem (kt_3 _ (List.mem_of_getElem? (i := 103) rfl)) rfl
theorem kw_584 : (Jvm.Cond.code ({ cls := "ClockedFlows", name := "holds", desc := "(I)Z" } : Jvm.MethodName) prog_1_method_31_code (5 : Nat) (Option.some Jvm.ClassFile.FieldType.boolean)) ∈ gws := gws_mem (kt_3 _ (List.mem_of_getElem? (i := 104) rfl)) rfl
theorem kw_585 : (Jvm.Cond.methodLink "ClockedFlowsLaw" (86 : Nat) ({ cls := "ClockedFlows", name := "see", desc := "(IIII)I" } : Jvm.MethodName)) ∈ gws := gws_mem (kt_3 _ (List.mem_of_getElem? (i := 105) rfl)) rfl
theorem kw_586 : (Jvm.Cond.instanceMethod ({ cls := "ClockedFlows", name := "see", desc := "(IIII)I" } : Jvm.MethodName)) ∈ gws := gws_mem (kt_3 _ (List.mem_of_getElem? (i := 106) rfl)) rfl
theorem kw_587 : (Jvm.Cond.selects "ClockedFlows" ({ cls := "ClockedFlows", name := "see", desc := "(IIII)I" } : Jvm.MethodName) ({ cls := "ClockedFlows", name := "see", desc := "(IIII)I" } : Jvm.MethodName)) ∈ gws := gws_mem (kt_3 _ (List.mem_of_getElem? (i := 107) rfl)) rfl
theorem kw_588 : (Jvm.Cond.code ({ cls := "ClockedFlows", name := "see", desc := "(IIII)I" } : Jvm.MethodName) prog_1_method_18_code (5 : Nat) (Option.some Jvm.ClassFile.FieldType.int)) ∈ gws := gws_mem (kt_3 _ (List.mem_of_getElem? (i := 108) rfl)) rfl
theorem kw_589 : (Jvm.Cond.methodLink "ClockedFlows" (188 : Nat) ({ cls := "ClockedFlows$Sights", name := "add", desc := "(IIII)Z" } : Jvm.MethodName)) ∈ gws := gws_mem (kt_3 _ (List.mem_of_getElem? (i := 109) rfl)) rfl
theorem kw_590 : (Jvm.Cond.instanceMethod ({ cls := "ClockedFlows$Sights", name := "add", desc := "(IIII)Z" } : Jvm.MethodName)) ∈ gws := gws_mem (kt_3 _ (List.mem_of_getElem? (i := 110) rfl)) rfl
theorem kw_591 : (Jvm.Cond.selects "ClockedFlows$Sights" ({ cls := "ClockedFlows$Sights", name := "add", desc := "(IIII)Z" } : Jvm.MethodName) ({ cls := "ClockedFlows$Sights", name := "add", desc := "(IIII)Z" } : Jvm.MethodName)) ∈ gws := gws_mem (kt_3 _ (List.mem_of_getElem? (i := 111) rfl)) rfl
theorem kw_592 : (Jvm.Cond.code ({ cls := "ClockedFlows$Sights", name := "add", desc := "(IIII)Z" } : Jvm.MethodName) prog_5_method_2_code (5 : Nat) (Option.some Jvm.ClassFile.FieldType.boolean)) ∈ gws := gws_mem (kt_3 _ (List.mem_of_getElem? (i := 112) rfl)) rfl
theorem kw_593 : (Jvm.Cond.methodLink "ClockedFlowsLaw" (90 : Nat) ({ cls := "ClockedFlows", name := "unsee", desc := "()I" } : Jvm.MethodName)) ∈ gws := gws_mem (kt_3 _ (List.mem_of_getElem? (i := 113) rfl)) rfl
theorem kw_594 : (Jvm.Cond.instanceMethod ({ cls := "ClockedFlows", name := "unsee", desc := "()I" } : Jvm.MethodName)) ∈ gws := gws_mem (kt_3 _ (List.mem_of_getElem? (i := 114) rfl)) rfl
theorem kw_595 : (Jvm.Cond.selects "ClockedFlows" ({ cls := "ClockedFlows", name := "unsee", desc := "()I" } : Jvm.MethodName) ({ cls := "ClockedFlows", name := "unsee", desc := "()I" } : Jvm.MethodName)) ∈ gws := gws_mem (kt_3 _ (List.mem_of_getElem? (i := 115) rfl)) rfl
theorem kw_596 : (Jvm.Cond.code ({ cls := "ClockedFlows", name := "unsee", desc := "()I" } : Jvm.MethodName) prog_1_method_19_code (2 : Nat) (Option.some Jvm.ClassFile.FieldType.int)) ∈ gws := gws_mem (kt_3 _ (List.mem_of_getElem? (i := 116) rfl)) rfl
theorem kw_597 : (Jvm.Cond.methodLink "ClockedFlowsLaw" (94 : Nat) ({ cls := "ClockedFlows", name := "inputs", desc := "(I)I" } : Jvm.MethodName)) ∈ gws := gws_mem (kt_3 _ (List.mem_of_getElem? (i := 117) rfl)) rfl
theorem kw_598 : (Jvm.Cond.instanceMethod ({ cls := "ClockedFlows", name := "inputs", desc := "(I)I" } : Jvm.MethodName)) ∈ gws := gws_mem (kt_3 _ (List.mem_of_getElem? (i := 118) rfl)) rfl
theorem kw_599 : (Jvm.Cond.selects "ClockedFlows" ({ cls := "ClockedFlows", name := "inputs", desc := "(I)I" } : Jvm.MethodName) ({ cls := "ClockedFlows", name := "inputs", desc := "(I)I" } : Jvm.MethodName)) ∈ gws := gws_mem (kt_3 _ (List.mem_of_getElem? (i := 119) rfl)) rfl
theorem kw_600 : (Jvm.Cond.code ({ cls := "ClockedFlows", name := "inputs", desc := "(I)I" } : Jvm.MethodName) prog_1_method_20_code (5 : Nat) (Option.some Jvm.ClassFile.FieldType.int)) ∈ gws := gws_mem (kt_3 _ (List.mem_of_getElem? (i := 120) rfl)) rfl
theorem kw_601 : (Jvm.Cond.methodLink "ClockedFlows" (191 : Nat) ({ cls := "ClockedFlows", name := "explains", desc := "(II)Z" } : Jvm.MethodName)) ∈ gws := gws_mem (kt_3 _ (List.mem_of_getElem? (i := 121) rfl)) rfl
theorem kw_603 : (Jvm.Cond.instanceMethod ({ cls := "ClockedFlows", name := "explains", desc := "(II)Z" } : Jvm.MethodName)) ∈ gws := gws_mem (kt_3 _ (List.mem_of_getElem? (i := 123) rfl)) rfl
theorem kw_604 : (Jvm.Cond.code ({ cls := "ClockedFlows", name := "explains", desc := "(II)Z" } : Jvm.MethodName) prog_1_method_32_code (5 : Nat) (Option.some Jvm.ClassFile.FieldType.boolean)) ∈ gws := gws_mem (kt_3 _ (List.mem_of_getElem? (i := 124) rfl)) rfl
theorem kw_605 : (Jvm.Cond.methodLink "ClockedFlows" (232 : Nat) ({ cls := "ClockedFlows$Sights", name := "lastTick", desc := "()I" } : Jvm.MethodName)) ∈ gws := gws_mem (kt_3 _ (List.mem_of_getElem? (i := 125) rfl)) rfl
theorem kw_606 : (Jvm.Cond.instanceMethod ({ cls := "ClockedFlows$Sights", name := "lastTick", desc := "()I" } : Jvm.MethodName)) ∈ gws := gws_mem (kt_3 _ (List.mem_of_getElem? (i := 126) rfl)) rfl
theorem kw_607 : (Jvm.Cond.selects "ClockedFlows$Sights" ({ cls := "ClockedFlows$Sights", name := "lastTick", desc := "()I" } : Jvm.MethodName) ({ cls := "ClockedFlows$Sights", name := "lastTick", desc := "()I" } : Jvm.MethodName)) ∈ gws := gws_mem (kt_3 _ (List.mem_of_getElem? (i := 127) rfl)) rfl
theorem kw_608 : (Jvm.Cond.code ({ cls := "ClockedFlows$Sights", name := "lastTick", desc := "()I" } : Jvm.MethodName) prog_5_method_3_code (3 : Nat) (Option.some Jvm.ClassFile.FieldType.int)) ∈ gws := gws_mem (kt_3 _ (List.mem_of_getElem? (i := 128) rfl)) rfl
theorem kw_609 : (Jvm.Cond.methodLink "ClockedFlows$Sights" (29 : Nat) ({ cls := "java/lang/Math", name := "max", desc := "(II)I" } : Jvm.MethodName)) ∈ gws := gws_mem (kt_3 _ (List.mem_of_getElem? (i := 129) rfl)) rfl
theorem kw_610 : (Jvm.Cond.methodLink "ClockedFlows" (235 : Nat) ({ cls := "ClockedFlows$Sights", name := "fit", desc := "(ILClockedFlows$Flow;)Z" } : Jvm.MethodName)) ∈ gws := gws_mem (kt_3 _ (List.mem_of_getElem? (i := 130) rfl)) rfl
theorem kw_611 : (Jvm.Cond.instanceMethod ({ cls := "ClockedFlows$Sights", name := "fit", desc := "(ILClockedFlows$Flow;)Z" } : Jvm.MethodName)) ∈ gws := gws_mem (kt_3 _ (List.mem_of_getElem? (i := 131) rfl)) rfl
theorem kw_612 : (Jvm.Cond.selects "ClockedFlows$Sights" ({ cls := "ClockedFlows$Sights", name := "fit", desc := "(ILClockedFlows$Flow;)Z" } : Jvm.MethodName) ({ cls := "ClockedFlows$Sights", name := "fit", desc := "(ILClockedFlows$Flow;)Z" } : Jvm.MethodName)) ∈ gws := gws_mem (kt_3 _ (List.mem_of_getElem? (i := 132) rfl)) rfl
theorem kw_613 : (Jvm.Cond.code ({ cls := "ClockedFlows$Sights", name := "fit", desc := "(ILClockedFlows$Flow;)Z" } : Jvm.MethodName) prog_5_method_4_code (4 : Nat) (Option.some Jvm.ClassFile.FieldType.boolean)) ∈ gws := gws_mem (kt_3 _ (List.mem_of_getElem? (i := 133) rfl)) rfl
theorem kw_614 : (Jvm.Cond.methodLink "ClockedFlows$Sights" (35 : Nat) ({ cls := "ClockedFlows$Flow", name := "valueOf", desc := "(I)I" } : Jvm.MethodName)) ∈ gws := gws_mem (kt_3 _ (List.mem_of_getElem? (i := 134) rfl)) rfl
theorem kw_615 : (Jvm.Cond.methodLink "ClockedFlowsLaw" (98 : Nat) ({ cls := "ClockedFlows", name := "odds", desc := "(IIIIZ)I" } : Jvm.MethodName)) ∈ gws := gws_mem (kt_3 _ (List.mem_of_getElem? (i := 135) rfl)) rfl
theorem kw_616 : (Jvm.Cond.instanceMethod ({ cls := "ClockedFlows", name := "odds", desc := "(IIIIZ)I" } : Jvm.MethodName)) ∈ gws := gws_mem (kt_3 _ (List.mem_of_getElem? (i := 136) rfl)) rfl
theorem kw_617 : (Jvm.Cond.selects "ClockedFlows" ({ cls := "ClockedFlows", name := "odds", desc := "(IIIIZ)I" } : Jvm.MethodName) ({ cls := "ClockedFlows", name := "odds", desc := "(IIIIZ)I" } : Jvm.MethodName)) ∈ gws := gws_mem (kt_3 _ (List.mem_of_getElem? (i := 137) rfl)) rfl
theorem kw_618 : (Jvm.Cond.code ({ cls := "ClockedFlows", name := "odds", desc := "(IIIIZ)I" } : Jvm.MethodName) prog_1_method_21_code (9 : Nat) (Option.some Jvm.ClassFile.FieldType.int)) ∈ gws := gws_mem (kt_3 _ (List.mem_of_getElem? (i := 138) rfl)) rfl
theorem kw_619 : (Jvm.Cond.methodLink "ClockedFlows" (194 : Nat) ({ cls := "ClockedFlows", name := "timesThere", desc := "(III)I" } : Jvm.MethodName)) ∈ gws := gws_mem (kt_3 _ (List.mem_of_getElem? (i := 139) rfl)) rfl
theorem kw_621 : (Jvm.Cond.instanceMethod ({ cls := "ClockedFlows", name := "timesThere", desc := "(III)I" } : Jvm.MethodName)) ∈ gws := gws_mem (kt_3 _ (List.mem_of_getElem? (i := 141) rfl)) rfl
theorem kw_622 : (Jvm.Cond.code ({ cls := "ClockedFlows", name := "timesThere", desc := "(III)I" } : Jvm.MethodName) prog_1_method_33_code (6 : Nat) (Option.some Jvm.ClassFile.FieldType.int)) ∈ gws := gws_mem (kt_3 _ (List.mem_of_getElem? (i := 142) rfl)) rfl
theorem kw_623 : (Jvm.Cond.methodLink "ClockedFlows" (198 : Nat) ({ cls := "ClockedFlows", name := "weight", desc := "(III)I" } : Jvm.MethodName)) ∈ gws := gws_mem (kt_3 _ (List.mem_of_getElem? (i := 143) rfl)) rfl
theorem kw_624 : (Jvm.Cond.static ({ cls := "ClockedFlows", name := "weight", desc := "(III)I" } : Jvm.MethodName)) ∈ gws := gws_mem (kt_3 _ (List.mem_of_getElem? (i := 144) rfl)) rfl
theorem kw_625 : (Jvm.Cond.code ({ cls := "ClockedFlows", name := "weight", desc := "(III)I" } : Jvm.MethodName) prog_1_method_34_code (5 : Nat) (Option.some Jvm.ClassFile.FieldType.int)) ∈ gws := gws_mem (kt_3 _ (List.mem_of_getElem? (i := 145) rfl)) rfl
theorem kw_626 : (Jvm.Cond.constantLong "ClockedFlows" (201 : Nat) (10 : Int64)) ∈ gws := gws_mem (kt_3 _ (List.mem_of_getElem? (i := 146) rfl)) rfl
theorem kw_627 : (Jvm.Cond.methodLink "ClockedFlows" (203 : Nat) ({ cls := "ClockedFlows", name := "commonDivisor", desc := "(II)I" } : Jvm.MethodName)) ∈ gws := gws_mem (kt_3 _ (List.mem_of_getElem? (i := 147) rfl)) rfl
theorem kw_628 : (Jvm.Cond.static ({ cls := "ClockedFlows", name := "commonDivisor", desc := "(II)I" } : Jvm.MethodName)) ∈ gws := gws_mem (kt_3 _ (List.mem_of_getElem? (i := 148) rfl)) rfl
theorem kw_629 : (Jvm.Cond.code ({ cls := "ClockedFlows", name := "commonDivisor", desc := "(II)I" } : Jvm.MethodName) prog_1_method_35_code (6 : Nat) (Option.some Jvm.ClassFile.FieldType.int)) ∈ gws := gws_mem (kt_3 _ (List.mem_of_getElem? (i := 149) rfl)) rfl
theorem kw_630 : (Jvm.Cond.methodLink "ClockedFlowsLaw" (103 : Nat) ({ cls := "ClockedFlows", name := "seed", desc := "(J)J" } : Jvm.MethodName)) ∈ gws := gws_mem (kt_3 _ (List.mem_of_getElem? (i := 150) rfl)) rfl
theorem kw_631 : (Jvm.Cond.instanceMethod ({ cls := "ClockedFlows", name := "seed", desc := "(J)J" } : Jvm.MethodName)) ∈ gws := gws_mem (kt_3 _ (List.mem_of_getElem? (i := 151) rfl)) rfl
theorem kw_632 : (Jvm.Cond.selects "ClockedFlows" ({ cls := "ClockedFlows", name := "seed", desc := "(J)J" } : Jvm.MethodName) ({ cls := "ClockedFlows", name := "seed", desc := "(J)J" } : Jvm.MethodName)) ∈ gws := gws_mem (kt_3 _ (List.mem_of_getElem? (i := 152) rfl)) rfl
theorem kw_633 : (Jvm.Cond.code ({ cls := "ClockedFlows", name := "seed", desc := "(J)J" } : Jvm.MethodName) prog_1_method_22_code (5 : Nat) (Option.some Jvm.ClassFile.FieldType.long)) ∈ gws := gws_mem (kt_3 _ (List.mem_of_getElem? (i := 153) rfl)) rfl
theorem kw_634 : (Jvm.Cond.methodLink "ClockedFlowsLaw" (108 : Nat) ({ cls := "ClockedFlows", name := "runs", desc := "(I)I" } : Jvm.MethodName)) ∈ gws := gws_mem (kt_3 _ (List.mem_of_getElem? (i := 154) rfl)) rfl
theorem kw_635 : (Jvm.Cond.instanceMethod ({ cls := "ClockedFlows", name := "runs", desc := "(I)I" } : Jvm.MethodName)) ∈ gws := gws_mem (kt_3 _ (List.mem_of_getElem? (i := 155) rfl)) rfl
theorem kw_636 : (Jvm.Cond.selects "ClockedFlows" ({ cls := "ClockedFlows", name := "runs", desc := "(I)I" } : Jvm.MethodName) ({ cls := "ClockedFlows", name := "runs", desc := "(I)I" } : Jvm.MethodName)) ∈ gws := gws_mem (kt_3 _ (List.mem_of_getElem? (i := 156) rfl)) rfl
theorem kw_637 : (Jvm.Cond.code ({ cls := "ClockedFlows", name := "runs", desc := "(I)I" } : Jvm.MethodName) prog_1_method_23_code (5 : Nat) (Option.some Jvm.ClassFile.FieldType.int)) ∈ gws := gws_mem (kt_3 _ (List.mem_of_getElem? (i := 157) rfl)) rfl
theorem kw_638 : (Jvm.Cond.constantLong "ClockedFlows" (206 : Nat) (6364136223846793005 : Int64)) ∈ gws := gws_mem (kt_3 _ (List.mem_of_getElem? (i := 158) rfl)) rfl
theorem kw_639 : (Jvm.Cond.constantLong "ClockedFlows" (208 : Nat) (1442695040888963407 : Int64)) ∈ gws := gws_mem (kt_3 _ (List.mem_of_getElem? (i := 159) rfl)) rfl
theorem kw_640 : (Jvm.Cond.methodLink "ClockedFlows" (210 : Nat) ({ cls := "ClockedFlows$Flow", name := "sumOfThere", desc := "()I" } : Jvm.MethodName)) ∈ gws := gws_mem (kt_3 _ (List.mem_of_getElem? (i := 160) rfl)) rfl
theorem kw_641 : (Jvm.Cond.instanceMethod ({ cls := "ClockedFlows$Flow", name := "sumOfThere", desc := "()I" } : Jvm.MethodName)) ∈ gws := gws_mem (kt_3 _ (List.mem_of_getElem? (i := 161) rfl)) rfl
theorem kw_642 : (Jvm.Cond.selects "ClockedFlows$Flow" ({ cls := "ClockedFlows$Flow", name := "sumOfThere", desc := "()I" } : Jvm.MethodName) ({ cls := "ClockedFlows$Flow", name := "sumOfThere", desc := "()I" } : Jvm.MethodName)) ∈ gws := gws_mem (kt_3 _ (List.mem_of_getElem? (i := 162) rfl)) rfl
theorem kw_643 : (Jvm.Cond.code ({ cls := "ClockedFlows$Flow", name := "sumOfThere", desc := "()I" } : Jvm.MethodName) prog_3_method_12_code (3 : Nat) (Option.some Jvm.ClassFile.FieldType.int)) ∈ gws := gws_mem (kt_3 _ (List.mem_of_getElem? (i := 163) rfl)) rfl
theorem kw_644 : (Jvm.Cond.methodLink "ClockedFlowsLaw" (112 : Nat) ({ cls := "ClockedFlows", name := "keep", desc := "(I)I" } : Jvm.MethodName)) ∈ gws := gws_mem (kt_3 _ (List.mem_of_getElem? (i := 164) rfl)) rfl
theorem kw_645 : (Jvm.Cond.instanceMethod ({ cls := "ClockedFlows", name := "keep", desc := "(I)I" } : Jvm.MethodName)) ∈ gws := gws_mem (kt_3 _ (List.mem_of_getElem? (i := 165) rfl)) rfl
theorem kw_646 : (Jvm.Cond.selects "ClockedFlows" ({ cls := "ClockedFlows", name := "keep", desc := "(I)I" } : Jvm.MethodName) ({ cls := "ClockedFlows", name := "keep", desc := "(I)I" } : Jvm.MethodName)) ∈ gws := gws_mem (kt_3 _ (List.mem_of_getElem? (i := 166) rfl)) rfl
theorem kw_647 : (Jvm.Cond.code ({ cls := "ClockedFlows", name := "keep", desc := "(I)I" } : Jvm.MethodName) prog_1_method_24_code (2 : Nat) (Option.some Jvm.ClassFile.FieldType.int)) ∈ gws := gws_mem (kt_3 _ (List.mem_of_getElem? (i := 167) rfl)) rfl
theorem kw_648 : (Jvm.Cond.methodLink "ClockedFlows" (213 : Nat) ({ cls := "ClockedFlows", name := "carry", desc := "(LClockedFlows$Flow;LClockedFlows$Flow;)V" } : Jvm.MethodName)) ∈ gws := gws_mem (kt_3 _ (List.mem_of_getElem? (i := 168) rfl)) rfl
theorem kw_649 : (Jvm.Cond.methodLink "ClockedFlowsLaw" (116 : Nat) ({ cls := "ClockedFlows", name := "again", desc := "(I)I" } : Jvm.MethodName)) ∈ gws := gws_mem (kt_3 _ (List.mem_of_getElem? (i := 169) rfl)) rfl
theorem kw_650 : (Jvm.Cond.instanceMethod ({ cls := "ClockedFlows", name := "again", desc := "(I)I" } : Jvm.MethodName)) ∈ gws := gws_mem (kt_3 _ (List.mem_of_getElem? (i := 170) rfl)) rfl
theorem kw_651 : (Jvm.Cond.selects "ClockedFlows" ({ cls := "ClockedFlows", name := "again", desc := "(I)I" } : Jvm.MethodName) ({ cls := "ClockedFlows", name := "again", desc := "(I)I" } : Jvm.MethodName)) ∈ gws := gws_mem (kt_3 _ (List.mem_of_getElem? (i := 171) rfl)) rfl
theorem kw_652 : (Jvm.Cond.code ({ cls := "ClockedFlows", name := "again", desc := "(I)I" } : Jvm.MethodName) prog_1_method_25_code (2 : Nat) (Option.some Jvm.ClassFile.FieldType.int)) ∈ gws := gws_mem (kt_3 _ (List.mem_of_getElem? (i := 172) rfl)) rfl
theorem kw_653 : (Jvm.Cond.classLink "ClockedFlowsLaw" (10 : Nat) "ClockedFlowsModel") ∈ gws := gws_mem (kt_3 _ (List.mem_of_getElem? (i := 173) rfl)) rfl
theorem kw_654 : (Jvm.Cond.instantiable "ClockedFlowsModel" (28 : Nat)) ∈ gws := gws_mem (kt_3 _ (List.mem_of_getElem? (i := 174) rfl)) rfl
theorem kw_655 : (Jvm.Cond.methodLink "ClockedFlowsLaw" (12 : Nat) ({ cls := "ClockedFlowsModel", name := "<init>", desc := "()V" } : Jvm.MethodName)) ∈ gws := gws_mem (kt_3 _ (List.mem_of_getElem? (i := 175) rfl)) rfl
theorem kw_656 : (Jvm.Cond.instanceMethod ({ cls := "ClockedFlowsModel", name := "<init>", desc := "()V" } : Jvm.MethodName)) ∈ gws := gws_mem (kt_3 _ (List.mem_of_getElem? (i := 176) rfl)) rfl
theorem kw_657 : (Jvm.Cond.code ({ cls := "ClockedFlowsModel", name := "<init>", desc := "()V" } : Jvm.MethodName) prog_8_method_1_code (1 : Nat) (Option.none : Option Jvm.ClassFile.FieldType)) ∈ gws := gws_mem (kt_3 _ (List.mem_of_getElem? (i := 177) rfl)) rfl
theorem kw_658 : (Jvm.Cond.methodLink "ClockedFlowsModel" (1 : Nat) ({ cls := "java/lang/Object", name := "<init>", desc := "()V" } : Jvm.MethodName)) ∈ gws := gws_mem (kt_3 _ (List.mem_of_getElem? (i := 178) rfl)) rfl
theorem kw_659 : (Jvm.Cond.fieldLink "ClockedFlowsModel" (62 : Nat) "ClockedFlowsModel" "thrown" "I") ∈ gws := gws_mem (kt_3 _ (List.mem_of_getElem? (i := 179) rfl)) rfl
theorem kw_660 : (Jvm.Cond.fieldLink "ClockedFlowsModel" (7 : Nat) "ClockedFlowsModel" "text" "[I") ∈ gws := gws_mem (kt_3 _ (List.mem_of_getElem? (i := 180) rfl)) rfl
theorem kw_661 : (Jvm.Cond.fieldLink "ClockedFlowsModel" (76 : Nat) "ClockedFlowsModel" "textSize" "I") ∈ gws := gws_mem (kt_3 _ (List.mem_of_getElem? (i := 181) rfl)) rfl
theorem kw_662 : (Jvm.Cond.fieldLink "ClockedFlowsModel" (79 : Nat) "ClockedFlowsModel" "place" "I") ∈ gws := gws_mem (kt_3 _ (List.mem_of_getElem? (i := 182) rfl)) rfl
theorem kw_663 : (Jvm.Cond.fieldLink "ClockedFlowsModel" (13 : Nat) "ClockedFlowsModel" "readPage" "[I") ∈ gws := gws_mem (kt_3 _ (List.mem_of_getElem? (i := 183) rfl)) rfl
theorem kw_664 : (Jvm.Cond.fieldLink "ClockedFlowsModel" (16 : Nat) "ClockedFlowsModel" "page" "[I") ∈ gws := gws_mem (kt_3 _ (List.mem_of_getElem? (i := 184) rfl)) rfl
theorem kw_665 : (Jvm.Cond.fieldLink "ClockedFlowsModel" (19 : Nat) "ClockedFlowsModel" "trial" "[I") ∈ gws := gws_mem (kt_3 _ (List.mem_of_getElem? (i := 185) rfl)) rfl
theorem kw_666 : (Jvm.Cond.fieldLink "ClockedFlowsModel" (22 : Nat) "ClockedFlowsModel" "book" "[I") ∈ gws := gws_mem (kt_3 _ (List.mem_of_getElem? (i := 186) rfl)) rfl
theorem kw_667 : (Jvm.Cond.fieldLink "ClockedFlowsModel" (184 : Nat) "ClockedFlowsModel" "doings" "I") ∈ gws := gws_mem (kt_3 _ (List.mem_of_getElem? (i := 187) rfl)) rfl
theorem kw_668 : (Jvm.Cond.fieldLink "ClockedFlowsModel" (25 : Nat) "ClockedFlowsModel" "slots" "[I") ∈ gws := gws_mem (kt_3 _ (List.mem_of_getElem? (i := 188) rfl)) rfl
theorem kw_669 : (Jvm.Cond.fieldLink "ClockedFlowsModel" (28 : Nat) "ClockedFlowsModel" "isKept" "[Z") ∈ gws := gws_mem (kt_3 _ (List.mem_of_getElem? (i := 189) rfl)) rfl
theorem kw_670 : (Jvm.Cond.fieldLink "ClockedFlowsModel" (193 : Nat) "ClockedFlowsModel" "seen" "I") ∈ gws := gws_mem (kt_3 _ (List.mem_of_getElem? (i := 190) rfl)) rfl
theorem kw_671 : (Jvm.Cond.fieldLink "ClockedFlowsModel" (32 : Nat) "ClockedFlowsModel" "seenWhen" "[I") ∈ gws := gws_mem (kt_3 _ (List.mem_of_getElem? (i := 191) rfl)) rfl
theorem kw_672 : (Jvm.Cond.fieldLink "ClockedFlowsModel" (35 : Nat) "ClockedFlowsModel" "seenWho" "[I") ∈ gws := gws_mem (kt_3 _ (List.mem_of_getElem? (i := 192) rfl)) rfl
theorem kw_673 : (Jvm.Cond.fieldLink "ClockedFlowsModel" (38 : Nat) "ClockedFlowsModel" "seenWhat" "[I") ∈ gws := gws_mem (kt_3 _ (List.mem_of_getElem? (i := 193) rfl)) rfl
theorem kw_674 : (Jvm.Cond.fieldLink "ClockedFlowsModel" (41 : Nat) "ClockedFlowsModel" "seenIs" "[I") ∈ gws := gws_mem (kt_3 _ (List.mem_of_getElem? (i := 194) rfl)) rfl
theorem kw_675 : (Jvm.Cond.fieldLink "ClockedFlowsModel" (281 : Nat) "ClockedFlowsModel" "seed" "J") ∈ gws := gws_mem (kt_3 _ (List.mem_of_getElem? (i := 195) rfl)) rfl
theorem kw_676 : (Jvm.Cond.fieldLink "ClockedFlowsModel" (44 : Nat) "ClockedFlowsModel" "up" "[I") ∈ gws := gws_mem (kt_3 _ (List.mem_of_getElem? (i := 196) rfl)) rfl
theorem kw_677 : (Jvm.Cond.fieldLink "ClockedFlowsModel" (47 : Nat) "ClockedFlowsModel" "term" "[I") ∈ gws := gws_mem (kt_3 _ (List.mem_of_getElem? (i := 197) rfl)) rfl
theorem kw_678 : (Jvm.Cond.fieldLink "ClockedFlowsModel" (114 : Nat) "ClockedFlowsModel" "clash" "I") ∈ gws := gws_mem (kt_3 _ (List.mem_of_getElem? (i := 198) rfl)) rfl
theorem kw_679 : (Jvm.Cond.fieldLink "ClockedFlowsModel" (135 : Nat) "ClockedFlowsModel" "knot" "I") ∈ gws := gws_mem (kt_3 _ (List.mem_of_getElem? (i := 199) rfl)) rfl
theorem kw_680 : (Jvm.Cond.fieldLink "ClockedFlowsModel" (149 : Nat) "ClockedFlowsModel" "raw" "I") ∈ gws := gws_mem (kt_3 _ (List.mem_of_getElem? (i := 200) rfl)) rfl
theorem kw_681 : (Jvm.Cond.fieldLink "ClockedFlowsModel" (50 : Nat) "ClockedFlowsModel" "order" "[I") ∈ gws := gws_mem (kt_3 _ (List.mem_of_getElem? (i := 201) rfl)) rfl
theorem kw_682 : (Jvm.Cond.fieldLink "ClockedFlowsModel" (53 : Nat) "ClockedFlowsModel" "level" "[I") ∈ gws := gws_mem (kt_3 _ (List.mem_of_getElem? (i := 202) rfl)) rfl
theorem kw_683 : (Jvm.Cond.fieldLink "ClockedFlowsModel" (56 : Nat) "ClockedFlowsModel" "chain" "[I") ∈ gws := gws_mem (kt_3 _ (List.mem_of_getElem? (i := 203) rfl)) rfl
theorem kw_684 : (Jvm.Cond.fieldLink "ClockedFlowsModel" (59 : Nat) "ClockedFlowsModel" "states" "[I") ∈ gws := gws_mem (kt_3 _ (List.mem_of_getElem? (i := 204) rfl)) rfl
theorem kw_685 : (Jvm.Cond.fieldLink "ClockedFlowsModel" (256 : Nat) "ClockedFlowsModel" "inputMany" "I") ∈ gws := gws_mem (kt_3 _ (List.mem_of_getElem? (i := 205) rfl)) rfl
theorem kw_686 : (Jvm.Cond.fieldLink "ClockedFlowsModel" (259 : Nat) "ClockedFlowsModel" "inputFirst" "I") ∈ gws := gws_mem (kt_3 _ (List.mem_of_getElem? (i := 206) rfl)) rfl
theorem kw_687 : (Jvm.Cond.lays "ClockedFlowsModel" "ClockedFlowsModel" "thrown" "I") ∈ gws := gws_mem (kt_3 _ (List.mem_of_getElem? (i := 207) rfl)) rfl
theorem kw_689 : (Jvm.Cond.laysFinal "ClockedFlowsModel" "ClockedFlowsModel" "text" "[I") ∈ gws := gws_mem (kt_3 _ (List.mem_of_getElem? (i := 209) rfl)) rfl
theorem kw_691 : (Jvm.Cond.lays "ClockedFlowsModel" "ClockedFlowsModel" "textSize" "I") ∈ gws := gws_mem (kt_3 _ (List.mem_of_getElem? (i := 211) rfl)) rfl
theorem kw_693 : (Jvm.Cond.lays "ClockedFlowsModel" "ClockedFlowsModel" "place" "I") ∈ gws := gws_mem (kt_3 _ (List.mem_of_getElem? (i := 213) rfl)) rfl
theorem kw_695 : (Jvm.Cond.laysFinal "ClockedFlowsModel" "ClockedFlowsModel" "readPage" "[I") ∈ gws := gws_mem (kt_3 _ (List.mem_of_getElem? (i := 215) rfl)) rfl
theorem kw_697 : (Jvm.Cond.laysFinal "ClockedFlowsModel" "ClockedFlowsModel" "page" "[I") ∈ gws := gws_mem (kt_3 _ (List.mem_of_getElem? (i := 217) rfl)) rfl
theorem kw_699 : (Jvm.Cond.laysFinal "ClockedFlowsModel" "ClockedFlowsModel" "trial" "[I") ∈ gws := gws_mem (kt_3 _ (List.mem_of_getElem? (i := 219) rfl)) rfl
theorem kw_701 : (Jvm.Cond.laysFinal "ClockedFlowsModel" "ClockedFlowsModel" "book" "[I") ∈ gws := gws_mem (kt_3 _ (List.mem_of_getElem? (i := 221) rfl)) rfl
theorem kw_703 : (Jvm.Cond.lays "ClockedFlowsModel" "ClockedFlowsModel" "doings" "I") ∈ gws := gws_mem (kt_3 _ (List.mem_of_getElem? (i := 223) rfl)) rfl
theorem kw_705 : (Jvm.Cond.laysFinal "ClockedFlowsModel" "ClockedFlowsModel" "slots" "[I") ∈ gws := gws_mem (kt_3 _ (List.mem_of_getElem? (i := 225) rfl)) rfl
theorem kw_707 : (Jvm.Cond.laysFinal "ClockedFlowsModel" "ClockedFlowsModel" "isKept" "[Z") ∈ gws := gws_mem (kt_3 _ (List.mem_of_getElem? (i := 227) rfl)) rfl
theorem kw_709 : (Jvm.Cond.lays "ClockedFlowsModel" "ClockedFlowsModel" "seen" "I") ∈ gws := gws_mem (kt_3 _ (List.mem_of_getElem? (i := 229) rfl)) rfl
theorem kw_711 : (Jvm.Cond.laysFinal "ClockedFlowsModel" "ClockedFlowsModel" "seenWhen" "[I") ∈ gws := gws_mem (kt_3 _ (List.mem_of_getElem? (i := 231) rfl)) rfl
theorem kw_713 : (Jvm.Cond.laysFinal "ClockedFlowsModel" "ClockedFlowsModel" "seenWho" "[I") ∈ gws := gws_mem (kt_3 _ (List.mem_of_getElem? (i := 233) rfl)) rfl
theorem kw_715 : (Jvm.Cond.laysFinal "ClockedFlowsModel" "ClockedFlowsModel" "seenWhat" "[I") ∈ gws := gws_mem (kt_3 _ (List.mem_of_getElem? (i := 235) rfl)) rfl
theorem kw_717 : (Jvm.Cond.laysFinal "ClockedFlowsModel" "ClockedFlowsModel" "seenIs" "[I") ∈ gws := gws_mem (kt_3 _ (List.mem_of_getElem? (i := 237) rfl)) rfl
theorem kw_719 : (Jvm.Cond.lays "ClockedFlowsModel" "ClockedFlowsModel" "seed" "J") ∈ gws := gws_mem (kt_3 _ (List.mem_of_getElem? (i := 239) rfl)) rfl
theorem kw_721 : (Jvm.Cond.laysFinal "ClockedFlowsModel" "ClockedFlowsModel" "up" "[I") ∈ gws := gws_mem (kt_4 _ (List.mem_of_getElem? (i := 1) rfl)) rfl
theorem kw_723 : (Jvm.Cond.laysFinal "ClockedFlowsModel" "ClockedFlowsModel" "term" "[I") ∈ gws := gws_mem (kt_4 _ (List.mem_of_getElem? (i := 3) rfl)) rfl
theorem kw_725 : (Jvm.Cond.lays "ClockedFlowsModel" "ClockedFlowsModel" "clash" "I") ∈ gws := gws_mem (kt_4 _ (List.mem_of_getElem? (i := 5) rfl)) rfl
theorem kw_727 : (Jvm.Cond.lays "ClockedFlowsModel" "ClockedFlowsModel" "knot" "I") ∈ gws := gws_mem (kt_4 _ (List.mem_of_getElem? (i := 7) rfl)) rfl
theorem kw_729 : (Jvm.Cond.lays "ClockedFlowsModel" "ClockedFlowsModel" "raw" "I") ∈ gws := gws_mem (kt_4 _ (List.mem_of_getElem? (i := 9) rfl)) rfl
theorem kw_731 : (Jvm.Cond.laysFinal "ClockedFlowsModel" "ClockedFlowsModel" "order" "[I") ∈ gws := gws_mem (kt_4 _ (List.mem_of_getElem? (i := 11) rfl)) rfl
theorem kw_733 : (Jvm.Cond.laysFinal "ClockedFlowsModel" "ClockedFlowsModel" "level" "[I") ∈ gws := gws_mem (kt_4 _ (List.mem_of_getElem? (i := 13) rfl)) rfl
theorem kw_735 : (Jvm.Cond.laysFinal "ClockedFlowsModel" "ClockedFlowsModel" "chain" "[I") ∈ gws := gws_mem (kt_4 _ (List.mem_of_getElem? (i := 15) rfl)) rfl
theorem kw_737 : (Jvm.Cond.laysFinal "ClockedFlowsModel" "ClockedFlowsModel" "states" "[I") ∈ gws := gws_mem (kt_4 _ (List.mem_of_getElem? (i := 17) rfl)) rfl
theorem kw_739 : (Jvm.Cond.lays "ClockedFlowsModel" "ClockedFlowsModel" "inputMany" "I") ∈ gws := gws_mem (kt_4 _ (List.mem_of_getElem? (i := 19) rfl)) rfl
theorem kw_741 : (Jvm.Cond.lays "ClockedFlowsModel" "ClockedFlowsModel" "inputFirst" "I") ∈ gws := gws_mem (kt_4 _ (List.mem_of_getElem? (i := 21) rfl)) rfl
theorem kw_744 : (Jvm.Cond.methodLink "ClockedFlowsLaw" (17 : Nat) ({ cls := "ClockedFlowsModel", name := "write", desc := "(I)I" } : Jvm.MethodName)) ∈ gws := gws_mem (kt_4 _ (List.mem_of_getElem? (i := 24) rfl)) rfl
theorem kw_745 : (Jvm.Cond.instanceMethod ({ cls := "ClockedFlowsModel", name := "write", desc := "(I)I" } : Jvm.MethodName)) ∈ gws := gws_mem (kt_4 _ (List.mem_of_getElem? (i := 25) rfl)) rfl
theorem kw_746 : (Jvm.Cond.selects "ClockedFlowsModel" ({ cls := "ClockedFlowsModel", name := "write", desc := "(I)I" } : Jvm.MethodName) ({ cls := "ClockedFlowsModel", name := "write", desc := "(I)I" } : Jvm.MethodName)) ∈ gws := gws_mem (kt_4 _ (List.mem_of_getElem? (i := 26) rfl)) rfl
theorem kw_747 : (Jvm.Cond.code ({ cls := "ClockedFlowsModel", name := "write", desc := "(I)I" } : Jvm.MethodName) prog_8_method_11_code (2 : Nat) (Option.some Jvm.ClassFile.FieldType.int)) ∈ gws := gws_mem (kt_4 _ (List.mem_of_getElem? (i := 27) rfl)) rfl
theorem kw_748 : (Jvm.Cond.constantLong "ClockedFlowsModel" (74 : Nat) (255 : Int64)) ∈ gws := gws_mem (kt_4 _ (List.mem_of_getElem? (i := 28) rfl)) rfl
theorem kw_749 : (Jvm.Cond.methodLink "ClockedFlowsModel" (66 : Nat) ({ cls := "ClockedFlowsModel", name := "in", desc := "(JJJ)Z" } : Jvm.MethodName)) ∈ gws := gws_mem (kt_4 _ (List.mem_of_getElem? (i := 29) rfl)) rfl
theorem kw_750 : (Jvm.Cond.static ({ cls := "ClockedFlowsModel", name := "in", desc := "(JJJ)Z" } : Jvm.MethodName)) ∈ gws := gws_mem (kt_4 _ (List.mem_of_getElem? (i := 30) rfl)) rfl
theorem kw_751 : (Jvm.Cond.code ({ cls := "ClockedFlowsModel", name := "in", desc := "(JJJ)Z" } : Jvm.MethodName) prog_8_method_3_code (6 : Nat) (Option.some Jvm.ClassFile.FieldType.boolean)) ∈ gws := gws_mem (kt_4 _ (List.mem_of_getElem? (i := 31) rfl)) rfl
theorem kw_752 : (Jvm.Cond.methodLink "ClockedFlowsLaw" (22 : Nat) ({ cls := "ClockedFlowsModel", name := "wipe", desc := "()I" } : Jvm.MethodName)) ∈ gws := gws_mem (kt_4 _ (List.mem_of_getElem? (i := 32) rfl)) rfl
theorem kw_753 : (Jvm.Cond.instanceMethod ({ cls := "ClockedFlowsModel", name := "wipe", desc := "()I" } : Jvm.MethodName)) ∈ gws := gws_mem (kt_4 _ (List.mem_of_getElem? (i := 33) rfl)) rfl
theorem kw_754 : (Jvm.Cond.selects "ClockedFlowsModel" ({ cls := "ClockedFlowsModel", name := "wipe", desc := "()I" } : Jvm.MethodName) ({ cls := "ClockedFlowsModel", name := "wipe", desc := "()I" } : Jvm.MethodName)) ∈ gws := gws_mem (kt_4 _ (List.mem_of_getElem? (i := 34) rfl)) rfl
theorem kw_755 : (Jvm.Cond.code ({ cls := "ClockedFlowsModel", name := "wipe", desc := "()I" } : Jvm.MethodName) prog_8_method_12_code (2 : Nat) (Option.some Jvm.ClassFile.FieldType.int)) ∈ gws := gws_mem (kt_4 _ (List.mem_of_getElem? (i := 35) rfl)) rfl
theorem kw_756 : (Jvm.Cond.methodLink "ClockedFlowsLaw" (26 : Nat) ({ cls := "ClockedFlowsModel", name := "fault", desc := "()I" } : Jvm.MethodName)) ∈ gws := gws_mem (kt_4 _ (List.mem_of_getElem? (i := 36) rfl)) rfl
theorem kw_757 : (Jvm.Cond.instanceMethod ({ cls := "ClockedFlowsModel", name := "fault", desc := "()I" } : Jvm.MethodName)) ∈ gws := gws_mem (kt_4 _ (List.mem_of_getElem? (i := 37) rfl)) rfl
theorem kw_758 : (Jvm.Cond.selects "ClockedFlowsModel" ({ cls := "ClockedFlowsModel", name := "fault", desc := "()I" } : Jvm.MethodName) ({ cls := "ClockedFlowsModel", name := "fault", desc := "()I" } : Jvm.MethodName)) ∈ gws := gws_mem (kt_4 _ (List.mem_of_getElem? (i := 38) rfl)) rfl
theorem kw_759 : (Jvm.Cond.code ({ cls := "ClockedFlowsModel", name := "fault", desc := "()I" } : Jvm.MethodName) prog_8_method_16_code (1 : Nat) (Option.some Jvm.ClassFile.FieldType.int)) ∈ gws := gws_mem (kt_4 _ (List.mem_of_getElem? (i := 39) rfl)) rfl
theorem kw_760 : (Jvm.Cond.methodLink "ClockedFlowsModel" (98 : Nat) ({ cls := "ClockedFlowsModel", name := "readProgram", desc := "()I" } : Jvm.MethodName)) ∈ gws := gws_mem (kt_4 _ (List.mem_of_getElem? (i := 40) rfl)) rfl
theorem kw_762 : (Jvm.Cond.instanceMethod ({ cls := "ClockedFlowsModel", name := "readProgram", desc := "()I" } : Jvm.MethodName)) ∈ gws := gws_mem (kt_4 _ (List.mem_of_getElem? (i := 42) rfl)) rfl
theorem kw_763 : (Jvm.Cond.code ({ cls := "ClockedFlowsModel", name := "readProgram", desc := "()I" } : Jvm.MethodName) prog_8_method_15_code (3 : Nat) (Option.some Jvm.ClassFile.FieldType.int)) ∈ gws := gws_mem (kt_4 _ (List.mem_of_getElem? (i := 43) rfl)) rfl
theorem kw_764 : (Jvm.Cond.methodLink "ClockedFlowsModel" (82 : Nat) ({ cls := "ClockedFlowsModel", name := "letterAt", desc := "(I)I" } : Jvm.MethodName)) ∈ gws := gws_mem (kt_4 _ (List.mem_of_getElem? (i := 44) rfl)) rfl
theorem kw_766 : (Jvm.Cond.instanceMethod ({ cls := "ClockedFlowsModel", name := "letterAt", desc := "(I)I" } : Jvm.MethodName)) ∈ gws := gws_mem (kt_4 _ (List.mem_of_getElem? (i := 46) rfl)) rfl
theorem kw_767 : (Jvm.Cond.code ({ cls := "ClockedFlowsModel", name := "letterAt", desc := "(I)I" } : Jvm.MethodName) prog_8_method_13_code (2 : Nat) (Option.some Jvm.ClassFile.FieldType.int)) ∈ gws := gws_mem (kt_4 _ (List.mem_of_getElem? (i := 47) rfl)) rfl
theorem kw_768 : (Jvm.Cond.constantLong "ClockedFlowsModel" (92 : Nat) (8 : Int64)) ∈ gws := gws_mem (kt_4 _ (List.mem_of_getElem? (i := 48) rfl)) rfl
theorem kw_769 : (Jvm.Cond.methodLink "ClockedFlowsModel" (94 : Nat) ({ cls := "ClockedFlowsModel", name := "readEquation", desc := "(II)Z" } : Jvm.MethodName)) ∈ gws := gws_mem (kt_4 _ (List.mem_of_getElem? (i := 49) rfl)) rfl
theorem kw_771 : (Jvm.Cond.instanceMethod ({ cls := "ClockedFlowsModel", name := "readEquation", desc := "(II)Z" } : Jvm.MethodName)) ∈ gws := gws_mem (kt_4 _ (List.mem_of_getElem? (i := 51) rfl)) rfl
theorem kw_772 : (Jvm.Cond.code ({ cls := "ClockedFlowsModel", name := "readEquation", desc := "(II)Z" } : Jvm.MethodName) prog_8_method_14_code (6 : Nat) (Option.some Jvm.ClassFile.FieldType.boolean)) ∈ gws := gws_mem (kt_4 _ (List.mem_of_getElem? (i := 52) rfl)) rfl
theorem kw_773 : (Jvm.Cond.methodLink "ClockedFlowsModel" (85 : Nat) ({ cls := "ClockedFlowsModel", name := "kindOf", desc := "(I)I" } : Jvm.MethodName)) ∈ gws := gws_mem (kt_4 _ (List.mem_of_getElem? (i := 53) rfl)) rfl
theorem kw_774 : (Jvm.Cond.static ({ cls := "ClockedFlowsModel", name := "kindOf", desc := "(I)I" } : Jvm.MethodName)) ∈ gws := gws_mem (kt_4 _ (List.mem_of_getElem? (i := 54) rfl)) rfl
theorem kw_775 : (Jvm.Cond.code ({ cls := "ClockedFlowsModel", name := "kindOf", desc := "(I)I" } : Jvm.MethodName) prog_8_method_8_code (1 : Nat) (Option.some Jvm.ClassFile.FieldType.int)) ∈ gws := gws_mem (kt_4 _ (List.mem_of_getElem? (i := 55) rfl)) rfl
theorem kw_776 : (Jvm.Cond.methodLink "ClockedFlowsModel" (70 : Nat) ({ cls := "ClockedFlowsModel", name := "figures", desc := "(I)I" } : Jvm.MethodName)) ∈ gws := gws_mem (kt_4 _ (List.mem_of_getElem? (i := 56) rfl)) rfl
theorem kw_777 : (Jvm.Cond.static ({ cls := "ClockedFlowsModel", name := "figures", desc := "(I)I" } : Jvm.MethodName)) ∈ gws := gws_mem (kt_4 _ (List.mem_of_getElem? (i := 57) rfl)) rfl
theorem kw_778 : (Jvm.Cond.code ({ cls := "ClockedFlowsModel", name := "figures", desc := "(I)I" } : Jvm.MethodName) prog_8_method_7_code (1 : Nat) (Option.some Jvm.ClassFile.FieldType.int)) ∈ gws := gws_mem (kt_4 _ (List.mem_of_getElem? (i := 58) rfl)) rfl
theorem kw_779 : (Jvm.Cond.methodLink "ClockedFlowsModel" (88 : Nat) ({ cls := "ClockedFlowsModel", name := "most", desc := "(III)I" } : Jvm.MethodName)) ∈ gws := gws_mem (kt_4 _ (List.mem_of_getElem? (i := 59) rfl)) rfl
theorem kw_780 : (Jvm.Cond.static ({ cls := "ClockedFlowsModel", name := "most", desc := "(III)I" } : Jvm.MethodName)) ∈ gws := gws_mem (kt_4 _ (List.mem_of_getElem? (i := 60) rfl)) rfl
theorem kw_781 : (Jvm.Cond.code ({ cls := "ClockedFlowsModel", name := "most", desc := "(III)I" } : Jvm.MethodName) prog_8_method_9_code (3 : Nat) (Option.some Jvm.ClassFile.FieldType.int)) ∈ gws := gws_mem (kt_4 _ (List.mem_of_getElem? (i := 61) rfl)) rfl
theorem kw_782 : (Jvm.Cond.methodLink "ClockedFlowsLaw" (30 : Nat) ({ cls := "ClockedFlowsModel", name := "program", desc := "()I" } : Jvm.MethodName)) ∈ gws := gws_mem (kt_4 _ (List.mem_of_getElem? (i := 62) rfl)) rfl
theorem kw_783 : (Jvm.Cond.instanceMethod ({ cls := "ClockedFlowsModel", name := "program", desc := "()I" } : Jvm.MethodName)) ∈ gws := gws_mem (kt_4 _ (List.mem_of_getElem? (i := 63) rfl)) rfl
theorem kw_784 : (Jvm.Cond.selects "ClockedFlowsModel" ({ cls := "ClockedFlowsModel", name := "program", desc := "()I" } : Jvm.MethodName) ({ cls := "ClockedFlowsModel", name := "program", desc := "()I" } : Jvm.MethodName)) ∈ gws := gws_mem (kt_4 _ (List.mem_of_getElem? (i := 64) rfl)) rfl
theorem kw_785 : (Jvm.Cond.code ({ cls := "ClockedFlowsModel", name := "program", desc := "()I" } : Jvm.MethodName) prog_8_method_38_code (2 : Nat) (Option.some Jvm.ClassFile.FieldType.int)) ∈ gws := gws_mem (kt_4 _ (List.mem_of_getElem? (i := 65) rfl)) rfl
theorem kw_786 : (Jvm.Cond.methodLink "ClockedFlowsModel" (181 : Nat) ({ cls := "ClockedFlowsModel", name := "goAfresh", desc := "([I)V" } : Jvm.MethodName)) ∈ gws := gws_mem (kt_4 _ (List.mem_of_getElem? (i := 66) rfl)) rfl
theorem kw_787 : (Jvm.Cond.static ({ cls := "ClockedFlowsModel", name := "goAfresh", desc := "([I)V" } : Jvm.MethodName)) ∈ gws := gws_mem (kt_4 _ (List.mem_of_getElem? (i := 67) rfl)) rfl
theorem kw_788 : (Jvm.Cond.code ({ cls := "ClockedFlowsModel", name := "goAfresh", desc := "([I)V" } : Jvm.MethodName) prog_8_method_32_code (3 : Nat) (Option.none : Option Jvm.ClassFile.FieldType)) ∈ gws := gws_mem (kt_4 _ (List.mem_of_getElem? (i := 68) rfl)) rfl
theorem kw_789 : (Jvm.Cond.methodLink "ClockedFlowsModel" (187 : Nat) ({ cls := "ClockedFlowsModel", name := "soundNow", desc := "()Z" } : Jvm.MethodName)) ∈ gws := gws_mem (kt_4 _ (List.mem_of_getElem? (i := 69) rfl)) rfl
theorem kw_791 : (Jvm.Cond.instanceMethod ({ cls := "ClockedFlowsModel", name := "soundNow", desc := "()Z" } : Jvm.MethodName)) ∈ gws := gws_mem (kt_4 _ (List.mem_of_getElem? (i := 71) rfl)) rfl
theorem kw_792 : (Jvm.Cond.code ({ cls := "ClockedFlowsModel", name := "soundNow", desc := "()Z" } : Jvm.MethodName) prog_8_method_31_code (1 : Nat) (Option.some Jvm.ClassFile.FieldType.boolean)) ∈ gws := gws_mem (kt_4 _ (List.mem_of_getElem? (i := 72) rfl)) rfl
theorem kw_793 : (Jvm.Cond.methodLink "ClockedFlowsModel" (161 : Nat) ({ cls := "ClockedFlowsModel", name := "find", desc := "([I)V" } : Jvm.MethodName)) ∈ gws := gws_mem (kt_4 _ (List.mem_of_getElem? (i := 73) rfl)) rfl
theorem kw_795 : (Jvm.Cond.instanceMethod ({ cls := "ClockedFlowsModel", name := "find", desc := "([I)V" } : Jvm.MethodName)) ∈ gws := gws_mem (kt_4 _ (List.mem_of_getElem? (i := 75) rfl)) rfl
theorem kw_796 : (Jvm.Cond.code ({ cls := "ClockedFlowsModel", name := "find", desc := "([I)V" } : Jvm.MethodName) prog_8_method_29_code (3 : Nat) (Option.none : Option Jvm.ClassFile.FieldType)) ∈ gws := gws_mem (kt_4 _ (List.mem_of_getElem? (i := 76) rfl)) rfl
theorem kw_797 : (Jvm.Cond.methodLink "ClockedFlowsModel" (145 : Nat) ({ cls := "ClockedFlowsModel", name := "findClocks", desc := "([I)V" } : Jvm.MethodName)) ∈ gws := gws_mem (kt_4 _ (List.mem_of_getElem? (i := 77) rfl)) rfl
theorem kw_799 : (Jvm.Cond.instanceMethod ({ cls := "ClockedFlowsModel", name := "findClocks", desc := "([I)V" } : Jvm.MethodName)) ∈ gws := gws_mem (kt_4 _ (List.mem_of_getElem? (i := 79) rfl)) rfl
theorem kw_800 : (Jvm.Cond.code ({ cls := "ClockedFlowsModel", name := "findClocks", desc := "([I)V" } : Jvm.MethodName) prog_8_method_22_code (3 : Nat) (Option.none : Option Jvm.ClassFile.FieldType)) ∈ gws := gws_mem (kt_4 _ (List.mem_of_getElem? (i := 80) rfl)) rfl
theorem kw_801 : (Jvm.Cond.methodLink "ClockedFlowsModel" (117 : Nat) ({ cls := "ClockedFlowsModel", name := "asks", desc := "([II)Z" } : Jvm.MethodName)) ∈ gws := gws_mem (kt_4 _ (List.mem_of_getElem? (i := 81) rfl)) rfl
theorem kw_803 : (Jvm.Cond.instanceMethod ({ cls := "ClockedFlowsModel", name := "asks", desc := "([II)Z" } : Jvm.MethodName)) ∈ gws := gws_mem (kt_4 _ (List.mem_of_getElem? (i := 83) rfl)) rfl
theorem kw_804 : (Jvm.Cond.code ({ cls := "ClockedFlowsModel", name := "asks", desc := "([II)Z" } : Jvm.MethodName) prog_8_method_21_code (7 : Nat) (Option.some Jvm.ClassFile.FieldType.boolean)) ∈ gws := gws_mem (kt_4 _ (List.mem_of_getElem? (i := 84) rfl)) rfl
theorem kw_805 : (Jvm.Cond.methodLink "ClockedFlowsModel" (108 : Nat) ({ cls := "ClockedFlowsModel", name := "settle", desc := "(II)Z" } : Jvm.MethodName)) ∈ gws := gws_mem (kt_4 _ (List.mem_of_getElem? (i := 85) rfl)) rfl
theorem kw_807 : (Jvm.Cond.instanceMethod ({ cls := "ClockedFlowsModel", name := "settle", desc := "(II)Z" } : Jvm.MethodName)) ∈ gws := gws_mem (kt_4 _ (List.mem_of_getElem? (i := 87) rfl)) rfl
theorem kw_808 : (Jvm.Cond.code ({ cls := "ClockedFlowsModel", name := "settle", desc := "(II)Z" } : Jvm.MethodName) prog_8_method_19_code (4 : Nat) (Option.some Jvm.ClassFile.FieldType.boolean)) ∈ gws := gws_mem (kt_4 _ (List.mem_of_getElem? (i := 88) rfl)) rfl
theorem kw_809 : (Jvm.Cond.methodLink "ClockedFlowsModel" (102 : Nat) ({ cls := "ClockedFlowsModel", name := "root", desc := "(I)I" } : Jvm.MethodName)) ∈ gws := gws_mem (kt_4 _ (List.mem_of_getElem? (i := 89) rfl)) rfl
theorem kw_811 : (Jvm.Cond.instanceMethod ({ cls := "ClockedFlowsModel", name := "root", desc := "(I)I" } : Jvm.MethodName)) ∈ gws := gws_mem (kt_4 _ (List.mem_of_getElem? (i := 91) rfl)) rfl
theorem kw_812 : (Jvm.Cond.code ({ cls := "ClockedFlowsModel", name := "root", desc := "(I)I" } : Jvm.MethodName) prog_8_method_17_code (3 : Nat) (Option.some Jvm.ClassFile.FieldType.int)) ∈ gws := gws_mem (kt_4 _ (List.mem_of_getElem? (i := 92) rfl)) rfl
theorem kw_813 : (Jvm.Cond.methodLink "ClockedFlowsModel" (105 : Nat) ({ cls := "ClockedFlowsModel", name := "isMet", desc := "(II)Z" } : Jvm.MethodName)) ∈ gws := gws_mem (kt_4 _ (List.mem_of_getElem? (i := 93) rfl)) rfl
theorem kw_815 : (Jvm.Cond.instanceMethod ({ cls := "ClockedFlowsModel", name := "isMet", desc := "(II)Z" } : Jvm.MethodName)) ∈ gws := gws_mem (kt_4 _ (List.mem_of_getElem? (i := 95) rfl)) rfl
theorem kw_816 : (Jvm.Cond.code ({ cls := "ClockedFlowsModel", name := "isMet", desc := "(II)Z" } : Jvm.MethodName) prog_8_method_18_code (4 : Nat) (Option.some Jvm.ClassFile.FieldType.boolean)) ∈ gws := gws_mem (kt_4 _ (List.mem_of_getElem? (i := 96) rfl)) rfl
theorem kw_817 : (Jvm.Cond.methodLink "ClockedFlowsModel" (111 : Nat) ({ cls := "ClockedFlowsModel", name := "like", desc := "(II)Z" } : Jvm.MethodName)) ∈ gws := gws_mem (kt_4 _ (List.mem_of_getElem? (i := 97) rfl)) rfl
theorem kw_819 : (Jvm.Cond.instanceMethod ({ cls := "ClockedFlowsModel", name := "like", desc := "(II)Z" } : Jvm.MethodName)) ∈ gws := gws_mem (kt_4 _ (List.mem_of_getElem? (i := 99) rfl)) rfl
theorem kw_820 : (Jvm.Cond.code ({ cls := "ClockedFlowsModel", name := "like", desc := "(II)Z" } : Jvm.MethodName) prog_8_method_20_code (7 : Nat) (Option.some Jvm.ClassFile.FieldType.boolean)) ∈ gws := gws_mem (kt_4 _ (List.mem_of_getElem? (i := 100) rfl)) rfl
theorem kw_821 : (Jvm.Cond.methodLink "ClockedFlowsModel" (152 : Nat) ({ cls := "ClockedFlowsModel", name := "findOrder", desc := "([I)V" } : Jvm.MethodName)) ∈ gws := gws_mem (kt_4 _ (List.mem_of_getElem? (i := 101) rfl)) rfl
theorem kw_823 : (Jvm.Cond.instanceMethod ({ cls := "ClockedFlowsModel", name := "findOrder", desc := "([I)V" } : Jvm.MethodName)) ∈ gws := gws_mem (kt_4 _ (List.mem_of_getElem? (i := 103) rfl)) rfl
theorem kw_824 : (Jvm.Cond.code ({ cls := "ClockedFlowsModel", name := "findOrder", desc := "([I)V" } : Jvm.MethodName) prog_8_method_25_code (7 : Nat) (Option.none : Option Jvm.ClassFile.FieldType)) ∈ gws := gws_mem (kt_4 _ (List.mem_of_getElem? (i := 104) rfl)) rfl
theorem kw_825 : (Jvm.Cond.methodLink "ClockedFlowsModel" (128 : Nat) ({ cls := "ClockedFlowsModel", name := "has", desc := "(II)Z" } : Jvm.MethodName)) ∈ gws := gws_mem (kt_4 _ (List.mem_of_getElem? (i := 105) rfl)) rfl
theorem kw_826 : (Jvm.Cond.static ({ cls := "ClockedFlowsModel", name := "has", desc := "(II)Z" } : Jvm.MethodName)) ∈ gws := gws_mem (kt_4 _ (List.mem_of_getElem? (i := 106) rfl)) rfl
theorem kw_827 : (Jvm.Cond.code ({ cls := "ClockedFlowsModel", name := "has", desc := "(II)Z" } : Jvm.MethodName) prog_8_method_4_code (2 : Nat) (Option.some Jvm.ClassFile.FieldType.boolean)) ∈ gws := gws_mem (kt_4 _ (List.mem_of_getElem? (i := 107) rfl)) rfl
theorem kw_828 : (Jvm.Cond.methodLink "ClockedFlowsModel" (131 : Nat) ({ cls := "ClockedFlowsModel", name := "waits", desc := "([II)I" } : Jvm.MethodName)) ∈ gws := gws_mem (kt_4 _ (List.mem_of_getElem? (i := 108) rfl)) rfl
theorem kw_830 : (Jvm.Cond.instanceMethod ({ cls := "ClockedFlowsModel", name := "waits", desc := "([II)I" } : Jvm.MethodName)) ∈ gws := gws_mem (kt_4 _ (List.mem_of_getElem? (i := 110) rfl)) rfl
theorem kw_831 : (Jvm.Cond.code ({ cls := "ClockedFlowsModel", name := "waits", desc := "([II)I" } : Jvm.MethodName) prog_8_method_24_code (7 : Nat) (Option.some Jvm.ClassFile.FieldType.int)) ∈ gws := gws_mem (kt_4 _ (List.mem_of_getElem? (i := 111) rfl)) rfl
theorem kw_832 : (Jvm.Cond.methodLink "ClockedFlowsModel" (121 : Nat) ({ cls := "ClockedFlowsModel", name := "streamOf", desc := "([III)I" } : Jvm.MethodName)) ∈ gws := gws_mem (kt_4 _ (List.mem_of_getElem? (i := 112) rfl)) rfl
theorem kw_833 : (Jvm.Cond.static ({ cls := "ClockedFlowsModel", name := "streamOf", desc := "([III)I" } : Jvm.MethodName)) ∈ gws := gws_mem (kt_4 _ (List.mem_of_getElem? (i := 113) rfl)) rfl
theorem kw_834 : (Jvm.Cond.code ({ cls := "ClockedFlowsModel", name := "streamOf", desc := "([III)I" } : Jvm.MethodName) prog_8_method_10_code (5 : Nat) (Option.some Jvm.ClassFile.FieldType.int)) ∈ gws := gws_mem (kt_4 _ (List.mem_of_getElem? (i := 114) rfl)) rfl
theorem kw_835 : (Jvm.Cond.methodLink "ClockedFlowsModel" (125 : Nat) ({ cls := "ClockedFlowsModel", name := "clocks", desc := "(I)I" } : Jvm.MethodName)) ∈ gws := gws_mem (kt_4 _ (List.mem_of_getElem? (i := 115) rfl)) rfl
theorem kw_837 : (Jvm.Cond.instanceMethod ({ cls := "ClockedFlowsModel", name := "clocks", desc := "(I)I" } : Jvm.MethodName)) ∈ gws := gws_mem (kt_4 _ (List.mem_of_getElem? (i := 117) rfl)) rfl
theorem kw_838 : (Jvm.Cond.code ({ cls := "ClockedFlowsModel", name := "clocks", desc := "(I)I" } : Jvm.MethodName) prog_8_method_23_code (4 : Nat) (Option.some Jvm.ClassFile.FieldType.int)) ∈ gws := gws_mem (kt_4 _ (List.mem_of_getElem? (i := 118) rfl)) rfl
theorem kw_839 : (Jvm.Cond.methodLink "ClockedFlowsModel" (155 : Nat) ({ cls := "ClockedFlowsModel", name := "findLevels", desc := "([I)V" } : Jvm.MethodName)) ∈ gws := gws_mem (kt_4 _ (List.mem_of_getElem? (i := 119) rfl)) rfl
theorem kw_841 : (Jvm.Cond.instanceMethod ({ cls := "ClockedFlowsModel", name := "findLevels", desc := "([I)V" } : Jvm.MethodName)) ∈ gws := gws_mem (kt_4 _ (List.mem_of_getElem? (i := 121) rfl)) rfl
theorem kw_842 : (Jvm.Cond.code ({ cls := "ClockedFlowsModel", name := "findLevels", desc := "([I)V" } : Jvm.MethodName) prog_8_method_27_code (4 : Nat) (Option.none : Option Jvm.ClassFile.FieldType)) ∈ gws := gws_mem (kt_4 _ (List.mem_of_getElem? (i := 122) rfl)) rfl
theorem kw_843 : (Jvm.Cond.methodLink "ClockedFlowsModel" (142 : Nat) ({ cls := "ClockedFlowsModel", name := "isOne", desc := "([II)Z" } : Jvm.MethodName)) ∈ gws := gws_mem (kt_4 _ (List.mem_of_getElem? (i := 123) rfl)) rfl
theorem kw_845 : (Jvm.Cond.instanceMethod ({ cls := "ClockedFlowsModel", name := "isOne", desc := "([II)Z" } : Jvm.MethodName)) ∈ gws := gws_mem (kt_4 _ (List.mem_of_getElem? (i := 125) rfl)) rfl
theorem kw_846 : (Jvm.Cond.code ({ cls := "ClockedFlowsModel", name := "isOne", desc := "([II)Z" } : Jvm.MethodName) prog_8_method_26_code (8 : Nat) (Option.some Jvm.ClassFile.FieldType.boolean)) ∈ gws := gws_mem (kt_4 _ (List.mem_of_getElem? (i := 126) rfl)) rfl
theorem kw_847 : (Jvm.Cond.constantLong "ClockedFlowsModel" (138 : Nat) (2 : Int64)) ∈ gws := gws_mem (kt_4 _ (List.mem_of_getElem? (i := 127) rfl)) rfl
theorem kw_848 : (Jvm.Cond.constantLong "ClockedFlowsModel" (140 : Nat) (5 : Int64)) ∈ gws := gws_mem (kt_4 _ (List.mem_of_getElem? (i := 128) rfl)) rfl
theorem kw_849 : (Jvm.Cond.methodLink "ClockedFlowsModel" (158 : Nat) ({ cls := "ClockedFlowsModel", name := "isRaw", desc := "([II)Z" } : Jvm.MethodName)) ∈ gws := gws_mem (kt_4 _ (List.mem_of_getElem? (i := 129) rfl)) rfl
theorem kw_851 : (Jvm.Cond.instanceMethod ({ cls := "ClockedFlowsModel", name := "isRaw", desc := "([II)Z" } : Jvm.MethodName)) ∈ gws := gws_mem (kt_4 _ (List.mem_of_getElem? (i := 131) rfl)) rfl
theorem kw_852 : (Jvm.Cond.code ({ cls := "ClockedFlowsModel", name := "isRaw", desc := "([II)Z" } : Jvm.MethodName) prog_8_method_28_code (8 : Nat) (Option.some Jvm.ClassFile.FieldType.boolean)) ∈ gws := gws_mem (kt_4 _ (List.mem_of_getElem? (i := 132) rfl)) rfl
theorem kw_853 : (Jvm.Cond.methodLink "ClockedFlowsModel" (164 : Nat) ({ cls := "ClockedFlowsModel", name := "isSound", desc := "()Z" } : Jvm.MethodName)) ∈ gws := gws_mem (kt_4 _ (List.mem_of_getElem? (i := 133) rfl)) rfl
theorem kw_855 : (Jvm.Cond.instanceMethod ({ cls := "ClockedFlowsModel", name := "isSound", desc := "()Z" } : Jvm.MethodName)) ∈ gws := gws_mem (kt_4 _ (List.mem_of_getElem? (i := 135) rfl)) rfl
theorem kw_856 : (Jvm.Cond.code ({ cls := "ClockedFlowsModel", name := "isSound", desc := "()Z" } : Jvm.MethodName) prog_8_method_30_code (1 : Nat) (Option.some Jvm.ClassFile.FieldType.boolean)) ∈ gws := gws_mem (kt_4 _ (List.mem_of_getElem? (i := 136) rfl)) rfl
theorem kw_857 : (Jvm.Cond.methodLink "ClockedFlowsLaw" (34 : Nat) ({ cls := "ClockedFlowsModel", name := "about", desc := "(I)I" } : Jvm.MethodName)) ∈ gws := gws_mem (kt_4 _ (List.mem_of_getElem? (i := 137) rfl)) rfl
theorem kw_858 : (Jvm.Cond.instanceMethod ({ cls := "ClockedFlowsModel", name := "about", desc := "(I)I" } : Jvm.MethodName)) ∈ gws := gws_mem (kt_4 _ (List.mem_of_getElem? (i := 138) rfl)) rfl
theorem kw_859 : (Jvm.Cond.selects "ClockedFlowsModel" ({ cls := "ClockedFlowsModel", name := "about", desc := "(I)I" } : Jvm.MethodName) ({ cls := "ClockedFlowsModel", name := "about", desc := "(I)I" } : Jvm.MethodName)) ∈ gws := gws_mem (kt_4 _ (List.mem_of_getElem? (i := 139) rfl)) rfl
theorem kw_860 : (Jvm.Cond.code ({ cls := "ClockedFlowsModel", name := "about", desc := "(I)I" } : Jvm.MethodName) prog_8_method_40_code (2 : Nat) (Option.some Jvm.ClassFile.FieldType.int)) ∈ gws := gws_mem (kt_4 _ (List.mem_of_getElem? (i := 140) rfl)) rfl
theorem kw_861 : (Jvm.Cond.methodLink "ClockedFlowsModel" (190 : Nat) ({ cls := "ClockedFlowsModel", name := "there", desc := "()I" } : Jvm.MethodName)) ∈ gws := gws_mem (kt_4 _ (List.mem_of_getElem? (i := 141) rfl)) rfl
theorem kw_863 : (Jvm.Cond.instanceMethod ({ cls := "ClockedFlowsModel", name := "there", desc := "()I" } : Jvm.MethodName)) ∈ gws := gws_mem (kt_4 _ (List.mem_of_getElem? (i := 143) rfl)) rfl
theorem kw_864 : (Jvm.Cond.code ({ cls := "ClockedFlowsModel", name := "there", desc := "()I" } : Jvm.MethodName) prog_8_method_39_code (3 : Nat) (Option.some Jvm.ClassFile.FieldType.int)) ∈ gws := gws_mem (kt_4 _ (List.mem_of_getElem? (i := 144) rfl)) rfl
theorem kw_865 : (Jvm.Cond.methodLink "ClockedFlowsLaw" (39 : Nat) ({ cls := "ClockedFlowsModel", name := "stream", desc := "(II)I" } : Jvm.MethodName)) ∈ gws := gws_mem (kt_4 _ (List.mem_of_getElem? (i := 145) rfl)) rfl
theorem kw_866 : (Jvm.Cond.instanceMethod ({ cls := "ClockedFlowsModel", name := "stream", desc := "(II)I" } : Jvm.MethodName)) ∈ gws := gws_mem (kt_4 _ (List.mem_of_getElem? (i := 146) rfl)) rfl
theorem kw_867 : (Jvm.Cond.selects "ClockedFlowsModel" ({ cls := "ClockedFlowsModel", name := "stream", desc := "(II)I" } : Jvm.MethodName) ({ cls := "ClockedFlowsModel", name := "stream", desc := "(II)I" } : Jvm.MethodName)) ∈ gws := gws_mem (kt_4 _ (List.mem_of_getElem? (i := 147) rfl)) rfl
theorem kw_868 : (Jvm.Cond.code ({ cls := "ClockedFlowsModel", name := "stream", desc := "(II)I" } : Jvm.MethodName) prog_8_method_41_code (3 : Nat) (Option.some Jvm.ClassFile.FieldType.int)) ∈ gws := gws_mem (kt_4 _ (List.mem_of_getElem? (i := 148) rfl)) rfl
theorem kw_869 : (Jvm.Cond.methodLink "ClockedFlowsModel" (196 : Nat) ({ cls := "ClockedFlowsModel", name := "noStream", desc := "(I)Z" } : Jvm.MethodName)) ∈ gws := gws_mem (kt_4 _ (List.mem_of_getElem? (i := 149) rfl)) rfl
theorem kw_871 : (Jvm.Cond.instanceMethod ({ cls := "ClockedFlowsModel", name := "noStream", desc := "(I)Z" } : Jvm.MethodName)) ∈ gws := gws_mem (kt_4 _ (List.mem_of_getElem? (i := 151) rfl)) rfl
theorem kw_872 : (Jvm.Cond.code ({ cls := "ClockedFlowsModel", name := "noStream", desc := "(I)Z" } : Jvm.MethodName) prog_8_method_6_code (2 : Nat) (Option.some Jvm.ClassFile.FieldType.boolean)) ∈ gws := gws_mem (kt_4 _ (List.mem_of_getElem? (i := 152) rfl)) rfl
theorem kw_873 : (Jvm.Cond.methodLink "ClockedFlowsLaw" (43 : Nat) ({ cls := "ClockedFlowsModel", name := "figure", desc := "(II)I" } : Jvm.MethodName)) ∈ gws := gws_mem (kt_4 _ (List.mem_of_getElem? (i := 153) rfl)) rfl
theorem kw_874 : (Jvm.Cond.instanceMethod ({ cls := "ClockedFlowsModel", name := "figure", desc := "(II)I" } : Jvm.MethodName)) ∈ gws := gws_mem (kt_4 _ (List.mem_of_getElem? (i := 154) rfl)) rfl
theorem kw_875 : (Jvm.Cond.selects "ClockedFlowsModel" ({ cls := "ClockedFlowsModel", name := "figure", desc := "(II)I" } : Jvm.MethodName) ({ cls := "ClockedFlowsModel", name := "figure", desc := "(II)I" } : Jvm.MethodName)) ∈ gws := gws_mem (kt_4 _ (List.mem_of_getElem? (i := 155) rfl)) rfl
theorem kw_876 : (Jvm.Cond.code ({ cls := "ClockedFlowsModel", name := "figure", desc := "(II)I" } : Jvm.MethodName) prog_8_method_42_code (3 : Nat) (Option.some Jvm.ClassFile.FieldType.int)) ∈ gws := gws_mem (kt_4 _ (List.mem_of_getElem? (i := 156) rfl)) rfl
theorem kw_877 : (Jvm.Cond.methodLink "ClockedFlowsLaw" (47 : Nat) ({ cls := "ClockedFlowsModel", name := "clock", desc := "(II)I" } : Jvm.MethodName)) ∈ gws := gws_mem (kt_4 _ (List.mem_of_getElem? (i := 157) rfl)) rfl
theorem kw_878 : (Jvm.Cond.instanceMethod ({ cls := "ClockedFlowsModel", name := "clock", desc := "(II)I" } : Jvm.MethodName)) ∈ gws := gws_mem (kt_4 _ (List.mem_of_getElem? (i := 158) rfl)) rfl
theorem kw_879 : (Jvm.Cond.selects "ClockedFlowsModel" ({ cls := "ClockedFlowsModel", name := "clock", desc := "(II)I" } : Jvm.MethodName) ({ cls := "ClockedFlowsModel", name := "clock", desc := "(II)I" } : Jvm.MethodName)) ∈ gws := gws_mem (kt_4 _ (List.mem_of_getElem? (i := 159) rfl)) rfl
theorem kw_880 : (Jvm.Cond.code ({ cls := "ClockedFlowsModel", name := "clock", desc := "(II)I" } : Jvm.MethodName) prog_8_method_43_code (4 : Nat) (Option.some Jvm.ClassFile.FieldType.int)) ∈ gws := gws_mem (kt_4 _ (List.mem_of_getElem? (i := 160) rfl)) rfl
theorem kw_881 : (Jvm.Cond.methodLink "ClockedFlowsLaw" (51 : Nat) ({ cls := "ClockedFlowsModel", name := "tick", desc := "(II)I" } : Jvm.MethodName)) ∈ gws := gws_mem (kt_4 _ (List.mem_of_getElem? (i := 161) rfl)) rfl
theorem kw_882 : (Jvm.Cond.instanceMethod ({ cls := "ClockedFlowsModel", name := "tick", desc := "(II)I" } : Jvm.MethodName)) ∈ gws := gws_mem (kt_4 _ (List.mem_of_getElem? (i := 162) rfl)) rfl
theorem kw_883 : (Jvm.Cond.selects "ClockedFlowsModel" ({ cls := "ClockedFlowsModel", name := "tick", desc := "(II)I" } : Jvm.MethodName) ({ cls := "ClockedFlowsModel", name := "tick", desc := "(II)I" } : Jvm.MethodName)) ∈ gws := gws_mem (kt_4 _ (List.mem_of_getElem? (i := 163) rfl)) rfl
theorem kw_884 : (Jvm.Cond.code ({ cls := "ClockedFlowsModel", name := "tick", desc := "(II)I" } : Jvm.MethodName) prog_8_method_46_code (3 : Nat) (Option.some Jvm.ClassFile.FieldType.int)) ∈ gws := gws_mem (kt_4 _ (List.mem_of_getElem? (i := 164) rfl)) rfl
theorem kw_885 : (Jvm.Cond.methodLink "ClockedFlowsModel" (202 : Nat) ({ cls := "ClockedFlowsModel", name := "areInputs", desc := "(II)Z" } : Jvm.MethodName)) ∈ gws := gws_mem (kt_4 _ (List.mem_of_getElem? (i := 165) rfl)) rfl
theorem kw_886 : (Jvm.Cond.static ({ cls := "ClockedFlowsModel", name := "areInputs", desc := "(II)Z" } : Jvm.MethodName)) ∈ gws := gws_mem (kt_4 _ (List.mem_of_getElem? (i := 166) rfl)) rfl
theorem kw_887 : (Jvm.Cond.code ({ cls := "ClockedFlowsModel", name := "areInputs", desc := "(II)Z" } : Jvm.MethodName) prog_8_method_45_code (2 : Nat) (Option.some Jvm.ClassFile.FieldType.boolean)) ∈ gws := gws_mem (kt_4 _ (List.mem_of_getElem? (i := 167) rfl)) rfl
theorem kw_888 : (Jvm.Cond.constantLong "ClockedFlowsModel" (200 : Nat) (99 : Int64)) ∈ gws := gws_mem (kt_4 _ (List.mem_of_getElem? (i := 168) rfl)) rfl
theorem kw_889 : (Jvm.Cond.methodLink "ClockedFlowsModel" (205 : Nat) ({ cls := "ClockedFlowsModel", name := "note", desc := "()V" } : Jvm.MethodName)) ∈ gws := gws_mem (kt_4 _ (List.mem_of_getElem? (i := 169) rfl)) rfl
theorem kw_891 : (Jvm.Cond.instanceMethod ({ cls := "ClockedFlowsModel", name := "note", desc := "()V" } : Jvm.MethodName)) ∈ gws := gws_mem (kt_4 _ (List.mem_of_getElem? (i := 171) rfl)) rfl
theorem kw_892 : (Jvm.Cond.code ({ cls := "ClockedFlowsModel", name := "note", desc := "()V" } : Jvm.MethodName) prog_8_method_44_code (2 : Nat) (Option.none : Option Jvm.ClassFile.FieldType)) ∈ gws := gws_mem (kt_4 _ (List.mem_of_getElem? (i := 172) rfl)) rfl
theorem kw_893 : (Jvm.Cond.methodLink "ClockedFlowsModel" (208 : Nat) ({ cls := "ClockedFlowsModel", name := "goTick", desc := "([III)I" } : Jvm.MethodName)) ∈ gws := gws_mem (kt_4 _ (List.mem_of_getElem? (i := 173) rfl)) rfl
theorem kw_895 : (Jvm.Cond.instanceMethod ({ cls := "ClockedFlowsModel", name := "goTick", desc := "([III)I" } : Jvm.MethodName)) ∈ gws := gws_mem (kt_4 _ (List.mem_of_getElem? (i := 175) rfl)) rfl
theorem kw_896 : (Jvm.Cond.code ({ cls := "ClockedFlowsModel", name := "goTick", desc := "([III)I" } : Jvm.MethodName) prog_8_method_37_code (8 : Nat) (Option.some Jvm.ClassFile.FieldType.int)) ∈ gws := gws_mem (kt_4 _ (List.mem_of_getElem? (i := 176) rfl)) rfl
theorem kw_897 : (Jvm.Cond.methodLink "ClockedFlowsModel" (171 : Nat) ({ cls := "ClockedFlowsModel", name := "isThere", desc := "([II)Z" } : Jvm.MethodName)) ∈ gws := gws_mem (kt_4 _ (List.mem_of_getElem? (i := 177) rfl)) rfl
theorem kw_899 : (Jvm.Cond.instanceMethod ({ cls := "ClockedFlowsModel", name := "isThere", desc := "([II)Z" } : Jvm.MethodName)) ∈ gws := gws_mem (kt_4 _ (List.mem_of_getElem? (i := 179) rfl)) rfl
theorem kw_900 : (Jvm.Cond.code ({ cls := "ClockedFlowsModel", name := "isThere", desc := "([II)Z" } : Jvm.MethodName) prog_8_method_33_code (6 : Nat) (Option.some Jvm.ClassFile.FieldType.boolean)) ∈ gws := gws_mem (kt_4 _ (List.mem_of_getElem? (i := 180) rfl)) rfl
theorem kw_901 : (Jvm.Cond.methodLink "ClockedFlowsModel" (174 : Nat) ({ cls := "ClockedFlowsModel", name := "valueOf", desc := "([IIII)I" } : Jvm.MethodName)) ∈ gws := gws_mem (kt_4 _ (List.mem_of_getElem? (i := 181) rfl)) rfl
theorem kw_903 : (Jvm.Cond.instanceMethod ({ cls := "ClockedFlowsModel", name := "valueOf", desc := "([IIII)I" } : Jvm.MethodName)) ∈ gws := gws_mem (kt_4 _ (List.mem_of_getElem? (i := 183) rfl)) rfl
theorem kw_904 : (Jvm.Cond.code ({ cls := "ClockedFlowsModel", name := "valueOf", desc := "([IIII)I" } : Jvm.MethodName) prog_8_method_35_code (10 : Nat) (Option.some Jvm.ClassFile.FieldType.int)) ∈ gws := gws_mem (kt_4 _ (List.mem_of_getElem? (i := 184) rfl)) rfl
theorem kw_905 : (Jvm.Cond.methodLink "ClockedFlowsModel" (168 : Nat) ({ cls := "ClockedFlowsModel", name := "made", desc := "(III)I" } : Jvm.MethodName)) ∈ gws := gws_mem (kt_4 _ (List.mem_of_getElem? (i := 185) rfl)) rfl
theorem kw_906 : (Jvm.Cond.static ({ cls := "ClockedFlowsModel", name := "made", desc := "(III)I" } : Jvm.MethodName)) ∈ gws := gws_mem (kt_4 _ (List.mem_of_getElem? (i := 186) rfl)) rfl
theorem kw_907 : (Jvm.Cond.code ({ cls := "ClockedFlowsModel", name := "made", desc := "(III)I" } : Jvm.MethodName) prog_8_method_34_code (3 : Nat) (Option.some Jvm.ClassFile.FieldType.int)) ∈ gws := gws_mem (kt_4 _ (List.mem_of_getElem? (i := 187) rfl)) rfl
theorem kw_908 : (Jvm.Cond.methodLink "ClockedFlowsModel" (178 : Nat) ({ cls := "ClockedFlowsModel", name := "keepOn", desc := "([I)V" } : Jvm.MethodName)) ∈ gws := gws_mem (kt_4 _ (List.mem_of_getElem? (i := 188) rfl)) rfl
theorem kw_910 : (Jvm.Cond.instanceMethod ({ cls := "ClockedFlowsModel", name := "keepOn", desc := "([I)V" } : Jvm.MethodName)) ∈ gws := gws_mem (kt_4 _ (List.mem_of_getElem? (i := 190) rfl)) rfl
theorem kw_911 : (Jvm.Cond.code ({ cls := "ClockedFlowsModel", name := "keepOn", desc := "([I)V" } : Jvm.MethodName) prog_8_method_36_code (4 : Nat) (Option.none : Option Jvm.ClassFile.FieldType)) ∈ gws := gws_mem (kt_4 _ (List.mem_of_getElem? (i := 191) rfl)) rfl
theorem kw_912 : (Jvm.Cond.methodLink "ClockedFlowsLaw" (55 : Nat) ({ cls := "ClockedFlowsModel", name := "afresh", desc := "()I" } : Jvm.MethodName)) ∈ gws := gws_mem (kt_4 _ (List.mem_of_getElem? (i := 192) rfl)) rfl
theorem kw_913 : (Jvm.Cond.instanceMethod ({ cls := "ClockedFlowsModel", name := "afresh", desc := "()I" } : Jvm.MethodName)) ∈ gws := gws_mem (kt_4 _ (List.mem_of_getElem? (i := 193) rfl)) rfl
theorem kw_914 : (Jvm.Cond.selects "ClockedFlowsModel" ({ cls := "ClockedFlowsModel", name := "afresh", desc := "()I" } : Jvm.MethodName) ({ cls := "ClockedFlowsModel", name := "afresh", desc := "()I" } : Jvm.MethodName)) ∈ gws := gws_mem (kt_4 _ (List.mem_of_getElem? (i := 194) rfl)) rfl
theorem kw_915 : (Jvm.Cond.code ({ cls := "ClockedFlowsModel", name := "afresh", desc := "()I" } : Jvm.MethodName) prog_8_method_47_code (2 : Nat) (Option.some Jvm.ClassFile.FieldType.int)) ∈ gws := gws_mem (kt_4 _ (List.mem_of_getElem? (i := 195) rfl)) rfl
theorem kw_916 : (Jvm.Cond.methodLink "ClockedFlowsLaw" (60 : Nat) ({ cls := "ClockedFlowsModel", name := "tell", desc := "(IIIII)I" } : Jvm.MethodName)) ∈ gws := gws_mem (kt_4 _ (List.mem_of_getElem? (i := 196) rfl)) rfl
theorem kw_917 : (Jvm.Cond.instanceMethod ({ cls := "ClockedFlowsModel", name := "tell", desc := "(IIIII)I" } : Jvm.MethodName)) ∈ gws := gws_mem (kt_4 _ (List.mem_of_getElem? (i := 197) rfl)) rfl
theorem kw_918 : (Jvm.Cond.selects "ClockedFlowsModel" ({ cls := "ClockedFlowsModel", name := "tell", desc := "(IIIII)I" } : Jvm.MethodName) ({ cls := "ClockedFlowsModel", name := "tell", desc := "(IIIII)I" } : Jvm.MethodName)) ∈ gws := gws_mem (kt_4 _ (List.mem_of_getElem? (i := 198) rfl)) rfl
theorem kw_919 : (Jvm.Cond.code ({ cls := "ClockedFlowsModel", name := "tell", desc := "(IIIII)I" } : Jvm.MethodName) prog_8_method_49_code (6 : Nat) (Option.some Jvm.ClassFile.FieldType.int)) ∈ gws := gws_mem (kt_4 _ (List.mem_of_getElem? (i := 199) rfl)) rfl
theorem kw_920 : (Jvm.Cond.constantLong "ClockedFlowsModel" (211 : Nat) (11 : Int64)) ∈ gws := gws_mem (kt_4 _ (List.mem_of_getElem? (i := 200) rfl)) rfl
theorem kw_921 : (Jvm.Cond.methodLink "ClockedFlowsModel" (213 : Nat) ({ cls := "ClockedFlowsModel", name := "areFigures", desc := "(IIII)Z" } : Jvm.MethodName)) ∈ gws := gws_mem (kt_4 _ (List.mem_of_getElem? (i := 201) rfl)) rfl
theorem kw_923 : (Jvm.Cond.instanceMethod ({ cls := "ClockedFlowsModel", name := "areFigures", desc := "(IIII)Z" } : Jvm.MethodName)) ∈ gws := gws_mem (kt_4 _ (List.mem_of_getElem? (i := 203) rfl)) rfl
theorem kw_924 : (Jvm.Cond.code ({ cls := "ClockedFlowsModel", name := "areFigures", desc := "(IIII)Z" } : Jvm.MethodName) prog_8_method_48_code (7 : Nat) (Option.some Jvm.ClassFile.FieldType.boolean)) ∈ gws := gws_mem (kt_4 _ (List.mem_of_getElem? (i := 204) rfl)) rfl
theorem kw_925 : (Jvm.Cond.methodLink "ClockedFlowsLaw" (64 : Nat) ({ cls := "ClockedFlowsModel", name := "undo", desc := "()I" } : Jvm.MethodName)) ∈ gws := gws_mem (kt_4 _ (List.mem_of_getElem? (i := 205) rfl)) rfl
theorem kw_926 : (Jvm.Cond.instanceMethod ({ cls := "ClockedFlowsModel", name := "undo", desc := "()I" } : Jvm.MethodName)) ∈ gws := gws_mem (kt_4 _ (List.mem_of_getElem? (i := 206) rfl)) rfl
theorem kw_927 : (Jvm.Cond.selects "ClockedFlowsModel" ({ cls := "ClockedFlowsModel", name := "undo", desc := "()I" } : Jvm.MethodName) ({ cls := "ClockedFlowsModel", name := "undo", desc := "()I" } : Jvm.MethodName)) ∈ gws := gws_mem (kt_4 _ (List.mem_of_getElem? (i := 207) rfl)) rfl
theorem kw_928 : (Jvm.Cond.code ({ cls := "ClockedFlowsModel", name := "undo", desc := "()I" } : Jvm.MethodName) prog_8_method_50_code (2 : Nat) (Option.some Jvm.ClassFile.FieldType.int)) ∈ gws := gws_mem (kt_4 _ (List.mem_of_getElem? (i := 208) rfl)) rfl
theorem kw_929 : (Jvm.Cond.methodLink "ClockedFlowsLaw" (69 : Nat) ({ cls := "ClockedFlowsModel", name := "later", desc := "(IIII)I" } : Jvm.MethodName)) ∈ gws := gws_mem (kt_4 _ (List.mem_of_getElem? (i := 209) rfl)) rfl
theorem kw_930 : (Jvm.Cond.instanceMethod ({ cls := "ClockedFlowsModel", name := "later", desc := "(IIII)I" } : Jvm.MethodName)) ∈ gws := gws_mem (kt_4 _ (List.mem_of_getElem? (i := 210) rfl)) rfl
theorem kw_931 : (Jvm.Cond.selects "ClockedFlowsModel" ({ cls := "ClockedFlowsModel", name := "later", desc := "(IIII)I" } : Jvm.MethodName) ({ cls := "ClockedFlowsModel", name := "later", desc := "(IIII)I" } : Jvm.MethodName)) ∈ gws := gws_mem (kt_4 _ (List.mem_of_getElem? (i := 211) rfl)) rfl
theorem kw_932 : (Jvm.Cond.code ({ cls := "ClockedFlowsModel", name := "later", desc := "(IIII)I" } : Jvm.MethodName) prog_8_method_53_code (5 : Nat) (Option.some Jvm.ClassFile.FieldType.int)) ∈ gws := gws_mem (kt_4 _ (List.mem_of_getElem? (i := 212) rfl)) rfl
theorem kw_933 : (Jvm.Cond.constantLong "ClockedFlowsModel" (217 : Nat) (40 : Int64)) ∈ gws := gws_mem (kt_4 _ (List.mem_of_getElem? (i := 213) rfl)) rfl
theorem kw_934 : (Jvm.Cond.methodLink "ClockedFlowsModel" (219 : Nat) ({ cls := "ClockedFlowsModel", name := "begin", desc := "()V" } : Jvm.MethodName)) ∈ gws := gws_mem (kt_4 _ (List.mem_of_getElem? (i := 214) rfl)) rfl
theorem kw_936 : (Jvm.Cond.instanceMethod ({ cls := "ClockedFlowsModel", name := "begin", desc := "()V" } : Jvm.MethodName)) ∈ gws := gws_mem (kt_4 _ (List.mem_of_getElem? (i := 216) rfl)) rfl
theorem kw_937 : (Jvm.Cond.code ({ cls := "ClockedFlowsModel", name := "begin", desc := "()V" } : Jvm.MethodName) prog_8_method_51_code (2 : Nat) (Option.none : Option Jvm.ClassFile.FieldType)) ∈ gws := gws_mem (kt_4 _ (List.mem_of_getElem? (i := 217) rfl)) rfl
theorem kw_938 : (Jvm.Cond.methodLink "ClockedFlowsModel" (222 : Nat) ({ cls := "ClockedFlowsModel", name := "goTicks", desc := "(III)V" } : Jvm.MethodName)) ∈ gws := gws_mem (kt_4 _ (List.mem_of_getElem? (i := 218) rfl)) rfl
theorem kw_940 : (Jvm.Cond.instanceMethod ({ cls := "ClockedFlowsModel", name := "goTicks", desc := "(III)V" } : Jvm.MethodName)) ∈ gws := gws_mem (kt_4 _ (List.mem_of_getElem? (i := 220) rfl)) rfl
theorem kw_941 : (Jvm.Cond.code ({ cls := "ClockedFlowsModel", name := "goTicks", desc := "(III)V" } : Jvm.MethodName) prog_8_method_52_code (5 : Nat) (Option.none : Option Jvm.ClassFile.FieldType)) ∈ gws := gws_mem (kt_4 _ (List.mem_of_getElem? (i := 221) rfl)) rfl
theorem kw_942 : (Jvm.Cond.methodLink "ClockedFlowsLaw" (73 : Nat) ({ cls := "ClockedFlowsModel", name := "first", desc := "(IIII)I" } : Jvm.MethodName)) ∈ gws := gws_mem (kt_4 _ (List.mem_of_getElem? (i := 222) rfl)) rfl
theorem kw_943 : (Jvm.Cond.instanceMethod ({ cls := "ClockedFlowsModel", name := "first", desc := "(IIII)I" } : Jvm.MethodName)) ∈ gws := gws_mem (kt_4 _ (List.mem_of_getElem? (i := 223) rfl)) rfl
theorem kw_944 : (Jvm.Cond.selects "ClockedFlowsModel" ({ cls := "ClockedFlowsModel", name := "first", desc := "(IIII)I" } : Jvm.MethodName) ({ cls := "ClockedFlowsModel", name := "first", desc := "(IIII)I" } : Jvm.MethodName)) ∈ gws := gws_mem (kt_4 _ (List.mem_of_getElem? (i := 224) rfl)) rfl
theorem kw_945 : (Jvm.Cond.code ({ cls := "ClockedFlowsModel", name := "first", desc := "(IIII)I" } : Jvm.MethodName) prog_8_method_54_code (6 : Nat) (Option.some Jvm.ClassFile.FieldType.int)) ∈ gws := gws_mem (kt_4 _ (List.mem_of_getElem? (i := 225) rfl)) rfl
theorem kw_946 : (Jvm.Cond.methodLink "ClockedFlowsLaw" (78 : Nat) ({ cls := "ClockedFlowsModel", name := "round", desc := "(III)I" } : Jvm.MethodName)) ∈ gws := gws_mem (kt_4 _ (List.mem_of_getElem? (i := 226) rfl)) rfl
theorem kw_947 : (Jvm.Cond.instanceMethod ({ cls := "ClockedFlowsModel", name := "round", desc := "(III)I" } : Jvm.MethodName)) ∈ gws := gws_mem (kt_4 _ (List.mem_of_getElem? (i := 227) rfl)) rfl
theorem kw_948 : (Jvm.Cond.selects "ClockedFlowsModel" ({ cls := "ClockedFlowsModel", name := "round", desc := "(III)I" } : Jvm.MethodName) ({ cls := "ClockedFlowsModel", name := "round", desc := "(III)I" } : Jvm.MethodName)) ∈ gws := gws_mem (kt_4 _ (List.mem_of_getElem? (i := 228) rfl)) rfl
theorem kw_949 : (Jvm.Cond.code ({ cls := "ClockedFlowsModel", name := "round", desc := "(III)I" } : Jvm.MethodName) prog_8_method_57_code (6 : Nat) (Option.some Jvm.ClassFile.FieldType.int)) ∈ gws := gws_mem (kt_4 _ (List.mem_of_getElem? (i := 229) rfl)) rfl
theorem kw_950 : (Jvm.Cond.methodLink "ClockedFlowsModel" (228 : Nat) ({ cls := "ClockedFlowsModel", name := "layStates", desc := "(II)V" } : Jvm.MethodName)) ∈ gws := gws_mem (kt_4 _ (List.mem_of_getElem? (i := 230) rfl)) rfl
theorem kw_952 : (Jvm.Cond.instanceMethod ({ cls := "ClockedFlowsModel", name := "layStates", desc := "(II)V" } : Jvm.MethodName)) ∈ gws := gws_mem (kt_4 _ (List.mem_of_getElem? (i := 232) rfl)) rfl
theorem kw_953 : (Jvm.Cond.code ({ cls := "ClockedFlowsModel", name := "layStates", desc := "(II)V" } : Jvm.MethodName) prog_8_method_56_code (6 : Nat) (Option.none : Option Jvm.ClassFile.FieldType)) ∈ gws := gws_mem (kt_4 _ (List.mem_of_getElem? (i := 233) rfl)) rfl
theorem kw_954 : (Jvm.Cond.constantLong "ClockedFlowsModel" (226 : Nat) (6 : Int64)) ∈ gws := gws_mem (kt_4 _ (List.mem_of_getElem? (i := 234) rfl)) rfl
theorem kw_955 : (Jvm.Cond.methodLink "ClockedFlowsModel" (232 : Nat) ({ cls := "ClockedFlowsModel", name := "areAlike", desc := "(II)Z" } : Jvm.MethodName)) ∈ gws := gws_mem (kt_4 _ (List.mem_of_getElem? (i := 235) rfl)) rfl
theorem kw_957 : (Jvm.Cond.instanceMethod ({ cls := "ClockedFlowsModel", name := "areAlike", desc := "(II)Z" } : Jvm.MethodName)) ∈ gws := gws_mem (kt_4 _ (List.mem_of_getElem? (i := 237) rfl)) rfl
theorem kw_958 : (Jvm.Cond.code ({ cls := "ClockedFlowsModel", name := "areAlike", desc := "(II)Z" } : Jvm.MethodName) prog_8_method_55_code (5 : Nat) (Option.some Jvm.ClassFile.FieldType.boolean)) ∈ gws := gws_mem (kt_4 _ (List.mem_of_getElem? (i := 238) rfl)) rfl
theorem kw_959 : (Jvm.Cond.methodLink "ClockedFlowsLaw" (85 : Nat) ({ cls := "ClockedFlowsModel", name := "judge", desc := "(IJ)I" } : Jvm.MethodName)) ∈ gws := gws_mem (kt_4 _ (List.mem_of_getElem? (i := 239) rfl)) rfl
theorem kw_960 : (Jvm.Cond.instanceMethod ({ cls := "ClockedFlowsModel", name := "judge", desc := "(IJ)I" } : Jvm.MethodName)) ∈ gws := gws_mem (kt_5 _ (List.mem_of_getElem? (i := 0) rfl)) rfl
theorem kw_961 : (Jvm.Cond.selects "ClockedFlowsModel" ({ cls := "ClockedFlowsModel", name := "judge", desc := "(IJ)I" } : Jvm.MethodName) ({ cls := "ClockedFlowsModel", name := "judge", desc := "(IJ)I" } : Jvm.MethodName)) ∈ gws := gws_mem (kt_5 _ (List.mem_of_getElem? (i := 1) rfl)) rfl
theorem kw_962 : (Jvm.Cond.code ({ cls := "ClockedFlowsModel", name := "judge", desc := "(IJ)I" } : Jvm.MethodName) prog_8_method_62_code (5 : Nat) (Option.some Jvm.ClassFile.FieldType.int)) ∈ gws := gws_mem (kt_5 _ (List.mem_of_getElem? (i := 2) rfl)) rfl
theorem kw_963 : (Jvm.Cond.constantLong "ClockedFlowsModel" (241 : Nat) (3 : Int64)) ∈ gws := gws_mem (kt_5 _ (List.mem_of_getElem? (i := 3) rfl)) rfl
theorem kw_964 : (Jvm.Cond.constantLong "ClockedFlowsModel" (243 : Nat) (100000 : Int64)) ∈ gws := gws_mem (kt_5 _ (List.mem_of_getElem? (i := 4) rfl)) rfl
theorem kw_965 : (Jvm.Cond.methodLink "ClockedFlowsModel" (245 : Nat) ({ cls := "ClockedFlowsModel", name := "longPower", desc := "(JI)J" } : Jvm.MethodName)) ∈ gws := gws_mem (kt_5 _ (List.mem_of_getElem? (i := 5) rfl)) rfl
theorem kw_966 : (Jvm.Cond.static ({ cls := "ClockedFlowsModel", name := "longPower", desc := "(JI)J" } : Jvm.MethodName)) ∈ gws := gws_mem (kt_5 _ (List.mem_of_getElem? (i := 6) rfl)) rfl
theorem kw_967 : (Jvm.Cond.code ({ cls := "ClockedFlowsModel", name := "longPower", desc := "(JI)J" } : Jvm.MethodName) prog_8_method_58_code (6 : Nat) (Option.some Jvm.ClassFile.FieldType.long)) ∈ gws := gws_mem (kt_5 _ (List.mem_of_getElem? (i := 7) rfl)) rfl
theorem kw_968 : (Jvm.Cond.methodLink "ClockedFlowsModel" (249 : Nat) ({ cls := "ClockedFlowsModel", name := "does", desc := "(I)Z" } : Jvm.MethodName)) ∈ gws := gws_mem (kt_5 _ (List.mem_of_getElem? (i := 8) rfl)) rfl
theorem kw_970 : (Jvm.Cond.instanceMethod ({ cls := "ClockedFlowsModel", name := "does", desc := "(I)Z" } : Jvm.MethodName)) ∈ gws := gws_mem (kt_5 _ (List.mem_of_getElem? (i := 10) rfl)) rfl
theorem kw_971 : (Jvm.Cond.code ({ cls := "ClockedFlowsModel", name := "does", desc := "(I)Z" } : Jvm.MethodName) prog_8_method_61_code (2 : Nat) (Option.some Jvm.ClassFile.FieldType.boolean)) ∈ gws := gws_mem (kt_5 _ (List.mem_of_getElem? (i := 11) rfl)) rfl
theorem kw_972 : (Jvm.Cond.methodLink "ClockedFlowsModel" (238 : Nat) ({ cls := "ClockedFlowsModel", name := "isSo", desc := "(IIII)Z" } : Jvm.MethodName)) ∈ gws := gws_mem (kt_5 _ (List.mem_of_getElem? (i := 12) rfl)) rfl
theorem kw_974 : (Jvm.Cond.instanceMethod ({ cls := "ClockedFlowsModel", name := "isSo", desc := "(IIII)Z" } : Jvm.MethodName)) ∈ gws := gws_mem (kt_5 _ (List.mem_of_getElem? (i := 14) rfl)) rfl
theorem kw_975 : (Jvm.Cond.code ({ cls := "ClockedFlowsModel", name := "isSo", desc := "(IIII)Z" } : Jvm.MethodName) prog_8_method_60_code (5 : Nat) (Option.some Jvm.ClassFile.FieldType.boolean)) ∈ gws := gws_mem (kt_5 _ (List.mem_of_getElem? (i := 15) rfl)) rfl
theorem kw_976 : (Jvm.Cond.methodLink "ClockedFlowsModel" (235 : Nat) ({ cls := "ClockedFlowsModel", name := "areLike", desc := "(II)Z" } : Jvm.MethodName)) ∈ gws := gws_mem (kt_5 _ (List.mem_of_getElem? (i := 16) rfl)) rfl
theorem kw_978 : (Jvm.Cond.instanceMethod ({ cls := "ClockedFlowsModel", name := "areLike", desc := "(II)Z" } : Jvm.MethodName)) ∈ gws := gws_mem (kt_5 _ (List.mem_of_getElem? (i := 18) rfl)) rfl
theorem kw_979 : (Jvm.Cond.code ({ cls := "ClockedFlowsModel", name := "areLike", desc := "(II)Z" } : Jvm.MethodName) prog_8_method_59_code (6 : Nat) (Option.some Jvm.ClassFile.FieldType.boolean)) ∈ gws := gws_mem (kt_5 _ (List.mem_of_getElem? (i := 19) rfl)) rfl
theorem kw_980 : (Jvm.Cond.methodLink "ClockedFlowsLaw" (89 : Nat) ({ cls := "ClockedFlowsModel", name := "see", desc := "(IIII)I" } : Jvm.MethodName)) ∈ gws := gws_mem (kt_5 _ (List.mem_of_getElem? (i := 20) rfl)) rfl
theorem kw_981 : (Jvm.Cond.instanceMethod ({ cls := "ClockedFlowsModel", name := "see", desc := "(IIII)I" } : Jvm.MethodName)) ∈ gws := gws_mem (kt_5 _ (List.mem_of_getElem? (i := 21) rfl)) rfl
theorem kw_982 : (Jvm.Cond.selects "ClockedFlowsModel" ({ cls := "ClockedFlowsModel", name := "see", desc := "(IIII)I" } : Jvm.MethodName) ({ cls := "ClockedFlowsModel", name := "see", desc := "(IIII)I" } : Jvm.MethodName)) ∈ gws := gws_mem (kt_5 _ (List.mem_of_getElem? (i := 22) rfl)) rfl
theorem kw_983 : (Jvm.Cond.code ({ cls := "ClockedFlowsModel", name := "see", desc := "(IIII)I" } : Jvm.MethodName) prog_8_method_63_code (5 : Nat) (Option.some Jvm.ClassFile.FieldType.int)) ∈ gws := gws_mem (kt_5 _ (List.mem_of_getElem? (i := 23) rfl)) rfl
theorem kw_984 : (Jvm.Cond.constantLong "ClockedFlowsModel" (252 : Nat) (12 : Int64)) ∈ gws := gws_mem (kt_5 _ (List.mem_of_getElem? (i := 24) rfl)) rfl
theorem kw_985 : (Jvm.Cond.constantLong "ClockedFlowsModel" (254 : Nat) (7 : Int64)) ∈ gws := gws_mem (kt_5 _ (List.mem_of_getElem? (i := 25) rfl)) rfl
theorem kw_986 : (Jvm.Cond.methodLink "ClockedFlowsLaw" (93 : Nat) ({ cls := "ClockedFlowsModel", name := "unsee", desc := "()I" } : Jvm.MethodName)) ∈ gws := gws_mem (kt_5 _ (List.mem_of_getElem? (i := 26) rfl)) rfl
theorem kw_987 : (Jvm.Cond.instanceMethod ({ cls := "ClockedFlowsModel", name := "unsee", desc := "()I" } : Jvm.MethodName)) ∈ gws := gws_mem (kt_5 _ (List.mem_of_getElem? (i := 27) rfl)) rfl
theorem kw_988 : (Jvm.Cond.selects "ClockedFlowsModel" ({ cls := "ClockedFlowsModel", name := "unsee", desc := "()I" } : Jvm.MethodName) ({ cls := "ClockedFlowsModel", name := "unsee", desc := "()I" } : Jvm.MethodName)) ∈ gws := gws_mem (kt_5 _ (List.mem_of_getElem? (i := 28) rfl)) rfl
theorem kw_989 : (Jvm.Cond.code ({ cls := "ClockedFlowsModel", name := "unsee", desc := "()I" } : Jvm.MethodName) prog_8_method_64_code (2 : Nat) (Option.some Jvm.ClassFile.FieldType.int)) ∈ gws := gws_mem (kt_5 _ (List.mem_of_getElem? (i := 29) rfl)) rfl
theorem kw_990 : (Jvm.Cond.methodLink "ClockedFlowsLaw" (97 : Nat) ({ cls := "ClockedFlowsModel", name := "inputs", desc := "(I)I" } : Jvm.MethodName)) ∈ gws := gws_mem (kt_5 _ (List.mem_of_getElem? (i := 30) rfl)) rfl
theorem kw_991 : (Jvm.Cond.instanceMethod ({ cls := "ClockedFlowsModel", name := "inputs", desc := "(I)I" } : Jvm.MethodName)) ∈ gws := gws_mem (kt_5 _ (List.mem_of_getElem? (i := 31) rfl)) rfl
theorem kw_992 : (Jvm.Cond.selects "ClockedFlowsModel" ({ cls := "ClockedFlowsModel", name := "inputs", desc := "(I)I" } : Jvm.MethodName) ({ cls := "ClockedFlowsModel", name := "inputs", desc := "(I)I" } : Jvm.MethodName)) ∈ gws := gws_mem (kt_5 _ (List.mem_of_getElem? (i := 32) rfl)) rfl
theorem kw_993 : (Jvm.Cond.code ({ cls := "ClockedFlowsModel", name := "inputs", desc := "(I)I" } : Jvm.MethodName) prog_8_method_66_code (4 : Nat) (Option.some Jvm.ClassFile.FieldType.int)) ∈ gws := gws_mem (kt_5 _ (List.mem_of_getElem? (i := 33) rfl)) rfl
theorem kw_994 : (Jvm.Cond.methodLink "ClockedFlowsModel" (262 : Nat) ({ cls := "ClockedFlowsModel", name := "explains", desc := "(II)Z" } : Jvm.MethodName)) ∈ gws := gws_mem (kt_5 _ (List.mem_of_getElem? (i := 34) rfl)) rfl
theorem kw_996 : (Jvm.Cond.instanceMethod ({ cls := "ClockedFlowsModel", name := "explains", desc := "(II)Z" } : Jvm.MethodName)) ∈ gws := gws_mem (kt_5 _ (List.mem_of_getElem? (i := 36) rfl)) rfl
theorem kw_997 : (Jvm.Cond.code ({ cls := "ClockedFlowsModel", name := "explains", desc := "(II)Z" } : Jvm.MethodName) prog_8_method_65_code (6 : Nat) (Option.some Jvm.ClassFile.FieldType.boolean)) ∈ gws := gws_mem (kt_5 _ (List.mem_of_getElem? (i := 37) rfl)) rfl
theorem kw_998 : (Jvm.Cond.methodLink "ClockedFlowsLaw" (102 : Nat) ({ cls := "ClockedFlowsModel", name := "odds", desc := "(IIIIZ)I" } : Jvm.MethodName)) ∈ gws := gws_mem (kt_5 _ (List.mem_of_getElem? (i := 38) rfl)) rfl
theorem kw_999 : (Jvm.Cond.instanceMethod ({ cls := "ClockedFlowsModel", name := "odds", desc := "(IIIIZ)I" } : Jvm.MethodName)) ∈ gws := gws_mem (kt_5 _ (List.mem_of_getElem? (i := 39) rfl)) rfl
theorem kw_1000 : (Jvm.Cond.selects "ClockedFlowsModel" ({ cls := "ClockedFlowsModel", name := "odds", desc := "(IIIIZ)I" } : Jvm.MethodName) ({ cls := "ClockedFlowsModel", name := "odds", desc := "(IIIIZ)I" } : Jvm.MethodName)) ∈ gws := gws_mem (kt_5 _ (List.mem_of_getElem? (i := 40) rfl)) rfl
theorem kw_1001 : (Jvm.Cond.code ({ cls := "ClockedFlowsModel", name := "odds", desc := "(IIIIZ)I" } : Jvm.MethodName) prog_8_method_70_code (10 : Nat) (Option.some Jvm.ClassFile.FieldType.int)) ∈ gws := gws_mem (kt_5 _ (List.mem_of_getElem? (i := 41) rfl)) rfl
theorem kw_1002 : (Jvm.Cond.constantLong "ClockedFlowsModel" (269 : Nat) (10 : Int64)) ∈ gws := gws_mem (kt_5 _ (List.mem_of_getElem? (i := 42) rfl)) rfl
theorem kw_1003 : (Jvm.Cond.methodLink "ClockedFlowsModel" (271 : Nat) ({ cls := "ClockedFlowsModel", name := "timesThere", desc := "(III)I" } : Jvm.MethodName)) ∈ gws := gws_mem (kt_5 _ (List.mem_of_getElem? (i := 43) rfl)) rfl
theorem kw_1005 : (Jvm.Cond.instanceMethod ({ cls := "ClockedFlowsModel", name := "timesThere", desc := "(III)I" } : Jvm.MethodName)) ∈ gws := gws_mem (kt_5 _ (List.mem_of_getElem? (i := 45) rfl)) rfl
theorem kw_1006 : (Jvm.Cond.code ({ cls := "ClockedFlowsModel", name := "timesThere", desc := "(III)I" } : Jvm.MethodName) prog_8_method_69_code (6 : Nat) (Option.some Jvm.ClassFile.FieldType.int)) ∈ gws := gws_mem (kt_5 _ (List.mem_of_getElem? (i := 46) rfl)) rfl
theorem kw_1007 : (Jvm.Cond.methodLink "ClockedFlowsModel" (274 : Nat) ({ cls := "ClockedFlowsModel", name := "power", desc := "(II)I" } : Jvm.MethodName)) ∈ gws := gws_mem (kt_5 _ (List.mem_of_getElem? (i := 47) rfl)) rfl
theorem kw_1008 : (Jvm.Cond.static ({ cls := "ClockedFlowsModel", name := "power", desc := "(II)I" } : Jvm.MethodName)) ∈ gws := gws_mem (kt_5 _ (List.mem_of_getElem? (i := 48) rfl)) rfl
theorem kw_1009 : (Jvm.Cond.code ({ cls := "ClockedFlowsModel", name := "power", desc := "(II)I" } : Jvm.MethodName) prog_8_method_5_code (4 : Nat) (Option.some Jvm.ClassFile.FieldType.int)) ∈ gws := gws_mem (kt_5 _ (List.mem_of_getElem? (i := 49) rfl)) rfl
theorem kw_1010 : (Jvm.Cond.methodLink "ClockedFlowsModel" (277 : Nat) ({ cls := "ClockedFlowsModel", name := "fraction", desc := "(IIZ)I" } : Jvm.MethodName)) ∈ gws := gws_mem (kt_5 _ (List.mem_of_getElem? (i := 50) rfl)) rfl
theorem kw_1011 : (Jvm.Cond.static ({ cls := "ClockedFlowsModel", name := "fraction", desc := "(IIZ)I" } : Jvm.MethodName)) ∈ gws := gws_mem (kt_5 _ (List.mem_of_getElem? (i := 51) rfl)) rfl
theorem kw_1012 : (Jvm.Cond.code ({ cls := "ClockedFlowsModel", name := "fraction", desc := "(IIZ)I" } : Jvm.MethodName) prog_8_method_68_code (4 : Nat) (Option.some Jvm.ClassFile.FieldType.int)) ∈ gws := gws_mem (kt_5 _ (List.mem_of_getElem? (i := 52) rfl)) rfl
theorem kw_1013 : (Jvm.Cond.methodLink "ClockedFlowsModel" (265 : Nat) ({ cls := "ClockedFlowsModel", name := "divisor", desc := "(II)I" } : Jvm.MethodName)) ∈ gws := gws_mem (kt_5 _ (List.mem_of_getElem? (i := 53) rfl)) rfl
theorem kw_1014 : (Jvm.Cond.static ({ cls := "ClockedFlowsModel", name := "divisor", desc := "(II)I" } : Jvm.MethodName)) ∈ gws := gws_mem (kt_5 _ (List.mem_of_getElem? (i := 54) rfl)) rfl
theorem kw_1015 : (Jvm.Cond.code ({ cls := "ClockedFlowsModel", name := "divisor", desc := "(II)I" } : Jvm.MethodName) prog_8_method_67_code (5 : Nat) (Option.some Jvm.ClassFile.FieldType.int)) ∈ gws := gws_mem (kt_5 _ (List.mem_of_getElem? (i := 55) rfl)) rfl
theorem kw_1016 : (Jvm.Cond.methodLink "ClockedFlowsLaw" (107 : Nat) ({ cls := "ClockedFlowsModel", name := "seed", desc := "(J)J" } : Jvm.MethodName)) ∈ gws := gws_mem (kt_5 _ (List.mem_of_getElem? (i := 56) rfl)) rfl
theorem kw_1017 : (Jvm.Cond.instanceMethod ({ cls := "ClockedFlowsModel", name := "seed", desc := "(J)J" } : Jvm.MethodName)) ∈ gws := gws_mem (kt_5 _ (List.mem_of_getElem? (i := 57) rfl)) rfl
theorem kw_1018 : (Jvm.Cond.selects "ClockedFlowsModel" ({ cls := "ClockedFlowsModel", name := "seed", desc := "(J)J" } : Jvm.MethodName) ({ cls := "ClockedFlowsModel", name := "seed", desc := "(J)J" } : Jvm.MethodName)) ∈ gws := gws_mem (kt_5 _ (List.mem_of_getElem? (i := 58) rfl)) rfl
theorem kw_1019 : (Jvm.Cond.code ({ cls := "ClockedFlowsModel", name := "seed", desc := "(J)J" } : Jvm.MethodName) prog_8_method_71_code (5 : Nat) (Option.some Jvm.ClassFile.FieldType.long)) ∈ gws := gws_mem (kt_5 _ (List.mem_of_getElem? (i := 59) rfl)) rfl
theorem kw_1020 : (Jvm.Cond.methodLink "ClockedFlowsLaw" (111 : Nat) ({ cls := "ClockedFlowsModel", name := "runs", desc := "(I)I" } : Jvm.MethodName)) ∈ gws := gws_mem (kt_5 _ (List.mem_of_getElem? (i := 60) rfl)) rfl
theorem kw_1021 : (Jvm.Cond.instanceMethod ({ cls := "ClockedFlowsModel", name := "runs", desc := "(I)I" } : Jvm.MethodName)) ∈ gws := gws_mem (kt_5 _ (List.mem_of_getElem? (i := 61) rfl)) rfl
theorem kw_1022 : (Jvm.Cond.selects "ClockedFlowsModel" ({ cls := "ClockedFlowsModel", name := "runs", desc := "(I)I" } : Jvm.MethodName) ({ cls := "ClockedFlowsModel", name := "runs", desc := "(I)I" } : Jvm.MethodName)) ∈ gws := gws_mem (kt_5 _ (List.mem_of_getElem? (i := 62) rfl)) rfl
theorem kw_1023 : (Jvm.Cond.code ({ cls := "ClockedFlowsModel", name := "runs", desc := "(I)I" } : Jvm.MethodName) prog_8_method_73_code (5 : Nat) (Option.some Jvm.ClassFile.FieldType.int)) ∈ gws := gws_mem (kt_5 _ (List.mem_of_getElem? (i := 63) rfl)) rfl
theorem kw_1024 : (Jvm.Cond.constantLong "ClockedFlowsModel" (285 : Nat) (30 : Int64)) ∈ gws := gws_mem (kt_5 _ (List.mem_of_getElem? (i := 64) rfl)) rfl
theorem kw_1025 : (Jvm.Cond.constantLong "ClockedFlowsModel" (287 : Nat) (6364136223846793005 : Int64)) ∈ gws := gws_mem (kt_5 _ (List.mem_of_getElem? (i := 65) rfl)) rfl
theorem kw_1026 : (Jvm.Cond.constantLong "ClockedFlowsModel" (289 : Nat) (1442695040888963407 : Int64)) ∈ gws := gws_mem (kt_5 _ (List.mem_of_getElem? (i := 66) rfl)) rfl
theorem kw_1027 : (Jvm.Cond.methodLink "ClockedFlowsModel" (291 : Nat) ({ cls := "ClockedFlowsModel", name := "sumOf", desc := "(I)I" } : Jvm.MethodName)) ∈ gws := gws_mem (kt_5 _ (List.mem_of_getElem? (i := 67) rfl)) rfl
theorem kw_1029 : (Jvm.Cond.instanceMethod ({ cls := "ClockedFlowsModel", name := "sumOf", desc := "(I)I" } : Jvm.MethodName)) ∈ gws := gws_mem (kt_5 _ (List.mem_of_getElem? (i := 69) rfl)) rfl
theorem kw_1030 : (Jvm.Cond.code ({ cls := "ClockedFlowsModel", name := "sumOf", desc := "(I)I" } : Jvm.MethodName) prog_8_method_72_code (4 : Nat) (Option.some Jvm.ClassFile.FieldType.int)) ∈ gws := gws_mem (kt_5 _ (List.mem_of_getElem? (i := 70) rfl)) rfl
theorem kw_1031 : (Jvm.Cond.methodLink "ClockedFlowsLaw" (115 : Nat) ({ cls := "ClockedFlowsModel", name := "keep", desc := "(I)I" } : Jvm.MethodName)) ∈ gws := gws_mem (kt_5 _ (List.mem_of_getElem? (i := 71) rfl)) rfl
theorem kw_1032 : (Jvm.Cond.instanceMethod ({ cls := "ClockedFlowsModel", name := "keep", desc := "(I)I" } : Jvm.MethodName)) ∈ gws := gws_mem (kt_5 _ (List.mem_of_getElem? (i := 72) rfl)) rfl
theorem kw_1033 : (Jvm.Cond.selects "ClockedFlowsModel" ({ cls := "ClockedFlowsModel", name := "keep", desc := "(I)I" } : Jvm.MethodName) ({ cls := "ClockedFlowsModel", name := "keep", desc := "(I)I" } : Jvm.MethodName)) ∈ gws := gws_mem (kt_5 _ (List.mem_of_getElem? (i := 73) rfl)) rfl
theorem kw_1034 : (Jvm.Cond.code ({ cls := "ClockedFlowsModel", name := "keep", desc := "(I)I" } : Jvm.MethodName) prog_8_method_74_code (3 : Nat) (Option.some Jvm.ClassFile.FieldType.int)) ∈ gws := gws_mem (kt_5 _ (List.mem_of_getElem? (i := 74) rfl)) rfl
theorem kw_1035 : (Jvm.Cond.methodLink "ClockedFlowsLaw" (119 : Nat) ({ cls := "ClockedFlowsModel", name := "again", desc := "(I)I" } : Jvm.MethodName)) ∈ gws := gws_mem (kt_5 _ (List.mem_of_getElem? (i := 75) rfl)) rfl
theorem kw_1036 : (Jvm.Cond.instanceMethod ({ cls := "ClockedFlowsModel", name := "again", desc := "(I)I" } : Jvm.MethodName)) ∈ gws := gws_mem (kt_5 _ (List.mem_of_getElem? (i := 76) rfl)) rfl
theorem kw_1037 : (Jvm.Cond.selects "ClockedFlowsModel" ({ cls := "ClockedFlowsModel", name := "again", desc := "(I)I" } : Jvm.MethodName) ({ cls := "ClockedFlowsModel", name := "again", desc := "(I)I" } : Jvm.MethodName)) ∈ gws := gws_mem (kt_5 _ (List.mem_of_getElem? (i := 77) rfl)) rfl
theorem kw_1038 : (Jvm.Cond.code ({ cls := "ClockedFlowsModel", name := "again", desc := "(I)I" } : Jvm.MethodName) prog_8_method_75_code (3 : Nat) (Option.some Jvm.ClassFile.FieldType.int)) ∈ gws := gws_mem (kt_5 _ (List.mem_of_getElem? (i := 78) rfl)) rfl
theorem kw_1039 : (Jvm.Cond.constantLong "ClockedFlowsLaw" (79 : Nat) (4294967295 : Int64)) ∈ gws := gws_mem (kt_5 _ (List.mem_of_getElem? (i := 79) rfl)) rfl
theorem kw_1040 : (Jvm.Cond.fieldLink "java/lang/String" (15 : Nat) "java/lang/String" "coder" "B") ∈ gws := gws_mem (kt_5 _ (List.mem_of_getElem? (i := 80) rfl)) rfl
theorem kw_1041 : (Jvm.Cond.fieldLink "java/lang/String" (9 : Nat) "java/lang/String" "value" "[B") ∈ gws := gws_mem (kt_5 _ (List.mem_of_getElem? (i := 81) rfl)) rfl
theorem kw_1042 : Cond.selects "ClockedFlows$Text" ⟨"ClockedFlows$Text", "letterAt", "(I)I"⟩ ⟨"ClockedFlows$Text", "letterAt", "(I)I"⟩ ∈ gws := gws_mem (kp_1 (List.mem_of_getElem? (i := 0) rfl)) rfl
theorem kw_1043 : Cond.selects "ClockedFlows$Text" ⟨"ClockedFlows$Text", "readEquation", "(LClockedFlows$Flow;II)I"⟩ ⟨"ClockedFlows$Text", "readEquation", "(LClockedFlows$Flow;II)I"⟩ ∈ gws := gws_mem (kp_1 (List.mem_of_getElem? (i := 1) rfl)) rfl
theorem kw_1044 : Cond.selects "ClockedFlows$Flow" ⟨"ClockedFlows$Flow", "heldAtFirst", "(I)I"⟩ ⟨"ClockedFlows$Flow", "heldAtFirst", "(I)I"⟩ ∈ gws := gws_mem (kp_1 (List.mem_of_getElem? (i := 2) rfl)) rfl
theorem kw_1045 : Cond.selects "ClockedFlows$Sense" ⟨"ClockedFlows$Sense", "findClash", "(LClockedFlows$Flow;)I"⟩ ⟨"ClockedFlows$Sense", "findClash", "(LClockedFlows$Flow;)I"⟩ ∈ gws := gws_mem (kp_1 (List.mem_of_getElem? (i := 3) rfl)) rfl
theorem kw_1046 : Cond.selects "ClockedFlows$Sense" ⟨"ClockedFlows$Sense", "meet", "(LClockedFlows$Flow;I)Z"⟩ ⟨"ClockedFlows$Sense", "meet", "(LClockedFlows$Flow;I)Z"⟩ ∈ gws := gws_mem (kp_1 (List.mem_of_getElem? (i := 4) rfl)) rfl
theorem kw_1047 : Cond.selects "ClockedFlows$Sense" ⟨"ClockedFlows$Sense", "bind", "(II)Z"⟩ ⟨"ClockedFlows$Sense", "bind", "(II)Z"⟩ ∈ gws := gws_mem (kp_1 (List.mem_of_getElem? (i := 5) rfl)) rfl
theorem kw_1048 : Cond.selects "ClockedFlows$Sense" ⟨"ClockedFlows$Sense", "liken", "(II)Z"⟩ ⟨"ClockedFlows$Sense", "liken", "(II)Z"⟩ ∈ gws := gws_mem (kp_1 (List.mem_of_getElem? (i := 6) rfl)) rfl
theorem kw_1049 : Cond.selects "ClockedFlows$Sense" ⟨"ClockedFlows$Sense", "likenAll", "(LClockedFlows$Flow;I)Z"⟩ ⟨"ClockedFlows$Sense", "likenAll", "(LClockedFlows$Flow;I)Z"⟩ ∈ gws := gws_mem (kp_1 (List.mem_of_getElem? (i := 7) rfl)) rfl
theorem kw_1050 : Cond.selects "ClockedFlows$Sense" ⟨"ClockedFlows$Sense", "haveEnds", "()Z"⟩ ⟨"ClockedFlows$Sense", "haveEnds", "()Z"⟩ ∈ gws := gws_mem (kp_1 (List.mem_of_getElem? (i := 8) rfl)) rfl
theorem kw_1051 : Cond.selects "ClockedFlows$Sense" ⟨"ClockedFlows$Sense", "settle", "()V"⟩ ⟨"ClockedFlows$Sense", "settle", "()V"⟩ ∈ gws := gws_mem (kp_1 (List.mem_of_getElem? (i := 9) rfl)) rfl
theorem kw_1052 : Cond.selects "ClockedFlows$Sense" ⟨"ClockedFlows$Sense", "putInOrder", "(LClockedFlows$Flow;)V"⟩ ⟨"ClockedFlows$Sense", "putInOrder", "(LClockedFlows$Flow;)V"⟩ ∈ gws := gws_mem (kp_1 (List.mem_of_getElem? (i := 10) rfl)) rfl
theorem kw_1053 : Cond.selects "ClockedFlows$Sense" ⟨"ClockedFlows$Sense", "leastReady", "(LClockedFlows$Flow;I)I"⟩ ⟨"ClockedFlows$Sense", "leastReady", "(LClockedFlows$Flow;I)I"⟩ ∈ gws := gws_mem (kp_1 (List.mem_of_getElem? (i := 11) rfl)) rfl
theorem kw_1054 : Cond.selects "ClockedFlows$Sense" ⟨"ClockedFlows$Sense", "waits", "(LClockedFlows$Flow;I)I"⟩ ⟨"ClockedFlows$Sense", "waits", "(LClockedFlows$Flow;I)I"⟩ ∈ gws := gws_mem (kp_1 (List.mem_of_getElem? (i := 12) rfl)) rfl
theorem kw_1055 : Cond.selects "ClockedFlows$Sense" ⟨"ClockedFlows$Sense", "findLevels", "(LClockedFlows$Flow;)V"⟩ ⟨"ClockedFlows$Sense", "findLevels", "(LClockedFlows$Flow;)V"⟩ ∈ gws := gws_mem (kp_1 (List.mem_of_getElem? (i := 13) rfl)) rfl
theorem kw_1056 : Cond.selects "ClockedFlows$Sense" ⟨"ClockedFlows$Sense", "levelByParts", "(LClockedFlows$Flow;I)I"⟩ ⟨"ClockedFlows$Sense", "levelByParts", "(LClockedFlows$Flow;I)I"⟩ ∈ gws := gws_mem (kp_1 (List.mem_of_getElem? (i := 14) rfl)) rfl
theorem kw_1057 : Cond.selects "ClockedFlows$Sense" ⟨"ClockedFlows$Sense", "highest", "(LClockedFlows$Flow;I)I"⟩ ⟨"ClockedFlows$Sense", "highest", "(LClockedFlows$Flow;I)I"⟩ ∈ gws := gws_mem (kp_1 (List.mem_of_getElem? (i := 15) rfl)) rfl
theorem kw_1058 : Cond.selects "ClockedFlows$Sense" ⟨"ClockedFlows$Sense", "findRaw", "(LClockedFlows$Flow;)I"⟩ ⟨"ClockedFlows$Sense", "findRaw", "(LClockedFlows$Flow;)I"⟩ ∈ gws := gws_mem (kp_2 (List.mem_of_getElem? (i := 0) rfl)) rfl
theorem kw_1059 : Cond.selects "ClockedFlows$Sense" ⟨"ClockedFlows$Sense", "isRaw", "(LClockedFlows$Flow;I)Z"⟩ ⟨"ClockedFlows$Sense", "isRaw", "(LClockedFlows$Flow;I)Z"⟩ ∈ gws := gws_mem (kp_2 (List.mem_of_getElem? (i := 1) rfl)) rfl
theorem kw_1060 : Cond.selects "ClockedFlows" ⟨"ClockedFlows", "soundness", "()I"⟩ ⟨"ClockedFlows", "soundness", "()I"⟩ ∈ gws := gws_mem (kp_2 (List.mem_of_getElem? (i := 2) rfl)) rfl
theorem kw_1061 : Cond.selects "ClockedFlows" ⟨"ClockedFlows", "isStream", "(I)Z"⟩ ⟨"ClockedFlows", "isStream", "(I)Z"⟩ ∈ gws := gws_mem (kp_2 (List.mem_of_getElem? (i := 3) rfl)) rfl
theorem kw_1062 : Cond.selects "ClockedFlows$Flow" ⟨"ClockedFlows$Flow", "isThere", "(I)Z"⟩ ⟨"ClockedFlows$Flow", "isThere", "(I)Z"⟩ ∈ gws := gws_mem (kp_2 (List.mem_of_getElem? (i := 4) rfl)) rfl
theorem kw_1063 : Cond.selects "ClockedFlows$Flow" ⟨"ClockedFlows$Flow", "reckon", "(III)I"⟩ ⟨"ClockedFlows$Flow", "reckon", "(III)I"⟩ ∈ gws := gws_mem (kp_2 (List.mem_of_getElem? (i := 5) rfl)) rfl
theorem kw_1064 : Cond.selects "ClockedFlows$Flow" ⟨"ClockedFlows$Flow", "combine", "(III)I"⟩ ⟨"ClockedFlows$Flow", "combine", "(III)I"⟩ ∈ gws := gws_mem (kp_2 (List.mem_of_getElem? (i := 6) rfl)) rfl
theorem kw_1065 : Cond.selects "ClockedFlows$Flow" ⟨"ClockedFlows$Flow", "choose", "(III)I"⟩ ⟨"ClockedFlows$Flow", "choose", "(III)I"⟩ ∈ gws := gws_mem (kp_2 (List.mem_of_getElem? (i := 7) rfl)) rfl
theorem kw_1066 : Cond.selects "ClockedFlows$Flow" ⟨"ClockedFlows$Flow", "heldNext", "(I)I"⟩ ⟨"ClockedFlows$Flow", "heldNext", "(I)I"⟩ ∈ gws := gws_mem (kp_2 (List.mem_of_getElem? (i := 8) rfl)) rfl
theorem kw_1067 : Cond.selects "ClockedFlows" ⟨"ClockedFlows", "isEquation", "(IIII)Z"⟩ ⟨"ClockedFlows", "isEquation", "(IIII)Z"⟩ ∈ gws := gws_mem (kp_2 (List.mem_of_getElem? (i := 9) rfl)) rfl
theorem kw_1068 : Cond.selects "ClockedFlows" ⟨"ClockedFlows", "layTrail", "(II)V"⟩ ⟨"ClockedFlows", "layTrail", "(II)V"⟩ ∈ gws := gws_mem (kp_2 (List.mem_of_getElem? (i := 10) rfl)) rfl
theorem kw_1069 : Cond.selects "ClockedFlows" ⟨"ClockedFlows", "sameOnTrail", "(II)Z"⟩ ⟨"ClockedFlows", "sameOnTrail", "(II)Z"⟩ ∈ gws := gws_mem (kp_2 (List.mem_of_getElem? (i := 11) rfl)) rfl
theorem kw_1070 : Cond.selects "ClockedFlows" ⟨"ClockedFlows", "holds", "(I)Z"⟩ ⟨"ClockedFlows", "holds", "(I)Z"⟩ ∈ gws := gws_mem (kp_2 (List.mem_of_getElem? (i := 12) rfl)) rfl
theorem kw_1071 : Cond.selects "ClockedFlows" ⟨"ClockedFlows", "explains", "(II)Z"⟩ ⟨"ClockedFlows", "explains", "(II)Z"⟩ ∈ gws := gws_mem (kp_2 (List.mem_of_getElem? (i := 13) rfl)) rfl
theorem kw_1072 : Cond.selects "ClockedFlows" ⟨"ClockedFlows", "timesThere", "(III)I"⟩ ⟨"ClockedFlows", "timesThere", "(III)I"⟩ ∈ gws := gws_mem (kp_2 (List.mem_of_getElem? (i := 14) rfl)) rfl
theorem kw_1073 : Cond.selects "ClockedFlowsModel" ⟨"ClockedFlowsModel", "readProgram", "()I"⟩ ⟨"ClockedFlowsModel", "readProgram", "()I"⟩ ∈ gws := gws_mem (kp_2 (List.mem_of_getElem? (i := 15) rfl)) rfl
theorem kw_1074 : Cond.selects "ClockedFlowsModel" ⟨"ClockedFlowsModel", "letterAt", "(I)I"⟩ ⟨"ClockedFlowsModel", "letterAt", "(I)I"⟩ ∈ gws := gws_mem (kp_3 (List.mem_of_getElem? (i := 0) rfl)) rfl
theorem kw_1075 : Cond.selects "ClockedFlowsModel" ⟨"ClockedFlowsModel", "readEquation", "(II)Z"⟩ ⟨"ClockedFlowsModel", "readEquation", "(II)Z"⟩ ∈ gws := gws_mem (kp_3 (List.mem_of_getElem? (i := 1) rfl)) rfl
theorem kw_1076 : Cond.selects "ClockedFlowsModel" ⟨"ClockedFlowsModel", "soundNow", "()Z"⟩ ⟨"ClockedFlowsModel", "soundNow", "()Z"⟩ ∈ gws := gws_mem (kp_3 (List.mem_of_getElem? (i := 2) rfl)) rfl
theorem kw_1077 : Cond.selects "ClockedFlowsModel" ⟨"ClockedFlowsModel", "find", "([I)V"⟩ ⟨"ClockedFlowsModel", "find", "([I)V"⟩ ∈ gws := gws_mem (kp_3 (List.mem_of_getElem? (i := 3) rfl)) rfl
theorem kw_1078 : Cond.selects "ClockedFlowsModel" ⟨"ClockedFlowsModel", "findClocks", "([I)V"⟩ ⟨"ClockedFlowsModel", "findClocks", "([I)V"⟩ ∈ gws := gws_mem (kp_3 (List.mem_of_getElem? (i := 4) rfl)) rfl
theorem kw_1079 : Cond.selects "ClockedFlowsModel" ⟨"ClockedFlowsModel", "asks", "([II)Z"⟩ ⟨"ClockedFlowsModel", "asks", "([II)Z"⟩ ∈ gws := gws_mem (kp_3 (List.mem_of_getElem? (i := 5) rfl)) rfl
theorem kw_1080 : Cond.selects "ClockedFlowsModel" ⟨"ClockedFlowsModel", "settle", "(II)Z"⟩ ⟨"ClockedFlowsModel", "settle", "(II)Z"⟩ ∈ gws := gws_mem (kp_3 (List.mem_of_getElem? (i := 6) rfl)) rfl
theorem kw_1081 : Cond.selects "ClockedFlowsModel" ⟨"ClockedFlowsModel", "root", "(I)I"⟩ ⟨"ClockedFlowsModel", "root", "(I)I"⟩ ∈ gws := gws_mem (kp_3 (List.mem_of_getElem? (i := 7) rfl)) rfl
theorem kw_1082 : Cond.selects "ClockedFlowsModel" ⟨"ClockedFlowsModel", "isMet", "(II)Z"⟩ ⟨"ClockedFlowsModel", "isMet", "(II)Z"⟩ ∈ gws := gws_mem (kp_3 (List.mem_of_getElem? (i := 8) rfl)) rfl
theorem kw_1083 : Cond.selects "ClockedFlowsModel" ⟨"ClockedFlowsModel", "like", "(II)Z"⟩ ⟨"ClockedFlowsModel", "like", "(II)Z"⟩ ∈ gws := gws_mem (kp_3 (List.mem_of_getElem? (i := 9) rfl)) rfl
theorem kw_1084 : Cond.selects "ClockedFlowsModel" ⟨"ClockedFlowsModel", "findOrder", "([I)V"⟩ ⟨"ClockedFlowsModel", "findOrder", "([I)V"⟩ ∈ gws := gws_mem (kp_3 (List.mem_of_getElem? (i := 10) rfl)) rfl
theorem kw_1085 : Cond.selects "ClockedFlowsModel" ⟨"ClockedFlowsModel", "waits", "([II)I"⟩ ⟨"ClockedFlowsModel", "waits", "([II)I"⟩ ∈ gws := gws_mem (kp_3 (List.mem_of_getElem? (i := 11) rfl)) rfl
theorem kw_1086 : Cond.selects "ClockedFlowsModel" ⟨"ClockedFlowsModel", "clocks", "(I)I"⟩ ⟨"ClockedFlowsModel", "clocks", "(I)I"⟩ ∈ gws := gws_mem (kp_3 (List.mem_of_getElem? (i := 12) rfl)) rfl
theorem kw_1087 : Cond.selects "ClockedFlowsModel" ⟨"ClockedFlowsModel", "findLevels", "([I)V"⟩ ⟨"ClockedFlowsModel", "findLevels", "([I)V"⟩ ∈ gws := gws_mem (kp_3 (List.mem_of_getElem? (i := 13) rfl)) rfl
theorem kw_1088 : Cond.selects "ClockedFlowsModel" ⟨"ClockedFlowsModel", "isOne", "([II)Z"⟩ ⟨"ClockedFlowsModel", "isOne", "([II)Z"⟩ ∈ gws := gws_mem (kp_3 (List.mem_of_getElem? (i := 14) rfl)) rfl
theorem kw_1089 : Cond.selects "ClockedFlowsModel" ⟨"ClockedFlowsModel", "isRaw", "([II)Z"⟩ ⟨"ClockedFlowsModel", "isRaw", "([II)Z"⟩ ∈ gws := gws_mem (kp_3 (List.mem_of_getElem? (i := 15) rfl)) rfl
theorem kw_1090 : Cond.selects "ClockedFlowsModel" ⟨"ClockedFlowsModel", "isSound", "()Z"⟩ ⟨"ClockedFlowsModel", "isSound", "()Z"⟩ ∈ gws := gws_mem (kp_4 (List.mem_of_getElem? (i := 0) rfl)) rfl
theorem kw_1091 : Cond.selects "ClockedFlowsModel" ⟨"ClockedFlowsModel", "there", "()I"⟩ ⟨"ClockedFlowsModel", "there", "()I"⟩ ∈ gws := gws_mem (kp_4 (List.mem_of_getElem? (i := 1) rfl)) rfl
theorem kw_1092 : Cond.selects "ClockedFlowsModel" ⟨"ClockedFlowsModel", "noStream", "(I)Z"⟩ ⟨"ClockedFlowsModel", "noStream", "(I)Z"⟩ ∈ gws := gws_mem (kp_4 (List.mem_of_getElem? (i := 2) rfl)) rfl
theorem kw_1093 : Cond.selects "ClockedFlowsModel" ⟨"ClockedFlowsModel", "note", "()V"⟩ ⟨"ClockedFlowsModel", "note", "()V"⟩ ∈ gws := gws_mem (kp_4 (List.mem_of_getElem? (i := 3) rfl)) rfl
theorem kw_1094 : Cond.selects "ClockedFlowsModel" ⟨"ClockedFlowsModel", "goTick", "([III)I"⟩ ⟨"ClockedFlowsModel", "goTick", "([III)I"⟩ ∈ gws := gws_mem (kp_4 (List.mem_of_getElem? (i := 4) rfl)) rfl
theorem kw_1095 : Cond.selects "ClockedFlowsModel" ⟨"ClockedFlowsModel", "isThere", "([II)Z"⟩ ⟨"ClockedFlowsModel", "isThere", "([II)Z"⟩ ∈ gws := gws_mem (kp_4 (List.mem_of_getElem? (i := 5) rfl)) rfl
theorem kw_1096 : Cond.selects "ClockedFlowsModel" ⟨"ClockedFlowsModel", "valueOf", "([IIII)I"⟩ ⟨"ClockedFlowsModel", "valueOf", "([IIII)I"⟩ ∈ gws := gws_mem (kp_4 (List.mem_of_getElem? (i := 6) rfl)) rfl
theorem kw_1097 : Cond.selects "ClockedFlowsModel" ⟨"ClockedFlowsModel", "keepOn", "([I)V"⟩ ⟨"ClockedFlowsModel", "keepOn", "([I)V"⟩ ∈ gws := gws_mem (kp_4 (List.mem_of_getElem? (i := 7) rfl)) rfl
theorem kw_1098 : Cond.selects "ClockedFlowsModel" ⟨"ClockedFlowsModel", "areFigures", "(IIII)Z"⟩ ⟨"ClockedFlowsModel", "areFigures", "(IIII)Z"⟩ ∈ gws := gws_mem (kp_4 (List.mem_of_getElem? (i := 8) rfl)) rfl
theorem kw_1099 : Cond.selects "ClockedFlowsModel" ⟨"ClockedFlowsModel", "begin", "()V"⟩ ⟨"ClockedFlowsModel", "begin", "()V"⟩ ∈ gws := gws_mem (kp_4 (List.mem_of_getElem? (i := 9) rfl)) rfl
theorem kw_1100 : Cond.selects "ClockedFlowsModel" ⟨"ClockedFlowsModel", "goTicks", "(III)V"⟩ ⟨"ClockedFlowsModel", "goTicks", "(III)V"⟩ ∈ gws := gws_mem (kp_4 (List.mem_of_getElem? (i := 10) rfl)) rfl
theorem kw_1101 : Cond.selects "ClockedFlowsModel" ⟨"ClockedFlowsModel", "layStates", "(II)V"⟩ ⟨"ClockedFlowsModel", "layStates", "(II)V"⟩ ∈ gws := gws_mem (kp_4 (List.mem_of_getElem? (i := 11) rfl)) rfl
theorem kw_1102 : Cond.selects "ClockedFlowsModel" ⟨"ClockedFlowsModel", "areAlike", "(II)Z"⟩ ⟨"ClockedFlowsModel", "areAlike", "(II)Z"⟩ ∈ gws := gws_mem (kp_4 (List.mem_of_getElem? (i := 12) rfl)) rfl
theorem kw_1103 : Cond.selects "ClockedFlowsModel" ⟨"ClockedFlowsModel", "does", "(I)Z"⟩ ⟨"ClockedFlowsModel", "does", "(I)Z"⟩ ∈ gws := gws_mem (kp_4 (List.mem_of_getElem? (i := 13) rfl)) rfl
theorem kw_1104 : Cond.selects "ClockedFlowsModel" ⟨"ClockedFlowsModel", "isSo", "(IIII)Z"⟩ ⟨"ClockedFlowsModel", "isSo", "(IIII)Z"⟩ ∈ gws := gws_mem (kp_4 (List.mem_of_getElem? (i := 14) rfl)) rfl
theorem kw_1105 : Cond.selects "ClockedFlowsModel" ⟨"ClockedFlowsModel", "areLike", "(II)Z"⟩ ⟨"ClockedFlowsModel", "areLike", "(II)Z"⟩ ∈ gws := gws_mem (kp_4 (List.mem_of_getElem? (i := 15) rfl)) rfl
theorem kw_1106 : Cond.selects "ClockedFlowsModel" ⟨"ClockedFlowsModel", "explains", "(II)Z"⟩ ⟨"ClockedFlowsModel", "explains", "(II)Z"⟩ ∈ gws := gws_mem (kp_5 (List.mem_of_getElem? (i := 0) rfl)) rfl
theorem kw_1107 : Cond.selects "ClockedFlowsModel" ⟨"ClockedFlowsModel", "timesThere", "(III)I"⟩ ⟨"ClockedFlowsModel", "timesThere", "(III)I"⟩ ∈ gws := gws_mem (kp_5 (List.mem_of_getElem? (i := 1) rfl)) rfl
theorem kw_1108 : Cond.selects "ClockedFlowsModel" ⟨"ClockedFlowsModel", "sumOf", "(I)I"⟩ ⟨"ClockedFlowsModel", "sumOf", "(I)I"⟩ ∈ gws := gws_mem (kp_5 (List.mem_of_getElem? (i := 2) rfl)) rfl
theorem inX0 : ∀ w ∈ u_ws RX0 TX0 3, w ∈ gws := by
  intro w hw
  obtain ⟨k, hk, rfl⟩ := List.mem_map.mp hw
  have hk := List.mem_range.mp hk
  match k, hk with
  | 0, _ => exact kw_135
  | 1, _ => exact kw_137
  | 2, _ => exact kw_139
  | k + 3, hk => exact absurd hk (by omega)
theorem inX1 : ∀ w ∈ u_ws RX1 TX1 6, w ∈ gws := by
  intro w hw
  obtain ⟨k, hk, rfl⟩ := List.mem_map.mp hw
  have hk := List.mem_range.mp hk
  match k, hk with
  | 0, _ => exact kw_60
  | 1, _ => exact kw_62
  | 2, _ => exact kw_64
  | 3, _ => exact kw_66
  | 4, _ => exact kw_68
  | 5, _ => exact kw_70
  | k + 6, hk => exact absurd hk (by omega)
theorem inX2 : ∀ w ∈ u_ws RX2 TX2 11, w ∈ gws := by
  intro w hw
  obtain ⟨k, hk, rfl⟩ := List.mem_map.mp hw
  have hk := List.mem_range.mp hk
  match k, hk with
  | 0, _ => exact kw_99
  | 1, _ => exact kw_101
  | 2, _ => exact kw_103
  | 3, _ => exact kw_105
  | 4, _ => exact kw_107
  | 5, _ => exact kw_109
  | 6, _ => exact kw_111
  | 7, _ => exact kw_113
  | 8, _ => exact kw_115
  | 9, _ => exact kw_117
  | 10, _ => exact kw_119
  | k + 11, hk => exact absurd hk (by omega)
theorem inX3 : ∀ w ∈ u_ws RX3 TX3 5, w ∈ gws := by
  intro w hw
  obtain ⟨k, hk, rfl⟩ := List.mem_map.mp hw
  have hk := List.mem_range.mp hk
  match k, hk with
  | 0, _ => exact kw_154
  | 1, _ => exact kw_156
  | 2, _ => exact kw_158
  | 3, _ => exact kw_160
  | 4, _ => exact kw_162
  | k + 5, hk => exact absurd hk (by omega)
theorem inX4 : ∀ w ∈ u_ws RX4 TX4 2, w ∈ gws := by
  intro w hw
  obtain ⟨k, hk, rfl⟩ := List.mem_map.mp hw
  have hk := List.mem_range.mp hk
  match k, hk with
  | 0, _ => exact kw_34
  | 1, _ => exact kw_36
  | k + 2, hk => exact absurd hk (by omega)
theorem inX5 : ∀ w ∈ u_ws RX5 TX5 10, w ∈ gws := by
  intro w hw
  obtain ⟨k, hk, rfl⟩ := List.mem_map.mp hw
  have hk := List.mem_range.mp hk
  match k, hk with
  | 0, _ => exact kw_176
  | 1, _ => exact kw_178
  | 2, _ => exact kw_180
  | 3, _ => exact kw_182
  | 4, _ => exact kw_184
  | 5, _ => exact kw_186
  | 6, _ => exact kw_188
  | 7, _ => exact kw_190
  | 8, _ => exact kw_192
  | 9, _ => exact kw_194
  | k + 10, hk => exact absurd hk (by omega)
theorem inX6 : ∀ w ∈ u_ws RX6 TX6 28, w ∈ gws := by
  intro w hw
  obtain ⟨k, hk, rfl⟩ := List.mem_map.mp hw
  have hk := List.mem_range.mp hk
  match k, hk with
  | 0, _ => exact kw_687
  | 1, _ => exact kw_689
  | 2, _ => exact kw_691
  | 3, _ => exact kw_693
  | 4, _ => exact kw_695
  | 5, _ => exact kw_697
  | 6, _ => exact kw_699
  | 7, _ => exact kw_701
  | 8, _ => exact kw_703
  | 9, _ => exact kw_705
  | 10, _ => exact kw_707
  | 11, _ => exact kw_709
  | 12, _ => exact kw_711
  | 13, _ => exact kw_713
  | 14, _ => exact kw_715
  | 15, _ => exact kw_717
  | 16, _ => exact kw_719
  | 17, _ => exact kw_721
  | 18, _ => exact kw_723
  | 19, _ => exact kw_725
  | 20, _ => exact kw_727
  | 21, _ => exact kw_729
  | 22, _ => exact kw_731
  | 23, _ => exact kw_733
  | 24, _ => exact kw_735
  | 25, _ => exact kw_737
  | 26, _ => exact kw_739
  | 27, _ => exact kw_741
  | k + 28, hk => exact absurd hk (by omega)
