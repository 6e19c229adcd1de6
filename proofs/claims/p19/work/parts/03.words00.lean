theorem lw_mem1 {c : Cond} (i : Nat) (h : tables_1_1[i]? = some c) : c ∈ lw_tbl := List.mem_append_right _ (List.mem_append_left _ (List.mem_of_getElem? h))
theorem lw_mem2 {c : Cond} (i : Nat) (h : tables_1_2[i]? = some c) : c ∈ lw_tbl := List.mem_append_right _ (List.mem_append_right _ (List.mem_append_left _ (List.mem_of_getElem? h)))
theorem lw_mem3 {c : Cond} (i : Nat) (h : tables_1_3[i]? = some c) : c ∈ lw_tbl := List.mem_append_right _ (List.mem_append_right _ (List.mem_append_right _ (List.mem_append_left _ (List.mem_of_getElem? h))))
theorem lw_mem4 {c : Cond} (i : Nat) (h : tables_1_4[i]? = some c) : c ∈ lw_tbl := List.mem_append_right _ (List.mem_append_right _ (List.mem_append_right _ (List.mem_append_right _ (List.mem_append_left _ (List.mem_of_getElem? h)))))
theorem lw_mem5 {c : Cond} (i : Nat) (h : tables_1_5[i]? = some c) : c ∈ lw_tbl := List.mem_append_right _ (List.mem_append_right _ (List.mem_append_right _ (List.mem_append_right _ (List.mem_append_right _ ((List.mem_of_getElem? h))))))
theorem kw_0 : (Jvm.Cond.initialized "EldestSaysLaw") ∈ lw_tbl := lw_mem1 0 rfl
theorem kw_1 : (Jvm.Cond.initialized "EldestSays") ∈ lw_tbl := lw_mem1 1 rfl
theorem kw_2 : (Jvm.Cond.initialized "EldestSays$Evening") ∈ lw_tbl := lw_mem1 2 rfl
theorem kw_3 : (Jvm.Cond.initialized "EldestSays$Letters") ∈ lw_tbl := lw_mem1 3 rfl
theorem kw_4 : (Jvm.Cond.initialized "EldestSays$Clever") ∈ lw_tbl := lw_mem1 4 rfl
theorem kw_5 : (Jvm.Cond.initialized "EldestSays$Company") ∈ lw_tbl := lw_mem1 5 rfl
theorem kw_6 : (Jvm.Cond.initialized "EldestSays$Envious") ∈ lw_tbl := lw_mem1 6 rfl
theorem kw_7 : (Jvm.Cond.initialized "EldestSays$Fair") ∈ lw_tbl := lw_mem1 7 rfl
theorem kw_8 : (Jvm.Cond.initialized "EldestSays$Fool") ∈ lw_tbl := lw_mem1 8 rfl
theorem kw_9 : (Jvm.Cond.initialized "EldestSays$Spiteful") ∈ lw_tbl := lw_mem1 9 rfl
theorem kw_10 : (Jvm.Cond.initialized "EldestSays$Meek") ∈ lw_tbl := lw_mem1 10 rfl
theorem kw_11 : (Jvm.Cond.initialized "EldestSays$Plans") ∈ lw_tbl := lw_mem1 11 rfl
theorem kw_12 : (Jvm.Cond.initialized "EldestSays$Crowd") ∈ lw_tbl := lw_mem1 12 rfl
theorem kw_13 : (Jvm.Cond.initialized "EldestSaysModel") ∈ lw_tbl := lw_mem1 13 rfl
theorem kw_14 : (Jvm.Cond.initialized "java/lang/Math") ∈ lw_tbl := lw_mem1 14 rfl
theorem kw_15 : (Jvm.Cond.initialized "java/util/Arrays") ∈ lw_tbl := lw_mem1 15 rfl
theorem kw_16 : (Jvm.Cond.initialized "java/lang/System") ∈ lw_tbl := lw_mem1 16 rfl
theorem kw_17 : (Jvm.Cond.initialized "java/lang/Integer") ∈ lw_tbl := lw_mem1 17 rfl
theorem kw_18 : (Jvm.Cond.classLink "EldestSaysLaw" (7 : Nat) "EldestSays") ∈ lw_tbl := lw_mem1 18 rfl
theorem kw_19 : (Jvm.Cond.instantiable "EldestSays" (14 : Nat)) ∈ lw_tbl := lw_mem1 19 rfl
theorem kw_20 : (Jvm.Cond.methodLink "EldestSaysLaw" (9 : Nat) ({ cls := "EldestSays", name := "<init>", desc := "()V" } : Jvm.MethodName)) ∈ lw_tbl := lw_mem1 20 rfl
theorem kw_21 : (Jvm.Cond.instanceMethod ({ cls := "EldestSays", name := "<init>", desc := "()V" } : Jvm.MethodName)) ∈ lw_tbl := lw_mem1 21 rfl
theorem kw_22 : (Jvm.Cond.code ({ cls := "EldestSays", name := "<init>", desc := "()V" } : Jvm.MethodName) prog_1_method_1_code (3 : Nat) (Option.none : Option Jvm.ClassFile.FieldType)) ∈ lw_tbl := lw_mem1 22 rfl
theorem kw_23 : (Jvm.Cond.methodLink "EldestSays" (1 : Nat) ({ cls := "java/lang/Object", name := "<init>", desc := "()V" } : Jvm.MethodName)) ∈ lw_tbl := lw_mem1 23 rfl
theorem kw_24 : (Jvm.Cond.instanceMethod ({ cls := "java/lang/Object", name := "<init>", desc := "()V" } : Jvm.MethodName)) ∈ lw_tbl := lw_mem1 24 rfl
theorem kw_25 : (Jvm.Cond.code ({ cls := "java/lang/Object", name := "<init>", desc := "()V" } : Jvm.MethodName) object_method_1_code (1 : Nat) (Option.none : Option Jvm.ClassFile.FieldType)) ∈ lw_tbl := lw_mem1 25 rfl
theorem kw_26 : (Jvm.Cond.classLink "EldestSays" (7 : Nat) "EldestSays$Evening") ∈ lw_tbl := lw_mem1 26 rfl
theorem kw_27 : (Jvm.Cond.instantiable "EldestSays$Evening" (8 : Nat)) ∈ lw_tbl := lw_mem1 27 rfl
theorem kw_28 : (Jvm.Cond.methodLinkNest "EldestSays" (9 : Nat) ({ cls := "EldestSays$Evening", name := "<init>", desc := "()V" } : Jvm.MethodName) "EldestSays") ∈ lw_tbl := lw_mem1 28 rfl
theorem kw_29 : (Jvm.Cond.instanceMethod ({ cls := "EldestSays$Evening", name := "<init>", desc := "()V" } : Jvm.MethodName)) ∈ lw_tbl := lw_mem1 29 rfl
theorem kw_30 : (Jvm.Cond.code ({ cls := "EldestSays$Evening", name := "<init>", desc := "()V" } : Jvm.MethodName) prog_6_method_1_code (1 : Nat) (Option.none : Option Jvm.ClassFile.FieldType)) ∈ lw_tbl := lw_mem1 30 rfl
theorem kw_31 : (Jvm.Cond.methodLink "EldestSays$Evening" (3 : Nat) ({ cls := "java/lang/Object", name := "<init>", desc := "()V" } : Jvm.MethodName)) ∈ lw_tbl := lw_mem1 31 rfl
theorem kw_32 : (Jvm.Cond.fieldLink "EldestSays$Evening" (9 : Nat) "EldestSays$Evening" "kinds" "[I") ∈ lw_tbl := lw_mem1 32 rfl
theorem kw_33 : (Jvm.Cond.fieldLink "EldestSays$Plans" (82 : Nat) "EldestSays$Evening" "kinds" "[I") ∈ lw_tbl := lw_mem1 33 rfl
theorem kw_34 : (Jvm.Cond.fieldLink "EldestSays" (118 : Nat) "EldestSays$Evening" "kinds" "[I") ∈ lw_tbl := lw_mem1 34 rfl
theorem kw_35 : (Jvm.Cond.fieldLink "EldestSays$Evening" (15 : Nat) "EldestSays$Evening" "figures" "[I") ∈ lw_tbl := lw_mem1 35 rfl
theorem kw_36 : (Jvm.Cond.fieldLink "EldestSays$Plans" (84 : Nat) "EldestSays$Evening" "figures" "[I") ∈ lw_tbl := lw_mem1 36 rfl
theorem kw_37 : (Jvm.Cond.fieldLink "EldestSays" (121 : Nat) "EldestSays$Evening" "figures" "[I") ∈ lw_tbl := lw_mem1 37 rfl
theorem kw_38 : (Jvm.Cond.fieldLink "EldestSays$Evening" (18 : Nat) "EldestSays$Evening" "weights" "[I") ∈ lw_tbl := lw_mem1 38 rfl
theorem kw_39 : (Jvm.Cond.fieldLink "EldestSays" (124 : Nat) "EldestSays$Evening" "weights" "[I") ∈ lw_tbl := lw_mem1 39 rfl
theorem kw_40 : (Jvm.Cond.fieldLink "EldestSays$Plans" (117 : Nat) "EldestSays$Evening" "weights" "[I") ∈ lw_tbl := lw_mem1 40 rfl
theorem kw_41 : (Jvm.Cond.fieldLink "EldestSays$Evening" (21 : Nat) "EldestSays$Evening" "purses" "[I") ∈ lw_tbl := lw_mem1 41 rfl
theorem kw_42 : (Jvm.Cond.fieldLink "EldestSays" (177 : Nat) "EldestSays$Evening" "purses" "[I") ∈ lw_tbl := lw_mem1 42 rfl
theorem kw_43 : (Jvm.Cond.fieldLink "EldestSays$Evening" (24 : Nat) "EldestSays$Evening" "settings" "[I") ∈ lw_tbl := lw_mem1 43 rfl
theorem kw_44 : (Jvm.Cond.fieldLink "EldestSays$Plans" (87 : Nat) "EldestSays$Evening" "settings" "[I") ∈ lw_tbl := lw_mem1 44 rfl
theorem kw_45 : (Jvm.Cond.fieldLink "EldestSays" (130 : Nat) "EldestSays$Evening" "settings" "[I") ∈ lw_tbl := lw_mem1 45 rfl
theorem kw_46 : (Jvm.Cond.fieldLink "EldestSays$Letters" (62 : Nat) "EldestSays$Evening" "settings" "[I") ∈ lw_tbl := lw_mem1 46 rfl
theorem kw_47 : (Jvm.Cond.fieldLink "EldestSays$Plans" (55 : Nat) "EldestSays$Evening" "size" "I") ∈ lw_tbl := lw_mem1 47 rfl
theorem kw_48 : (Jvm.Cond.fieldLink "EldestSays$Evening" (36 : Nat) "EldestSays$Evening" "size" "I") ∈ lw_tbl := lw_mem1 48 rfl
theorem kw_49 : (Jvm.Cond.fieldLink "EldestSays$Letters" (39 : Nat) "EldestSays$Evening" "size" "I") ∈ lw_tbl := lw_mem1 49 rfl
theorem kw_50 : (Jvm.Cond.fieldLink "EldestSays" (193 : Nat) "EldestSays$Evening" "size" "I") ∈ lw_tbl := lw_mem1 50 rfl
theorem kw_51 : (Jvm.Cond.fieldLink "EldestSays$Evening" (40 : Nat) "EldestSays$Evening" "sayer" "I") ∈ lw_tbl := lw_mem1 51 rfl
theorem kw_52 : (Jvm.Cond.fieldLink "EldestSays" (170 : Nat) "EldestSays$Evening" "sayer" "I") ∈ lw_tbl := lw_mem1 52 rfl
theorem kw_53 : (Jvm.Cond.fieldLink "EldestSays$Evening" (43 : Nat) "EldestSays$Evening" "isDone" "Z") ∈ lw_tbl := lw_mem1 53 rfl
theorem kw_54 : (Jvm.Cond.fieldLink "EldestSays$Letters" (42 : Nat) "EldestSays$Evening" "isDone" "Z") ∈ lw_tbl := lw_mem1 54 rfl
theorem kw_55 : (Jvm.Cond.fieldLink "EldestSays" (247 : Nat) "EldestSays$Evening" "isDone" "Z") ∈ lw_tbl := lw_mem1 55 rfl
theorem kw_56 : (Jvm.Cond.laysFinal "EldestSays$Evening" "EldestSays$Evening" "kinds" "[I") ∈ lw_tbl := lw_mem1 56 rfl
theorem kw_57 : (Jvm.Cond.soleField "EldestSays$Evening" "kinds") ∈ lw_tbl := lw_mem1 57 rfl
theorem kw_58 : (Jvm.Cond.laysFinal "EldestSays$Evening" "EldestSays$Evening" "figures" "[I") ∈ lw_tbl := lw_mem1 58 rfl
theorem kw_59 : (Jvm.Cond.soleField "EldestSays$Evening" "figures") ∈ lw_tbl := lw_mem1 59 rfl
theorem kw_60 : (Jvm.Cond.laysFinal "EldestSays$Evening" "EldestSays$Evening" "weights" "[I") ∈ lw_tbl := lw_mem1 60 rfl
theorem kw_61 : (Jvm.Cond.soleField "EldestSays$Evening" "weights") ∈ lw_tbl := lw_mem1 61 rfl
theorem kw_62 : (Jvm.Cond.laysFinal "EldestSays$Evening" "EldestSays$Evening" "purses" "[I") ∈ lw_tbl := lw_mem1 62 rfl
theorem kw_63 : (Jvm.Cond.soleField "EldestSays$Evening" "purses") ∈ lw_tbl := lw_mem1 63 rfl
theorem kw_64 : (Jvm.Cond.laysFinal "EldestSays$Evening" "EldestSays$Evening" "settings" "[I") ∈ lw_tbl := lw_mem1 64 rfl
theorem kw_65 : (Jvm.Cond.soleField "EldestSays$Evening" "settings") ∈ lw_tbl := lw_mem1 65 rfl
theorem kw_66 : (Jvm.Cond.lays "EldestSays$Evening" "EldestSays$Evening" "size" "I") ∈ lw_tbl := lw_mem1 66 rfl
theorem kw_67 : (Jvm.Cond.soleField "EldestSays$Evening" "size") ∈ lw_tbl := lw_mem1 67 rfl
theorem kw_68 : (Jvm.Cond.lays "EldestSays$Evening" "EldestSays$Evening" "sayer" "I") ∈ lw_tbl := lw_mem1 68 rfl
theorem kw_69 : (Jvm.Cond.soleField "EldestSays$Evening" "sayer") ∈ lw_tbl := lw_mem1 69 rfl
theorem kw_70 : (Jvm.Cond.lays "EldestSays$Evening" "EldestSays$Evening" "isDone" "Z") ∈ lw_tbl := lw_mem1 70 rfl
theorem kw_71 : (Jvm.Cond.soleField "EldestSays$Evening" "isDone") ∈ lw_tbl := lw_mem1 71 rfl
theorem kw_72 : (Jvm.Cond.superclass "EldestSays$Evening" "java/lang/Object") ∈ lw_tbl := lw_mem1 72 rfl
theorem kw_73 : (Jvm.Cond.arrayClass Jvm.ClassFile.FieldType.int) ∈ lw_tbl := lw_mem1 73 rfl
theorem kw_74 : (Jvm.Cond.classLink "EldestSays" (16 : Nat) "EldestSays$Letters") ∈ lw_tbl := lw_mem1 74 rfl
theorem kw_75 : (Jvm.Cond.instantiable "EldestSays$Letters" (2 : Nat)) ∈ lw_tbl := lw_mem1 75 rfl
theorem kw_76 : (Jvm.Cond.methodLinkNest "EldestSays" (18 : Nat) ({ cls := "EldestSays$Letters", name := "<init>", desc := "()V" } : Jvm.MethodName) "EldestSays") ∈ lw_tbl := lw_mem1 76 rfl
theorem kw_77 : (Jvm.Cond.instanceMethod ({ cls := "EldestSays$Letters", name := "<init>", desc := "()V" } : Jvm.MethodName)) ∈ lw_tbl := lw_mem1 77 rfl
theorem kw_78 : (Jvm.Cond.code ({ cls := "EldestSays$Letters", name := "<init>", desc := "()V" } : Jvm.MethodName) prog_9_method_1_code (1 : Nat) (Option.none : Option Jvm.ClassFile.FieldType)) ∈ lw_tbl := lw_mem1 78 rfl
theorem kw_79 : (Jvm.Cond.methodLink "EldestSays$Letters" (3 : Nat) ({ cls := "java/lang/Object", name := "<init>", desc := "()V" } : Jvm.MethodName)) ∈ lw_tbl := lw_mem1 79 rfl
theorem kw_80 : (Jvm.Cond.fieldLink "EldestSays$Letters" (15 : Nat) "EldestSays$Letters" "size" "I") ∈ lw_tbl := lw_mem1 80 rfl
theorem kw_81 : (Jvm.Cond.fieldLink "EldestSays" (254 : Nat) "EldestSays$Letters" "size" "I") ∈ lw_tbl := lw_mem1 81 rfl
theorem kw_82 : (Jvm.Cond.fieldLink "EldestSays$Letters" (9 : Nat) "EldestSays$Letters" "signs" "[C") ∈ lw_tbl := lw_mem1 82 rfl
theorem kw_83 : (Jvm.Cond.lays "EldestSays$Letters" "EldestSays$Letters" "size" "I") ∈ lw_tbl := lw_mem1 83 rfl
theorem kw_84 : (Jvm.Cond.soleField "EldestSays$Letters" "size") ∈ lw_tbl := lw_mem1 84 rfl
theorem kw_85 : (Jvm.Cond.laysFinal "EldestSays$Letters" "EldestSays$Letters" "signs" "[C") ∈ lw_tbl := lw_mem1 85 rfl
theorem kw_86 : (Jvm.Cond.soleField "EldestSays$Letters" "signs") ∈ lw_tbl := lw_mem1 86 rfl
theorem kw_87 : (Jvm.Cond.superclass "EldestSays$Letters" "java/lang/Object") ∈ lw_tbl := lw_mem1 87 rfl
theorem kw_88 : (Jvm.Cond.arrayClass Jvm.ClassFile.FieldType.char) ∈ lw_tbl := lw_mem1 88 rfl
theorem kw_89 : (Jvm.Cond.classLink "EldestSays" (41 : Nat) "EldestSays$Clever") ∈ lw_tbl := lw_mem1 89 rfl
theorem kw_90 : (Jvm.Cond.instantiable "EldestSays$Clever" (0 : Nat)) ∈ lw_tbl := lw_mem1 90 rfl
theorem kw_91 : (Jvm.Cond.methodLinkNest "EldestSays" (43 : Nat) ({ cls := "EldestSays$Clever", name := "<init>", desc := "()V" } : Jvm.MethodName) "EldestSays") ∈ lw_tbl := lw_mem1 91 rfl
theorem kw_92 : (Jvm.Cond.instanceMethod ({ cls := "EldestSays$Clever", name := "<init>", desc := "()V" } : Jvm.MethodName)) ∈ lw_tbl := lw_mem1 92 rfl
theorem kw_93 : (Jvm.Cond.code ({ cls := "EldestSays$Clever", name := "<init>", desc := "()V" } : Jvm.MethodName) prog_2_method_1_code (1 : Nat) (Option.none : Option Jvm.ClassFile.FieldType)) ∈ lw_tbl := lw_mem1 93 rfl
theorem kw_94 : (Jvm.Cond.methodLink "EldestSays$Clever" (1 : Nat) ({ cls := "java/lang/Object", name := "<init>", desc := "()V" } : Jvm.MethodName)) ∈ lw_tbl := lw_mem1 94 rfl
theorem kw_95 : (Jvm.Cond.superclass "EldestSays$Clever" "java/lang/Object") ∈ lw_tbl := lw_mem1 95 rfl
theorem kw_96 : (Jvm.Cond.arrayClass Jvm.ClassFile.FieldType.long) ∈ lw_tbl := lw_mem1 96 rfl
theorem kw_97 : (Jvm.Cond.arrayOver (Jvm.ClassFile.FieldType.object "EldestSays$Clever")) ∈ lw_tbl := lw_mem1 97 rfl
theorem kw_98 : (Jvm.Cond.classLink "EldestSays" (44 : Nat) "EldestSays$Company") ∈ lw_tbl := lw_mem1 98 rfl
theorem kw_99 : (Jvm.Cond.instantiable "EldestSays$Company" (0 : Nat)) ∈ lw_tbl := lw_mem1 99 rfl
theorem kw_100 : (Jvm.Cond.methodLinkNest "EldestSays" (46 : Nat) ({ cls := "EldestSays$Company", name := "<init>", desc := "()V" } : Jvm.MethodName) "EldestSays") ∈ lw_tbl := lw_mem1 100 rfl
theorem kw_101 : (Jvm.Cond.instanceMethod ({ cls := "EldestSays$Company", name := "<init>", desc := "()V" } : Jvm.MethodName)) ∈ lw_tbl := lw_mem1 101 rfl
theorem kw_102 : (Jvm.Cond.code ({ cls := "EldestSays$Company", name := "<init>", desc := "()V" } : Jvm.MethodName) prog_3_method_1_code (1 : Nat) (Option.none : Option Jvm.ClassFile.FieldType)) ∈ lw_tbl := lw_mem1 102 rfl
theorem kw_103 : (Jvm.Cond.methodLinkNest "EldestSays$Company" (1 : Nat) ({ cls := "EldestSays$Clever", name := "<init>", desc := "()V" } : Jvm.MethodName) "EldestSays") ∈ lw_tbl := lw_mem1 103 rfl
theorem kw_104 : (Jvm.Cond.superclass "EldestSays$Company" "EldestSays$Clever") ∈ lw_tbl := lw_mem1 104 rfl
theorem kw_105 : (Jvm.Cond.classLink "EldestSays" (47 : Nat) "EldestSays$Envious") ∈ lw_tbl := lw_mem1 105 rfl
theorem kw_106 : (Jvm.Cond.instantiable "EldestSays$Envious" (0 : Nat)) ∈ lw_tbl := lw_mem1 106 rfl
theorem kw_107 : (Jvm.Cond.methodLinkNest "EldestSays" (49 : Nat) ({ cls := "EldestSays$Envious", name := "<init>", desc := "()V" } : Jvm.MethodName) "EldestSays") ∈ lw_tbl := lw_mem1 107 rfl
theorem kw_108 : (Jvm.Cond.instanceMethod ({ cls := "EldestSays$Envious", name := "<init>", desc := "()V" } : Jvm.MethodName)) ∈ lw_tbl := lw_mem1 108 rfl
theorem kw_109 : (Jvm.Cond.code ({ cls := "EldestSays$Envious", name := "<init>", desc := "()V" } : Jvm.MethodName) prog_5_method_1_code (1 : Nat) (Option.none : Option Jvm.ClassFile.FieldType)) ∈ lw_tbl := lw_mem1 109 rfl
theorem kw_110 : (Jvm.Cond.methodLinkNest "EldestSays$Envious" (1 : Nat) ({ cls := "EldestSays$Clever", name := "<init>", desc := "()V" } : Jvm.MethodName) "EldestSays") ∈ lw_tbl := lw_mem1 110 rfl
theorem kw_111 : (Jvm.Cond.superclass "EldestSays$Envious" "EldestSays$Clever") ∈ lw_tbl := lw_mem1 111 rfl
theorem kw_112 : (Jvm.Cond.classLink "EldestSays" (50 : Nat) "EldestSays$Fair") ∈ lw_tbl := lw_mem1 112 rfl
theorem kw_113 : (Jvm.Cond.instantiable "EldestSays$Fair" (0 : Nat)) ∈ lw_tbl := lw_mem1 113 rfl
theorem kw_114 : (Jvm.Cond.methodLinkNest "EldestSays" (52 : Nat) ({ cls := "EldestSays$Fair", name := "<init>", desc := "()V" } : Jvm.MethodName) "EldestSays") ∈ lw_tbl := lw_mem1 114 rfl
theorem kw_115 : (Jvm.Cond.instanceMethod ({ cls := "EldestSays$Fair", name := "<init>", desc := "()V" } : Jvm.MethodName)) ∈ lw_tbl := lw_mem1 115 rfl
theorem kw_116 : (Jvm.Cond.code ({ cls := "EldestSays$Fair", name := "<init>", desc := "()V" } : Jvm.MethodName) prog_7_method_1_code (1 : Nat) (Option.none : Option Jvm.ClassFile.FieldType)) ∈ lw_tbl := lw_mem1 116 rfl
theorem kw_117 : (Jvm.Cond.methodLinkNest "EldestSays$Fair" (1 : Nat) ({ cls := "EldestSays$Company", name := "<init>", desc := "()V" } : Jvm.MethodName) "EldestSays") ∈ lw_tbl := lw_mem1 117 rfl
theorem kw_118 : (Jvm.Cond.superclass "EldestSays$Fair" "EldestSays$Company") ∈ lw_tbl := lw_mem1 118 rfl
theorem kw_119 : (Jvm.Cond.classLink "EldestSays" (53 : Nat) "EldestSays$Fool") ∈ lw_tbl := lw_mem1 119 rfl
theorem kw_120 : (Jvm.Cond.instantiable "EldestSays$Fool" (0 : Nat)) ∈ lw_tbl := lw_mem1 120 rfl
theorem kw_121 : (Jvm.Cond.methodLinkNest "EldestSays" (55 : Nat) ({ cls := "EldestSays$Fool", name := "<init>", desc := "()V" } : Jvm.MethodName) "EldestSays") ∈ lw_tbl := lw_mem1 121 rfl
theorem kw_122 : (Jvm.Cond.instanceMethod ({ cls := "EldestSays$Fool", name := "<init>", desc := "()V" } : Jvm.MethodName)) ∈ lw_tbl := lw_mem1 122 rfl
theorem kw_123 : (Jvm.Cond.code ({ cls := "EldestSays$Fool", name := "<init>", desc := "()V" } : Jvm.MethodName) prog_8_method_1_code (1 : Nat) (Option.none : Option Jvm.ClassFile.FieldType)) ∈ lw_tbl := lw_mem1 123 rfl
theorem kw_124 : (Jvm.Cond.methodLinkNest "EldestSays$Fool" (1 : Nat) ({ cls := "EldestSays$Clever", name := "<init>", desc := "()V" } : Jvm.MethodName) "EldestSays") ∈ lw_tbl := lw_mem1 124 rfl
theorem kw_125 : (Jvm.Cond.superclass "EldestSays$Fool" "EldestSays$Clever") ∈ lw_tbl := lw_mem1 125 rfl
theorem kw_126 : (Jvm.Cond.classLink "EldestSays" (56 : Nat) "EldestSays$Spiteful") ∈ lw_tbl := lw_mem1 126 rfl
theorem kw_127 : (Jvm.Cond.instantiable "EldestSays$Spiteful" (0 : Nat)) ∈ lw_tbl := lw_mem1 127 rfl
theorem kw_128 : (Jvm.Cond.methodLinkNest "EldestSays" (58 : Nat) ({ cls := "EldestSays$Spiteful", name := "<init>", desc := "()V" } : Jvm.MethodName) "EldestSays") ∈ lw_tbl := lw_mem1 128 rfl
theorem kw_129 : (Jvm.Cond.instanceMethod ({ cls := "EldestSays$Spiteful", name := "<init>", desc := "()V" } : Jvm.MethodName)) ∈ lw_tbl := lw_mem1 129 rfl
theorem kw_130 : (Jvm.Cond.code ({ cls := "EldestSays$Spiteful", name := "<init>", desc := "()V" } : Jvm.MethodName) prog_12_method_1_code (1 : Nat) (Option.none : Option Jvm.ClassFile.FieldType)) ∈ lw_tbl := lw_mem1 130 rfl
theorem kw_131 : (Jvm.Cond.methodLinkNest "EldestSays$Spiteful" (1 : Nat) ({ cls := "EldestSays$Envious", name := "<init>", desc := "()V" } : Jvm.MethodName) "EldestSays") ∈ lw_tbl := lw_mem1 131 rfl
theorem kw_132 : (Jvm.Cond.superclass "EldestSays$Spiteful" "EldestSays$Envious") ∈ lw_tbl := lw_mem1 132 rfl
theorem kw_133 : (Jvm.Cond.classLink "EldestSays" (59 : Nat) "EldestSays$Meek") ∈ lw_tbl := lw_mem1 133 rfl
theorem kw_134 : (Jvm.Cond.instantiable "EldestSays$Meek" (0 : Nat)) ∈ lw_tbl := lw_mem1 134 rfl
theorem kw_135 : (Jvm.Cond.methodLinkNest "EldestSays" (61 : Nat) ({ cls := "EldestSays$Meek", name := "<init>", desc := "()V" } : Jvm.MethodName) "EldestSays") ∈ lw_tbl := lw_mem1 135 rfl
theorem kw_136 : (Jvm.Cond.instanceMethod ({ cls := "EldestSays$Meek", name := "<init>", desc := "()V" } : Jvm.MethodName)) ∈ lw_tbl := lw_mem1 136 rfl
theorem kw_137 : (Jvm.Cond.code ({ cls := "EldestSays$Meek", name := "<init>", desc := "()V" } : Jvm.MethodName) prog_10_method_1_code (1 : Nat) (Option.none : Option Jvm.ClassFile.FieldType)) ∈ lw_tbl := lw_mem1 137 rfl
theorem kw_138 : (Jvm.Cond.methodLinkNest "EldestSays$Meek" (1 : Nat) ({ cls := "EldestSays$Fool", name := "<init>", desc := "()V" } : Jvm.MethodName) "EldestSays") ∈ lw_tbl := lw_mem1 138 rfl
theorem kw_139 : (Jvm.Cond.superclass "EldestSays$Meek" "EldestSays$Fool") ∈ lw_tbl := lw_mem1 139 rfl
theorem kw_140 : (Jvm.Cond.classLink "EldestSays" (62 : Nat) "EldestSays$Plans") ∈ lw_tbl := lw_mem1 140 rfl
theorem kw_141 : (Jvm.Cond.instantiable "EldestSays$Plans" (14 : Nat)) ∈ lw_tbl := lw_mem1 141 rfl
theorem kw_142 : (Jvm.Cond.methodLink "EldestSays" (64 : Nat) ({ cls := "EldestSays$Plans", name := "<init>", desc := "([LEldestSays$Clever;)V" } : Jvm.MethodName)) ∈ lw_tbl := lw_mem1 142 rfl
theorem kw_143 : (Jvm.Cond.instanceMethod ({ cls := "EldestSays$Plans", name := "<init>", desc := "([LEldestSays$Clever;)V" } : Jvm.MethodName)) ∈ lw_tbl := lw_mem1 143 rfl
theorem kw_144 : (Jvm.Cond.code ({ cls := "EldestSays$Plans", name := "<init>", desc := "([LEldestSays$Clever;)V" } : Jvm.MethodName) prog_11_method_1_code (2 : Nat) (Option.none : Option Jvm.ClassFile.FieldType)) ∈ lw_tbl := lw_mem1 144 rfl
theorem kw_145 : (Jvm.Cond.methodLink "EldestSays$Plans" (3 : Nat) ({ cls := "java/lang/Object", name := "<init>", desc := "()V" } : Jvm.MethodName)) ∈ lw_tbl := lw_mem1 145 rfl
theorem kw_146 : (Jvm.Cond.classLink "EldestSays$Plans" (9 : Nat) "[[I") ∈ lw_tbl := lw_mem1 146 rfl
theorem kw_147 : (Jvm.Cond.arrayOver (Jvm.ClassFile.FieldType.array Jvm.ClassFile.FieldType.int)) ∈ lw_tbl := lw_mem1 147 rfl
theorem kw_148 : (Jvm.Cond.classLink "EldestSays$Plans" (32 : Nat) "EldestSays$Evening") ∈ lw_tbl := lw_mem1 148 rfl
theorem kw_149 : (Jvm.Cond.methodLinkNest "EldestSays$Plans" (34 : Nat) ({ cls := "EldestSays$Evening", name := "<init>", desc := "()V" } : Jvm.MethodName) "EldestSays") ∈ lw_tbl := lw_mem1 149 rfl
theorem kw_150 : (Jvm.Cond.fieldLink "EldestSays$Plans" (11 : Nat) "EldestSays$Plans" "offers" "[[I") ∈ lw_tbl := lw_mem1 150 rfl
theorem kw_151 : (Jvm.Cond.fieldLink "EldestSays" (137 : Nat) "EldestSays$Plans" "offers" "[[I") ∈ lw_tbl := lw_mem1 151 rfl
theorem kw_152 : (Jvm.Cond.fieldLink "EldestSays$Plans" (16 : Nat) "EldestSays$Plans" "prices" "[[I") ∈ lw_tbl := lw_mem1 152 rfl
theorem kw_153 : (Jvm.Cond.fieldLink "EldestSays" (141 : Nat) "EldestSays$Plans" "prices" "[[I") ∈ lw_tbl := lw_mem1 153 rfl
theorem kw_154 : (Jvm.Cond.fieldLink "EldestSays$Plans" (19 : Nat) "EldestSays$Plans" "shares" "[[I") ∈ lw_tbl := lw_mem1 154 rfl
theorem kw_155 : (Jvm.Cond.fieldLink "EldestSays" (151 : Nat) "EldestSays$Plans" "shares" "[[I") ∈ lw_tbl := lw_mem1 155 rfl
theorem kw_156 : (Jvm.Cond.fieldLink "EldestSays$Plans" (22 : Nat) "EldestSays$Plans" "ayes" "[I") ∈ lw_tbl := lw_mem1 156 rfl
theorem kw_157 : (Jvm.Cond.fieldLink "EldestSays" (144 : Nat) "EldestSays$Plans" "ayes" "[I") ∈ lw_tbl := lw_mem1 157 rfl
theorem kw_158 : (Jvm.Cond.fieldLink "EldestSays$Plans" (26 : Nat) "EldestSays$Plans" "enders" "[I") ∈ lw_tbl := lw_mem1 158 rfl
theorem kw_159 : (Jvm.Cond.fieldLink "EldestSays" (147 : Nat) "EldestSays$Plans" "enders" "[I") ∈ lw_tbl := lw_mem1 159 rfl
theorem kw_160 : (Jvm.Cond.fieldLink "EldestSays$Plans" (29 : Nat) "EldestSays$Plans" "buys" "[I") ∈ lw_tbl := lw_mem1 160 rfl
theorem kw_161 : (Jvm.Cond.fieldLink "EldestSays" (154 : Nat) "EldestSays$Plans" "buys" "[I") ∈ lw_tbl := lw_mem1 161 rfl
theorem kw_162 : (Jvm.Cond.fieldLink "EldestSays$Plans" (35 : Nat) "EldestSays$Plans" "evening" "LEldestSays$Evening;") ∈ lw_tbl := lw_mem1 162 rfl
theorem kw_163 : (Jvm.Cond.fieldLink "EldestSays" (74 : Nat) "EldestSays$Plans" "evening" "LEldestSays$Evening;") ∈ lw_tbl := lw_mem1 163 rfl
theorem kw_164 : (Jvm.Cond.fieldLink "EldestSays$Plans" (51 : Nat) "EldestSays$Plans" "kinds" "[LEldestSays$Clever;") ∈ lw_tbl := lw_mem1 164 rfl
theorem kw_165 : (Jvm.Cond.fieldLink "EldestSays$Plans" (39 : Nat) "EldestSays$Plans" "unitPrices" "[I") ∈ lw_tbl := lw_mem1 165 rfl
theorem kw_166 : (Jvm.Cond.fieldLink "EldestSays$Plans" (42 : Nat) "EldestSays$Plans" "unitWeights" "[I") ∈ lw_tbl := lw_mem1 166 rfl
theorem kw_167 : (Jvm.Cond.fieldLink "EldestSays$Plans" (45 : Nat) "EldestSays$Plans" "setPrices" "[I") ∈ lw_tbl := lw_mem1 167 rfl
theorem kw_168 : (Jvm.Cond.fieldLink "EldestSays$Plans" (48 : Nat) "EldestSays$Plans" "setWeights" "[I") ∈ lw_tbl := lw_mem1 168 rfl
theorem kw_169 : (Jvm.Cond.fieldLink "EldestSays$Plans" (128 : Nat) "EldestSays$Plans" "units" "I") ∈ lw_tbl := lw_mem1 169 rfl
theorem kw_170 : (Jvm.Cond.fieldLink "EldestSays$Plans" (131 : Nat) "EldestSays$Plans" "freeWeight" "I") ∈ lw_tbl := lw_mem1 170 rfl
theorem kw_171 : (Jvm.Cond.laysFinal "EldestSays$Plans" "EldestSays$Plans" "offers" "[[I") ∈ lw_tbl := lw_mem1 171 rfl
theorem kw_172 : (Jvm.Cond.soleField "EldestSays$Plans" "offers") ∈ lw_tbl := lw_mem1 172 rfl
theorem kw_173 : (Jvm.Cond.laysFinal "EldestSays$Plans" "EldestSays$Plans" "prices" "[[I") ∈ lw_tbl := lw_mem1 173 rfl
theorem kw_174 : (Jvm.Cond.soleField "EldestSays$Plans" "prices") ∈ lw_tbl := lw_mem1 174 rfl
theorem kw_175 : (Jvm.Cond.laysFinal "EldestSays$Plans" "EldestSays$Plans" "shares" "[[I") ∈ lw_tbl := lw_mem1 175 rfl
theorem kw_176 : (Jvm.Cond.soleField "EldestSays$Plans" "shares") ∈ lw_tbl := lw_mem1 176 rfl
theorem kw_177 : (Jvm.Cond.laysFinal "EldestSays$Plans" "EldestSays$Plans" "ayes" "[I") ∈ lw_tbl := lw_mem1 177 rfl
theorem kw_178 : (Jvm.Cond.soleField "EldestSays$Plans" "ayes") ∈ lw_tbl := lw_mem1 178 rfl
theorem kw_179 : (Jvm.Cond.laysFinal "EldestSays$Plans" "EldestSays$Plans" "enders" "[I") ∈ lw_tbl := lw_mem1 179 rfl
theorem kw_180 : (Jvm.Cond.soleField "EldestSays$Plans" "enders") ∈ lw_tbl := lw_mem1 180 rfl
theorem kw_181 : (Jvm.Cond.laysFinal "EldestSays$Plans" "EldestSays$Plans" "buys" "[I") ∈ lw_tbl := lw_mem1 181 rfl
theorem kw_182 : (Jvm.Cond.soleField "EldestSays$Plans" "buys") ∈ lw_tbl := lw_mem1 182 rfl
theorem kw_183 : (Jvm.Cond.laysFinal "EldestSays$Plans" "EldestSays$Plans" "evening" "LEldestSays$Evening;") ∈ lw_tbl := lw_mem1 183 rfl
theorem kw_184 : (Jvm.Cond.soleField "EldestSays$Plans" "evening") ∈ lw_tbl := lw_mem1 184 rfl
theorem kw_185 : (Jvm.Cond.laysFinal "EldestSays$Plans" "EldestSays$Plans" "kinds" "[LEldestSays$Clever;") ∈ lw_tbl := lw_mem1 185 rfl
theorem kw_186 : (Jvm.Cond.soleField "EldestSays$Plans" "kinds") ∈ lw_tbl := lw_mem1 186 rfl
theorem kw_187 : (Jvm.Cond.laysFinal "EldestSays$Plans" "EldestSays$Plans" "unitPrices" "[I") ∈ lw_tbl := lw_mem1 187 rfl
theorem kw_188 : (Jvm.Cond.soleField "EldestSays$Plans" "unitPrices") ∈ lw_tbl := lw_mem1 188 rfl
theorem kw_189 : (Jvm.Cond.laysFinal "EldestSays$Plans" "EldestSays$Plans" "unitWeights" "[I") ∈ lw_tbl := lw_mem1 189 rfl
theorem kw_190 : (Jvm.Cond.soleField "EldestSays$Plans" "unitWeights") ∈ lw_tbl := lw_mem1 190 rfl
theorem kw_191 : (Jvm.Cond.laysFinal "EldestSays$Plans" "EldestSays$Plans" "setPrices" "[I") ∈ lw_tbl := lw_mem1 191 rfl
theorem kw_192 : (Jvm.Cond.soleField "EldestSays$Plans" "setPrices") ∈ lw_tbl := lw_mem1 192 rfl
theorem kw_193 : (Jvm.Cond.laysFinal "EldestSays$Plans" "EldestSays$Plans" "setWeights" "[I") ∈ lw_tbl := lw_mem1 193 rfl
theorem kw_194 : (Jvm.Cond.soleField "EldestSays$Plans" "setWeights") ∈ lw_tbl := lw_mem1 194 rfl
theorem kw_195 : (Jvm.Cond.lays "EldestSays$Plans" "EldestSays$Plans" "units" "I") ∈ lw_tbl := lw_mem1 195 rfl
theorem kw_196 : (Jvm.Cond.soleField "EldestSays$Plans" "units") ∈ lw_tbl := lw_mem1 196 rfl
theorem kw_197 : (Jvm.Cond.lays "EldestSays$Plans" "EldestSays$Plans" "freeWeight" "I") ∈ lw_tbl := lw_mem1 197 rfl
theorem kw_198 : (Jvm.Cond.soleField "EldestSays$Plans" "freeWeight") ∈ lw_tbl := lw_mem1 198 rfl
theorem kw_199 : (Jvm.Cond.superclass "EldestSays$Plans" "java/lang/Object") ∈ lw_tbl := lw_mem1 199 rfl
theorem kw_200 : (Jvm.Cond.classLink "EldestSays" (83 : Nat) "EldestSays$Crowd") ∈ lw_tbl := lw_mem1 200 rfl
theorem kw_201 : (Jvm.Cond.instantiable "EldestSays$Crowd" (6 : Nat)) ∈ lw_tbl := lw_mem1 201 rfl
theorem kw_202 : (Jvm.Cond.methodLink "EldestSays" (85 : Nat) ({ cls := "EldestSays$Crowd", name := "<init>", desc := "(LEldestSays$Clever;)V" } : Jvm.MethodName)) ∈ lw_tbl := lw_mem1 202 rfl
theorem kw_203 : (Jvm.Cond.instanceMethod ({ cls := "EldestSays$Crowd", name := "<init>", desc := "(LEldestSays$Clever;)V" } : Jvm.MethodName)) ∈ lw_tbl := lw_mem1 203 rfl
theorem kw_204 : (Jvm.Cond.code ({ cls := "EldestSays$Crowd", name := "<init>", desc := "(LEldestSays$Clever;)V" } : Jvm.MethodName) prog_4_method_1_code (2 : Nat) (Option.none : Option Jvm.ClassFile.FieldType)) ∈ lw_tbl := lw_mem1 204 rfl
theorem kw_205 : (Jvm.Cond.methodLink "EldestSays$Crowd" (3 : Nat) ({ cls := "java/lang/Object", name := "<init>", desc := "()V" } : Jvm.MethodName)) ∈ lw_tbl := lw_mem1 205 rfl
theorem kw_206 : (Jvm.Cond.fieldLink "EldestSays$Crowd" (9 : Nat) "EldestSays$Crowd" "shares" "[I") ∈ lw_tbl := lw_mem1 206 rfl
theorem kw_207 : (Jvm.Cond.fieldLink "EldestSays" (184 : Nat) "EldestSays$Crowd" "shares" "[I") ∈ lw_tbl := lw_mem1 207 rfl
theorem kw_208 : (Jvm.Cond.fieldLink "EldestSays$Crowd" (15 : Nat) "EldestSays$Crowd" "asked" "[I") ∈ lw_tbl := lw_mem1 208 rfl
theorem kw_209 : (Jvm.Cond.fieldLink "EldestSays$Crowd" (18 : Nat) "EldestSays$Crowd" "offer" "[I") ∈ lw_tbl := lw_mem1 209 rfl
theorem kw_210 : (Jvm.Cond.fieldLink "EldestSays$Crowd" (21 : Nat) "EldestSays$Crowd" "clever" "LEldestSays$Clever;") ∈ lw_tbl := lw_mem1 210 rfl
theorem kw_211 : (Jvm.Cond.fieldLink "EldestSays$Crowd" (31 : Nat) "EldestSays$Crowd" "size" "I") ∈ lw_tbl := lw_mem1 211 rfl
theorem kw_212 : (Jvm.Cond.fieldLink "EldestSays$Crowd" (35 : Nat) "EldestSays$Crowd" "coins" "I") ∈ lw_tbl := lw_mem1 212 rfl
theorem kw_213 : (Jvm.Cond.laysFinal "EldestSays$Crowd" "EldestSays$Crowd" "shares" "[I") ∈ lw_tbl := lw_mem1 213 rfl
theorem kw_214 : (Jvm.Cond.soleField "EldestSays$Crowd" "shares") ∈ lw_tbl := lw_mem1 214 rfl
theorem kw_215 : (Jvm.Cond.laysFinal "EldestSays$Crowd" "EldestSays$Crowd" "asked" "[I") ∈ lw_tbl := lw_mem1 215 rfl
theorem kw_216 : (Jvm.Cond.soleField "EldestSays$Crowd" "asked") ∈ lw_tbl := lw_mem1 216 rfl
theorem kw_217 : (Jvm.Cond.laysFinal "EldestSays$Crowd" "EldestSays$Crowd" "offer" "[I") ∈ lw_tbl := lw_mem1 217 rfl
theorem kw_218 : (Jvm.Cond.soleField "EldestSays$Crowd" "offer") ∈ lw_tbl := lw_mem1 218 rfl
theorem kw_219 : (Jvm.Cond.laysFinal "EldestSays$Crowd" "EldestSays$Crowd" "clever" "LEldestSays$Clever;") ∈ lw_tbl := lw_mem1 219 rfl
theorem kw_220 : (Jvm.Cond.soleField "EldestSays$Crowd" "clever") ∈ lw_tbl := lw_mem1 220 rfl
theorem kw_221 : (Jvm.Cond.lays "EldestSays$Crowd" "EldestSays$Crowd" "size" "I") ∈ lw_tbl := lw_mem1 221 rfl
theorem kw_222 : (Jvm.Cond.soleField "EldestSays$Crowd" "size") ∈ lw_tbl := lw_mem1 222 rfl
theorem kw_223 : (Jvm.Cond.lays "EldestSays$Crowd" "EldestSays$Crowd" "coins" "I") ∈ lw_tbl := lw_mem1 223 rfl
theorem kw_224 : (Jvm.Cond.soleField "EldestSays$Crowd" "coins") ∈ lw_tbl := lw_mem1 224 rfl
theorem kw_225 : (Jvm.Cond.superclass "EldestSays$Crowd" "java/lang/Object") ∈ lw_tbl := lw_mem1 225 rfl
theorem kw_226 : (Jvm.Cond.fieldLink "EldestSays" (67 : Nat) "EldestSays" "plans" "LEldestSays$Plans;") ∈ lw_tbl := lw_mem1 226 rfl
theorem kw_227 : (Jvm.Cond.fieldLink "EldestSays" (71 : Nat) "EldestSays" "trialPlans" "LEldestSays$Plans;") ∈ lw_tbl := lw_mem1 227 rfl
theorem kw_228 : (Jvm.Cond.fieldLink "EldestSays" (77 : Nat) "EldestSays" "now" "LEldestSays$Evening;") ∈ lw_tbl := lw_mem1 228 rfl
theorem kw_229 : (Jvm.Cond.fieldLink "EldestSays" (80 : Nat) "EldestSays" "trial" "LEldestSays$Evening;") ∈ lw_tbl := lw_mem1 229 rfl
theorem kw_230 : (Jvm.Cond.fieldLink "EldestSays" (10 : Nat) "EldestSays" "kept" "LEldestSays$Evening;") ∈ lw_tbl := lw_mem1 230 rfl
theorem kw_231 : (Jvm.Cond.fieldLink "EldestSays" (19 : Nat) "EldestSays" "letters" "LEldestSays$Letters;") ∈ lw_tbl := lw_mem1 231 rfl
theorem kw_232 : (Jvm.Cond.fieldLink "EldestSays" (88 : Nat) "EldestSays" "crowd" "LEldestSays$Crowd;") ∈ lw_tbl := lw_mem1 232 rfl
theorem kw_233 : (Jvm.Cond.fieldLink "EldestSays" (23 : Nat) "EldestSays" "order" "[I") ∈ lw_tbl := lw_mem1 233 rfl
theorem kw_234 : (Jvm.Cond.fieldLink "EldestSays" (27 : Nat) "EldestSays" "told" "[I") ∈ lw_tbl := lw_mem1 234 rfl
theorem kw_235 : (Jvm.Cond.fieldLink "EldestSays" (30 : Nat) "EldestSays" "refusals" "[I") ∈ lw_tbl := lw_mem1 235 rfl
theorem kw_236 : (Jvm.Cond.fieldLink "EldestSays" (33 : Nat) "EldestSays" "chances" "[J") ∈ lw_tbl := lw_mem1 236 rfl
theorem kw_237 : (Jvm.Cond.fieldLink "EldestSays" (157 : Nat) "EldestSays" "toldSize" "I") ∈ lw_tbl := lw_mem1 237 rfl
theorem kw_238 : (Jvm.Cond.fieldLink "EldestSays" (244 : Nat) "EldestSays" "isKept" "Z") ∈ lw_tbl := lw_mem1 238 rfl
theorem kw_239 : (Jvm.Cond.fieldLink "EldestSays" (37 : Nat) "EldestSays" "isStale" "Z") ∈ lw_tbl := lw_mem1 239 rfl
theorem kw_240 : (Jvm.Cond.laysFinal "EldestSays" "EldestSays" "plans" "LEldestSays$Plans;") ∈ lw_tbl := lw_mem2 0 rfl
theorem kw_241 : (Jvm.Cond.soleField "EldestSays" "plans") ∈ lw_tbl := lw_mem2 1 rfl
theorem kw_242 : (Jvm.Cond.laysFinal "EldestSays" "EldestSays" "trialPlans" "LEldestSays$Plans;") ∈ lw_tbl := lw_mem2 2 rfl
theorem kw_243 : (Jvm.Cond.soleField "EldestSays" "trialPlans") ∈ lw_tbl := lw_mem2 3 rfl
theorem kw_244 : (Jvm.Cond.laysFinal "EldestSays" "EldestSays" "now" "LEldestSays$Evening;") ∈ lw_tbl := lw_mem2 4 rfl
theorem kw_245 : (Jvm.Cond.soleField "EldestSays" "now") ∈ lw_tbl := lw_mem2 5 rfl
theorem kw_246 : (Jvm.Cond.laysFinal "EldestSays" "EldestSays" "trial" "LEldestSays$Evening;") ∈ lw_tbl := lw_mem2 6 rfl
theorem kw_247 : (Jvm.Cond.soleField "EldestSays" "trial") ∈ lw_tbl := lw_mem2 7 rfl
theorem kw_248 : (Jvm.Cond.laysFinal "EldestSays" "EldestSays" "kept" "LEldestSays$Evening;") ∈ lw_tbl := lw_mem2 8 rfl
theorem kw_249 : (Jvm.Cond.soleField "EldestSays" "kept") ∈ lw_tbl := lw_mem2 9 rfl
theorem kw_250 : (Jvm.Cond.laysFinal "EldestSays" "EldestSays" "letters" "LEldestSays$Letters;") ∈ lw_tbl := lw_mem2 10 rfl
theorem kw_251 : (Jvm.Cond.soleField "EldestSays" "letters") ∈ lw_tbl := lw_mem2 11 rfl
theorem kw_252 : (Jvm.Cond.laysFinal "EldestSays" "EldestSays" "crowd" "LEldestSays$Crowd;") ∈ lw_tbl := lw_mem2 12 rfl
theorem kw_253 : (Jvm.Cond.soleField "EldestSays" "crowd") ∈ lw_tbl := lw_mem2 13 rfl
theorem kw_254 : (Jvm.Cond.laysFinal "EldestSays" "EldestSays" "order" "[I") ∈ lw_tbl := lw_mem2 14 rfl
theorem kw_255 : (Jvm.Cond.soleField "EldestSays" "order") ∈ lw_tbl := lw_mem2 15 rfl
theorem kw_256 : (Jvm.Cond.laysFinal "EldestSays" "EldestSays" "told" "[I") ∈ lw_tbl := lw_mem2 16 rfl
theorem kw_257 : (Jvm.Cond.soleField "EldestSays" "told") ∈ lw_tbl := lw_mem2 17 rfl
theorem kw_258 : (Jvm.Cond.laysFinal "EldestSays" "EldestSays" "refusals" "[I") ∈ lw_tbl := lw_mem2 18 rfl
theorem kw_259 : (Jvm.Cond.soleField "EldestSays" "refusals") ∈ lw_tbl := lw_mem2 19 rfl
theorem kw_260 : (Jvm.Cond.laysFinal "EldestSays" "EldestSays" "chances" "[J") ∈ lw_tbl := lw_mem2 20 rfl
theorem kw_261 : (Jvm.Cond.soleField "EldestSays" "chances") ∈ lw_tbl := lw_mem2 21 rfl
theorem kw_262 : (Jvm.Cond.lays "EldestSays" "EldestSays" "toldSize" "I") ∈ lw_tbl := lw_mem2 22 rfl
theorem kw_263 : (Jvm.Cond.soleField "EldestSays" "toldSize") ∈ lw_tbl := lw_mem2 23 rfl
theorem kw_264 : (Jvm.Cond.lays "EldestSays" "EldestSays" "isKept" "Z") ∈ lw_tbl := lw_mem2 24 rfl
theorem kw_265 : (Jvm.Cond.soleField "EldestSays" "isKept") ∈ lw_tbl := lw_mem2 25 rfl
theorem kw_266 : (Jvm.Cond.lays "EldestSays" "EldestSays" "isStale" "Z") ∈ lw_tbl := lw_mem2 26 rfl
theorem kw_267 : (Jvm.Cond.soleField "EldestSays" "isStale") ∈ lw_tbl := lw_mem2 27 rfl
theorem kw_268 : (Jvm.Cond.superclass "EldestSays" "java/lang/Object") ∈ lw_tbl := lw_mem2 28 rfl
theorem kw_269 : (Jvm.Cond.methodLink "EldestSaysLaw" (13 : Nat) ({ cls := "EldestSays", name := "feed", desc := "(I)I" } : Jvm.MethodName)) ∈ lw_tbl := lw_mem2 29 rfl
theorem kw_270 : (Jvm.Cond.instanceMethod ({ cls := "EldestSays", name := "feed", desc := "(I)I" } : Jvm.MethodName)) ∈ lw_tbl := lw_mem2 30 rfl
theorem kw_271 : (Jvm.Cond.selects "EldestSays" ({ cls := "EldestSays", name := "feed", desc := "(I)I" } : Jvm.MethodName) ({ cls := "EldestSays", name := "feed", desc := "(I)I" } : Jvm.MethodName)) ∈ lw_tbl := lw_mem2 31 rfl
theorem kw_272 : (Jvm.Cond.code ({ cls := "EldestSays", name := "feed", desc := "(I)I" } : Jvm.MethodName) prog_1_method_2_code (2 : Nat) (Option.some Jvm.ClassFile.FieldType.int)) ∈ lw_tbl := lw_mem2 32 rfl
theorem kw_273 : (Jvm.Cond.methodLink "EldestSays" (92 : Nat) ({ cls := "EldestSays", name := "refuse", desc := "(I)I" } : Jvm.MethodName)) ∈ lw_tbl := lw_mem2 33 rfl
theorem kw_274 : (Jvm.Cond.privateMethod ({ cls := "EldestSays", name := "refuse", desc := "(I)I" } : Jvm.MethodName)) ∈ lw_tbl := lw_mem2 34 rfl
theorem kw_275 : (Jvm.Cond.instanceMethod ({ cls := "EldestSays", name := "refuse", desc := "(I)I" } : Jvm.MethodName)) ∈ lw_tbl := lw_mem2 35 rfl
theorem kw_276 : (Jvm.Cond.code ({ cls := "EldestSays", name := "refuse", desc := "(I)I" } : Jvm.MethodName) prog_1_method_32_code (2 : Nat) (Option.some Jvm.ClassFile.FieldType.int)) ∈ lw_tbl := lw_mem2 36 rfl
theorem kw_277 : (Jvm.Cond.methodLink "EldestSays" (96 : Nat) ({ cls := "EldestSays$Letters", name := "isFull", desc := "()Z" } : Jvm.MethodName)) ∈ lw_tbl := lw_mem2 37 rfl
theorem kw_278 : (Jvm.Cond.instanceMethod ({ cls := "EldestSays$Letters", name := "isFull", desc := "()Z" } : Jvm.MethodName)) ∈ lw_tbl := lw_mem2 38 rfl
theorem kw_279 : (Jvm.Cond.selects "EldestSays$Letters" ({ cls := "EldestSays$Letters", name := "isFull", desc := "()Z" } : Jvm.MethodName) ({ cls := "EldestSays$Letters", name := "isFull", desc := "()Z" } : Jvm.MethodName)) ∈ lw_tbl := lw_mem2 39 rfl
theorem kw_280 : (Jvm.Cond.code ({ cls := "EldestSays$Letters", name := "isFull", desc := "()Z" } : Jvm.MethodName) prog_9_method_2_code (1 : Nat) (Option.some Jvm.ClassFile.FieldType.boolean)) ∈ lw_tbl := lw_mem2 40 rfl
theorem kw_281 : (Jvm.Cond.methodLink "EldestSays" (100 : Nat) ({ cls := "EldestSays$Letters", name := "add", desc := "(C)I" } : Jvm.MethodName)) ∈ lw_tbl := lw_mem2 41 rfl
theorem kw_282 : (Jvm.Cond.instanceMethod ({ cls := "EldestSays$Letters", name := "add", desc := "(C)I" } : Jvm.MethodName)) ∈ lw_tbl := lw_mem2 42 rfl
theorem kw_283 : (Jvm.Cond.selects "EldestSays$Letters" ({ cls := "EldestSays$Letters", name := "add", desc := "(C)I" } : Jvm.MethodName) ({ cls := "EldestSays$Letters", name := "add", desc := "(C)I" } : Jvm.MethodName)) ∈ lw_tbl := lw_mem2 43 rfl
theorem kw_284 : (Jvm.Cond.code ({ cls := "EldestSays$Letters", name := "add", desc := "(C)I" } : Jvm.MethodName) prog_9_method_3_code (2 : Nat) (Option.some Jvm.ClassFile.FieldType.int)) ∈ lw_tbl := lw_mem2 44 rfl
theorem kw_285 : (Jvm.Cond.methodLink "EldestSaysLaw" (18 : Nat) ({ cls := "EldestSays", name := "beach", desc := "()I" } : Jvm.MethodName)) ∈ lw_tbl := lw_mem2 45 rfl
theorem kw_286 : (Jvm.Cond.instanceMethod ({ cls := "EldestSays", name := "beach", desc := "()I" } : Jvm.MethodName)) ∈ lw_tbl := lw_mem2 46 rfl
theorem kw_287 : (Jvm.Cond.selects "EldestSays" ({ cls := "EldestSays", name := "beach", desc := "()I" } : Jvm.MethodName) ({ cls := "EldestSays", name := "beach", desc := "()I" } : Jvm.MethodName)) ∈ lw_tbl := lw_mem2 47 rfl
theorem kw_288 : (Jvm.Cond.code ({ cls := "EldestSays", name := "beach", desc := "()I" } : Jvm.MethodName) prog_1_method_3_code (2 : Nat) (Option.some Jvm.ClassFile.FieldType.int)) ∈ lw_tbl := lw_mem2 48 rfl
theorem kw_289 : (Jvm.Cond.methodLink "EldestSays" (104 : Nat) ({ cls := "EldestSays$Letters", name := "fault", desc := "(LEldestSays$Evening;)I" } : Jvm.MethodName)) ∈ lw_tbl := lw_mem2 49 rfl
theorem kw_290 : (Jvm.Cond.instanceMethod ({ cls := "EldestSays$Letters", name := "fault", desc := "(LEldestSays$Evening;)I" } : Jvm.MethodName)) ∈ lw_tbl := lw_mem2 50 rfl
theorem kw_291 : (Jvm.Cond.selects "EldestSays$Letters" ({ cls := "EldestSays$Letters", name := "fault", desc := "(LEldestSays$Evening;)I" } : Jvm.MethodName) ({ cls := "EldestSays$Letters", name := "fault", desc := "(LEldestSays$Evening;)I" } : Jvm.MethodName)) ∈ lw_tbl := lw_mem2 51 rfl
theorem kw_292 : (Jvm.Cond.code ({ cls := "EldestSays$Letters", name := "fault", desc := "(LEldestSays$Evening;)I" } : Jvm.MethodName) prog_9_method_5_code (4 : Nat) (Option.some Jvm.ClassFile.FieldType.int)) ∈ lw_tbl := lw_mem2 52 rfl
theorem kw_293 : (Jvm.Cond.methodLink "EldestSays$Letters" (19 : Nat) ({ cls := "EldestSays$Letters", name := "brokenAt", desc := "()I" } : Jvm.MethodName)) ∈ lw_tbl := lw_mem2 53 rfl
theorem kw_294 : (Jvm.Cond.privateMethod ({ cls := "EldestSays$Letters", name := "brokenAt", desc := "()I" } : Jvm.MethodName)) ∈ lw_tbl := lw_mem2 54 rfl
