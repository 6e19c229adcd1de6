theorem kw_295 : (Jvm.Cond.instanceMethod ({ cls := "EldestSays$Letters", name := "brokenAt", desc := "()I" } : Jvm.MethodName)) ∈ lw_tbl := lw_mem2 55 rfl
theorem kw_296 : (Jvm.Cond.code ({ cls := "EldestSays$Letters", name := "brokenAt", desc := "()I" } : Jvm.MethodName) prog_9_method_7_code (6 : Nat) (Option.some Jvm.ClassFile.FieldType.int)) ∈ lw_tbl := lw_mem2 56 rfl
theorem kw_297 : (Jvm.Cond.methodLink "EldestSays$Letters" (31 : Nat) ({ cls := "EldestSays$Letters", name := "digitsOf", desc := "(C)I" } : Jvm.MethodName)) ∈ lw_tbl := lw_mem2 57 rfl
theorem kw_298 : (Jvm.Cond.static ({ cls := "EldestSays$Letters", name := "digitsOf", desc := "(C)I" } : Jvm.MethodName)) ∈ lw_tbl := lw_mem2 58 rfl
theorem kw_299 : (Jvm.Cond.code ({ cls := "EldestSays$Letters", name := "digitsOf", desc := "(C)I" } : Jvm.MethodName) prog_9_method_8_code (1 : Nat) (Option.some Jvm.ClassFile.FieldType.int)) ∈ lw_tbl := lw_mem2 59 rfl
theorem kw_300 : (Jvm.Cond.methodLink "EldestSays$Letters" (35 : Nat) ({ cls := "EldestSays$Letters", name := "isDigit", desc := "(C)Z" } : Jvm.MethodName)) ∈ lw_tbl := lw_mem2 60 rfl
theorem kw_301 : (Jvm.Cond.static ({ cls := "EldestSays$Letters", name := "isDigit", desc := "(C)Z" } : Jvm.MethodName)) ∈ lw_tbl := lw_mem2 61 rfl
theorem kw_302 : (Jvm.Cond.code ({ cls := "EldestSays$Letters", name := "isDigit", desc := "(C)Z" } : Jvm.MethodName) prog_9_method_9_code (1 : Nat) (Option.some Jvm.ClassFile.FieldType.boolean)) ∈ lw_tbl := lw_mem2 62 rfl
theorem kw_303 : (Jvm.Cond.methodLink "EldestSays$Letters" (23 : Nat) ({ cls := "EldestSays$Letters", name := "wrongAt", desc := "(LEldestSays$Evening;)I" } : Jvm.MethodName)) ∈ lw_tbl := lw_mem2 63 rfl
theorem kw_304 : (Jvm.Cond.privateMethod ({ cls := "EldestSays$Letters", name := "wrongAt", desc := "(LEldestSays$Evening;)I" } : Jvm.MethodName)) ∈ lw_tbl := lw_mem2 64 rfl
theorem kw_305 : (Jvm.Cond.instanceMethod ({ cls := "EldestSays$Letters", name := "wrongAt", desc := "(LEldestSays$Evening;)I" } : Jvm.MethodName)) ∈ lw_tbl := lw_mem2 65 rfl
theorem kw_306 : (Jvm.Cond.code ({ cls := "EldestSays$Letters", name := "wrongAt", desc := "(LEldestSays$Evening;)I" } : Jvm.MethodName) prog_9_method_10_code (5 : Nat) (Option.some Jvm.ClassFile.FieldType.int)) ∈ lw_tbl := lw_mem2 66 rfl
theorem kw_307 : (Jvm.Cond.methodLink "EldestSays$Letters" (46 : Nat) ({ cls := "EldestSays$Letters", name := "isRight", desc := "(IIZ)Z" } : Jvm.MethodName)) ∈ lw_tbl := lw_mem2 67 rfl
theorem kw_308 : (Jvm.Cond.privateMethod ({ cls := "EldestSays$Letters", name := "isRight", desc := "(IIZ)Z" } : Jvm.MethodName)) ∈ lw_tbl := lw_mem2 68 rfl
theorem kw_309 : (Jvm.Cond.instanceMethod ({ cls := "EldestSays$Letters", name := "isRight", desc := "(IIZ)Z" } : Jvm.MethodName)) ∈ lw_tbl := lw_mem2 69 rfl
theorem kw_310 : (Jvm.Cond.code ({ cls := "EldestSays$Letters", name := "isRight", desc := "(IIZ)Z" } : Jvm.MethodName) prog_9_method_11_code (7 : Nat) (Option.some Jvm.ClassFile.FieldType.boolean)) ∈ lw_tbl := lw_mem2 70 rfl
theorem kw_311 : (Jvm.Cond.methodLink "EldestSays$Letters" (50 : Nat) ({ cls := "EldestSays$Letters", name := "digit", desc := "(I)I" } : Jvm.MethodName)) ∈ lw_tbl := lw_mem2 71 rfl
theorem kw_312 : (Jvm.Cond.privateMethod ({ cls := "EldestSays$Letters", name := "digit", desc := "(I)I" } : Jvm.MethodName)) ∈ lw_tbl := lw_mem2 72 rfl
theorem kw_313 : (Jvm.Cond.instanceMethod ({ cls := "EldestSays$Letters", name := "digit", desc := "(I)I" } : Jvm.MethodName)) ∈ lw_tbl := lw_mem2 73 rfl
theorem kw_314 : (Jvm.Cond.code ({ cls := "EldestSays$Letters", name := "digit", desc := "(I)I" } : Jvm.MethodName) prog_9_method_13_code (2 : Nat) (Option.some Jvm.ClassFile.FieldType.int)) ∈ lw_tbl := lw_mem2 74 rfl
theorem kw_315 : (Jvm.Cond.fieldLinkNest "EldestSays$Letters" (54 : Nat) "EldestSays" "GREATEST" "[I" "EldestSays") ∈ lw_tbl := lw_mem2 75 rfl
theorem kw_316 : (Jvm.Cond.laysStatic "EldestSays" "GREATEST" "[I") ∈ lw_tbl := lw_mem2 76 rfl
theorem kw_317 : (Jvm.Cond.methodLink "EldestSays" (108 : Nat) ({ cls := "EldestSays$Letters", name := "tell", desc := "(LEldestSays$Evening;)I" } : Jvm.MethodName)) ∈ lw_tbl := lw_mem2 77 rfl
theorem kw_318 : (Jvm.Cond.instanceMethod ({ cls := "EldestSays$Letters", name := "tell", desc := "(LEldestSays$Evening;)I" } : Jvm.MethodName)) ∈ lw_tbl := lw_mem2 78 rfl
theorem kw_319 : (Jvm.Cond.selects "EldestSays$Letters" ({ cls := "EldestSays$Letters", name := "tell", desc := "(LEldestSays$Evening;)I" } : Jvm.MethodName) ({ cls := "EldestSays$Letters", name := "tell", desc := "(LEldestSays$Evening;)I" } : Jvm.MethodName)) ∈ lw_tbl := lw_mem2 79 rfl
theorem kw_320 : (Jvm.Cond.code ({ cls := "EldestSays$Letters", name := "tell", desc := "(LEldestSays$Evening;)I" } : Jvm.MethodName) prog_9_method_6_code (5 : Nat) (Option.some Jvm.ClassFile.FieldType.int)) ∈ lw_tbl := lw_mem2 80 rfl
theorem kw_321 : (Jvm.Cond.methodLink "EldestSays$Letters" (27 : Nat) ({ cls := "EldestSays$Letters", name := "tellOne", desc := "(LEldestSays$Evening;II)V" } : Jvm.MethodName)) ∈ lw_tbl := lw_mem2 81 rfl
theorem kw_322 : (Jvm.Cond.privateMethod ({ cls := "EldestSays$Letters", name := "tellOne", desc := "(LEldestSays$Evening;II)V" } : Jvm.MethodName)) ∈ lw_tbl := lw_mem2 82 rfl
theorem kw_323 : (Jvm.Cond.instanceMethod ({ cls := "EldestSays$Letters", name := "tellOne", desc := "(LEldestSays$Evening;II)V" } : Jvm.MethodName)) ∈ lw_tbl := lw_mem2 83 rfl
theorem kw_324 : (Jvm.Cond.code ({ cls := "EldestSays$Letters", name := "tellOne", desc := "(LEldestSays$Evening;II)V" } : Jvm.MethodName) prog_9_method_12_code (7 : Nat) (Option.none : Option Jvm.ClassFile.FieldType)) ∈ lw_tbl := lw_mem2 84 rfl
theorem kw_325 : (Jvm.Cond.methodLink "EldestSays$Letters" (58 : Nat) ({ cls := "EldestSays$Evening", name := "add", desc := "(III)V" } : Jvm.MethodName)) ∈ lw_tbl := lw_mem2 85 rfl
theorem kw_326 : (Jvm.Cond.instanceMethod ({ cls := "EldestSays$Evening", name := "add", desc := "(III)V" } : Jvm.MethodName)) ∈ lw_tbl := lw_mem2 86 rfl
theorem kw_327 : (Jvm.Cond.selects "EldestSays$Evening" ({ cls := "EldestSays$Evening", name := "add", desc := "(III)V" } : Jvm.MethodName) ({ cls := "EldestSays$Evening", name := "add", desc := "(III)V" } : Jvm.MethodName)) ∈ lw_tbl := lw_mem2 87 rfl
theorem kw_328 : (Jvm.Cond.code ({ cls := "EldestSays$Evening", name := "add", desc := "(III)V" } : Jvm.MethodName) prog_6_method_5_code (4 : Nat) (Option.none : Option Jvm.ClassFile.FieldType)) ∈ lw_tbl := lw_mem2 88 rfl
theorem kw_329 : (Jvm.Cond.methodLink "EldestSays" (111 : Nat) ({ cls := "EldestSays$Letters", name := "forget", desc := "()V" } : Jvm.MethodName)) ∈ lw_tbl := lw_mem2 89 rfl
theorem kw_330 : (Jvm.Cond.instanceMethod ({ cls := "EldestSays$Letters", name := "forget", desc := "()V" } : Jvm.MethodName)) ∈ lw_tbl := lw_mem2 90 rfl
theorem kw_331 : (Jvm.Cond.selects "EldestSays$Letters" ({ cls := "EldestSays$Letters", name := "forget", desc := "()V" } : Jvm.MethodName) ({ cls := "EldestSays$Letters", name := "forget", desc := "()V" } : Jvm.MethodName)) ∈ lw_tbl := lw_mem2 91 rfl
theorem kw_332 : (Jvm.Cond.code ({ cls := "EldestSays$Letters", name := "forget", desc := "()V" } : Jvm.MethodName) prog_9_method_4_code (1 : Nat) (Option.none : Option Jvm.ClassFile.FieldType)) ∈ lw_tbl := lw_mem2 92 rfl
theorem kw_333 : (Jvm.Cond.methodLink "EldestSaysLaw" (23 : Nat) ({ cls := "EldestSays", name := "man", desc := "(II)I" } : Jvm.MethodName)) ∈ lw_tbl := lw_mem2 93 rfl
theorem kw_334 : (Jvm.Cond.instanceMethod ({ cls := "EldestSays", name := "man", desc := "(II)I" } : Jvm.MethodName)) ∈ lw_tbl := lw_mem2 94 rfl
theorem kw_335 : (Jvm.Cond.selects "EldestSays" ({ cls := "EldestSays", name := "man", desc := "(II)I" } : Jvm.MethodName) ({ cls := "EldestSays", name := "man", desc := "(II)I" } : Jvm.MethodName)) ∈ lw_tbl := lw_mem2 95 rfl
theorem kw_336 : (Jvm.Cond.code ({ cls := "EldestSays", name := "man", desc := "(II)I" } : Jvm.MethodName) prog_1_method_4_code (3 : Nat) (Option.some Jvm.ClassFile.FieldType.int)) ∈ lw_tbl := lw_mem2 96 rfl
theorem kw_337 : (Jvm.Cond.methodLink "EldestSays" (114 : Nat) ({ cls := "EldestSays$Evening", name := "has", desc := "(I)Z" } : Jvm.MethodName)) ∈ lw_tbl := lw_mem2 97 rfl
theorem kw_338 : (Jvm.Cond.instanceMethod ({ cls := "EldestSays$Evening", name := "has", desc := "(I)Z" } : Jvm.MethodName)) ∈ lw_tbl := lw_mem2 98 rfl
theorem kw_339 : (Jvm.Cond.selects "EldestSays$Evening" ({ cls := "EldestSays$Evening", name := "has", desc := "(I)Z" } : Jvm.MethodName) ({ cls := "EldestSays$Evening", name := "has", desc := "(I)Z" } : Jvm.MethodName)) ∈ lw_tbl := lw_mem2 99 rfl
theorem kw_340 : (Jvm.Cond.code ({ cls := "EldestSays$Evening", name := "has", desc := "(I)Z" } : Jvm.MethodName) prog_6_method_3_code (2 : Nat) (Option.some Jvm.ClassFile.FieldType.boolean)) ∈ lw_tbl := lw_mem2 100 rfl
theorem kw_341 : (Jvm.Cond.methodLink "EldestSaysLaw" (28 : Nat) ({ cls := "EldestSays", name := "set", desc := "(II)I" } : Jvm.MethodName)) ∈ lw_tbl := lw_mem2 101 rfl
theorem kw_342 : (Jvm.Cond.instanceMethod ({ cls := "EldestSays", name := "set", desc := "(II)I" } : Jvm.MethodName)) ∈ lw_tbl := lw_mem2 102 rfl
theorem kw_343 : (Jvm.Cond.selects "EldestSays" ({ cls := "EldestSays", name := "set", desc := "(II)I" } : Jvm.MethodName) ({ cls := "EldestSays", name := "set", desc := "(II)I" } : Jvm.MethodName)) ∈ lw_tbl := lw_mem2 103 rfl
theorem kw_344 : (Jvm.Cond.code ({ cls := "EldestSays", name := "set", desc := "(II)I" } : Jvm.MethodName) prog_1_method_5_code (4 : Nat) (Option.some Jvm.ClassFile.FieldType.int)) ∈ lw_tbl := lw_mem2 104 rfl
theorem kw_345 : (Jvm.Cond.fieldLink "EldestSays" (127 : Nat) "EldestSays" "GREATEST" "[I") ∈ lw_tbl := lw_mem2 105 rfl
theorem kw_346 : (Jvm.Cond.methodLink "EldestSaysLaw" (32 : Nat) ({ cls := "EldestSays", name := "offered", desc := "(II)I" } : Jvm.MethodName)) ∈ lw_tbl := lw_mem2 106 rfl
theorem kw_347 : (Jvm.Cond.instanceMethod ({ cls := "EldestSays", name := "offered", desc := "(II)I" } : Jvm.MethodName)) ∈ lw_tbl := lw_mem2 107 rfl
theorem kw_348 : (Jvm.Cond.selects "EldestSays" ({ cls := "EldestSays", name := "offered", desc := "(II)I" } : Jvm.MethodName) ({ cls := "EldestSays", name := "offered", desc := "(II)I" } : Jvm.MethodName)) ∈ lw_tbl := lw_mem2 108 rfl
theorem kw_349 : (Jvm.Cond.code ({ cls := "EldestSays", name := "offered", desc := "(II)I" } : Jvm.MethodName) prog_1_method_6_code (3 : Nat) (Option.some Jvm.ClassFile.FieldType.int)) ∈ lw_tbl := lw_mem2 109 rfl
theorem kw_350 : (Jvm.Cond.methodLink "EldestSays" (133 : Nat) ({ cls := "EldestSays", name := "solved", desc := "()LEldestSays$Plans;" } : Jvm.MethodName)) ∈ lw_tbl := lw_mem2 110 rfl
theorem kw_351 : (Jvm.Cond.privateMethod ({ cls := "EldestSays", name := "solved", desc := "()LEldestSays$Plans;" } : Jvm.MethodName)) ∈ lw_tbl := lw_mem2 111 rfl
theorem kw_352 : (Jvm.Cond.instanceMethod ({ cls := "EldestSays", name := "solved", desc := "()LEldestSays$Plans;" } : Jvm.MethodName)) ∈ lw_tbl := lw_mem2 112 rfl
theorem kw_353 : (Jvm.Cond.code ({ cls := "EldestSays", name := "solved", desc := "()LEldestSays$Plans;" } : Jvm.MethodName) prog_1_method_33_code (1 : Nat) (Option.some (Jvm.ClassFile.FieldType.object "EldestSays$Plans"))) ∈ lw_tbl := lw_mem2 113 rfl
theorem kw_354 : (Jvm.Cond.methodLink "EldestSays" (190 : Nat) ({ cls := "EldestSays$Plans", name := "solve", desc := "(I)V" } : Jvm.MethodName)) ∈ lw_tbl := lw_mem2 114 rfl
theorem kw_355 : (Jvm.Cond.instanceMethod ({ cls := "EldestSays$Plans", name := "solve", desc := "(I)V" } : Jvm.MethodName)) ∈ lw_tbl := lw_mem2 115 rfl
theorem kw_356 : (Jvm.Cond.selects "EldestSays$Plans" ({ cls := "EldestSays$Plans", name := "solve", desc := "(I)V" } : Jvm.MethodName) ({ cls := "EldestSays$Plans", name := "solve", desc := "(I)V" } : Jvm.MethodName)) ∈ lw_tbl := lw_mem2 116 rfl
theorem kw_357 : (Jvm.Cond.code ({ cls := "EldestSays$Plans", name := "solve", desc := "(I)V" } : Jvm.MethodName) prog_11_method_2_code (3 : Nat) (Option.none : Option Jvm.ClassFile.FieldType)) ∈ lw_tbl := lw_mem2 117 rfl
theorem kw_358 : (Jvm.Cond.methodLink "EldestSays$Plans" (59 : Nat) ({ cls := "EldestSays$Plans", name := "askYounger", desc := "(I)V" } : Jvm.MethodName)) ∈ lw_tbl := lw_mem2 118 rfl
theorem kw_359 : (Jvm.Cond.privateMethod ({ cls := "EldestSays$Plans", name := "askYounger", desc := "(I)V" } : Jvm.MethodName)) ∈ lw_tbl := lw_mem2 119 rfl
theorem kw_360 : (Jvm.Cond.instanceMethod ({ cls := "EldestSays$Plans", name := "askYounger", desc := "(I)V" } : Jvm.MethodName)) ∈ lw_tbl := lw_mem2 120 rfl
theorem kw_361 : (Jvm.Cond.code ({ cls := "EldestSays$Plans", name := "askYounger", desc := "(I)V" } : Jvm.MethodName) prog_11_method_4_code (4 : Nat) (Option.none : Option Jvm.ClassFile.FieldType)) ∈ lw_tbl := lw_mem2 121 rfl
theorem kw_362 : (Jvm.Cond.methodLink "EldestSays$Plans" (66 : Nat) ({ cls := "EldestSays$Plans", name := "kindOf", desc := "(I)LEldestSays$Clever;" } : Jvm.MethodName)) ∈ lw_tbl := lw_mem2 122 rfl
theorem kw_363 : (Jvm.Cond.privateMethod ({ cls := "EldestSays$Plans", name := "kindOf", desc := "(I)LEldestSays$Clever;" } : Jvm.MethodName)) ∈ lw_tbl := lw_mem2 123 rfl
theorem kw_364 : (Jvm.Cond.instanceMethod ({ cls := "EldestSays$Plans", name := "kindOf", desc := "(I)LEldestSays$Clever;" } : Jvm.MethodName)) ∈ lw_tbl := lw_mem2 124 rfl
theorem kw_365 : (Jvm.Cond.code ({ cls := "EldestSays$Plans", name := "kindOf", desc := "(I)LEldestSays$Clever;" } : Jvm.MethodName) prog_11_method_3_code (3 : Nat) (Option.some (Jvm.ClassFile.FieldType.object "EldestSays$Clever"))) ∈ lw_tbl := lw_mem2 125 rfl
theorem kw_366 : (Jvm.Cond.methodLink "EldestSays$Plans" (90 : Nat) ({ cls := "EldestSays$Clever", name := "ask", desc := "(III)I" } : Jvm.MethodName)) ∈ lw_tbl := lw_mem2 126 rfl
theorem kw_367 : (Jvm.Cond.instanceMethod ({ cls := "EldestSays$Clever", name := "ask", desc := "(III)I" } : Jvm.MethodName)) ∈ lw_tbl := lw_mem2 127 rfl
theorem kw_368 : (Jvm.Cond.selects "EldestSays$Clever" ({ cls := "EldestSays$Clever", name := "ask", desc := "(III)I" } : Jvm.MethodName) ({ cls := "EldestSays$Clever", name := "ask", desc := "(III)I" } : Jvm.MethodName)) ∈ lw_tbl := lw_mem2 128 rfl
theorem kw_369 : (Jvm.Cond.sameMethod "EldestSays$Clever" "EldestSays$Clever" "ask" "(III)I") ∈ lw_tbl := lw_mem2 129 rfl
theorem kw_370 : (Jvm.Cond.selects "EldestSays$Company" ({ cls := "EldestSays$Clever", name := "ask", desc := "(III)I" } : Jvm.MethodName) ({ cls := "EldestSays$Company", name := "ask", desc := "(III)I" } : Jvm.MethodName)) ∈ lw_tbl := lw_mem2 130 rfl
theorem kw_371 : (Jvm.Cond.instanceMethod ({ cls := "EldestSays$Company", name := "ask", desc := "(III)I" } : Jvm.MethodName)) ∈ lw_tbl := lw_mem2 131 rfl
theorem kw_372 : (Jvm.Cond.code ({ cls := "EldestSays$Company", name := "ask", desc := "(III)I" } : Jvm.MethodName) prog_3_method_2_code (4 : Nat) (Option.some Jvm.ClassFile.FieldType.int)) ∈ lw_tbl := lw_mem2 132 rfl
theorem kw_373 : (Jvm.Cond.methodLink "EldestSays$Company" (7 : Nat) ({ cls := "java/lang/Math", name := "max", desc := "(II)I" } : Jvm.MethodName)) ∈ lw_tbl := lw_mem2 133 rfl
theorem kw_374 : (Jvm.Cond.static ({ cls := "java/lang/Math", name := "max", desc := "(II)I" } : Jvm.MethodName)) ∈ lw_tbl := lw_mem2 134 rfl
theorem kw_375 : (Jvm.Cond.code ({ cls := "java/lang/Math", name := "max", desc := "(II)I" } : Jvm.MethodName) prog_16_method_65_code (2 : Nat) (Option.some Jvm.ClassFile.FieldType.int)) ∈ lw_tbl := lw_mem2 135 rfl
theorem kw_376 : (Jvm.Cond.selects "EldestSays$Envious" ({ cls := "EldestSays$Clever", name := "ask", desc := "(III)I" } : Jvm.MethodName) ({ cls := "EldestSays$Envious", name := "ask", desc := "(III)I" } : Jvm.MethodName)) ∈ lw_tbl := lw_mem2 136 rfl
theorem kw_377 : (Jvm.Cond.instanceMethod ({ cls := "EldestSays$Envious", name := "ask", desc := "(III)I" } : Jvm.MethodName)) ∈ lw_tbl := lw_mem2 137 rfl
theorem kw_378 : (Jvm.Cond.code ({ cls := "EldestSays$Envious", name := "ask", desc := "(III)I" } : Jvm.MethodName) prog_5_method_2_code (5 : Nat) (Option.some Jvm.ClassFile.FieldType.int)) ∈ lw_tbl := lw_mem2 138 rfl
theorem kw_379 : (Jvm.Cond.methodLink "EldestSays$Envious" (7 : Nat) ({ cls := "EldestSays$Clever", name := "ask", desc := "(III)I" } : Jvm.MethodName)) ∈ lw_tbl := lw_mem2 139 rfl
theorem kw_380 : (Jvm.Cond.selects "EldestSays$Fair" ({ cls := "EldestSays$Clever", name := "ask", desc := "(III)I" } : Jvm.MethodName) ({ cls := "EldestSays$Company", name := "ask", desc := "(III)I" } : Jvm.MethodName)) ∈ lw_tbl := lw_mem2 140 rfl
theorem kw_381 : (Jvm.Cond.selects "EldestSays$Fool" ({ cls := "EldestSays$Clever", name := "ask", desc := "(III)I" } : Jvm.MethodName) ({ cls := "EldestSays$Fool", name := "ask", desc := "(III)I" } : Jvm.MethodName)) ∈ lw_tbl := lw_mem2 141 rfl
theorem kw_382 : (Jvm.Cond.instanceMethod ({ cls := "EldestSays$Fool", name := "ask", desc := "(III)I" } : Jvm.MethodName)) ∈ lw_tbl := lw_mem2 142 rfl
theorem kw_383 : (Jvm.Cond.code ({ cls := "EldestSays$Fool", name := "ask", desc := "(III)I" } : Jvm.MethodName) prog_8_method_2_code (4 : Nat) (Option.some Jvm.ClassFile.FieldType.int)) ∈ lw_tbl := lw_mem2 143 rfl
theorem kw_384 : (Jvm.Cond.selects "EldestSays$Meek" ({ cls := "EldestSays$Clever", name := "ask", desc := "(III)I" } : Jvm.MethodName) ({ cls := "EldestSays$Meek", name := "ask", desc := "(III)I" } : Jvm.MethodName)) ∈ lw_tbl := lw_mem2 144 rfl
theorem kw_385 : (Jvm.Cond.instanceMethod ({ cls := "EldestSays$Meek", name := "ask", desc := "(III)I" } : Jvm.MethodName)) ∈ lw_tbl := lw_mem2 145 rfl
theorem kw_386 : (Jvm.Cond.code ({ cls := "EldestSays$Meek", name := "ask", desc := "(III)I" } : Jvm.MethodName) prog_10_method_2_code (4 : Nat) (Option.some Jvm.ClassFile.FieldType.int)) ∈ lw_tbl := lw_mem2 146 rfl
theorem kw_387 : (Jvm.Cond.methodLink "EldestSays$Meek" (7 : Nat) ({ cls := "EldestSays$Fool", name := "ask", desc := "(III)I" } : Jvm.MethodName)) ∈ lw_tbl := lw_mem2 147 rfl
theorem kw_388 : (Jvm.Cond.selects "EldestSays$Spiteful" ({ cls := "EldestSays$Clever", name := "ask", desc := "(III)I" } : Jvm.MethodName) ({ cls := "EldestSays$Spiteful", name := "ask", desc := "(III)I" } : Jvm.MethodName)) ∈ lw_tbl := lw_mem2 148 rfl
theorem kw_389 : (Jvm.Cond.instanceMethod ({ cls := "EldestSays$Spiteful", name := "ask", desc := "(III)I" } : Jvm.MethodName)) ∈ lw_tbl := lw_mem2 149 rfl
theorem kw_390 : (Jvm.Cond.code ({ cls := "EldestSays$Spiteful", name := "ask", desc := "(III)I" } : Jvm.MethodName) prog_12_method_2_code (4 : Nat) (Option.some Jvm.ClassFile.FieldType.int)) ∈ lw_tbl := lw_mem2 150 rfl
theorem kw_391 : (Jvm.Cond.methodLink "EldestSays$Spiteful" (7 : Nat) ({ cls := "EldestSays$Envious", name := "ask", desc := "(III)I" } : Jvm.MethodName)) ∈ lw_tbl := lw_mem2 151 rfl
theorem kw_392 : (Jvm.Cond.code ({ cls := "EldestSays$Clever", name := "ask", desc := "(III)I" } : Jvm.MethodName) prog_2_method_2_code (5 : Nat) (Option.some Jvm.ClassFile.FieldType.int)) ∈ lw_tbl := lw_mem2 152 rfl
theorem kw_393 : (Jvm.Cond.methodLink "EldestSays$Plans" (63 : Nat) ({ cls := "EldestSays$Plans", name := "keepAll", desc := "(I)V" } : Jvm.MethodName)) ∈ lw_tbl := lw_mem2 153 rfl
theorem kw_394 : (Jvm.Cond.privateMethod ({ cls := "EldestSays$Plans", name := "keepAll", desc := "(I)V" } : Jvm.MethodName)) ∈ lw_tbl := lw_mem2 154 rfl
theorem kw_395 : (Jvm.Cond.instanceMethod ({ cls := "EldestSays$Plans", name := "keepAll", desc := "(I)V" } : Jvm.MethodName)) ∈ lw_tbl := lw_mem2 155 rfl
theorem kw_396 : (Jvm.Cond.code ({ cls := "EldestSays$Plans", name := "keepAll", desc := "(I)V" } : Jvm.MethodName) prog_11_method_5_code (2 : Nat) (Option.none : Option Jvm.ClassFile.FieldType)) ∈ lw_tbl := lw_mem2 156 rfl
theorem kw_397 : (Jvm.Cond.methodLink "EldestSays$Plans" (94 : Nat) ({ cls := "java/util/Arrays", name := "fill", desc := "([II)V" } : Jvm.MethodName)) ∈ lw_tbl := lw_mem2 157 rfl
theorem kw_398 : (Jvm.Cond.static ({ cls := "java/util/Arrays", name := "fill", desc := "([II)V" } : Jvm.MethodName)) ∈ lw_tbl := lw_mem2 158 rfl
theorem kw_399 : (Jvm.Cond.code ({ cls := "java/util/Arrays", name := "fill", desc := "([II)V" } : Jvm.MethodName) prog_18_method_103_code (4 : Nat) (Option.none : Option Jvm.ClassFile.FieldType)) ∈ lw_tbl := lw_mem2 159 rfl
theorem kw_400 : (Jvm.Cond.methodLink "EldestSays$Plans" (70 : Nat) ({ cls := "EldestSays$Clever", name := "tell", desc := "(LEldestSays$Plans;I)V" } : Jvm.MethodName)) ∈ lw_tbl := lw_mem2 160 rfl
theorem kw_401 : (Jvm.Cond.instanceMethod ({ cls := "EldestSays$Clever", name := "tell", desc := "(LEldestSays$Plans;I)V" } : Jvm.MethodName)) ∈ lw_tbl := lw_mem2 161 rfl
theorem kw_402 : (Jvm.Cond.selects "EldestSays$Clever" ({ cls := "EldestSays$Clever", name := "tell", desc := "(LEldestSays$Plans;I)V" } : Jvm.MethodName) ({ cls := "EldestSays$Clever", name := "tell", desc := "(LEldestSays$Plans;I)V" } : Jvm.MethodName)) ∈ lw_tbl := lw_mem2 162 rfl
theorem kw_403 : (Jvm.Cond.sameMethod "EldestSays$Clever" "EldestSays$Clever" "tell" "(LEldestSays$Plans;I)V") ∈ lw_tbl := lw_mem2 163 rfl
theorem kw_404 : (Jvm.Cond.selects "EldestSays$Company" ({ cls := "EldestSays$Clever", name := "tell", desc := "(LEldestSays$Plans;I)V" } : Jvm.MethodName) ({ cls := "EldestSays$Clever", name := "tell", desc := "(LEldestSays$Plans;I)V" } : Jvm.MethodName)) ∈ lw_tbl := lw_mem2 164 rfl
theorem kw_405 : (Jvm.Cond.selects "EldestSays$Envious" ({ cls := "EldestSays$Clever", name := "tell", desc := "(LEldestSays$Plans;I)V" } : Jvm.MethodName) ({ cls := "EldestSays$Clever", name := "tell", desc := "(LEldestSays$Plans;I)V" } : Jvm.MethodName)) ∈ lw_tbl := lw_mem2 165 rfl
theorem kw_406 : (Jvm.Cond.selects "EldestSays$Fair" ({ cls := "EldestSays$Clever", name := "tell", desc := "(LEldestSays$Plans;I)V" } : Jvm.MethodName) ({ cls := "EldestSays$Fair", name := "tell", desc := "(LEldestSays$Plans;I)V" } : Jvm.MethodName)) ∈ lw_tbl := lw_mem2 166 rfl
theorem kw_407 : (Jvm.Cond.instanceMethod ({ cls := "EldestSays$Fair", name := "tell", desc := "(LEldestSays$Plans;I)V" } : Jvm.MethodName)) ∈ lw_tbl := lw_mem2 167 rfl
theorem kw_408 : (Jvm.Cond.code ({ cls := "EldestSays$Fair", name := "tell", desc := "(LEldestSays$Plans;I)V" } : Jvm.MethodName) prog_7_method_2_code (3 : Nat) (Option.none : Option Jvm.ClassFile.FieldType)) ∈ lw_tbl := lw_mem2 168 rfl
theorem kw_409 : (Jvm.Cond.methodLink "EldestSays$Fair" (7 : Nat) ({ cls := "EldestSays$Plans", name := "shareFairly", desc := "(I)V" } : Jvm.MethodName)) ∈ lw_tbl := lw_mem2 169 rfl
theorem kw_410 : (Jvm.Cond.instanceMethod ({ cls := "EldestSays$Plans", name := "shareFairly", desc := "(I)V" } : Jvm.MethodName)) ∈ lw_tbl := lw_mem2 170 rfl
theorem kw_411 : (Jvm.Cond.selects "EldestSays$Plans" ({ cls := "EldestSays$Plans", name := "shareFairly", desc := "(I)V" } : Jvm.MethodName) ({ cls := "EldestSays$Plans", name := "shareFairly", desc := "(I)V" } : Jvm.MethodName)) ∈ lw_tbl := lw_mem2 171 rfl
theorem kw_412 : (Jvm.Cond.code ({ cls := "EldestSays$Plans", name := "shareFairly", desc := "(I)V" } : Jvm.MethodName) prog_11_method_15_code (5 : Nat) (Option.none : Option Jvm.ClassFile.FieldType)) ∈ lw_tbl := lw_mem2 172 rfl
theorem kw_413 : (Jvm.Cond.methodLink "EldestSays$Plans" (144 : Nat) ({ cls := "EldestSays$Plans", name := "give", desc := "(III)V" } : Jvm.MethodName)) ∈ lw_tbl := lw_mem2 173 rfl
theorem kw_414 : (Jvm.Cond.privateMethod ({ cls := "EldestSays$Plans", name := "give", desc := "(III)V" } : Jvm.MethodName)) ∈ lw_tbl := lw_mem2 174 rfl
theorem kw_415 : (Jvm.Cond.instanceMethod ({ cls := "EldestSays$Plans", name := "give", desc := "(III)V" } : Jvm.MethodName)) ∈ lw_tbl := lw_mem2 175 rfl
theorem kw_416 : (Jvm.Cond.code ({ cls := "EldestSays$Plans", name := "give", desc := "(III)V" } : Jvm.MethodName) prog_11_method_19_code (4 : Nat) (Option.none : Option Jvm.ClassFile.FieldType)) ∈ lw_tbl := lw_mem2 176 rfl
theorem kw_417 : (Jvm.Cond.selects "EldestSays$Fool" ({ cls := "EldestSays$Clever", name := "tell", desc := "(LEldestSays$Plans;I)V" } : Jvm.MethodName) ({ cls := "EldestSays$Fool", name := "tell", desc := "(LEldestSays$Plans;I)V" } : Jvm.MethodName)) ∈ lw_tbl := lw_mem2 177 rfl
theorem kw_418 : (Jvm.Cond.instanceMethod ({ cls := "EldestSays$Fool", name := "tell", desc := "(LEldestSays$Plans;I)V" } : Jvm.MethodName)) ∈ lw_tbl := lw_mem2 178 rfl
theorem kw_419 : (Jvm.Cond.code ({ cls := "EldestSays$Fool", name := "tell", desc := "(LEldestSays$Plans;I)V" } : Jvm.MethodName) prog_8_method_3_code (3 : Nat) (Option.none : Option Jvm.ClassFile.FieldType)) ∈ lw_tbl := lw_mem2 179 rfl
theorem kw_420 : (Jvm.Cond.methodLink "EldestSays$Fool" (7 : Nat) ({ cls := "EldestSays$Plans", name := "figureOf", desc := "(I)I" } : Jvm.MethodName)) ∈ lw_tbl := lw_mem2 180 rfl
theorem kw_421 : (Jvm.Cond.instanceMethod ({ cls := "EldestSays$Plans", name := "figureOf", desc := "(I)I" } : Jvm.MethodName)) ∈ lw_tbl := lw_mem2 181 rfl
theorem kw_422 : (Jvm.Cond.selects "EldestSays$Plans" ({ cls := "EldestSays$Plans", name := "figureOf", desc := "(I)I" } : Jvm.MethodName) ({ cls := "EldestSays$Plans", name := "figureOf", desc := "(I)I" } : Jvm.MethodName)) ∈ lw_tbl := lw_mem2 182 rfl
theorem kw_423 : (Jvm.Cond.code ({ cls := "EldestSays$Plans", name := "figureOf", desc := "(I)I" } : Jvm.MethodName) prog_11_method_18_code (2 : Nat) (Option.some Jvm.ClassFile.FieldType.int)) ∈ lw_tbl := lw_mem2 183 rfl
theorem kw_424 : (Jvm.Cond.methodLink "EldestSays$Fool" (13 : Nat) ({ cls := "EldestSays$Plans", name := "spreadFromEldest", desc := "(II)V" } : Jvm.MethodName)) ∈ lw_tbl := lw_mem2 184 rfl
theorem kw_425 : (Jvm.Cond.instanceMethod ({ cls := "EldestSays$Plans", name := "spreadFromEldest", desc := "(II)V" } : Jvm.MethodName)) ∈ lw_tbl := lw_mem2 185 rfl
theorem kw_426 : (Jvm.Cond.selects "EldestSays$Plans" ({ cls := "EldestSays$Plans", name := "spreadFromEldest", desc := "(II)V" } : Jvm.MethodName) ({ cls := "EldestSays$Plans", name := "spreadFromEldest", desc := "(II)V" } : Jvm.MethodName)) ∈ lw_tbl := lw_mem2 186 rfl
theorem kw_427 : (Jvm.Cond.code ({ cls := "EldestSays$Plans", name := "spreadFromEldest", desc := "(II)V" } : Jvm.MethodName) prog_11_method_16_code (4 : Nat) (Option.none : Option Jvm.ClassFile.FieldType)) ∈ lw_tbl := lw_mem2 187 rfl
theorem kw_428 : (Jvm.Cond.selects "EldestSays$Meek" ({ cls := "EldestSays$Clever", name := "tell", desc := "(LEldestSays$Plans;I)V" } : Jvm.MethodName) ({ cls := "EldestSays$Meek", name := "tell", desc := "(LEldestSays$Plans;I)V" } : Jvm.MethodName)) ∈ lw_tbl := lw_mem2 188 rfl
theorem kw_429 : (Jvm.Cond.instanceMethod ({ cls := "EldestSays$Meek", name := "tell", desc := "(LEldestSays$Plans;I)V" } : Jvm.MethodName)) ∈ lw_tbl := lw_mem2 189 rfl
theorem kw_430 : (Jvm.Cond.code ({ cls := "EldestSays$Meek", name := "tell", desc := "(LEldestSays$Plans;I)V" } : Jvm.MethodName) prog_10_method_3_code (3 : Nat) (Option.none : Option Jvm.ClassFile.FieldType)) ∈ lw_tbl := lw_mem2 190 rfl
theorem kw_431 : (Jvm.Cond.methodLink "EldestSays$Meek" (11 : Nat) ({ cls := "EldestSays$Plans", name := "figureOf", desc := "(I)I" } : Jvm.MethodName)) ∈ lw_tbl := lw_mem2 191 rfl
theorem kw_432 : (Jvm.Cond.methodLink "EldestSays$Meek" (17 : Nat) ({ cls := "EldestSays$Plans", name := "spreadFromYoungest", desc := "(II)V" } : Jvm.MethodName)) ∈ lw_tbl := lw_mem2 192 rfl
theorem kw_433 : (Jvm.Cond.instanceMethod ({ cls := "EldestSays$Plans", name := "spreadFromYoungest", desc := "(II)V" } : Jvm.MethodName)) ∈ lw_tbl := lw_mem2 193 rfl
theorem kw_434 : (Jvm.Cond.selects "EldestSays$Plans" ({ cls := "EldestSays$Plans", name := "spreadFromYoungest", desc := "(II)V" } : Jvm.MethodName) ({ cls := "EldestSays$Plans", name := "spreadFromYoungest", desc := "(II)V" } : Jvm.MethodName)) ∈ lw_tbl := lw_mem2 194 rfl
theorem kw_435 : (Jvm.Cond.code ({ cls := "EldestSays$Plans", name := "spreadFromYoungest", desc := "(II)V" } : Jvm.MethodName) prog_11_method_17_code (4 : Nat) (Option.none : Option Jvm.ClassFile.FieldType)) ∈ lw_tbl := lw_mem2 195 rfl
theorem kw_436 : (Jvm.Cond.selects "EldestSays$Spiteful" ({ cls := "EldestSays$Clever", name := "tell", desc := "(LEldestSays$Plans;I)V" } : Jvm.MethodName) ({ cls := "EldestSays$Clever", name := "tell", desc := "(LEldestSays$Plans;I)V" } : Jvm.MethodName)) ∈ lw_tbl := lw_mem2 196 rfl
theorem kw_437 : (Jvm.Cond.code ({ cls := "EldestSays$Clever", name := "tell", desc := "(LEldestSays$Plans;I)V" } : Jvm.MethodName) prog_2_method_3_code (3 : Nat) (Option.none : Option Jvm.ClassFile.FieldType)) ∈ lw_tbl := lw_mem2 197 rfl
theorem kw_438 : (Jvm.Cond.methodLink "EldestSays$Clever" (7 : Nat) ({ cls := "EldestSays$Plans", name := "buyCheapest", desc := "(I)V" } : Jvm.MethodName)) ∈ lw_tbl := lw_mem2 198 rfl
theorem kw_439 : (Jvm.Cond.instanceMethod ({ cls := "EldestSays$Plans", name := "buyCheapest", desc := "(I)V" } : Jvm.MethodName)) ∈ lw_tbl := lw_mem2 199 rfl
theorem kw_440 : (Jvm.Cond.selects "EldestSays$Plans" ({ cls := "EldestSays$Plans", name := "buyCheapest", desc := "(I)V" } : Jvm.MethodName) ({ cls := "EldestSays$Plans", name := "buyCheapest", desc := "(I)V" } : Jvm.MethodName)) ∈ lw_tbl := lw_mem2 200 rfl
theorem kw_441 : (Jvm.Cond.code ({ cls := "EldestSays$Plans", name := "buyCheapest", desc := "(I)V" } : Jvm.MethodName) prog_11_method_8_code (6 : Nat) (Option.none : Option Jvm.ClassFile.FieldType)) ∈ lw_tbl := lw_mem2 201 rfl
theorem kw_442 : (Jvm.Cond.methodLink "EldestSays$Plans" (110 : Nat) ({ cls := "EldestSays$Plans", name := "forgetUnits", desc := "()V" } : Jvm.MethodName)) ∈ lw_tbl := lw_mem2 202 rfl
theorem kw_443 : (Jvm.Cond.privateMethod ({ cls := "EldestSays$Plans", name := "forgetUnits", desc := "()V" } : Jvm.MethodName)) ∈ lw_tbl := lw_mem2 203 rfl
theorem kw_444 : (Jvm.Cond.instanceMethod ({ cls := "EldestSays$Plans", name := "forgetUnits", desc := "()V" } : Jvm.MethodName)) ∈ lw_tbl := lw_mem2 204 rfl
theorem kw_445 : (Jvm.Cond.code ({ cls := "EldestSays$Plans", name := "forgetUnits", desc := "()V" } : Jvm.MethodName) prog_11_method_10_code (1 : Nat) (Option.none : Option Jvm.ClassFile.FieldType)) ∈ lw_tbl := lw_mem2 205 rfl
theorem kw_446 : (Jvm.Cond.methodLink "EldestSays$Plans" (113 : Nat) ({ cls := "EldestSays$Plans", name := "manOfUnit", desc := "(II)I" } : Jvm.MethodName)) ∈ lw_tbl := lw_mem2 206 rfl
theorem kw_447 : (Jvm.Cond.privateMethod ({ cls := "EldestSays$Plans", name := "manOfUnit", desc := "(II)I" } : Jvm.MethodName)) ∈ lw_tbl := lw_mem2 207 rfl
theorem kw_448 : (Jvm.Cond.instanceMethod ({ cls := "EldestSays$Plans", name := "manOfUnit", desc := "(II)I" } : Jvm.MethodName)) ∈ lw_tbl := lw_mem2 208 rfl
theorem kw_449 : (Jvm.Cond.code ({ cls := "EldestSays$Plans", name := "manOfUnit", desc := "(II)I" } : Jvm.MethodName) prog_11_method_9_code (3 : Nat) (Option.some Jvm.ClassFile.FieldType.int)) ∈ lw_tbl := lw_mem2 209 rfl
theorem kw_450 : (Jvm.Cond.methodLink "EldestSays$Plans" (120 : Nat) ({ cls := "EldestSays$Plans", name := "addUnit", desc := "(II)V" } : Jvm.MethodName)) ∈ lw_tbl := lw_mem2 210 rfl
theorem kw_451 : (Jvm.Cond.privateMethod ({ cls := "EldestSays$Plans", name := "addUnit", desc := "(II)V" } : Jvm.MethodName)) ∈ lw_tbl := lw_mem2 211 rfl
theorem kw_452 : (Jvm.Cond.instanceMethod ({ cls := "EldestSays$Plans", name := "addUnit", desc := "(II)V" } : Jvm.MethodName)) ∈ lw_tbl := lw_mem2 212 rfl
theorem kw_453 : (Jvm.Cond.code ({ cls := "EldestSays$Plans", name := "addUnit", desc := "(II)V" } : Jvm.MethodName) prog_11_method_11_code (3 : Nat) (Option.none : Option Jvm.ClassFile.FieldType)) ∈ lw_tbl := lw_mem2 213 rfl
theorem kw_454 : (Jvm.Cond.methodLink "EldestSays$Plans" (124 : Nat) ({ cls := "EldestSays$Plans", name := "cheapestSet", desc := "(I)I" } : Jvm.MethodName)) ∈ lw_tbl := lw_mem2 214 rfl
theorem kw_455 : (Jvm.Cond.privateMethod ({ cls := "EldestSays$Plans", name := "cheapestSet", desc := "(I)I" } : Jvm.MethodName)) ∈ lw_tbl := lw_mem2 215 rfl
theorem kw_456 : (Jvm.Cond.instanceMethod ({ cls := "EldestSays$Plans", name := "cheapestSet", desc := "(I)I" } : Jvm.MethodName)) ∈ lw_tbl := lw_mem2 216 rfl
theorem kw_457 : (Jvm.Cond.code ({ cls := "EldestSays$Plans", name := "cheapestSet", desc := "(I)I" } : Jvm.MethodName) prog_11_method_12_code (7 : Nat) (Option.some Jvm.ClassFile.FieldType.int)) ∈ lw_tbl := lw_mem2 217 rfl
theorem kw_458 : (Jvm.Cond.methodLink "EldestSays$Plans" (134 : Nat) ({ cls := "EldestSays$Plans", name := "listSets", desc := "(I)I" } : Jvm.MethodName)) ∈ lw_tbl := lw_mem2 218 rfl
theorem kw_459 : (Jvm.Cond.privateMethod ({ cls := "EldestSays$Plans", name := "listSets", desc := "(I)I" } : Jvm.MethodName)) ∈ lw_tbl := lw_mem2 219 rfl
theorem kw_460 : (Jvm.Cond.instanceMethod ({ cls := "EldestSays$Plans", name := "listSets", desc := "(I)I" } : Jvm.MethodName)) ∈ lw_tbl := lw_mem2 220 rfl
theorem kw_461 : (Jvm.Cond.code ({ cls := "EldestSays$Plans", name := "listSets", desc := "(I)I" } : Jvm.MethodName) prog_11_method_13_code (5 : Nat) (Option.some Jvm.ClassFile.FieldType.int)) ∈ lw_tbl := lw_mem2 221 rfl
theorem kw_462 : (Jvm.Cond.methodLink "EldestSays$Plans" (137 : Nat) ({ cls := "EldestSays$Evening", name := "weightFrom", desc := "(I)I" } : Jvm.MethodName)) ∈ lw_tbl := lw_mem2 222 rfl
theorem kw_463 : (Jvm.Cond.instanceMethod ({ cls := "EldestSays$Evening", name := "weightFrom", desc := "(I)I" } : Jvm.MethodName)) ∈ lw_tbl := lw_mem2 223 rfl
theorem kw_464 : (Jvm.Cond.selects "EldestSays$Evening" ({ cls := "EldestSays$Evening", name := "weightFrom", desc := "(I)I" } : Jvm.MethodName) ({ cls := "EldestSays$Evening", name := "weightFrom", desc := "(I)I" } : Jvm.MethodName)) ∈ lw_tbl := lw_mem2 224 rfl
theorem kw_465 : (Jvm.Cond.code ({ cls := "EldestSays$Evening", name := "weightFrom", desc := "(I)I" } : Jvm.MethodName) prog_6_method_6_code (4 : Nat) (Option.some Jvm.ClassFile.FieldType.int)) ∈ lw_tbl := lw_mem2 225 rfl
theorem kw_466 : (Jvm.Cond.methodLink "EldestSays$Evening" (47 : Nat) ({ cls := "java/lang/Math", name := "max", desc := "(II)I" } : Jvm.MethodName)) ∈ lw_tbl := lw_mem2 226 rfl
theorem kw_467 : (Jvm.Cond.methodLinkNest "EldestSays$Plans" (140 : Nat) ({ cls := "EldestSays", name := "isEnough", desc := "(III)Z" } : Jvm.MethodName) "EldestSays") ∈ lw_tbl := lw_mem2 227 rfl
theorem kw_468 : (Jvm.Cond.static ({ cls := "EldestSays", name := "isEnough", desc := "(III)Z" } : Jvm.MethodName)) ∈ lw_tbl := lw_mem2 228 rfl
theorem kw_469 : (Jvm.Cond.code ({ cls := "EldestSays", name := "isEnough", desc := "(III)Z" } : Jvm.MethodName) prog_1_method_45_code (3 : Nat) (Option.some Jvm.ClassFile.FieldType.boolean)) ∈ lw_tbl := lw_mem2 229 rfl
theorem kw_470 : (Jvm.Cond.methodLink "EldestSays$Plans" (76 : Nat) ({ cls := "EldestSays$Plans", name := "vote", desc := "(I)V" } : Jvm.MethodName)) ∈ lw_tbl := lw_mem2 230 rfl
theorem kw_471 : (Jvm.Cond.privateMethod ({ cls := "EldestSays$Plans", name := "vote", desc := "(I)V" } : Jvm.MethodName)) ∈ lw_tbl := lw_mem2 231 rfl
theorem kw_472 : (Jvm.Cond.instanceMethod ({ cls := "EldestSays$Plans", name := "vote", desc := "(I)V" } : Jvm.MethodName)) ∈ lw_tbl := lw_mem2 232 rfl
theorem kw_473 : (Jvm.Cond.code ({ cls := "EldestSays$Plans", name := "vote", desc := "(I)V" } : Jvm.MethodName) prog_11_method_6_code (3 : Nat) (Option.none : Option Jvm.ClassFile.FieldType)) ∈ lw_tbl := lw_mem2 233 rfl
theorem kw_474 : (Jvm.Cond.methodLink "EldestSays$Plans" (79 : Nat) ({ cls := "EldestSays$Plans", name := "end", desc := "(I)V" } : Jvm.MethodName)) ∈ lw_tbl := lw_mem2 234 rfl
theorem kw_475 : (Jvm.Cond.privateMethod ({ cls := "EldestSays$Plans", name := "end", desc := "(I)V" } : Jvm.MethodName)) ∈ lw_tbl := lw_mem2 235 rfl
theorem kw_476 : (Jvm.Cond.instanceMethod ({ cls := "EldestSays$Plans", name := "end", desc := "(I)V" } : Jvm.MethodName)) ∈ lw_tbl := lw_mem2 236 rfl
theorem kw_477 : (Jvm.Cond.code ({ cls := "EldestSays$Plans", name := "end", desc := "(I)V" } : Jvm.MethodName) prog_11_method_7_code (3 : Nat) (Option.none : Option Jvm.ClassFile.FieldType)) ∈ lw_tbl := lw_mem2 237 rfl
theorem kw_478 : (Jvm.Cond.methodLink "EldestSays$Plans" (100 : Nat) ({ cls := "EldestSays$Evening", name := "isCarried", desc := "(II)Z" } : Jvm.MethodName)) ∈ lw_tbl := lw_mem2 238 rfl
theorem kw_479 : (Jvm.Cond.instanceMethod ({ cls := "EldestSays$Evening", name := "isCarried", desc := "(II)Z" } : Jvm.MethodName)) ∈ lw_tbl := lw_mem2 239 rfl
theorem kw_480 : (Jvm.Cond.selects "EldestSays$Evening" ({ cls := "EldestSays$Evening", name := "isCarried", desc := "(II)Z" } : Jvm.MethodName) ({ cls := "EldestSays$Evening", name := "isCarried", desc := "(II)Z" } : Jvm.MethodName)) ∈ lw_tbl := lw_mem3 0 rfl
theorem kw_481 : (Jvm.Cond.code ({ cls := "EldestSays$Evening", name := "isCarried", desc := "(II)Z" } : Jvm.MethodName) prog_6_method_8_code (5 : Nat) (Option.some Jvm.ClassFile.FieldType.boolean)) ∈ lw_tbl := lw_mem3 1 rfl
theorem kw_482 : (Jvm.Cond.methodLink "EldestSays$Evening" (57 : Nat) ({ cls := "EldestSays$Evening", name := "weightFrom", desc := "(I)I" } : Jvm.MethodName)) ∈ lw_tbl := lw_mem3 2 rfl
theorem kw_483 : (Jvm.Cond.methodLinkNest "EldestSays$Evening" (61 : Nat) ({ cls := "EldestSays", name := "isEnough", desc := "(III)Z" } : Jvm.MethodName) "EldestSays") ∈ lw_tbl := lw_mem3 3 rfl
theorem kw_484 : (Jvm.Cond.methodLink "EldestSays$Plans" (104 : Nat) ({ cls := "java/lang/System", name := "arraycopy", desc := "(Ljava/lang/Object;ILjava/lang/Object;II)V" } : Jvm.MethodName)) ∈ lw_tbl := lw_mem3 4 rfl
theorem kw_485 : (Jvm.Cond.static ({ cls := "java/lang/System", name := "arraycopy", desc := "(Ljava/lang/Object;ILjava/lang/Object;II)V" } : Jvm.MethodName)) ∈ lw_tbl := lw_mem3 5 rfl
theorem kw_486 : (Jvm.Cond.native ({ cls := "java/lang/System", name := "arraycopy", desc := "(Ljava/lang/Object;ILjava/lang/Object;II)V" } : Jvm.MethodName)) ∈ lw_tbl := lw_mem3 6 rfl
theorem kw_487 : (Jvm.Cond.methodLink "EldestSaysLaw" (36 : Nat) ({ cls := "EldestSays", name := "price", desc := "(II)I" } : Jvm.MethodName)) ∈ lw_tbl := lw_mem3 7 rfl
theorem kw_488 : (Jvm.Cond.instanceMethod ({ cls := "EldestSays", name := "price", desc := "(II)I" } : Jvm.MethodName)) ∈ lw_tbl := lw_mem3 8 rfl
theorem kw_489 : (Jvm.Cond.selects "EldestSays" ({ cls := "EldestSays", name := "price", desc := "(II)I" } : Jvm.MethodName) ({ cls := "EldestSays", name := "price", desc := "(II)I" } : Jvm.MethodName)) ∈ lw_tbl := lw_mem3 9 rfl
theorem kw_490 : (Jvm.Cond.code ({ cls := "EldestSays", name := "price", desc := "(II)I" } : Jvm.MethodName) prog_1_method_7_code (3 : Nat) (Option.some Jvm.ClassFile.FieldType.int)) ∈ lw_tbl := lw_mem3 10 rfl
theorem kw_491 : (Jvm.Cond.methodLink "EldestSaysLaw" (40 : Nat) ({ cls := "EldestSays", name := "votes", desc := "(I)I" } : Jvm.MethodName)) ∈ lw_tbl := lw_mem3 11 rfl
theorem kw_492 : (Jvm.Cond.instanceMethod ({ cls := "EldestSays", name := "votes", desc := "(I)I" } : Jvm.MethodName)) ∈ lw_tbl := lw_mem3 12 rfl
theorem kw_493 : (Jvm.Cond.selects "EldestSays" ({ cls := "EldestSays", name := "votes", desc := "(I)I" } : Jvm.MethodName) ({ cls := "EldestSays", name := "votes", desc := "(I)I" } : Jvm.MethodName)) ∈ lw_tbl := lw_mem3 13 rfl
theorem kw_494 : (Jvm.Cond.code ({ cls := "EldestSays", name := "votes", desc := "(I)I" } : Jvm.MethodName) prog_1_method_8_code (2 : Nat) (Option.some Jvm.ClassFile.FieldType.int)) ∈ lw_tbl := lw_mem3 14 rfl
theorem kw_495 : (Jvm.Cond.methodLink "EldestSaysLaw" (44 : Nat) ({ cls := "EldestSays", name := "carries", desc := "(I)I" } : Jvm.MethodName)) ∈ lw_tbl := lw_mem3 15 rfl
theorem kw_496 : (Jvm.Cond.instanceMethod ({ cls := "EldestSays", name := "carries", desc := "(I)I" } : Jvm.MethodName)) ∈ lw_tbl := lw_mem3 16 rfl
theorem kw_497 : (Jvm.Cond.selects "EldestSays" ({ cls := "EldestSays", name := "carries", desc := "(I)I" } : Jvm.MethodName) ({ cls := "EldestSays", name := "carries", desc := "(I)I" } : Jvm.MethodName)) ∈ lw_tbl := lw_mem3 17 rfl
theorem kw_498 : (Jvm.Cond.code ({ cls := "EldestSays", name := "carries", desc := "(I)I" } : Jvm.MethodName) prog_1_method_9_code (2 : Nat) (Option.some Jvm.ClassFile.FieldType.int)) ∈ lw_tbl := lw_mem3 18 rfl
theorem kw_499 : (Jvm.Cond.methodLink "EldestSaysLaw" (48 : Nat) ({ cls := "EldestSays", name := "ends", desc := "(I)I" } : Jvm.MethodName)) ∈ lw_tbl := lw_mem3 19 rfl
theorem kw_500 : (Jvm.Cond.instanceMethod ({ cls := "EldestSays", name := "ends", desc := "(I)I" } : Jvm.MethodName)) ∈ lw_tbl := lw_mem3 20 rfl
theorem kw_501 : (Jvm.Cond.selects "EldestSays" ({ cls := "EldestSays", name := "ends", desc := "(I)I" } : Jvm.MethodName) ({ cls := "EldestSays", name := "ends", desc := "(I)I" } : Jvm.MethodName)) ∈ lw_tbl := lw_mem3 21 rfl
theorem kw_502 : (Jvm.Cond.code ({ cls := "EldestSays", name := "ends", desc := "(I)I" } : Jvm.MethodName) prog_1_method_10_code (2 : Nat) (Option.some Jvm.ClassFile.FieldType.int)) ∈ lw_tbl := lw_mem3 22 rfl
theorem kw_503 : (Jvm.Cond.methodLink "EldestSaysLaw" (52 : Nat) ({ cls := "EldestSays", name := "gets", desc := "(II)I" } : Jvm.MethodName)) ∈ lw_tbl := lw_mem3 23 rfl
theorem kw_504 : (Jvm.Cond.instanceMethod ({ cls := "EldestSays", name := "gets", desc := "(II)I" } : Jvm.MethodName)) ∈ lw_tbl := lw_mem3 24 rfl
theorem kw_505 : (Jvm.Cond.selects "EldestSays" ({ cls := "EldestSays", name := "gets", desc := "(II)I" } : Jvm.MethodName) ({ cls := "EldestSays", name := "gets", desc := "(II)I" } : Jvm.MethodName)) ∈ lw_tbl := lw_mem3 25 rfl
theorem kw_506 : (Jvm.Cond.code ({ cls := "EldestSays", name := "gets", desc := "(II)I" } : Jvm.MethodName) prog_1_method_11_code (3 : Nat) (Option.some Jvm.ClassFile.FieldType.int)) ∈ lw_tbl := lw_mem3 26 rfl
theorem kw_507 : (Jvm.Cond.constant "EldestSays" (150 : Nat) (1000000000 : Int32)) ∈ lw_tbl := lw_mem3 27 rfl
theorem kw_508 : (Jvm.Cond.methodLink "EldestSaysLaw" (56 : Nat) ({ cls := "EldestSays", name := "bought", desc := "(I)I" } : Jvm.MethodName)) ∈ lw_tbl := lw_mem3 28 rfl
theorem kw_509 : (Jvm.Cond.instanceMethod ({ cls := "EldestSays", name := "bought", desc := "(I)I" } : Jvm.MethodName)) ∈ lw_tbl := lw_mem3 29 rfl
theorem kw_510 : (Jvm.Cond.selects "EldestSays" ({ cls := "EldestSays", name := "bought", desc := "(I)I" } : Jvm.MethodName) ({ cls := "EldestSays", name := "bought", desc := "(I)I" } : Jvm.MethodName)) ∈ lw_tbl := lw_mem3 30 rfl
theorem kw_511 : (Jvm.Cond.code ({ cls := "EldestSays", name := "bought", desc := "(I)I" } : Jvm.MethodName) prog_1_method_12_code (2 : Nat) (Option.some Jvm.ClassFile.FieldType.int)) ∈ lw_tbl := lw_mem3 31 rfl
theorem kw_512 : (Jvm.Cond.methodLink "EldestSaysLaw" (60 : Nat) ({ cls := "EldestSays", name := "row", desc := "(I)I" } : Jvm.MethodName)) ∈ lw_tbl := lw_mem3 32 rfl
theorem kw_513 : (Jvm.Cond.instanceMethod ({ cls := "EldestSays", name := "row", desc := "(I)I" } : Jvm.MethodName)) ∈ lw_tbl := lw_mem3 33 rfl
theorem kw_514 : (Jvm.Cond.selects "EldestSays" ({ cls := "EldestSays", name := "row", desc := "(I)I" } : Jvm.MethodName) ({ cls := "EldestSays", name := "row", desc := "(I)I" } : Jvm.MethodName)) ∈ lw_tbl := lw_mem3 34 rfl
theorem kw_515 : (Jvm.Cond.code ({ cls := "EldestSays", name := "row", desc := "(I)I" } : Jvm.MethodName) prog_1_method_13_code (2 : Nat) (Option.some Jvm.ClassFile.FieldType.int)) ∈ lw_tbl := lw_mem3 35 rfl
theorem kw_516 : (Jvm.Cond.methodLink "EldestSaysLaw" (64 : Nat) ({ cls := "EldestSays", name := "judge", desc := "(I)I" } : Jvm.MethodName)) ∈ lw_tbl := lw_mem3 36 rfl
theorem kw_517 : (Jvm.Cond.instanceMethod ({ cls := "EldestSays", name := "judge", desc := "(I)I" } : Jvm.MethodName)) ∈ lw_tbl := lw_mem3 37 rfl
theorem kw_518 : (Jvm.Cond.selects "EldestSays" ({ cls := "EldestSays", name := "judge", desc := "(I)I" } : Jvm.MethodName) ({ cls := "EldestSays", name := "judge", desc := "(I)I" } : Jvm.MethodName)) ∈ lw_tbl := lw_mem3 38 rfl
theorem kw_519 : (Jvm.Cond.code ({ cls := "EldestSays", name := "judge", desc := "(I)I" } : Jvm.MethodName) prog_1_method_14_code (2 : Nat) (Option.some Jvm.ClassFile.FieldType.int)) ∈ lw_tbl := lw_mem3 39 rfl
theorem kw_520 : (Jvm.Cond.methodLink "EldestSays" (161 : Nat) ({ cls := "EldestSays$Evening", name := "isOver", desc := "()Z" } : Jvm.MethodName)) ∈ lw_tbl := lw_mem3 40 rfl
theorem kw_521 : (Jvm.Cond.instanceMethod ({ cls := "EldestSays$Evening", name := "isOver", desc := "()Z" } : Jvm.MethodName)) ∈ lw_tbl := lw_mem3 41 rfl
theorem kw_522 : (Jvm.Cond.selects "EldestSays$Evening" ({ cls := "EldestSays$Evening", name := "isOver", desc := "()Z" } : Jvm.MethodName) ({ cls := "EldestSays$Evening", name := "isOver", desc := "()Z" } : Jvm.MethodName)) ∈ lw_tbl := lw_mem3 42 rfl
theorem kw_523 : (Jvm.Cond.code ({ cls := "EldestSays$Evening", name := "isOver", desc := "()Z" } : Jvm.MethodName) prog_6_method_4_code (1 : Nat) (Option.some Jvm.ClassFile.FieldType.boolean)) ∈ lw_tbl := lw_mem3 43 rfl
theorem kw_524 : (Jvm.Cond.methodLink "EldestSays" (164 : Nat) ({ cls := "EldestSays", name := "isRowRight", desc := "()Z" } : Jvm.MethodName)) ∈ lw_tbl := lw_mem3 44 rfl
theorem kw_525 : (Jvm.Cond.privateMethod ({ cls := "EldestSays", name := "isRowRight", desc := "()Z" } : Jvm.MethodName)) ∈ lw_tbl := lw_mem3 45 rfl
theorem kw_526 : (Jvm.Cond.instanceMethod ({ cls := "EldestSays", name := "isRowRight", desc := "()Z" } : Jvm.MethodName)) ∈ lw_tbl := lw_mem3 46 rfl
theorem kw_527 : (Jvm.Cond.code ({ cls := "EldestSays", name := "isRowRight", desc := "()Z" } : Jvm.MethodName) prog_1_method_34_code (3 : Nat) (Option.some Jvm.ClassFile.FieldType.boolean)) ∈ lw_tbl := lw_mem3 47 rfl
theorem kw_528 : (Jvm.Cond.methodLink "EldestSays" (167 : Nat) ({ cls := "EldestSays", name := "firstOddVote", desc := "(I)I" } : Jvm.MethodName)) ∈ lw_tbl := lw_mem3 48 rfl
theorem kw_529 : (Jvm.Cond.privateMethod ({ cls := "EldestSays", name := "firstOddVote", desc := "(I)I" } : Jvm.MethodName)) ∈ lw_tbl := lw_mem3 49 rfl
theorem kw_530 : (Jvm.Cond.instanceMethod ({ cls := "EldestSays", name := "firstOddVote", desc := "(I)I" } : Jvm.MethodName)) ∈ lw_tbl := lw_mem3 50 rfl
theorem kw_531 : (Jvm.Cond.code ({ cls := "EldestSays", name := "firstOddVote", desc := "(I)I" } : Jvm.MethodName) prog_1_method_35_code (7 : Nat) (Option.some Jvm.ClassFile.FieldType.int)) ∈ lw_tbl := lw_mem3 51 rfl
theorem kw_532 : (Jvm.Cond.methodLink "EldestSaysLaw" (68 : Nat) ({ cls := "EldestSays", name := "goes", desc := "(I)I" } : Jvm.MethodName)) ∈ lw_tbl := lw_mem3 52 rfl
theorem kw_533 : (Jvm.Cond.instanceMethod ({ cls := "EldestSays", name := "goes", desc := "(I)I" } : Jvm.MethodName)) ∈ lw_tbl := lw_mem3 53 rfl
theorem kw_534 : (Jvm.Cond.selects "EldestSays" ({ cls := "EldestSays", name := "goes", desc := "(I)I" } : Jvm.MethodName) ({ cls := "EldestSays", name := "goes", desc := "(I)I" } : Jvm.MethodName)) ∈ lw_tbl := lw_mem3 54 rfl
theorem kw_535 : (Jvm.Cond.code ({ cls := "EldestSays", name := "goes", desc := "(I)I" } : Jvm.MethodName) prog_1_method_15_code (3 : Nat) (Option.some Jvm.ClassFile.FieldType.int)) ∈ lw_tbl := lw_mem3 55 rfl
theorem kw_536 : (Jvm.Cond.methodLink "EldestSays" (173 : Nat) ({ cls := "EldestSays$Evening", name := "decide", desc := "(I[II)I" } : Jvm.MethodName)) ∈ lw_tbl := lw_mem3 56 rfl
theorem kw_537 : (Jvm.Cond.instanceMethod ({ cls := "EldestSays$Evening", name := "decide", desc := "(I[II)I" } : Jvm.MethodName)) ∈ lw_tbl := lw_mem3 57 rfl
theorem kw_538 : (Jvm.Cond.selects "EldestSays$Evening" ({ cls := "EldestSays$Evening", name := "decide", desc := "(I[II)I" } : Jvm.MethodName) ({ cls := "EldestSays$Evening", name := "decide", desc := "(I[II)I" } : Jvm.MethodName)) ∈ lw_tbl := lw_mem3 58 rfl
theorem kw_539 : (Jvm.Cond.code ({ cls := "EldestSays$Evening", name := "decide", desc := "(I[II)I" } : Jvm.MethodName) prog_6_method_9_code (5 : Nat) (Option.some Jvm.ClassFile.FieldType.int)) ∈ lw_tbl := lw_mem3 59 rfl
theorem kw_540 : (Jvm.Cond.methodLink "EldestSays$Evening" (65 : Nat) ({ cls := "EldestSays$Evening", name := "isCarried", desc := "(II)Z" } : Jvm.MethodName)) ∈ lw_tbl := lw_mem3 60 rfl
theorem kw_541 : (Jvm.Cond.methodLink "EldestSays$Evening" (69 : Nat) ({ cls := "EldestSays$Evening", name := "part", desc := "([II)V" } : Jvm.MethodName)) ∈ lw_tbl := lw_mem3 61 rfl
theorem kw_542 : (Jvm.Cond.privateMethod ({ cls := "EldestSays$Evening", name := "part", desc := "([II)V" } : Jvm.MethodName)) ∈ lw_tbl := lw_mem3 62 rfl
theorem kw_543 : (Jvm.Cond.instanceMethod ({ cls := "EldestSays$Evening", name := "part", desc := "([II)V" } : Jvm.MethodName)) ∈ lw_tbl := lw_mem3 63 rfl
theorem kw_544 : (Jvm.Cond.code ({ cls := "EldestSays$Evening", name := "part", desc := "([II)V" } : Jvm.MethodName) prog_6_method_10_code (5 : Nat) (Option.none : Option Jvm.ClassFile.FieldType)) ∈ lw_tbl := lw_mem3 64 rfl
theorem kw_545 : (Jvm.Cond.methodLink "EldestSays$Evening" (73 : Nat) ({ cls := "EldestSays$Evening", name := "putAshore", desc := "()V" } : Jvm.MethodName)) ∈ lw_tbl := lw_mem3 65 rfl
theorem kw_546 : (Jvm.Cond.privateMethod ({ cls := "EldestSays$Evening", name := "putAshore", desc := "()V" } : Jvm.MethodName)) ∈ lw_tbl := lw_mem3 66 rfl
theorem kw_547 : (Jvm.Cond.instanceMethod ({ cls := "EldestSays$Evening", name := "putAshore", desc := "()V" } : Jvm.MethodName)) ∈ lw_tbl := lw_mem3 67 rfl
theorem kw_548 : (Jvm.Cond.code ({ cls := "EldestSays$Evening", name := "putAshore", desc := "()V" } : Jvm.MethodName) prog_6_method_11_code (1 : Nat) (Option.none : Option Jvm.ClassFile.FieldType)) ∈ lw_tbl := lw_mem3 68 rfl
theorem kw_549 : (Jvm.Cond.methodLink "EldestSaysLaw" (72 : Nat) ({ cls := "EldestSays", name := "says", desc := "()I" } : Jvm.MethodName)) ∈ lw_tbl := lw_mem3 69 rfl
theorem kw_550 : (Jvm.Cond.instanceMethod ({ cls := "EldestSays", name := "says", desc := "()I" } : Jvm.MethodName)) ∈ lw_tbl := lw_mem3 70 rfl
theorem kw_551 : (Jvm.Cond.selects "EldestSays" ({ cls := "EldestSays", name := "says", desc := "()I" } : Jvm.MethodName) ({ cls := "EldestSays", name := "says", desc := "()I" } : Jvm.MethodName)) ∈ lw_tbl := lw_mem3 71 rfl
theorem kw_552 : (Jvm.Cond.code ({ cls := "EldestSays", name := "says", desc := "()I" } : Jvm.MethodName) prog_1_method_16_code (2 : Nat) (Option.some Jvm.ClassFile.FieldType.int)) ∈ lw_tbl := lw_mem3 72 rfl
theorem kw_553 : (Jvm.Cond.methodLink "EldestSaysLaw" (76 : Nat) ({ cls := "EldestSays", name := "got", desc := "(I)I" } : Jvm.MethodName)) ∈ lw_tbl := lw_mem3 73 rfl
theorem kw_554 : (Jvm.Cond.instanceMethod ({ cls := "EldestSays", name := "got", desc := "(I)I" } : Jvm.MethodName)) ∈ lw_tbl := lw_mem3 74 rfl
theorem kw_555 : (Jvm.Cond.selects "EldestSays" ({ cls := "EldestSays", name := "got", desc := "(I)I" } : Jvm.MethodName) ({ cls := "EldestSays", name := "got", desc := "(I)I" } : Jvm.MethodName)) ∈ lw_tbl := lw_mem3 75 rfl
theorem kw_556 : (Jvm.Cond.code ({ cls := "EldestSays", name := "got", desc := "(I)I" } : Jvm.MethodName) prog_1_method_17_code (2 : Nat) (Option.some Jvm.ClassFile.FieldType.int)) ∈ lw_tbl := lw_mem3 76 rfl
theorem kw_557 : (Jvm.Cond.methodLink "EldestSaysLaw" (80 : Nat) ({ cls := "EldestSays", name := "alike", desc := "(IIIZ)I" } : Jvm.MethodName)) ∈ lw_tbl := lw_mem3 77 rfl
theorem kw_558 : (Jvm.Cond.instanceMethod ({ cls := "EldestSays", name := "alike", desc := "(IIIZ)I" } : Jvm.MethodName)) ∈ lw_tbl := lw_mem3 78 rfl
theorem kw_559 : (Jvm.Cond.selects "EldestSays" ({ cls := "EldestSays", name := "alike", desc := "(IIIZ)I" } : Jvm.MethodName) ({ cls := "EldestSays", name := "alike", desc := "(IIIZ)I" } : Jvm.MethodName)) ∈ lw_tbl := lw_mem3 79 rfl
theorem kw_560 : (Jvm.Cond.code ({ cls := "EldestSays", name := "alike", desc := "(IIIZ)I" } : Jvm.MethodName) prog_1_method_18_code (5 : Nat) (Option.some Jvm.ClassFile.FieldType.int)) ∈ lw_tbl := lw_mem3 80 rfl
theorem kw_561 : (Jvm.Cond.methodLink "EldestSays" (180 : Nat) ({ cls := "EldestSays$Crowd", name := "solve", desc := "(II[I)V" } : Jvm.MethodName)) ∈ lw_tbl := lw_mem3 81 rfl
theorem kw_562 : (Jvm.Cond.instanceMethod ({ cls := "EldestSays$Crowd", name := "solve", desc := "(II[I)V" } : Jvm.MethodName)) ∈ lw_tbl := lw_mem3 82 rfl
theorem kw_563 : (Jvm.Cond.selects "EldestSays$Crowd" ({ cls := "EldestSays$Crowd", name := "solve", desc := "(II[I)V" } : Jvm.MethodName) ({ cls := "EldestSays$Crowd", name := "solve", desc := "(II[I)V" } : Jvm.MethodName)) ∈ lw_tbl := lw_mem3 83 rfl
theorem kw_564 : (Jvm.Cond.code ({ cls := "EldestSays$Crowd", name := "solve", desc := "(II[I)V" } : Jvm.MethodName) prog_4_method_2_code (8 : Nat) (Option.none : Option Jvm.ClassFile.FieldType)) ∈ lw_tbl := lw_mem3 84 rfl
theorem kw_565 : (Jvm.Cond.methodLink "EldestSays$Crowd" (25 : Nat) ({ cls := "java/lang/Math", name := "min", desc := "(II)I" } : Jvm.MethodName)) ∈ lw_tbl := lw_mem3 85 rfl
theorem kw_566 : (Jvm.Cond.static ({ cls := "java/lang/Math", name := "min", desc := "(II)I" } : Jvm.MethodName)) ∈ lw_tbl := lw_mem3 86 rfl
theorem kw_567 : (Jvm.Cond.code ({ cls := "java/lang/Math", name := "min", desc := "(II)I" } : Jvm.MethodName) prog_16_method_69_code (2 : Nat) (Option.some Jvm.ClassFile.FieldType.int)) ∈ lw_tbl := lw_mem3 87 rfl
theorem kw_568 : (Jvm.Cond.methodLink "EldestSays$Crowd" (38 : Nat) ({ cls := "EldestSays$Crowd", name := "askYounger", desc := "(II)I" } : Jvm.MethodName)) ∈ lw_tbl := lw_mem3 88 rfl
theorem kw_569 : (Jvm.Cond.privateMethod ({ cls := "EldestSays$Crowd", name := "askYounger", desc := "(II)I" } : Jvm.MethodName)) ∈ lw_tbl := lw_mem3 89 rfl
theorem kw_570 : (Jvm.Cond.instanceMethod ({ cls := "EldestSays$Crowd", name := "askYounger", desc := "(II)I" } : Jvm.MethodName)) ∈ lw_tbl := lw_mem3 90 rfl
theorem kw_571 : (Jvm.Cond.code ({ cls := "EldestSays$Crowd", name := "askYounger", desc := "(II)I" } : Jvm.MethodName) prog_4_method_3_code (5 : Nat) (Option.some Jvm.ClassFile.FieldType.int)) ∈ lw_tbl := lw_mem3 91 rfl
theorem kw_572 : (Jvm.Cond.methodLink "EldestSays$Crowd" (54 : Nat) ({ cls := "EldestSays$Clever", name := "ask", desc := "(III)I" } : Jvm.MethodName)) ∈ lw_tbl := lw_mem3 92 rfl
theorem kw_573 : (Jvm.Cond.methodLink "EldestSays$Crowd" (41 : Nat) ({ cls := "EldestSays$Crowd", name := "votesLacking", desc := "(III)I" } : Jvm.MethodName)) ∈ lw_tbl := lw_mem3 93 rfl
theorem kw_574 : (Jvm.Cond.static ({ cls := "EldestSays$Crowd", name := "votesLacking", desc := "(III)I" } : Jvm.MethodName)) ∈ lw_tbl := lw_mem3 94 rfl
theorem kw_575 : (Jvm.Cond.code ({ cls := "EldestSays$Crowd", name := "votesLacking", desc := "(III)I" } : Jvm.MethodName) prog_4_method_4_code (4 : Nat) (Option.some Jvm.ClassFile.FieldType.int)) ∈ lw_tbl := lw_mem3 95 rfl
theorem kw_576 : (Jvm.Cond.methodLinkNest "EldestSays$Crowd" (59 : Nat) ({ cls := "EldestSays", name := "isEnough", desc := "(III)Z" } : Jvm.MethodName) "EldestSays") ∈ lw_tbl := lw_mem3 96 rfl
theorem kw_577 : (Jvm.Cond.methodLink "EldestSays$Crowd" (45 : Nat) ({ cls := "EldestSays$Crowd", name := "buyYounger", desc := "(III)I" } : Jvm.MethodName)) ∈ lw_tbl := lw_mem3 97 rfl
theorem kw_578 : (Jvm.Cond.privateMethod ({ cls := "EldestSays$Crowd", name := "buyYounger", desc := "(III)I" } : Jvm.MethodName)) ∈ lw_tbl := lw_mem3 98 rfl
theorem kw_579 : (Jvm.Cond.instanceMethod ({ cls := "EldestSays$Crowd", name := "buyYounger", desc := "(III)I" } : Jvm.MethodName)) ∈ lw_tbl := lw_mem3 99 rfl
theorem kw_580 : (Jvm.Cond.code ({ cls := "EldestSays$Crowd", name := "buyYounger", desc := "(III)I" } : Jvm.MethodName) prog_4_method_5_code (9 : Nat) (Option.some Jvm.ClassFile.FieldType.int)) ∈ lw_tbl := lw_mem3 100 rfl
theorem kw_581 : (Jvm.Cond.methodLink "EldestSays$Crowd" (63 : Nat) ({ cls := "java/util/Arrays", name := "fill", desc := "([II)V" } : Jvm.MethodName)) ∈ lw_tbl := lw_mem3 101 rfl
theorem kw_582 : (Jvm.Cond.methodLink "EldestSays$Crowd" (69 : Nat) ({ cls := "EldestSays$Crowd", name := "nextLevel", desc := "(II)I" } : Jvm.MethodName)) ∈ lw_tbl := lw_mem3 102 rfl
theorem kw_583 : (Jvm.Cond.privateMethod ({ cls := "EldestSays$Crowd", name := "nextLevel", desc := "(II)I" } : Jvm.MethodName)) ∈ lw_tbl := lw_mem3 103 rfl
theorem kw_584 : (Jvm.Cond.instanceMethod ({ cls := "EldestSays$Crowd", name := "nextLevel", desc := "(II)I" } : Jvm.MethodName)) ∈ lw_tbl := lw_mem3 104 rfl
theorem kw_585 : (Jvm.Cond.code ({ cls := "EldestSays$Crowd", name := "nextLevel", desc := "(II)I" } : Jvm.MethodName) prog_4_method_6_code (5 : Nat) (Option.some Jvm.ClassFile.FieldType.int)) ∈ lw_tbl := lw_mem3 105 rfl
theorem kw_586 : (Jvm.Cond.methodLink "EldestSays$Crowd" (72 : Nat) ({ cls := "EldestSays$Crowd", name := "buyAtLevel", desc := "(IIII)I" } : Jvm.MethodName)) ∈ lw_tbl := lw_mem3 106 rfl
theorem kw_587 : (Jvm.Cond.privateMethod ({ cls := "EldestSays$Crowd", name := "buyAtLevel", desc := "(IIII)I" } : Jvm.MethodName)) ∈ lw_tbl := lw_mem3 107 rfl
theorem kw_588 : (Jvm.Cond.instanceMethod ({ cls := "EldestSays$Crowd", name := "buyAtLevel", desc := "(IIII)I" } : Jvm.MethodName)) ∈ lw_tbl := lw_mem3 108 rfl
theorem kw_589 : (Jvm.Cond.code ({ cls := "EldestSays$Crowd", name := "buyAtLevel", desc := "(IIII)I" } : Jvm.MethodName) prog_4_method_7_code (9 : Nat) (Option.some Jvm.ClassFile.FieldType.int)) ∈ lw_tbl := lw_mem3 109 rfl
theorem kw_590 : (Jvm.Cond.methodLink "EldestSays$Crowd" (48 : Nat) ({ cls := "java/lang/System", name := "arraycopy", desc := "(Ljava/lang/Object;ILjava/lang/Object;II)V" } : Jvm.MethodName)) ∈ lw_tbl := lw_mem3 110 rfl
theorem kw_591 : (Jvm.Cond.methodLink "EldestSaysLaw" (85 : Nat) ({ cls := "EldestSays", name := "fewest", desc := "()I" } : Jvm.MethodName)) ∈ lw_tbl := lw_mem3 111 rfl
theorem kw_592 : (Jvm.Cond.instanceMethod ({ cls := "EldestSays", name := "fewest", desc := "()I" } : Jvm.MethodName)) ∈ lw_tbl := lw_mem3 112 rfl
theorem kw_593 : (Jvm.Cond.selects "EldestSays" ({ cls := "EldestSays", name := "fewest", desc := "()I" } : Jvm.MethodName) ({ cls := "EldestSays", name := "fewest", desc := "()I" } : Jvm.MethodName)) ∈ lw_tbl := lw_mem3 113 rfl
theorem kw_594 : (Jvm.Cond.code ({ cls := "EldestSays", name := "fewest", desc := "()I" } : Jvm.MethodName) prog_1_method_19_code (2 : Nat) (Option.some Jvm.ClassFile.FieldType.int)) ∈ lw_tbl := lw_mem3 114 rfl
