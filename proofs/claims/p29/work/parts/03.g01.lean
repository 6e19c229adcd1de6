section
/-! 03.words01 -/
theorem kw_295 : (Jvm.Cond.instanceMethod ({ cls := "EldestSays$Letters", name := "brokenAt", desc := "()I" } : Jvm.MethodName)) ∈ lw_tbl := lw_mem2 55 rfl
theorem kw_296 : (Jvm.Cond.code ({ cls := "EldestSays$Letters", name := "brokenAt", desc := "()I" } : Jvm.MethodName) prog_9_method_7_code (6 : Nat) (Option.some Jvm.ClassFile.FieldType.int)) ∈ lw_tbl := lw_mem2 56 rfl
theorem kw_297 : (Jvm.Cond.methodLink "EldestSays$Letters" (31 : Nat) ({ cls := "EldestSays$Letters", name := "digitsOf", desc := "(C)I" } : Jvm.MethodName)) ∈ lw_tbl := lw_mem2 57 rfl
theorem kw_298 : (Jvm.Cond.static ({ cls := "EldestSays$Letters", name := "digitsOf", desc := "(C)I" } : Jvm.MethodName)) ∈ lw_tbl := lw_mem2 58 rfl
theorem kw_299 : (Jvm.Cond.code ({ cls := "EldestSays$Letters", name := "digitsOf", desc := "(C)I" } : Jvm.MethodName) prog_9_method_8_code (1 : Nat) (Option.some Jvm.ClassFile.FieldType.int)) ∈ lw_tbl := lw_mem2 59 rfl
theorem kw_300 : (Jvm.Cond.methodLink "EldestSays$Letters" (35 : Nat) ({ cls := "EldestSays$Letters", name := "isDigit", desc := "(C)Z" } : Jvm.MethodName)) ∈ lw_tbl := lw_mem2 60 rfl
theorem kw_301 : (Jvm.Cond.static ({ cls := "EldestSays$Letters", name := "isDigit", desc := "(C)Z" } : Jvm.MethodName)) ∈ lw_tbl := lw_mem2 61 rfl
theorem kw_302 : (Jvm.Cond.code ({ cls := "EldestSays$Letters", name := "isDigit", desc := "(C)Z" } : Jvm.MethodName) prog_9_method_9_code (1 : Nat) (Option.some Jvm.ClassFile.FieldType.boolean)) ∈ lw_tbl := lw_mem2 62 rfl
theorem kw_303 : (Jvm.Cond.methodLink "EldestSays$Letters" (23 : Nat) ({ cls := "EldestSays$Letters", name := "wrongAt", desc := "(LEldestSays$Evening;)I" } : Jvm.MethodName)) ∈ lw_tbl := lw_mem2 63 rfl
theorem kw_304 : (Jvm.Cond.privateMethod ({ cls := "EldestSays$Letters", name := "wrongAt", desc := "(LEldestSays$Evening;)I" } : Jvm.MethodName)) ∈ lw_tbl := lw_mem2 64 rfl
theorem kw_305 : (Jvm.Cond.instanceMethod ({ cls := "EldestSays$Letters", name := "wrongAt", desc := "(LEldestSays$Evening;)I" } : Jvm.MethodName)) ∈ lw_tbl := lw_mem2 65 rfl
theorem kw_306 : (Jvm.Cond.code ({ cls := "EldestSays$Letters", name := "wrongAt", desc := "(LEldestSays$Evening;)I" } : Jvm.MethodName) prog_9_method_10_code (5 : Nat) (Option.some Jvm.ClassFile.FieldType.int)) ∈ lw_tbl := lw_mem2 66 rfl
theorem kw_307 : (Jvm.Cond.methodLink "EldestSays$Letters" (46 : Nat) ({ cls := "EldestSays$Letters", name := "isRight", desc := "(IIZ)Z" } : Jvm.MethodName)) ∈ lw_tbl := lw_mem2 67 rfl
theorem kw_308 : (Jvm.Cond.privateMethod ({ cls := "EldestSays$Letters", name := "isRight", desc := "(IIZ)Z" } : Jvm.MethodName)) ∈ lw_tbl := lw_mem2 68 rfl
theorem kw_309 : (Jvm.Cond.instanceMethod ({ cls := "EldestSays$Letters", name := "isRight", desc := "(IIZ)Z" } : Jvm.MethodName)) ∈ lw_tbl := lw_mem2 69 rfl
theorem kw_310 : (Jvm.Cond.code ({ cls := "EldestSays$Letters", name := "isRight", desc := "(IIZ)Z" } : Jvm.MethodName) prog_9_method_11_code (7 : Nat) (Option.some Jvm.ClassFile.FieldType.boolean)) ∈ lw_tbl := lw_mem2 70 rfl
theorem kw_311 : (Jvm.Cond.methodLink "EldestSays$Letters" (50 : Nat) ({ cls := "EldestSays$Letters", name := "digit", desc := "(I)I" } : Jvm.MethodName)) ∈ lw_tbl := lw_mem2 71 rfl
theorem kw_312 : (Jvm.Cond.privateMethod ({ cls := "EldestSays$Letters", name := "digit", desc := "(I)I" } : Jvm.MethodName)) ∈ lw_tbl := lw_mem2 72 rfl
theorem kw_313 : (Jvm.Cond.instanceMethod ({ cls := "EldestSays$Letters", name := "digit", desc := "(I)I" } : Jvm.MethodName)) ∈ lw_tbl := lw_mem2 73 rfl
theorem kw_314 : (Jvm.Cond.code ({ cls := "EldestSays$Letters", name := "digit", desc := "(I)I" } : Jvm.MethodName) prog_9_method_13_code (2 : Nat) (Option.some Jvm.ClassFile.FieldType.int)) ∈ lw_tbl := lw_mem2 74 rfl
theorem kw_315 : (Jvm.Cond.fieldLinkNest "EldestSays$Letters" (54 : Nat) "EldestSays" "GREATEST" "[I" "EldestSays") ∈ lw_tbl := lw_mem2 75 rfl
theorem kw_316 : (Jvm.Cond.laysStatic "EldestSays" "GREATEST" "[I") ∈ lw_tbl := lw_mem2 76 rfl
theorem kw_317 : (Jvm.Cond.methodLink "EldestSays" (108 : Nat) ({ cls := "EldestSays$Letters", name := "tell", desc := "(LEldestSays$Evening;)I" } : Jvm.MethodName)) ∈ lw_tbl := lw_mem2 77 rfl
theorem kw_318 : (Jvm.Cond.instanceMethod ({ cls := "EldestSays$Letters", name := "tell", desc := "(LEldestSays$Evening;)I" } : Jvm.MethodName)) ∈ lw_tbl := lw_mem2 78 rfl
theorem kw_319 : (Jvm.Cond.selects "EldestSays$Letters" ({ cls := "EldestSays$Letters", name := "tell", desc := "(LEldestSays$Evening;)I" } : Jvm.MethodName) ({ cls := "EldestSays$Letters", name := "tell", desc := "(LEldestSays$Evening;)I" } : Jvm.MethodName)) ∈ lw_tbl := lw_mem2 79 rfl
theorem kw_320 : (Jvm.Cond.code ({ cls := "EldestSays$Letters", name := "tell", desc := "(LEldestSays$Evening;)I" } : Jvm.MethodName) prog_9_method_6_code (5 : Nat) (Option.some Jvm.ClassFile.FieldType.int)) ∈ lw_tbl := lw_mem2 80 rfl
theorem kw_321 : (Jvm.Cond.methodLink "EldestSays$Letters" (27 : Nat) ({ cls := "EldestSays$Letters", name := "tellOne", desc := "(LEldestSays$Evening;II)V" } : Jvm.MethodName)) ∈ lw_tbl := lw_mem2 81 rfl
theorem kw_322 : (Jvm.Cond.privateMethod ({ cls := "EldestSays$Letters", name := "tellOne", desc := "(LEldestSays$Evening;II)V" } : Jvm.MethodName)) ∈ lw_tbl := lw_mem2 82 rfl
theorem kw_323 : (Jvm.Cond.instanceMethod ({ cls := "EldestSays$Letters", name := "tellOne", desc := "(LEldestSays$Evening;II)V" } : Jvm.MethodName)) ∈ lw_tbl := lw_mem2 83 rfl
theorem kw_324 : (Jvm.Cond.code ({ cls := "EldestSays$Letters", name := "tellOne", desc := "(LEldestSays$Evening;II)V" } : Jvm.MethodName) prog_9_method_12_code (7 : Nat) (Option.none : Option Jvm.ClassFile.FieldType)) ∈ lw_tbl := lw_mem2 84 rfl
theorem kw_325 : (Jvm.Cond.methodLink "EldestSays$Letters" (58 : Nat) ({ cls := "EldestSays$Evening", name := "add", desc := "(III)V" } : Jvm.MethodName)) ∈ lw_tbl := lw_mem2 85 rfl
theorem kw_326 : (Jvm.Cond.instanceMethod ({ cls := "EldestSays$Evening", name := "add", desc := "(III)V" } : Jvm.MethodName)) ∈ lw_tbl := lw_mem2 86 rfl
theorem kw_327 : (Jvm.Cond.selects "EldestSays$Evening" ({ cls := "EldestSays$Evening", name := "add", desc := "(III)V" } : Jvm.MethodName) ({ cls := "EldestSays$Evening", name := "add", desc := "(III)V" } : Jvm.MethodName)) ∈ lw_tbl := lw_mem2 87 rfl
theorem kw_328 : (Jvm.Cond.code ({ cls := "EldestSays$Evening", name := "add", desc := "(III)V" } : Jvm.MethodName) prog_6_method_5_code (4 : Nat) (Option.none : Option Jvm.ClassFile.FieldType)) ∈ lw_tbl := lw_mem2 88 rfl
theorem kw_329 : (Jvm.Cond.methodLink "EldestSays" (111 : Nat) ({ cls := "EldestSays$Letters", name := "forget", desc := "()V" } : Jvm.MethodName)) ∈ lw_tbl := lw_mem2 89 rfl
theorem kw_330 : (Jvm.Cond.instanceMethod ({ cls := "EldestSays$Letters", name := "forget", desc := "()V" } : Jvm.MethodName)) ∈ lw_tbl := lw_mem2 90 rfl
theorem kw_331 : (Jvm.Cond.selects "EldestSays$Letters" ({ cls := "EldestSays$Letters", name := "forget", desc := "()V" } : Jvm.MethodName) ({ cls := "EldestSays$Letters", name := "forget", desc := "()V" } : Jvm.MethodName)) ∈ lw_tbl := lw_mem2 91 rfl
theorem kw_332 : (Jvm.Cond.code ({ cls := "EldestSays$Letters", name := "forget", desc := "()V" } : Jvm.MethodName) prog_9_method_4_code (1 : Nat) (Option.none : Option Jvm.ClassFile.FieldType)) ∈ lw_tbl := lw_mem2 92 rfl
theorem kw_333 : (Jvm.Cond.methodLink "EldestSaysLaw" (23 : Nat) ({ cls := "EldestSays", name := "man", desc := "(II)I" } : Jvm.MethodName)) ∈ lw_tbl := lw_mem2 93 rfl
theorem kw_334 : (Jvm.Cond.instanceMethod ({ cls := "EldestSays", name := "man", desc := "(II)I" } : Jvm.MethodName)) ∈ lw_tbl := lw_mem2 94 rfl
theorem kw_335 : (Jvm.Cond.selects "EldestSays" ({ cls := "EldestSays", name := "man", desc := "(II)I" } : Jvm.MethodName) ({ cls := "EldestSays", name := "man", desc := "(II)I" } : Jvm.MethodName)) ∈ lw_tbl := lw_mem2 95 rfl
theorem kw_336 : (Jvm.Cond.code ({ cls := "EldestSays", name := "man", desc := "(II)I" } : Jvm.MethodName) prog_1_method_4_code (3 : Nat) (Option.some Jvm.ClassFile.FieldType.int)) ∈ lw_tbl := lw_mem2 96 rfl
theorem kw_337 : (Jvm.Cond.methodLink "EldestSays" (114 : Nat) ({ cls := "EldestSays$Evening", name := "has", desc := "(I)Z" } : Jvm.MethodName)) ∈ lw_tbl := lw_mem2 97 rfl
theorem kw_338 : (Jvm.Cond.instanceMethod ({ cls := "EldestSays$Evening", name := "has", desc := "(I)Z" } : Jvm.MethodName)) ∈ lw_tbl := lw_mem2 98 rfl
theorem kw_339 : (Jvm.Cond.selects "EldestSays$Evening" ({ cls := "EldestSays$Evening", name := "has", desc := "(I)Z" } : Jvm.MethodName) ({ cls := "EldestSays$Evening", name := "has", desc := "(I)Z" } : Jvm.MethodName)) ∈ lw_tbl := lw_mem2 99 rfl
theorem kw_340 : (Jvm.Cond.code ({ cls := "EldestSays$Evening", name := "has", desc := "(I)Z" } : Jvm.MethodName) prog_6_method_3_code (2 : Nat) (Option.some Jvm.ClassFile.FieldType.boolean)) ∈ lw_tbl := lw_mem2 100 rfl
theorem kw_341 : (Jvm.Cond.methodLink "EldestSaysLaw" (28 : Nat) ({ cls := "EldestSays", name := "set", desc := "(II)I" } : Jvm.MethodName)) ∈ lw_tbl := lw_mem2 101 rfl
theorem kw_342 : (Jvm.Cond.instanceMethod ({ cls := "EldestSays", name := "set", desc := "(II)I" } : Jvm.MethodName)) ∈ lw_tbl := lw_mem2 102 rfl
theorem kw_343 : (Jvm.Cond.selects "EldestSays" ({ cls := "EldestSays", name := "set", desc := "(II)I" } : Jvm.MethodName) ({ cls := "EldestSays", name := "set", desc := "(II)I" } : Jvm.MethodName)) ∈ lw_tbl := lw_mem2 103 rfl
theorem kw_344 : (Jvm.Cond.code ({ cls := "EldestSays", name := "set", desc := "(II)I" } : Jvm.MethodName) prog_1_method_5_code (4 : Nat) (Option.some Jvm.ClassFile.FieldType.int)) ∈ lw_tbl := lw_mem2 104 rfl
theorem kw_345 : (Jvm.Cond.fieldLink "EldestSays" (127 : Nat) "EldestSays" "GREATEST" "[I") ∈ lw_tbl := lw_mem2 105 rfl
theorem kw_346 : (Jvm.Cond.methodLink "EldestSaysLaw" (32 : Nat) ({ cls := "EldestSays", name := "offered", desc := "(II)I" } : Jvm.MethodName)) ∈ lw_tbl := lw_mem2 106 rfl
theorem kw_347 : (Jvm.Cond.instanceMethod ({ cls := "EldestSays", name := "offered", desc := "(II)I" } : Jvm.MethodName)) ∈ lw_tbl := lw_mem2 107 rfl
theorem kw_348 : (Jvm.Cond.selects "EldestSays" ({ cls := "EldestSays", name := "offered", desc := "(II)I" } : Jvm.MethodName) ({ cls := "EldestSays", name := "offered", desc := "(II)I" } : Jvm.MethodName)) ∈ lw_tbl := lw_mem2 108 rfl
theorem kw_349 : (Jvm.Cond.code ({ cls := "EldestSays", name := "offered", desc := "(II)I" } : Jvm.MethodName) prog_1_method_6_code (3 : Nat) (Option.some Jvm.ClassFile.FieldType.int)) ∈ lw_tbl := lw_mem2 109 rfl
theorem kw_350 : (Jvm.Cond.methodLink "EldestSays" (133 : Nat) ({ cls := "EldestSays", name := "solved", desc := "()LEldestSays$Plans;" } : Jvm.MethodName)) ∈ lw_tbl := lw_mem2 110 rfl
theorem kw_351 : (Jvm.Cond.privateMethod ({ cls := "EldestSays", name := "solved", desc := "()LEldestSays$Plans;" } : Jvm.MethodName)) ∈ lw_tbl := lw_mem2 111 rfl
theorem kw_352 : (Jvm.Cond.instanceMethod ({ cls := "EldestSays", name := "solved", desc := "()LEldestSays$Plans;" } : Jvm.MethodName)) ∈ lw_tbl := lw_mem2 112 rfl
theorem kw_353 : (Jvm.Cond.code ({ cls := "EldestSays", name := "solved", desc := "()LEldestSays$Plans;" } : Jvm.MethodName) prog_1_method_33_code (1 : Nat) (Option.some (Jvm.ClassFile.FieldType.object "EldestSays$Plans"))) ∈ lw_tbl := lw_mem2 113 rfl
theorem kw_354 : (Jvm.Cond.methodLink "EldestSays" (190 : Nat) ({ cls := "EldestSays$Plans", name := "solve", desc := "(I)V" } : Jvm.MethodName)) ∈ lw_tbl := lw_mem2 114 rfl
theorem kw_355 : (Jvm.Cond.instanceMethod ({ cls := "EldestSays$Plans", name := "solve", desc := "(I)V" } : Jvm.MethodName)) ∈ lw_tbl := lw_mem2 115 rfl
theorem kw_356 : (Jvm.Cond.selects "EldestSays$Plans" ({ cls := "EldestSays$Plans", name := "solve", desc := "(I)V" } : Jvm.MethodName) ({ cls := "EldestSays$Plans", name := "solve", desc := "(I)V" } : Jvm.MethodName)) ∈ lw_tbl := lw_mem2 116 rfl
theorem kw_357 : (Jvm.Cond.code ({ cls := "EldestSays$Plans", name := "solve", desc := "(I)V" } : Jvm.MethodName) prog_11_method_2_code (3 : Nat) (Option.none : Option Jvm.ClassFile.FieldType)) ∈ lw_tbl := lw_mem2 117 rfl
theorem kw_358 : (Jvm.Cond.methodLink "EldestSays$Plans" (59 : Nat) ({ cls := "EldestSays$Plans", name := "askYounger", desc := "(I)V" } : Jvm.MethodName)) ∈ lw_tbl := lw_mem2 118 rfl
theorem kw_359 : (Jvm.Cond.privateMethod ({ cls := "EldestSays$Plans", name := "askYounger", desc := "(I)V" } : Jvm.MethodName)) ∈ lw_tbl := lw_mem2 119 rfl
theorem kw_360 : (Jvm.Cond.instanceMethod ({ cls := "EldestSays$Plans", name := "askYounger", desc := "(I)V" } : Jvm.MethodName)) ∈ lw_tbl := lw_mem2 120 rfl
theorem kw_361 : (Jvm.Cond.code ({ cls := "EldestSays$Plans", name := "askYounger", desc := "(I)V" } : Jvm.MethodName) prog_11_method_4_code (4 : Nat) (Option.none : Option Jvm.ClassFile.FieldType)) ∈ lw_tbl := lw_mem2 121 rfl
theorem kw_362 : (Jvm.Cond.methodLink "EldestSays$Plans" (66 : Nat) ({ cls := "EldestSays$Plans", name := "kindOf", desc := "(I)LEldestSays$Clever;" } : Jvm.MethodName)) ∈ lw_tbl := lw_mem2 122 rfl
theorem kw_363 : (Jvm.Cond.privateMethod ({ cls := "EldestSays$Plans", name := "kindOf", desc := "(I)LEldestSays$Clever;" } : Jvm.MethodName)) ∈ lw_tbl := lw_mem2 123 rfl
theorem kw_364 : (Jvm.Cond.instanceMethod ({ cls := "EldestSays$Plans", name := "kindOf", desc := "(I)LEldestSays$Clever;" } : Jvm.MethodName)) ∈ lw_tbl := lw_mem2 124 rfl
theorem kw_365 : (Jvm.Cond.code ({ cls := "EldestSays$Plans", name := "kindOf", desc := "(I)LEldestSays$Clever;" } : Jvm.MethodName) prog_11_method_3_code (3 : Nat) (Option.some (Jvm.ClassFile.FieldType.object "EldestSays$Clever"))) ∈ lw_tbl := lw_mem2 125 rfl
theorem kw_366 : (Jvm.Cond.methodLink "EldestSays$Plans" (90 : Nat) ({ cls := "EldestSays$Clever", name := "ask", desc := "(III)I" } : Jvm.MethodName)) ∈ lw_tbl := lw_mem2 126 rfl
theorem kw_367 : (Jvm.Cond.instanceMethod ({ cls := "EldestSays$Clever", name := "ask", desc := "(III)I" } : Jvm.MethodName)) ∈ lw_tbl := lw_mem2 127 rfl
theorem kw_368 : (Jvm.Cond.selects "EldestSays$Clever" ({ cls := "EldestSays$Clever", name := "ask", desc := "(III)I" } : Jvm.MethodName) ({ cls := "EldestSays$Clever", name := "ask", desc := "(III)I" } : Jvm.MethodName)) ∈ lw_tbl := lw_mem2 128 rfl
theorem kw_369 : (Jvm.Cond.sameMethod "EldestSays$Clever" "EldestSays$Clever" "ask" "(III)I") ∈ lw_tbl := lw_mem2 129 rfl
theorem kw_370 : (Jvm.Cond.selects "EldestSays$Company" ({ cls := "EldestSays$Clever", name := "ask", desc := "(III)I" } : Jvm.MethodName) ({ cls := "EldestSays$Company", name := "ask", desc := "(III)I" } : Jvm.MethodName)) ∈ lw_tbl := lw_mem2 130 rfl
theorem kw_371 : (Jvm.Cond.instanceMethod ({ cls := "EldestSays$Company", name := "ask", desc := "(III)I" } : Jvm.MethodName)) ∈ lw_tbl := lw_mem2 131 rfl
theorem kw_372 : (Jvm.Cond.code ({ cls := "EldestSays$Company", name := "ask", desc := "(III)I" } : Jvm.MethodName) prog_3_method_2_code (4 : Nat) (Option.some Jvm.ClassFile.FieldType.int)) ∈ lw_tbl := lw_mem2 132 rfl
theorem kw_373 : (Jvm.Cond.methodLink "EldestSays$Company" (7 : Nat) ({ cls := "java/lang/Math", name := "max", desc := "(II)I" } : Jvm.MethodName)) ∈ lw_tbl := lw_mem2 133 rfl
theorem kw_374 : (Jvm.Cond.static ({ cls := "java/lang/Math", name := "max", desc := "(II)I" } : Jvm.MethodName)) ∈ lw_tbl := lw_mem2 134 rfl
theorem kw_375 : (Jvm.Cond.code ({ cls := "java/lang/Math", name := "max", desc := "(II)I" } : Jvm.MethodName) prog_16_method_65_code (2 : Nat) (Option.some Jvm.ClassFile.FieldType.int)) ∈ lw_tbl := lw_mem2 135 rfl
theorem kw_376 : (Jvm.Cond.selects "EldestSays$Envious" ({ cls := "EldestSays$Clever", name := "ask", desc := "(III)I" } : Jvm.MethodName) ({ cls := "EldestSays$Envious", name := "ask", desc := "(III)I" } : Jvm.MethodName)) ∈ lw_tbl := lw_mem2 136 rfl
theorem kw_377 : (Jvm.Cond.instanceMethod ({ cls := "EldestSays$Envious", name := "ask", desc := "(III)I" } : Jvm.MethodName)) ∈ lw_tbl := lw_mem2 137 rfl
theorem kw_378 : (Jvm.Cond.code ({ cls := "EldestSays$Envious", name := "ask", desc := "(III)I" } : Jvm.MethodName) prog_5_method_2_code (5 : Nat) (Option.some Jvm.ClassFile.FieldType.int)) ∈ lw_tbl := lw_mem2 138 rfl
theorem kw_379 : (Jvm.Cond.methodLink "EldestSays$Envious" (7 : Nat) ({ cls := "EldestSays$Clever", name := "ask", desc := "(III)I" } : Jvm.MethodName)) ∈ lw_tbl := lw_mem2 139 rfl
theorem kw_380 : (Jvm.Cond.selects "EldestSays$Fair" ({ cls := "EldestSays$Clever", name := "ask", desc := "(III)I" } : Jvm.MethodName) ({ cls := "EldestSays$Company", name := "ask", desc := "(III)I" } : Jvm.MethodName)) ∈ lw_tbl := lw_mem2 140 rfl
theorem kw_381 : (Jvm.Cond.selects "EldestSays$Fool" ({ cls := "EldestSays$Clever", name := "ask", desc := "(III)I" } : Jvm.MethodName) ({ cls := "EldestSays$Fool", name := "ask", desc := "(III)I" } : Jvm.MethodName)) ∈ lw_tbl := lw_mem2 141 rfl
theorem kw_382 : (Jvm.Cond.instanceMethod ({ cls := "EldestSays$Fool", name := "ask", desc := "(III)I" } : Jvm.MethodName)) ∈ lw_tbl := lw_mem2 142 rfl
theorem kw_383 : (Jvm.Cond.code ({ cls := "EldestSays$Fool", name := "ask", desc := "(III)I" } : Jvm.MethodName) prog_8_method_2_code (4 : Nat) (Option.some Jvm.ClassFile.FieldType.int)) ∈ lw_tbl := lw_mem2 143 rfl
theorem kw_384 : (Jvm.Cond.selects "EldestSays$Meek" ({ cls := "EldestSays$Clever", name := "ask", desc := "(III)I" } : Jvm.MethodName) ({ cls := "EldestSays$Meek", name := "ask", desc := "(III)I" } : Jvm.MethodName)) ∈ lw_tbl := lw_mem2 144 rfl
theorem kw_385 : (Jvm.Cond.instanceMethod ({ cls := "EldestSays$Meek", name := "ask", desc := "(III)I" } : Jvm.MethodName)) ∈ lw_tbl := lw_mem2 145 rfl
theorem kw_386 : (Jvm.Cond.code ({ cls := "EldestSays$Meek", name := "ask", desc := "(III)I" } : Jvm.MethodName) prog_10_method_2_code (4 : Nat) (Option.some Jvm.ClassFile.FieldType.int)) ∈ lw_tbl := lw_mem2 146 rfl
theorem kw_387 : (Jvm.Cond.methodLink "EldestSays$Meek" (7 : Nat) ({ cls := "EldestSays$Fool", name := "ask", desc := "(III)I" } : Jvm.MethodName)) ∈ lw_tbl := lw_mem2 147 rfl
theorem kw_388 : (Jvm.Cond.selects "EldestSays$Spiteful" ({ cls := "EldestSays$Clever", name := "ask", desc := "(III)I" } : Jvm.MethodName) ({ cls := "EldestSays$Spiteful", name := "ask", desc := "(III)I" } : Jvm.MethodName)) ∈ lw_tbl := lw_mem2 148 rfl
theorem kw_389 : (Jvm.Cond.instanceMethod ({ cls := "EldestSays$Spiteful", name := "ask", desc := "(III)I" } : Jvm.MethodName)) ∈ lw_tbl := lw_mem2 149 rfl
theorem kw_390 : (Jvm.Cond.code ({ cls := "EldestSays$Spiteful", name := "ask", desc := "(III)I" } : Jvm.MethodName) prog_12_method_2_code (4 : Nat) (Option.some Jvm.ClassFile.FieldType.int)) ∈ lw_tbl := lw_mem2 150 rfl
theorem kw_391 : (Jvm.Cond.methodLink "EldestSays$Spiteful" (7 : Nat) ({ cls := "EldestSays$Envious", name := "ask", desc := "(III)I" } : Jvm.MethodName)) ∈ lw_tbl := lw_mem2 151 rfl
theorem kw_392 : (Jvm.Cond.code ({ cls := "EldestSays$Clever", name := "ask", desc := "(III)I" } : Jvm.MethodName) prog_2_method_2_code (5 : Nat) (Option.some Jvm.ClassFile.FieldType.int)) ∈ lw_tbl := lw_mem2 152 rfl
theorem kw_393 : (Jvm.Cond.methodLink "EldestSays$Plans" (63 : Nat) ({ cls := "EldestSays$Plans", name := "keepAll", desc := "(I)V" } : Jvm.MethodName)) ∈ lw_tbl := lw_mem2 153 rfl
theorem kw_394 : (Jvm.Cond.privateMethod ({ cls := "EldestSays$Plans", name := "keepAll", desc := "(I)V" } : Jvm.MethodName)) ∈ lw_tbl := lw_mem2 154 rfl
theorem kw_395 : (Jvm.Cond.instanceMethod ({ cls := "EldestSays$Plans", name := "keepAll", desc := "(I)V" } : Jvm.MethodName)) ∈ lw_tbl := lw_mem2 155 rfl
theorem kw_396 : (Jvm.Cond.code ({ cls := "EldestSays$Plans", name := "keepAll", desc := "(I)V" } : Jvm.MethodName) prog_11_method_5_code (2 : Nat) (Option.none : Option Jvm.ClassFile.FieldType)) ∈ lw_tbl := lw_mem2 156 rfl
theorem kw_397 : (Jvm.Cond.methodLink "EldestSays$Plans" (94 : Nat) ({ cls := "java/util/Arrays", name := "fill", desc := "([II)V" } : Jvm.MethodName)) ∈ lw_tbl := lw_mem2 157 rfl
theorem kw_398 : (Jvm.Cond.static ({ cls := "java/util/Arrays", name := "fill", desc := "([II)V" } : Jvm.MethodName)) ∈ lw_tbl := lw_mem2 158 rfl
theorem kw_399 : (Jvm.Cond.code ({ cls := "java/util/Arrays", name := "fill", desc := "([II)V" } : Jvm.MethodName) prog_18_method_103_code (4 : Nat) (Option.none : Option Jvm.ClassFile.FieldType)) ∈ lw_tbl := lw_mem2 159 rfl
theorem kw_400 : (Jvm.Cond.methodLink "EldestSays$Plans" (70 : Nat) ({ cls := "EldestSays$Clever", name := "tell", desc := "(LEldestSays$Plans;I)V" } : Jvm.MethodName)) ∈ lw_tbl := lw_mem2 160 rfl
theorem kw_401 : (Jvm.Cond.instanceMethod ({ cls := "EldestSays$Clever", name := "tell", desc := "(LEldestSays$Plans;I)V" } : Jvm.MethodName)) ∈ lw_tbl := lw_mem2 161 rfl
theorem kw_402 : (Jvm.Cond.selects "EldestSays$Clever" ({ cls := "EldestSays$Clever", name := "tell", desc := "(LEldestSays$Plans;I)V" } : Jvm.MethodName) ({ cls := "EldestSays$Clever", name := "tell", desc := "(LEldestSays$Plans;I)V" } : Jvm.MethodName)) ∈ lw_tbl := lw_mem2 162 rfl
theorem kw_403 : (Jvm.Cond.sameMethod "EldestSays$Clever" "EldestSays$Clever" "tell" "(LEldestSays$Plans;I)V") ∈ lw_tbl := lw_mem2 163 rfl
theorem kw_404 : (Jvm.Cond.selects "EldestSays$Company" ({ cls := "EldestSays$Clever", name := "tell", desc := "(LEldestSays$Plans;I)V" } : Jvm.MethodName) ({ cls := "EldestSays$Clever", name := "tell", desc := "(LEldestSays$Plans;I)V" } : Jvm.MethodName)) ∈ lw_tbl := lw_mem2 164 rfl
theorem kw_405 : (Jvm.Cond.selects "EldestSays$Envious" ({ cls := "EldestSays$Clever", name := "tell", desc := "(LEldestSays$Plans;I)V" } : Jvm.MethodName) ({ cls := "EldestSays$Clever", name := "tell", desc := "(LEldestSays$Plans;I)V" } : Jvm.MethodName)) ∈ lw_tbl := lw_mem2 165 rfl
theorem kw_406 : (Jvm.Cond.selects "EldestSays$Fair" ({ cls := "EldestSays$Clever", name := "tell", desc := "(LEldestSays$Plans;I)V" } : Jvm.MethodName) ({ cls := "EldestSays$Fair", name := "tell", desc := "(LEldestSays$Plans;I)V" } : Jvm.MethodName)) ∈ lw_tbl := lw_mem2 166 rfl
theorem kw_407 : (Jvm.Cond.instanceMethod ({ cls := "EldestSays$Fair", name := "tell", desc := "(LEldestSays$Plans;I)V" } : Jvm.MethodName)) ∈ lw_tbl := lw_mem2 167 rfl
theorem kw_408 : (Jvm.Cond.code ({ cls := "EldestSays$Fair", name := "tell", desc := "(LEldestSays$Plans;I)V" } : Jvm.MethodName) prog_7_method_2_code (3 : Nat) (Option.none : Option Jvm.ClassFile.FieldType)) ∈ lw_tbl := lw_mem2 168 rfl
theorem kw_409 : (Jvm.Cond.methodLink "EldestSays$Fair" (7 : Nat) ({ cls := "EldestSays$Plans", name := "shareFairly", desc := "(I)V" } : Jvm.MethodName)) ∈ lw_tbl := lw_mem2 169 rfl
theorem kw_410 : (Jvm.Cond.instanceMethod ({ cls := "EldestSays$Plans", name := "shareFairly", desc := "(I)V" } : Jvm.MethodName)) ∈ lw_tbl := lw_mem2 170 rfl
theorem kw_411 : (Jvm.Cond.selects "EldestSays$Plans" ({ cls := "EldestSays$Plans", name := "shareFairly", desc := "(I)V" } : Jvm.MethodName) ({ cls := "EldestSays$Plans", name := "shareFairly", desc := "(I)V" } : Jvm.MethodName)) ∈ lw_tbl := lw_mem2 171 rfl
theorem kw_412 : (Jvm.Cond.code ({ cls := "EldestSays$Plans", name := "shareFairly", desc := "(I)V" } : Jvm.MethodName) prog_11_method_15_code (5 : Nat) (Option.none : Option Jvm.ClassFile.FieldType)) ∈ lw_tbl := lw_mem2 172 rfl
theorem kw_413 : (Jvm.Cond.methodLink "EldestSays$Plans" (144 : Nat) ({ cls := "EldestSays$Plans", name := "give", desc := "(III)V" } : Jvm.MethodName)) ∈ lw_tbl := lw_mem2 173 rfl
theorem kw_414 : (Jvm.Cond.privateMethod ({ cls := "EldestSays$Plans", name := "give", desc := "(III)V" } : Jvm.MethodName)) ∈ lw_tbl := lw_mem2 174 rfl
theorem kw_415 : (Jvm.Cond.instanceMethod ({ cls := "EldestSays$Plans", name := "give", desc := "(III)V" } : Jvm.MethodName)) ∈ lw_tbl := lw_mem2 175 rfl
theorem kw_416 : (Jvm.Cond.code ({ cls := "EldestSays$Plans", name := "give", desc := "(III)V" } : Jvm.MethodName) prog_11_method_19_code (4 : Nat) (Option.none : Option Jvm.ClassFile.FieldType)) ∈ lw_tbl := lw_mem2 176 rfl
theorem kw_417 : (Jvm.Cond.selects "EldestSays$Fool" ({ cls := "EldestSays$Clever", name := "tell", desc := "(LEldestSays$Plans;I)V" } : Jvm.MethodName) ({ cls := "EldestSays$Fool", name := "tell", desc := "(LEldestSays$Plans;I)V" } : Jvm.MethodName)) ∈ lw_tbl := lw_mem2 177 rfl
theorem kw_418 : (Jvm.Cond.instanceMethod ({ cls := "EldestSays$Fool", name := "tell", desc := "(LEldestSays$Plans;I)V" } : Jvm.MethodName)) ∈ lw_tbl := lw_mem2 178 rfl
theorem kw_419 : (Jvm.Cond.code ({ cls := "EldestSays$Fool", name := "tell", desc := "(LEldestSays$Plans;I)V" } : Jvm.MethodName) prog_8_method_3_code (3 : Nat) (Option.none : Option Jvm.ClassFile.FieldType)) ∈ lw_tbl := lw_mem2 179 rfl
theorem kw_420 : (Jvm.Cond.methodLink "EldestSays$Fool" (7 : Nat) ({ cls := "EldestSays$Plans", name := "figureOf", desc := "(I)I" } : Jvm.MethodName)) ∈ lw_tbl := lw_mem2 180 rfl
theorem kw_421 : (Jvm.Cond.instanceMethod ({ cls := "EldestSays$Plans", name := "figureOf", desc := "(I)I" } : Jvm.MethodName)) ∈ lw_tbl := lw_mem2 181 rfl
theorem kw_422 : (Jvm.Cond.selects "EldestSays$Plans" ({ cls := "EldestSays$Plans", name := "figureOf", desc := "(I)I" } : Jvm.MethodName) ({ cls := "EldestSays$Plans", name := "figureOf", desc := "(I)I" } : Jvm.MethodName)) ∈ lw_tbl := lw_mem2 182 rfl
theorem kw_423 : (Jvm.Cond.code ({ cls := "EldestSays$Plans", name := "figureOf", desc := "(I)I" } : Jvm.MethodName) prog_11_method_18_code (2 : Nat) (Option.some Jvm.ClassFile.FieldType.int)) ∈ lw_tbl := lw_mem2 183 rfl
theorem kw_424 : (Jvm.Cond.methodLink "EldestSays$Fool" (13 : Nat) ({ cls := "EldestSays$Plans", name := "spreadFromEldest", desc := "(II)V" } : Jvm.MethodName)) ∈ lw_tbl := lw_mem2 184 rfl
theorem kw_425 : (Jvm.Cond.instanceMethod ({ cls := "EldestSays$Plans", name := "spreadFromEldest", desc := "(II)V" } : Jvm.MethodName)) ∈ lw_tbl := lw_mem2 185 rfl
theorem kw_426 : (Jvm.Cond.selects "EldestSays$Plans" ({ cls := "EldestSays$Plans", name := "spreadFromEldest", desc := "(II)V" } : Jvm.MethodName) ({ cls := "EldestSays$Plans", name := "spreadFromEldest", desc := "(II)V" } : Jvm.MethodName)) ∈ lw_tbl := lw_mem2 186 rfl
theorem kw_427 : (Jvm.Cond.code ({ cls := "EldestSays$Plans", name := "spreadFromEldest", desc := "(II)V" } : Jvm.MethodName) prog_11_method_16_code (4 : Nat) (Option.none : Option Jvm.ClassFile.FieldType)) ∈ lw_tbl := lw_mem2 187 rfl
theorem kw_428 : (Jvm.Cond.selects "EldestSays$Meek" ({ cls := "EldestSays$Clever", name := "tell", desc := "(LEldestSays$Plans;I)V" } : Jvm.MethodName) ({ cls := "EldestSays$Meek", name := "tell", desc := "(LEldestSays$Plans;I)V" } : Jvm.MethodName)) ∈ lw_tbl := lw_mem2 188 rfl
theorem kw_429 : (Jvm.Cond.instanceMethod ({ cls := "EldestSays$Meek", name := "tell", desc := "(LEldestSays$Plans;I)V" } : Jvm.MethodName)) ∈ lw_tbl := lw_mem2 189 rfl
theorem kw_430 : (Jvm.Cond.code ({ cls := "EldestSays$Meek", name := "tell", desc := "(LEldestSays$Plans;I)V" } : Jvm.MethodName) prog_10_method_3_code (3 : Nat) (Option.none : Option Jvm.ClassFile.FieldType)) ∈ lw_tbl := lw_mem2 190 rfl
theorem kw_431 : (Jvm.Cond.methodLink "EldestSays$Meek" (11 : Nat) ({ cls := "EldestSays$Plans", name := "figureOf", desc := "(I)I" } : Jvm.MethodName)) ∈ lw_tbl := lw_mem2 191 rfl
theorem kw_432 : (Jvm.Cond.methodLink "EldestSays$Meek" (17 : Nat) ({ cls := "EldestSays$Plans", name := "spreadFromYoungest", desc := "(II)V" } : Jvm.MethodName)) ∈ lw_tbl := lw_mem2 192 rfl
theorem kw_433 : (Jvm.Cond.instanceMethod ({ cls := "EldestSays$Plans", name := "spreadFromYoungest", desc := "(II)V" } : Jvm.MethodName)) ∈ lw_tbl := lw_mem2 193 rfl
theorem kw_434 : (Jvm.Cond.selects "EldestSays$Plans" ({ cls := "EldestSays$Plans", name := "spreadFromYoungest", desc := "(II)V" } : Jvm.MethodName) ({ cls := "EldestSays$Plans", name := "spreadFromYoungest", desc := "(II)V" } : Jvm.MethodName)) ∈ lw_tbl := lw_mem2 194 rfl
theorem kw_435 : (Jvm.Cond.code ({ cls := "EldestSays$Plans", name := "spreadFromYoungest", desc := "(II)V" } : Jvm.MethodName) prog_11_method_17_code (4 : Nat) (Option.none : Option Jvm.ClassFile.FieldType)) ∈ lw_tbl := lw_mem2 195 rfl
theorem kw_436 : (Jvm.Cond.selects "EldestSays$Spiteful" ({ cls := "EldestSays$Clever", name := "tell", desc := "(LEldestSays$Plans;I)V" } : Jvm.MethodName) ({ cls := "EldestSays$Clever", name := "tell", desc := "(LEldestSays$Plans;I)V" } : Jvm.MethodName)) ∈ lw_tbl := lw_mem2 196 rfl
theorem kw_437 : (Jvm.Cond.code ({ cls := "EldestSays$Clever", name := "tell", desc := "(LEldestSays$Plans;I)V" } : Jvm.MethodName) prog_2_method_3_code (3 : Nat) (Option.none : Option Jvm.ClassFile.FieldType)) ∈ lw_tbl := lw_mem2 197 rfl
theorem kw_438 : (Jvm.Cond.methodLink "EldestSays$Clever" (7 : Nat) ({ cls := "EldestSays$Plans", name := "buyCheapest", desc := "(I)V" } : Jvm.MethodName)) ∈ lw_tbl := lw_mem2 198 rfl
theorem kw_439 : (Jvm.Cond.instanceMethod ({ cls := "EldestSays$Plans", name := "buyCheapest", desc := "(I)V" } : Jvm.MethodName)) ∈ lw_tbl := lw_mem2 199 rfl
theorem kw_440 : (Jvm.Cond.selects "EldestSays$Plans" ({ cls := "EldestSays$Plans", name := "buyCheapest", desc := "(I)V" } : Jvm.MethodName) ({ cls := "EldestSays$Plans", name := "buyCheapest", desc := "(I)V" } : Jvm.MethodName)) ∈ lw_tbl := lw_mem2 200 rfl
theorem kw_441 : (Jvm.Cond.code ({ cls := "EldestSays$Plans", name := "buyCheapest", desc := "(I)V" } : Jvm.MethodName) prog_11_method_8_code (6 : Nat) (Option.none : Option Jvm.ClassFile.FieldType)) ∈ lw_tbl := lw_mem2 201 rfl
theorem kw_442 : (Jvm.Cond.methodLink "EldestSays$Plans" (110 : Nat) ({ cls := "EldestSays$Plans", name := "forgetUnits", desc := "()V" } : Jvm.MethodName)) ∈ lw_tbl := lw_mem2 202 rfl
theorem kw_443 : (Jvm.Cond.privateMethod ({ cls := "EldestSays$Plans", name := "forgetUnits", desc := "()V" } : Jvm.MethodName)) ∈ lw_tbl := lw_mem2 203 rfl
theorem kw_444 : (Jvm.Cond.instanceMethod ({ cls := "EldestSays$Plans", name := "forgetUnits", desc := "()V" } : Jvm.MethodName)) ∈ lw_tbl := lw_mem2 204 rfl
theorem kw_445 : (Jvm.Cond.code ({ cls := "EldestSays$Plans", name := "forgetUnits", desc := "()V" } : Jvm.MethodName) prog_11_method_10_code (1 : Nat) (Option.none : Option Jvm.ClassFile.FieldType)) ∈ lw_tbl := lw_mem2 205 rfl
theorem kw_446 : (Jvm.Cond.methodLink "EldestSays$Plans" (113 : Nat) ({ cls := "EldestSays$Plans", name := "manOfUnit", desc := "(II)I" } : Jvm.MethodName)) ∈ lw_tbl := lw_mem2 206 rfl
theorem kw_447 : (Jvm.Cond.privateMethod ({ cls := "EldestSays$Plans", name := "manOfUnit", desc := "(II)I" } : Jvm.MethodName)) ∈ lw_tbl := lw_mem2 207 rfl
theorem kw_448 : (Jvm.Cond.instanceMethod ({ cls := "EldestSays$Plans", name := "manOfUnit", desc := "(II)I" } : Jvm.MethodName)) ∈ lw_tbl := lw_mem2 208 rfl
theorem kw_449 : (Jvm.Cond.code ({ cls := "EldestSays$Plans", name := "manOfUnit", desc := "(II)I" } : Jvm.MethodName) prog_11_method_9_code (3 : Nat) (Option.some Jvm.ClassFile.FieldType.int)) ∈ lw_tbl := lw_mem2 209 rfl
theorem kw_450 : (Jvm.Cond.methodLink "EldestSays$Plans" (120 : Nat) ({ cls := "EldestSays$Plans", name := "addUnit", desc := "(II)V" } : Jvm.MethodName)) ∈ lw_tbl := lw_mem2 210 rfl
theorem kw_451 : (Jvm.Cond.privateMethod ({ cls := "EldestSays$Plans", name := "addUnit", desc := "(II)V" } : Jvm.MethodName)) ∈ lw_tbl := lw_mem2 211 rfl
theorem kw_452 : (Jvm.Cond.instanceMethod ({ cls := "EldestSays$Plans", name := "addUnit", desc := "(II)V" } : Jvm.MethodName)) ∈ lw_tbl := lw_mem2 212 rfl
theorem kw_453 : (Jvm.Cond.code ({ cls := "EldestSays$Plans", name := "addUnit", desc := "(II)V" } : Jvm.MethodName) prog_11_method_11_code (3 : Nat) (Option.none : Option Jvm.ClassFile.FieldType)) ∈ lw_tbl := lw_mem2 213 rfl
theorem kw_454 : (Jvm.Cond.methodLink "EldestSays$Plans" (124 : Nat) ({ cls := "EldestSays$Plans", name := "cheapestSet", desc := "(I)I" } : Jvm.MethodName)) ∈ lw_tbl := lw_mem2 214 rfl
theorem kw_455 : (Jvm.Cond.privateMethod ({ cls := "EldestSays$Plans", name := "cheapestSet", desc := "(I)I" } : Jvm.MethodName)) ∈ lw_tbl := lw_mem2 215 rfl
theorem kw_456 : (Jvm.Cond.instanceMethod ({ cls := "EldestSays$Plans", name := "cheapestSet", desc := "(I)I" } : Jvm.MethodName)) ∈ lw_tbl := lw_mem2 216 rfl
theorem kw_457 : (Jvm.Cond.code ({ cls := "EldestSays$Plans", name := "cheapestSet", desc := "(I)I" } : Jvm.MethodName) prog_11_method_12_code (7 : Nat) (Option.some Jvm.ClassFile.FieldType.int)) ∈ lw_tbl := lw_mem2 217 rfl
theorem kw_458 : (Jvm.Cond.methodLink "EldestSays$Plans" (134 : Nat) ({ cls := "EldestSays$Plans", name := "listSets", desc := "(I)I" } : Jvm.MethodName)) ∈ lw_tbl := lw_mem2 218 rfl
theorem kw_459 : (Jvm.Cond.privateMethod ({ cls := "EldestSays$Plans", name := "listSets", desc := "(I)I" } : Jvm.MethodName)) ∈ lw_tbl := lw_mem2 219 rfl
theorem kw_460 : (Jvm.Cond.instanceMethod ({ cls := "EldestSays$Plans", name := "listSets", desc := "(I)I" } : Jvm.MethodName)) ∈ lw_tbl := lw_mem2 220 rfl
theorem kw_461 : (Jvm.Cond.code ({ cls := "EldestSays$Plans", name := "listSets", desc := "(I)I" } : Jvm.MethodName) prog_11_method_13_code (5 : Nat) (Option.some Jvm.ClassFile.FieldType.int)) ∈ lw_tbl := lw_mem2 221 rfl
theorem kw_462 : (Jvm.Cond.methodLink "EldestSays$Plans" (137 : Nat) ({ cls := "EldestSays$Evening", name := "weightFrom", desc := "(I)I" } : Jvm.MethodName)) ∈ lw_tbl := lw_mem2 222 rfl
theorem kw_463 : (Jvm.Cond.instanceMethod ({ cls := "EldestSays$Evening", name := "weightFrom", desc := "(I)I" } : Jvm.MethodName)) ∈ lw_tbl := lw_mem2 223 rfl
theorem kw_464 : (Jvm.Cond.selects "EldestSays$Evening" ({ cls := "EldestSays$Evening", name := "weightFrom", desc := "(I)I" } : Jvm.MethodName) ({ cls := "EldestSays$Evening", name := "weightFrom", desc := "(I)I" } : Jvm.MethodName)) ∈ lw_tbl := lw_mem2 224 rfl
theorem kw_465 : (Jvm.Cond.code ({ cls := "EldestSays$Evening", name := "weightFrom", desc := "(I)I" } : Jvm.MethodName) prog_6_method_6_code (4 : Nat) (Option.some Jvm.ClassFile.FieldType.int)) ∈ lw_tbl := lw_mem2 225 rfl
theorem kw_466 : (Jvm.Cond.methodLink "EldestSays$Evening" (47 : Nat) ({ cls := "java/lang/Math", name := "max", desc := "(II)I" } : Jvm.MethodName)) ∈ lw_tbl := lw_mem2 226 rfl
theorem kw_467 : (Jvm.Cond.methodLinkNest "EldestSays$Plans" (140 : Nat) ({ cls := "EldestSays", name := "isEnough", desc := "(III)Z" } : Jvm.MethodName) "EldestSays") ∈ lw_tbl := lw_mem2 227 rfl
theorem kw_468 : (Jvm.Cond.static ({ cls := "EldestSays", name := "isEnough", desc := "(III)Z" } : Jvm.MethodName)) ∈ lw_tbl := lw_mem2 228 rfl
theorem kw_469 : (Jvm.Cond.code ({ cls := "EldestSays", name := "isEnough", desc := "(III)Z" } : Jvm.MethodName) prog_1_method_45_code (3 : Nat) (Option.some Jvm.ClassFile.FieldType.boolean)) ∈ lw_tbl := lw_mem2 229 rfl
theorem kw_470 : (Jvm.Cond.methodLink "EldestSays$Plans" (76 : Nat) ({ cls := "EldestSays$Plans", name := "vote", desc := "(I)V" } : Jvm.MethodName)) ∈ lw_tbl := lw_mem2 230 rfl
theorem kw_471 : (Jvm.Cond.privateMethod ({ cls := "EldestSays$Plans", name := "vote", desc := "(I)V" } : Jvm.MethodName)) ∈ lw_tbl := lw_mem2 231 rfl
theorem kw_472 : (Jvm.Cond.instanceMethod ({ cls := "EldestSays$Plans", name := "vote", desc := "(I)V" } : Jvm.MethodName)) ∈ lw_tbl := lw_mem2 232 rfl
theorem kw_473 : (Jvm.Cond.code ({ cls := "EldestSays$Plans", name := "vote", desc := "(I)V" } : Jvm.MethodName) prog_11_method_6_code (3 : Nat) (Option.none : Option Jvm.ClassFile.FieldType)) ∈ lw_tbl := lw_mem2 233 rfl
theorem kw_474 : (Jvm.Cond.methodLink "EldestSays$Plans" (79 : Nat) ({ cls := "EldestSays$Plans", name := "end", desc := "(I)V" } : Jvm.MethodName)) ∈ lw_tbl := lw_mem2 234 rfl
theorem kw_475 : (Jvm.Cond.privateMethod ({ cls := "EldestSays$Plans", name := "end", desc := "(I)V" } : Jvm.MethodName)) ∈ lw_tbl := lw_mem2 235 rfl
theorem kw_476 : (Jvm.Cond.instanceMethod ({ cls := "EldestSays$Plans", name := "end", desc := "(I)V" } : Jvm.MethodName)) ∈ lw_tbl := lw_mem2 236 rfl
theorem kw_477 : (Jvm.Cond.code ({ cls := "EldestSays$Plans", name := "end", desc := "(I)V" } : Jvm.MethodName) prog_11_method_7_code (3 : Nat) (Option.none : Option Jvm.ClassFile.FieldType)) ∈ lw_tbl := lw_mem2 237 rfl
theorem kw_478 : (Jvm.Cond.methodLink "EldestSays$Plans" (100 : Nat) ({ cls := "EldestSays$Evening", name := "isCarried", desc := "(II)Z" } : Jvm.MethodName)) ∈ lw_tbl := lw_mem2 238 rfl
theorem kw_479 : (Jvm.Cond.instanceMethod ({ cls := "EldestSays$Evening", name := "isCarried", desc := "(II)Z" } : Jvm.MethodName)) ∈ lw_tbl := lw_mem2 239 rfl
theorem kw_480 : (Jvm.Cond.selects "EldestSays$Evening" ({ cls := "EldestSays$Evening", name := "isCarried", desc := "(II)Z" } : Jvm.MethodName) ({ cls := "EldestSays$Evening", name := "isCarried", desc := "(II)Z" } : Jvm.MethodName)) ∈ lw_tbl := lw_mem3 0 rfl
theorem kw_481 : (Jvm.Cond.code ({ cls := "EldestSays$Evening", name := "isCarried", desc := "(II)Z" } : Jvm.MethodName) prog_6_method_8_code (5 : Nat) (Option.some Jvm.ClassFile.FieldType.boolean)) ∈ lw_tbl := lw_mem3 1 rfl
theorem kw_482 : (Jvm.Cond.methodLink "EldestSays$Evening" (57 : Nat) ({ cls := "EldestSays$Evening", name := "weightFrom", desc := "(I)I" } : Jvm.MethodName)) ∈ lw_tbl := lw_mem3 2 rfl
theorem kw_483 : (Jvm.Cond.methodLinkNest "EldestSays$Evening" (61 : Nat) ({ cls := "EldestSays", name := "isEnough", desc := "(III)Z" } : Jvm.MethodName) "EldestSays") ∈ lw_tbl := lw_mem3 3 rfl
theorem kw_484 : (Jvm.Cond.methodLink "EldestSays$Plans" (104 : Nat) ({ cls := "java/lang/System", name := "arraycopy", desc := "(Ljava/lang/Object;ILjava/lang/Object;II)V" } : Jvm.MethodName)) ∈ lw_tbl := lw_mem3 4 rfl
theorem kw_485 : (Jvm.Cond.static ({ cls := "java/lang/System", name := "arraycopy", desc := "(Ljava/lang/Object;ILjava/lang/Object;II)V" } : Jvm.MethodName)) ∈ lw_tbl := lw_mem3 5 rfl
theorem kw_486 : (Jvm.Cond.native ({ cls := "java/lang/System", name := "arraycopy", desc := "(Ljava/lang/Object;ILjava/lang/Object;II)V" } : Jvm.MethodName)) ∈ lw_tbl := lw_mem3 6 rfl
theorem kw_487 : (Jvm.Cond.methodLink "EldestSaysLaw" (36 : Nat) ({ cls := "EldestSays", name := "price", desc := "(II)I" } : Jvm.MethodName)) ∈ lw_tbl := lw_mem3 7 rfl
theorem kw_488 : (Jvm.Cond.instanceMethod ({ cls := "EldestSays", name := "price", desc := "(II)I" } : Jvm.MethodName)) ∈ lw_tbl := lw_mem3 8 rfl
theorem kw_489 : (Jvm.Cond.selects "EldestSays" ({ cls := "EldestSays", name := "price", desc := "(II)I" } : Jvm.MethodName) ({ cls := "EldestSays", name := "price", desc := "(II)I" } : Jvm.MethodName)) ∈ lw_tbl := lw_mem3 9 rfl
theorem kw_490 : (Jvm.Cond.code ({ cls := "EldestSays", name := "price", desc := "(II)I" } : Jvm.MethodName) prog_1_method_7_code (3 : Nat) (Option.some Jvm.ClassFile.FieldType.int)) ∈ lw_tbl := lw_mem3 10 rfl
theorem kw_491 : (Jvm.Cond.methodLink "EldestSaysLaw" (40 : Nat) ({ cls := "EldestSays", name := "votes", desc := "(I)I" } : Jvm.MethodName)) ∈ lw_tbl := lw_mem3 11 rfl
theorem kw_492 : (Jvm.Cond.instanceMethod ({ cls := "EldestSays", name := "votes", desc := "(I)I" } : Jvm.MethodName)) ∈ lw_tbl := lw_mem3 12 rfl
theorem kw_493 : (Jvm.Cond.selects "EldestSays" ({ cls := "EldestSays", name := "votes", desc := "(I)I" } : Jvm.MethodName) ({ cls := "EldestSays", name := "votes", desc := "(I)I" } : Jvm.MethodName)) ∈ lw_tbl := lw_mem3 13 rfl
theorem kw_494 : (Jvm.Cond.code ({ cls := "EldestSays", name := "votes", desc := "(I)I" } : Jvm.MethodName) prog_1_method_8_code (2 : Nat) (Option.some Jvm.ClassFile.FieldType.int)) ∈ lw_tbl := lw_mem3 14 rfl
theorem kw_495 : (Jvm.Cond.methodLink "EldestSaysLaw" (44 : Nat) ({ cls := "EldestSays", name := "carries", desc := "(I)I" } : Jvm.MethodName)) ∈ lw_tbl := lw_mem3 15 rfl
theorem kw_496 : (Jvm.Cond.instanceMethod ({ cls := "EldestSays", name := "carries", desc := "(I)I" } : Jvm.MethodName)) ∈ lw_tbl := lw_mem3 16 rfl
theorem kw_497 : (Jvm.Cond.selects "EldestSays" ({ cls := "EldestSays", name := "carries", desc := "(I)I" } : Jvm.MethodName) ({ cls := "EldestSays", name := "carries", desc := "(I)I" } : Jvm.MethodName)) ∈ lw_tbl := lw_mem3 17 rfl
theorem kw_498 : (Jvm.Cond.code ({ cls := "EldestSays", name := "carries", desc := "(I)I" } : Jvm.MethodName) prog_1_method_9_code (2 : Nat) (Option.some Jvm.ClassFile.FieldType.int)) ∈ lw_tbl := lw_mem3 18 rfl
theorem kw_499 : (Jvm.Cond.methodLink "EldestSaysLaw" (48 : Nat) ({ cls := "EldestSays", name := "ends", desc := "(I)I" } : Jvm.MethodName)) ∈ lw_tbl := lw_mem3 19 rfl
theorem kw_500 : (Jvm.Cond.instanceMethod ({ cls := "EldestSays", name := "ends", desc := "(I)I" } : Jvm.MethodName)) ∈ lw_tbl := lw_mem3 20 rfl
theorem kw_501 : (Jvm.Cond.selects "EldestSays" ({ cls := "EldestSays", name := "ends", desc := "(I)I" } : Jvm.MethodName) ({ cls := "EldestSays", name := "ends", desc := "(I)I" } : Jvm.MethodName)) ∈ lw_tbl := lw_mem3 21 rfl
theorem kw_502 : (Jvm.Cond.code ({ cls := "EldestSays", name := "ends", desc := "(I)I" } : Jvm.MethodName) prog_1_method_10_code (2 : Nat) (Option.some Jvm.ClassFile.FieldType.int)) ∈ lw_tbl := lw_mem3 22 rfl
theorem kw_503 : (Jvm.Cond.methodLink "EldestSaysLaw" (52 : Nat) ({ cls := "EldestSays", name := "gets", desc := "(II)I" } : Jvm.MethodName)) ∈ lw_tbl := lw_mem3 23 rfl
theorem kw_504 : (Jvm.Cond.instanceMethod ({ cls := "EldestSays", name := "gets", desc := "(II)I" } : Jvm.MethodName)) ∈ lw_tbl := lw_mem3 24 rfl
theorem kw_505 : (Jvm.Cond.selects "EldestSays" ({ cls := "EldestSays", name := "gets", desc := "(II)I" } : Jvm.MethodName) ({ cls := "EldestSays", name := "gets", desc := "(II)I" } : Jvm.MethodName)) ∈ lw_tbl := lw_mem3 25 rfl
theorem kw_506 : (Jvm.Cond.code ({ cls := "EldestSays", name := "gets", desc := "(II)I" } : Jvm.MethodName) prog_1_method_11_code (3 : Nat) (Option.some Jvm.ClassFile.FieldType.int)) ∈ lw_tbl := lw_mem3 26 rfl
theorem kw_507 : (Jvm.Cond.constant "EldestSays" (150 : Nat) (1000000000 : Int32)) ∈ lw_tbl := lw_mem3 27 rfl
theorem kw_508 : (Jvm.Cond.methodLink "EldestSaysLaw" (56 : Nat) ({ cls := "EldestSays", name := "bought", desc := "(I)I" } : Jvm.MethodName)) ∈ lw_tbl := lw_mem3 28 rfl
theorem kw_509 : (Jvm.Cond.instanceMethod ({ cls := "EldestSays", name := "bought", desc := "(I)I" } : Jvm.MethodName)) ∈ lw_tbl := lw_mem3 29 rfl
theorem kw_510 : (Jvm.Cond.selects "EldestSays" ({ cls := "EldestSays", name := "bought", desc := "(I)I" } : Jvm.MethodName) ({ cls := "EldestSays", name := "bought", desc := "(I)I" } : Jvm.MethodName)) ∈ lw_tbl := lw_mem3 30 rfl
theorem kw_511 : (Jvm.Cond.code ({ cls := "EldestSays", name := "bought", desc := "(I)I" } : Jvm.MethodName) prog_1_method_12_code (2 : Nat) (Option.some Jvm.ClassFile.FieldType.int)) ∈ lw_tbl := lw_mem3 31 rfl
theorem kw_512 : (Jvm.Cond.methodLink "EldestSaysLaw" (60 : Nat) ({ cls := "EldestSays", name := "row", desc := "(I)I" } : Jvm.MethodName)) ∈ lw_tbl := lw_mem3 32 rfl
theorem kw_513 : (Jvm.Cond.instanceMethod ({ cls := "EldestSays", name := "row", desc := "(I)I" } : Jvm.MethodName)) ∈ lw_tbl := lw_mem3 33 rfl
theorem kw_514 : (Jvm.Cond.selects "EldestSays" ({ cls := "EldestSays", name := "row", desc := "(I)I" } : Jvm.MethodName) ({ cls := "EldestSays", name := "row", desc := "(I)I" } : Jvm.MethodName)) ∈ lw_tbl := lw_mem3 34 rfl
theorem kw_515 : (Jvm.Cond.code ({ cls := "EldestSays", name := "row", desc := "(I)I" } : Jvm.MethodName) prog_1_method_13_code (2 : Nat) (Option.some Jvm.ClassFile.FieldType.int)) ∈ lw_tbl := lw_mem3 35 rfl
theorem kw_516 : (Jvm.Cond.methodLink "EldestSaysLaw" (64 : Nat) ({ cls := "EldestSays", name := "judge", desc := "(I)I" } : Jvm.MethodName)) ∈ lw_tbl := lw_mem3 36 rfl
theorem kw_517 : (Jvm.Cond.instanceMethod ({ cls := "EldestSays", name := "judge", desc := "(I)I" } : Jvm.MethodName)) ∈ lw_tbl := lw_mem3 37 rfl
theorem kw_518 : (Jvm.Cond.selects "EldestSays" ({ cls := "EldestSays", name := "judge", desc := "(I)I" } : Jvm.MethodName) ({ cls := "EldestSays", name := "judge", desc := "(I)I" } : Jvm.MethodName)) ∈ lw_tbl := lw_mem3 38 rfl
theorem kw_519 : (Jvm.Cond.code ({ cls := "EldestSays", name := "judge", desc := "(I)I" } : Jvm.MethodName) prog_1_method_14_code (2 : Nat) (Option.some Jvm.ClassFile.FieldType.int)) ∈ lw_tbl := lw_mem3 39 rfl
theorem kw_520 : (Jvm.Cond.methodLink "EldestSays" (161 : Nat) ({ cls := "EldestSays$Evening", name := "isOver", desc := "()Z" } : Jvm.MethodName)) ∈ lw_tbl := lw_mem3 40 rfl
theorem kw_521 : (Jvm.Cond.instanceMethod ({ cls := "EldestSays$Evening", name := "isOver", desc := "()Z" } : Jvm.MethodName)) ∈ lw_tbl := lw_mem3 41 rfl
theorem kw_522 : (Jvm.Cond.selects "EldestSays$Evening" ({ cls := "EldestSays$Evening", name := "isOver", desc := "()Z" } : Jvm.MethodName) ({ cls := "EldestSays$Evening", name := "isOver", desc := "()Z" } : Jvm.MethodName)) ∈ lw_tbl := lw_mem3 42 rfl
theorem kw_523 : (Jvm.Cond.code ({ cls := "EldestSays$Evening", name := "isOver", desc := "()Z" } : Jvm.MethodName) prog_6_method_4_code (1 : Nat) (Option.some Jvm.ClassFile.FieldType.boolean)) ∈ lw_tbl := lw_mem3 43 rfl
theorem kw_524 : (Jvm.Cond.methodLink "EldestSays" (164 : Nat) ({ cls := "EldestSays", name := "isRowRight", desc := "()Z" } : Jvm.MethodName)) ∈ lw_tbl := lw_mem3 44 rfl
theorem kw_525 : (Jvm.Cond.privateMethod ({ cls := "EldestSays", name := "isRowRight", desc := "()Z" } : Jvm.MethodName)) ∈ lw_tbl := lw_mem3 45 rfl
theorem kw_526 : (Jvm.Cond.instanceMethod ({ cls := "EldestSays", name := "isRowRight", desc := "()Z" } : Jvm.MethodName)) ∈ lw_tbl := lw_mem3 46 rfl
theorem kw_527 : (Jvm.Cond.code ({ cls := "EldestSays", name := "isRowRight", desc := "()Z" } : Jvm.MethodName) prog_1_method_34_code (3 : Nat) (Option.some Jvm.ClassFile.FieldType.boolean)) ∈ lw_tbl := lw_mem3 47 rfl
theorem kw_528 : (Jvm.Cond.methodLink "EldestSays" (167 : Nat) ({ cls := "EldestSays", name := "firstOddVote", desc := "(I)I" } : Jvm.MethodName)) ∈ lw_tbl := lw_mem3 48 rfl
theorem kw_529 : (Jvm.Cond.privateMethod ({ cls := "EldestSays", name := "firstOddVote", desc := "(I)I" } : Jvm.MethodName)) ∈ lw_tbl := lw_mem3 49 rfl
theorem kw_530 : (Jvm.Cond.instanceMethod ({ cls := "EldestSays", name := "firstOddVote", desc := "(I)I" } : Jvm.MethodName)) ∈ lw_tbl := lw_mem3 50 rfl
theorem kw_531 : (Jvm.Cond.code ({ cls := "EldestSays", name := "firstOddVote", desc := "(I)I" } : Jvm.MethodName) prog_1_method_35_code (7 : Nat) (Option.some Jvm.ClassFile.FieldType.int)) ∈ lw_tbl := lw_mem3 51 rfl
theorem kw_532 : (Jvm.Cond.methodLink "EldestSaysLaw" (68 : Nat) ({ cls := "EldestSays", name := "goes", desc := "(I)I" } : Jvm.MethodName)) ∈ lw_tbl := lw_mem3 52 rfl
theorem kw_533 : (Jvm.Cond.instanceMethod ({ cls := "EldestSays", name := "goes", desc := "(I)I" } : Jvm.MethodName)) ∈ lw_tbl := lw_mem3 53 rfl
theorem kw_534 : (Jvm.Cond.selects "EldestSays" ({ cls := "EldestSays", name := "goes", desc := "(I)I" } : Jvm.MethodName) ({ cls := "EldestSays", name := "goes", desc := "(I)I" } : Jvm.MethodName)) ∈ lw_tbl := lw_mem3 54 rfl
theorem kw_535 : (Jvm.Cond.code ({ cls := "EldestSays", name := "goes", desc := "(I)I" } : Jvm.MethodName) prog_1_method_15_code (3 : Nat) (Option.some Jvm.ClassFile.FieldType.int)) ∈ lw_tbl := lw_mem3 55 rfl
theorem kw_536 : (Jvm.Cond.methodLink "EldestSays" (173 : Nat) ({ cls := "EldestSays$Evening", name := "decide", desc := "(I[II)I" } : Jvm.MethodName)) ∈ lw_tbl := lw_mem3 56 rfl
theorem kw_537 : (Jvm.Cond.instanceMethod ({ cls := "EldestSays$Evening", name := "decide", desc := "(I[II)I" } : Jvm.MethodName)) ∈ lw_tbl := lw_mem3 57 rfl
theorem kw_538 : (Jvm.Cond.selects "EldestSays$Evening" ({ cls := "EldestSays$Evening", name := "decide", desc := "(I[II)I" } : Jvm.MethodName) ({ cls := "EldestSays$Evening", name := "decide", desc := "(I[II)I" } : Jvm.MethodName)) ∈ lw_tbl := lw_mem3 58 rfl
theorem kw_539 : (Jvm.Cond.code ({ cls := "EldestSays$Evening", name := "decide", desc := "(I[II)I" } : Jvm.MethodName) prog_6_method_9_code (5 : Nat) (Option.some Jvm.ClassFile.FieldType.int)) ∈ lw_tbl := lw_mem3 59 rfl
theorem kw_540 : (Jvm.Cond.methodLink "EldestSays$Evening" (65 : Nat) ({ cls := "EldestSays$Evening", name := "isCarried", desc := "(II)Z" } : Jvm.MethodName)) ∈ lw_tbl := lw_mem3 60 rfl
theorem kw_541 : (Jvm.Cond.methodLink "EldestSays$Evening" (69 : Nat) ({ cls := "EldestSays$Evening", name := "part", desc := "([II)V" } : Jvm.MethodName)) ∈ lw_tbl := lw_mem3 61 rfl
theorem kw_542 : (Jvm.Cond.privateMethod ({ cls := "EldestSays$Evening", name := "part", desc := "([II)V" } : Jvm.MethodName)) ∈ lw_tbl := lw_mem3 62 rfl
theorem kw_543 : (Jvm.Cond.instanceMethod ({ cls := "EldestSays$Evening", name := "part", desc := "([II)V" } : Jvm.MethodName)) ∈ lw_tbl := lw_mem3 63 rfl
theorem kw_544 : (Jvm.Cond.code ({ cls := "EldestSays$Evening", name := "part", desc := "([II)V" } : Jvm.MethodName) prog_6_method_10_code (5 : Nat) (Option.none : Option Jvm.ClassFile.FieldType)) ∈ lw_tbl := lw_mem3 64 rfl
theorem kw_545 : (Jvm.Cond.methodLink "EldestSays$Evening" (73 : Nat) ({ cls := "EldestSays$Evening", name := "putAshore", desc := "()V" } : Jvm.MethodName)) ∈ lw_tbl := lw_mem3 65 rfl
theorem kw_546 : (Jvm.Cond.privateMethod ({ cls := "EldestSays$Evening", name := "putAshore", desc := "()V" } : Jvm.MethodName)) ∈ lw_tbl := lw_mem3 66 rfl
theorem kw_547 : (Jvm.Cond.instanceMethod ({ cls := "EldestSays$Evening", name := "putAshore", desc := "()V" } : Jvm.MethodName)) ∈ lw_tbl := lw_mem3 67 rfl
theorem kw_548 : (Jvm.Cond.code ({ cls := "EldestSays$Evening", name := "putAshore", desc := "()V" } : Jvm.MethodName) prog_6_method_11_code (1 : Nat) (Option.none : Option Jvm.ClassFile.FieldType)) ∈ lw_tbl := lw_mem3 68 rfl
theorem kw_549 : (Jvm.Cond.methodLink "EldestSaysLaw" (72 : Nat) ({ cls := "EldestSays", name := "says", desc := "()I" } : Jvm.MethodName)) ∈ lw_tbl := lw_mem3 69 rfl
theorem kw_550 : (Jvm.Cond.instanceMethod ({ cls := "EldestSays", name := "says", desc := "()I" } : Jvm.MethodName)) ∈ lw_tbl := lw_mem3 70 rfl
theorem kw_551 : (Jvm.Cond.selects "EldestSays" ({ cls := "EldestSays", name := "says", desc := "()I" } : Jvm.MethodName) ({ cls := "EldestSays", name := "says", desc := "()I" } : Jvm.MethodName)) ∈ lw_tbl := lw_mem3 71 rfl
theorem kw_552 : (Jvm.Cond.code ({ cls := "EldestSays", name := "says", desc := "()I" } : Jvm.MethodName) prog_1_method_16_code (2 : Nat) (Option.some Jvm.ClassFile.FieldType.int)) ∈ lw_tbl := lw_mem3 72 rfl
theorem kw_553 : (Jvm.Cond.methodLink "EldestSaysLaw" (76 : Nat) ({ cls := "EldestSays", name := "got", desc := "(I)I" } : Jvm.MethodName)) ∈ lw_tbl := lw_mem3 73 rfl
theorem kw_554 : (Jvm.Cond.instanceMethod ({ cls := "EldestSays", name := "got", desc := "(I)I" } : Jvm.MethodName)) ∈ lw_tbl := lw_mem3 74 rfl
theorem kw_555 : (Jvm.Cond.selects "EldestSays" ({ cls := "EldestSays", name := "got", desc := "(I)I" } : Jvm.MethodName) ({ cls := "EldestSays", name := "got", desc := "(I)I" } : Jvm.MethodName)) ∈ lw_tbl := lw_mem3 75 rfl
theorem kw_556 : (Jvm.Cond.code ({ cls := "EldestSays", name := "got", desc := "(I)I" } : Jvm.MethodName) prog_1_method_17_code (2 : Nat) (Option.some Jvm.ClassFile.FieldType.int)) ∈ lw_tbl := lw_mem3 76 rfl
theorem kw_557 : (Jvm.Cond.methodLink "EldestSaysLaw" (80 : Nat) ({ cls := "EldestSays", name := "alike", desc := "(IIIZ)I" } : Jvm.MethodName)) ∈ lw_tbl := lw_mem3 77 rfl
theorem kw_558 : (Jvm.Cond.instanceMethod ({ cls := "EldestSays", name := "alike", desc := "(IIIZ)I" } : Jvm.MethodName)) ∈ lw_tbl := lw_mem3 78 rfl
theorem kw_559 : (Jvm.Cond.selects "EldestSays" ({ cls := "EldestSays", name := "alike", desc := "(IIIZ)I" } : Jvm.MethodName) ({ cls := "EldestSays", name := "alike", desc := "(IIIZ)I" } : Jvm.MethodName)) ∈ lw_tbl := lw_mem3 79 rfl
theorem kw_560 : (Jvm.Cond.code ({ cls := "EldestSays", name := "alike", desc := "(IIIZ)I" } : Jvm.MethodName) prog_1_method_18_code (5 : Nat) (Option.some Jvm.ClassFile.FieldType.int)) ∈ lw_tbl := lw_mem3 80 rfl
theorem kw_561 : (Jvm.Cond.methodLink "EldestSays" (180 : Nat) ({ cls := "EldestSays$Crowd", name := "solve", desc := "(II[I)V" } : Jvm.MethodName)) ∈ lw_tbl := lw_mem3 81 rfl
theorem kw_562 : (Jvm.Cond.instanceMethod ({ cls := "EldestSays$Crowd", name := "solve", desc := "(II[I)V" } : Jvm.MethodName)) ∈ lw_tbl := lw_mem3 82 rfl
theorem kw_563 : (Jvm.Cond.selects "EldestSays$Crowd" ({ cls := "EldestSays$Crowd", name := "solve", desc := "(II[I)V" } : Jvm.MethodName) ({ cls := "EldestSays$Crowd", name := "solve", desc := "(II[I)V" } : Jvm.MethodName)) ∈ lw_tbl := lw_mem3 83 rfl
theorem kw_564 : (Jvm.Cond.code ({ cls := "EldestSays$Crowd", name := "solve", desc := "(II[I)V" } : Jvm.MethodName) prog_4_method_2_code (8 : Nat) (Option.none : Option Jvm.ClassFile.FieldType)) ∈ lw_tbl := lw_mem3 84 rfl
theorem kw_565 : (Jvm.Cond.methodLink "EldestSays$Crowd" (25 : Nat) ({ cls := "java/lang/Math", name := "min", desc := "(II)I" } : Jvm.MethodName)) ∈ lw_tbl := lw_mem3 85 rfl
theorem kw_566 : (Jvm.Cond.static ({ cls := "java/lang/Math", name := "min", desc := "(II)I" } : Jvm.MethodName)) ∈ lw_tbl := lw_mem3 86 rfl
theorem kw_567 : (Jvm.Cond.code ({ cls := "java/lang/Math", name := "min", desc := "(II)I" } : Jvm.MethodName) prog_16_method_69_code (2 : Nat) (Option.some Jvm.ClassFile.FieldType.int)) ∈ lw_tbl := lw_mem3 87 rfl
theorem kw_568 : (Jvm.Cond.methodLink "EldestSays$Crowd" (38 : Nat) ({ cls := "EldestSays$Crowd", name := "askYounger", desc := "(II)I" } : Jvm.MethodName)) ∈ lw_tbl := lw_mem3 88 rfl
theorem kw_569 : (Jvm.Cond.privateMethod ({ cls := "EldestSays$Crowd", name := "askYounger", desc := "(II)I" } : Jvm.MethodName)) ∈ lw_tbl := lw_mem3 89 rfl
theorem kw_570 : (Jvm.Cond.instanceMethod ({ cls := "EldestSays$Crowd", name := "askYounger", desc := "(II)I" } : Jvm.MethodName)) ∈ lw_tbl := lw_mem3 90 rfl
theorem kw_571 : (Jvm.Cond.code ({ cls := "EldestSays$Crowd", name := "askYounger", desc := "(II)I" } : Jvm.MethodName) prog_4_method_3_code (5 : Nat) (Option.some Jvm.ClassFile.FieldType.int)) ∈ lw_tbl := lw_mem3 91 rfl
theorem kw_572 : (Jvm.Cond.methodLink "EldestSays$Crowd" (54 : Nat) ({ cls := "EldestSays$Clever", name := "ask", desc := "(III)I" } : Jvm.MethodName)) ∈ lw_tbl := lw_mem3 92 rfl
theorem kw_573 : (Jvm.Cond.methodLink "EldestSays$Crowd" (41 : Nat) ({ cls := "EldestSays$Crowd", name := "votesLacking", desc := "(III)I" } : Jvm.MethodName)) ∈ lw_tbl := lw_mem3 93 rfl
theorem kw_574 : (Jvm.Cond.static ({ cls := "EldestSays$Crowd", name := "votesLacking", desc := "(III)I" } : Jvm.MethodName)) ∈ lw_tbl := lw_mem3 94 rfl
theorem kw_575 : (Jvm.Cond.code ({ cls := "EldestSays$Crowd", name := "votesLacking", desc := "(III)I" } : Jvm.MethodName) prog_4_method_4_code (4 : Nat) (Option.some Jvm.ClassFile.FieldType.int)) ∈ lw_tbl := lw_mem3 95 rfl
theorem kw_576 : (Jvm.Cond.methodLinkNest "EldestSays$Crowd" (59 : Nat) ({ cls := "EldestSays", name := "isEnough", desc := "(III)Z" } : Jvm.MethodName) "EldestSays") ∈ lw_tbl := lw_mem3 96 rfl
theorem kw_577 : (Jvm.Cond.methodLink "EldestSays$Crowd" (45 : Nat) ({ cls := "EldestSays$Crowd", name := "buyYounger", desc := "(III)I" } : Jvm.MethodName)) ∈ lw_tbl := lw_mem3 97 rfl
theorem kw_578 : (Jvm.Cond.privateMethod ({ cls := "EldestSays$Crowd", name := "buyYounger", desc := "(III)I" } : Jvm.MethodName)) ∈ lw_tbl := lw_mem3 98 rfl
theorem kw_579 : (Jvm.Cond.instanceMethod ({ cls := "EldestSays$Crowd", name := "buyYounger", desc := "(III)I" } : Jvm.MethodName)) ∈ lw_tbl := lw_mem3 99 rfl
theorem kw_580 : (Jvm.Cond.code ({ cls := "EldestSays$Crowd", name := "buyYounger", desc := "(III)I" } : Jvm.MethodName) prog_4_method_5_code (9 : Nat) (Option.some Jvm.ClassFile.FieldType.int)) ∈ lw_tbl := lw_mem3 100 rfl
theorem kw_581 : (Jvm.Cond.methodLink "EldestSays$Crowd" (63 : Nat) ({ cls := "java/util/Arrays", name := "fill", desc := "([II)V" } : Jvm.MethodName)) ∈ lw_tbl := lw_mem3 101 rfl
theorem kw_582 : (Jvm.Cond.methodLink "EldestSays$Crowd" (69 : Nat) ({ cls := "EldestSays$Crowd", name := "nextLevel", desc := "(II)I" } : Jvm.MethodName)) ∈ lw_tbl := lw_mem3 102 rfl
theorem kw_583 : (Jvm.Cond.privateMethod ({ cls := "EldestSays$Crowd", name := "nextLevel", desc := "(II)I" } : Jvm.MethodName)) ∈ lw_tbl := lw_mem3 103 rfl
theorem kw_584 : (Jvm.Cond.instanceMethod ({ cls := "EldestSays$Crowd", name := "nextLevel", desc := "(II)I" } : Jvm.MethodName)) ∈ lw_tbl := lw_mem3 104 rfl
theorem kw_585 : (Jvm.Cond.code ({ cls := "EldestSays$Crowd", name := "nextLevel", desc := "(II)I" } : Jvm.MethodName) prog_4_method_6_code (5 : Nat) (Option.some Jvm.ClassFile.FieldType.int)) ∈ lw_tbl := lw_mem3 105 rfl
theorem kw_586 : (Jvm.Cond.methodLink "EldestSays$Crowd" (72 : Nat) ({ cls := "EldestSays$Crowd", name := "buyAtLevel", desc := "(IIII)I" } : Jvm.MethodName)) ∈ lw_tbl := lw_mem3 106 rfl
theorem kw_587 : (Jvm.Cond.privateMethod ({ cls := "EldestSays$Crowd", name := "buyAtLevel", desc := "(IIII)I" } : Jvm.MethodName)) ∈ lw_tbl := lw_mem3 107 rfl
theorem kw_588 : (Jvm.Cond.instanceMethod ({ cls := "EldestSays$Crowd", name := "buyAtLevel", desc := "(IIII)I" } : Jvm.MethodName)) ∈ lw_tbl := lw_mem3 108 rfl
theorem kw_589 : (Jvm.Cond.code ({ cls := "EldestSays$Crowd", name := "buyAtLevel", desc := "(IIII)I" } : Jvm.MethodName) prog_4_method_7_code (9 : Nat) (Option.some Jvm.ClassFile.FieldType.int)) ∈ lw_tbl := lw_mem3 109 rfl
theorem kw_590 : (Jvm.Cond.methodLink "EldestSays$Crowd" (48 : Nat) ({ cls := "java/lang/System", name := "arraycopy", desc := "(Ljava/lang/Object;ILjava/lang/Object;II)V" } : Jvm.MethodName)) ∈ lw_tbl := lw_mem3 110 rfl
theorem kw_591 : (Jvm.Cond.methodLink "EldestSaysLaw" (85 : Nat) ({ cls := "EldestSays", name := "fewest", desc := "()I" } : Jvm.MethodName)) ∈ lw_tbl := lw_mem3 111 rfl
theorem kw_592 : (Jvm.Cond.instanceMethod ({ cls := "EldestSays", name := "fewest", desc := "()I" } : Jvm.MethodName)) ∈ lw_tbl := lw_mem3 112 rfl
theorem kw_593 : (Jvm.Cond.selects "EldestSays" ({ cls := "EldestSays", name := "fewest", desc := "()I" } : Jvm.MethodName) ({ cls := "EldestSays", name := "fewest", desc := "()I" } : Jvm.MethodName)) ∈ lw_tbl := lw_mem3 113 rfl
theorem kw_594 : (Jvm.Cond.code ({ cls := "EldestSays", name := "fewest", desc := "()I" } : Jvm.MethodName) prog_1_method_19_code (2 : Nat) (Option.some Jvm.ClassFile.FieldType.int)) ∈ lw_tbl := lw_mem3 114 rfl

end

section
/-! 03.words02 -/
theorem kw_595 : (Jvm.Cond.methodLink "EldestSays" (186 : Nat) ({ cls := "EldestSays$Evening", name := "copy", desc := "(LEldestSays$Evening;)V" } : Jvm.MethodName)) ∈ lw_tbl := lw_mem3 115 rfl
theorem kw_596 : (Jvm.Cond.instanceMethod ({ cls := "EldestSays$Evening", name := "copy", desc := "(LEldestSays$Evening;)V" } : Jvm.MethodName)) ∈ lw_tbl := lw_mem3 116 rfl
theorem kw_597 : (Jvm.Cond.selects "EldestSays$Evening" ({ cls := "EldestSays$Evening", name := "copy", desc := "(LEldestSays$Evening;)V" } : Jvm.MethodName) ({ cls := "EldestSays$Evening", name := "copy", desc := "(LEldestSays$Evening;)V" } : Jvm.MethodName)) ∈ lw_tbl := lw_mem3 117 rfl
theorem kw_598 : (Jvm.Cond.code ({ cls := "EldestSays$Evening", name := "copy", desc := "(LEldestSays$Evening;)V" } : Jvm.MethodName) prog_6_method_2_code (2 : Nat) (Option.none : Option Jvm.ClassFile.FieldType)) ∈ lw_tbl := lw_mem3 118 rfl
theorem kw_599 : (Jvm.Cond.methodLink "EldestSays$Evening" (27 : Nat) ({ cls := "java/lang/System", name := "arraycopy", desc := "(Ljava/lang/Object;ILjava/lang/Object;II)V" } : Jvm.MethodName)) ∈ lw_tbl := lw_mem3 119 rfl
theorem kw_600 : (Jvm.Cond.fieldLinkNest "EldestSays$Evening" (33 : Nat) "EldestSays" "GREATEST" "[I" "EldestSays") ∈ lw_tbl := lw_mem3 120 rfl
theorem kw_601 : (Jvm.Cond.methodLink "EldestSaysLaw" (89 : Nat) ({ cls := "EldestSays", name := "byLaw", desc := "(III)I" } : Jvm.MethodName)) ∈ lw_tbl := lw_mem3 121 rfl
theorem kw_602 : (Jvm.Cond.instanceMethod ({ cls := "EldestSays", name := "byLaw", desc := "(III)I" } : Jvm.MethodName)) ∈ lw_tbl := lw_mem3 122 rfl
theorem kw_603 : (Jvm.Cond.selects "EldestSays" ({ cls := "EldestSays", name := "byLaw", desc := "(III)I" } : Jvm.MethodName) ({ cls := "EldestSays", name := "byLaw", desc := "(III)I" } : Jvm.MethodName)) ∈ lw_tbl := lw_mem3 123 rfl
theorem kw_604 : (Jvm.Cond.code ({ cls := "EldestSays", name := "byLaw", desc := "(III)I" } : Jvm.MethodName) prog_1_method_20_code (4 : Nat) (Option.some Jvm.ClassFile.FieldType.int)) ∈ lw_tbl := lw_mem3 124 rfl
theorem kw_605 : (Jvm.Cond.methodLink "EldestSaysLaw" (94 : Nat) ({ cls := "EldestSays", name := "gains", desc := "()I" } : Jvm.MethodName)) ∈ lw_tbl := lw_mem3 125 rfl
theorem kw_606 : (Jvm.Cond.instanceMethod ({ cls := "EldestSays", name := "gains", desc := "()I" } : Jvm.MethodName)) ∈ lw_tbl := lw_mem3 126 rfl
theorem kw_607 : (Jvm.Cond.selects "EldestSays" ({ cls := "EldestSays", name := "gains", desc := "()I" } : Jvm.MethodName) ({ cls := "EldestSays", name := "gains", desc := "()I" } : Jvm.MethodName)) ∈ lw_tbl := lw_mem3 127 rfl
theorem kw_608 : (Jvm.Cond.code ({ cls := "EldestSays", name := "gains", desc := "()I" } : Jvm.MethodName) prog_1_method_21_code (4 : Nat) (Option.some Jvm.ClassFile.FieldType.int)) ∈ lw_tbl := lw_mem3 128 rfl
theorem kw_609 : (Jvm.Cond.methodLink "EldestSays" (196 : Nat) ({ cls := "EldestSays$Evening", name := "add", desc := "(III)V" } : Jvm.MethodName)) ∈ lw_tbl := lw_mem3 129 rfl
theorem kw_610 : (Jvm.Cond.methodLink "EldestSaysLaw" (98 : Nat) ({ cls := "EldestSays", name := "swap", desc := "(II)I" } : Jvm.MethodName)) ∈ lw_tbl := lw_mem3 130 rfl
theorem kw_611 : (Jvm.Cond.instanceMethod ({ cls := "EldestSays", name := "swap", desc := "(II)I" } : Jvm.MethodName)) ∈ lw_tbl := lw_mem3 131 rfl
theorem kw_612 : (Jvm.Cond.selects "EldestSays" ({ cls := "EldestSays", name := "swap", desc := "(II)I" } : Jvm.MethodName) ({ cls := "EldestSays", name := "swap", desc := "(II)I" } : Jvm.MethodName)) ∈ lw_tbl := lw_mem3 132 rfl
theorem kw_613 : (Jvm.Cond.code ({ cls := "EldestSays", name := "swap", desc := "(II)I" } : Jvm.MethodName) prog_1_method_22_code (3 : Nat) (Option.some Jvm.ClassFile.FieldType.int)) ∈ lw_tbl := lw_mem3 133 rfl
theorem kw_614 : (Jvm.Cond.methodLink "EldestSays" (199 : Nat) ({ cls := "EldestSays", name := "orderAsIs", desc := "()V" } : Jvm.MethodName)) ∈ lw_tbl := lw_mem3 134 rfl
theorem kw_615 : (Jvm.Cond.privateMethod ({ cls := "EldestSays", name := "orderAsIs", desc := "()V" } : Jvm.MethodName)) ∈ lw_tbl := lw_mem3 135 rfl
theorem kw_616 : (Jvm.Cond.instanceMethod ({ cls := "EldestSays", name := "orderAsIs", desc := "()V" } : Jvm.MethodName)) ∈ lw_tbl := lw_mem3 136 rfl
theorem kw_617 : (Jvm.Cond.code ({ cls := "EldestSays", name := "orderAsIs", desc := "()V" } : Jvm.MethodName) prog_1_method_36_code (2 : Nat) (Option.none : Option Jvm.ClassFile.FieldType)) ∈ lw_tbl := lw_mem3 137 rfl
theorem kw_618 : (Jvm.Cond.methodLink "EldestSays" (202 : Nat) ({ cls := "EldestSays", name := "seat", desc := "()V" } : Jvm.MethodName)) ∈ lw_tbl := lw_mem3 138 rfl
theorem kw_619 : (Jvm.Cond.privateMethod ({ cls := "EldestSays", name := "seat", desc := "()V" } : Jvm.MethodName)) ∈ lw_tbl := lw_mem3 139 rfl
theorem kw_620 : (Jvm.Cond.instanceMethod ({ cls := "EldestSays", name := "seat", desc := "()V" } : Jvm.MethodName)) ∈ lw_tbl := lw_mem3 140 rfl
theorem kw_621 : (Jvm.Cond.code ({ cls := "EldestSays", name := "seat", desc := "()V" } : Jvm.MethodName) prog_1_method_40_code (3 : Nat) (Option.none : Option Jvm.ClassFile.FieldType)) ∈ lw_tbl := lw_mem3 141 rfl
theorem kw_622 : (Jvm.Cond.methodLink "EldestSaysLaw" (102 : Nat) ({ cls := "EldestSays", name := "bestAge", desc := "(I)I" } : Jvm.MethodName)) ∈ lw_tbl := lw_mem3 142 rfl
theorem kw_623 : (Jvm.Cond.instanceMethod ({ cls := "EldestSays", name := "bestAge", desc := "(I)I" } : Jvm.MethodName)) ∈ lw_tbl := lw_mem3 143 rfl
theorem kw_624 : (Jvm.Cond.selects "EldestSays" ({ cls := "EldestSays", name := "bestAge", desc := "(I)I" } : Jvm.MethodName) ({ cls := "EldestSays", name := "bestAge", desc := "(I)I" } : Jvm.MethodName)) ∈ lw_tbl := lw_mem3 144 rfl
theorem kw_625 : (Jvm.Cond.code ({ cls := "EldestSays", name := "bestAge", desc := "(I)I" } : Jvm.MethodName) prog_1_method_23_code (5 : Nat) (Option.some Jvm.ClassFile.FieldType.int)) ∈ lw_tbl := lw_mem3 145 rfl
theorem kw_626 : (Jvm.Cond.methodLink "EldestSays" (205 : Nat) ({ cls := "EldestSays", name := "orderWith", desc := "(II)V" } : Jvm.MethodName)) ∈ lw_tbl := lw_mem3 146 rfl
theorem kw_627 : (Jvm.Cond.privateMethod ({ cls := "EldestSays", name := "orderWith", desc := "(II)V" } : Jvm.MethodName)) ∈ lw_tbl := lw_mem3 147 rfl
theorem kw_628 : (Jvm.Cond.instanceMethod ({ cls := "EldestSays", name := "orderWith", desc := "(II)V" } : Jvm.MethodName)) ∈ lw_tbl := lw_mem3 148 rfl
theorem kw_629 : (Jvm.Cond.code ({ cls := "EldestSays", name := "orderWith", desc := "(II)V" } : Jvm.MethodName) prog_1_method_37_code (5 : Nat) (Option.none : Option Jvm.ClassFile.FieldType)) ∈ lw_tbl := lw_mem3 149 rfl
theorem kw_630 : (Jvm.Cond.methodLink "EldestSaysLaw" (106 : Nat) ({ cls := "EldestSays", name := "league", desc := "(I)I" } : Jvm.MethodName)) ∈ lw_tbl := lw_mem3 150 rfl
theorem kw_631 : (Jvm.Cond.instanceMethod ({ cls := "EldestSays", name := "league", desc := "(I)I" } : Jvm.MethodName)) ∈ lw_tbl := lw_mem3 151 rfl
theorem kw_632 : (Jvm.Cond.selects "EldestSays" ({ cls := "EldestSays", name := "league", desc := "(I)I" } : Jvm.MethodName) ({ cls := "EldestSays", name := "league", desc := "(I)I" } : Jvm.MethodName)) ∈ lw_tbl := lw_mem3 152 rfl
theorem kw_633 : (Jvm.Cond.code ({ cls := "EldestSays", name := "league", desc := "(I)I" } : Jvm.MethodName) prog_1_method_24_code (3 : Nat) (Option.some Jvm.ClassFile.FieldType.int)) ∈ lw_tbl := lw_mem3 153 rfl
theorem kw_634 : (Jvm.Cond.methodLink "EldestSays" (209 : Nat) ({ cls := "java/lang/Integer", name := "bitCount", desc := "(I)I" } : Jvm.MethodName)) ∈ lw_tbl := lw_mem3 154 rfl
theorem kw_635 : (Jvm.Cond.static ({ cls := "java/lang/Integer", name := "bitCount", desc := "(I)I" } : Jvm.MethodName)) ∈ lw_tbl := lw_mem3 155 rfl
theorem kw_636 : (Jvm.Cond.code ({ cls := "java/lang/Integer", name := "bitCount", desc := "(I)I" } : Jvm.MethodName) prog_15_method_49_code (1 : Nat) (Option.some Jvm.ClassFile.FieldType.int)) ∈ lw_tbl := lw_mem3 156 rfl
theorem kw_637 : (Jvm.Cond.constant "java/lang/Integer" (265 : Nat) (1431655765 : Int32)) ∈ lw_tbl := lw_mem3 157 rfl
theorem kw_638 : (Jvm.Cond.constant "java/lang/Integer" (266 : Nat) (858993459 : Int32)) ∈ lw_tbl := lw_mem3 158 rfl
theorem kw_639 : (Jvm.Cond.constant "java/lang/Integer" (267 : Nat) (252645135 : Int32)) ∈ lw_tbl := lw_mem3 159 rfl
theorem kw_640 : (Jvm.Cond.methodLink "EldestSays" (214 : Nat) ({ cls := "EldestSays$Plans", name := "canBuy", desc := "(II)Z" } : Jvm.MethodName)) ∈ lw_tbl := lw_mem3 160 rfl
theorem kw_641 : (Jvm.Cond.instanceMethod ({ cls := "EldestSays$Plans", name := "canBuy", desc := "(II)Z" } : Jvm.MethodName)) ∈ lw_tbl := lw_mem3 161 rfl
theorem kw_642 : (Jvm.Cond.selects "EldestSays$Plans" ({ cls := "EldestSays$Plans", name := "canBuy", desc := "(II)Z" } : Jvm.MethodName) ({ cls := "EldestSays$Plans", name := "canBuy", desc := "(II)Z" } : Jvm.MethodName)) ∈ lw_tbl := lw_mem3 162 rfl
theorem kw_643 : (Jvm.Cond.code ({ cls := "EldestSays$Plans", name := "canBuy", desc := "(II)Z" } : Jvm.MethodName) prog_11_method_14_code (6 : Nat) (Option.some Jvm.ClassFile.FieldType.boolean)) ∈ lw_tbl := lw_mem3 163 rfl
theorem kw_644 : (Jvm.Cond.methodLink "EldestSaysLaw" (110 : Nat) ({ cls := "EldestSays", name := "shaken", desc := "(I)J" } : Jvm.MethodName)) ∈ lw_tbl := lw_mem3 164 rfl
theorem kw_645 : (Jvm.Cond.instanceMethod ({ cls := "EldestSays", name := "shaken", desc := "(I)J" } : Jvm.MethodName)) ∈ lw_tbl := lw_mem3 165 rfl
theorem kw_646 : (Jvm.Cond.selects "EldestSays" ({ cls := "EldestSays", name := "shaken", desc := "(I)J" } : Jvm.MethodName) ({ cls := "EldestSays", name := "shaken", desc := "(I)J" } : Jvm.MethodName)) ∈ lw_tbl := lw_mem3 166 rfl
theorem kw_647 : (Jvm.Cond.code ({ cls := "EldestSays", name := "shaken", desc := "(I)J" } : Jvm.MethodName) prog_1_method_25_code (8 : Nat) (Option.some Jvm.ClassFile.FieldType.long)) ∈ lw_tbl := lw_mem3 167 rfl
theorem kw_648 : (Jvm.Cond.constantLong "EldestSays" (218 : Nat) (4000000000000000000 : Int64)) ∈ lw_tbl := lw_mem3 168 rfl
theorem kw_649 : (Jvm.Cond.methodLink "EldestSays" (220 : Nat) ({ cls := "EldestSays", name := "shakeVotes", desc := "(I)J" } : Jvm.MethodName)) ∈ lw_tbl := lw_mem3 169 rfl
theorem kw_650 : (Jvm.Cond.privateMethod ({ cls := "EldestSays", name := "shakeVotes", desc := "(I)J" } : Jvm.MethodName)) ∈ lw_tbl := lw_mem3 170 rfl
theorem kw_651 : (Jvm.Cond.instanceMethod ({ cls := "EldestSays", name := "shakeVotes", desc := "(I)J" } : Jvm.MethodName)) ∈ lw_tbl := lw_mem3 171 rfl
theorem kw_652 : (Jvm.Cond.code ({ cls := "EldestSays", name := "shakeVotes", desc := "(I)J" } : Jvm.MethodName) prog_1_method_41_code (7 : Nat) (Option.some Jvm.ClassFile.FieldType.long)) ∈ lw_tbl := lw_mem3 172 rfl
theorem kw_653 : (Jvm.Cond.methodLink "EldestSays" (261 : Nat) ({ cls := "java/util/Arrays", name := "fill", desc := "([JJ)V" } : Jvm.MethodName)) ∈ lw_tbl := lw_mem3 173 rfl
theorem kw_654 : (Jvm.Cond.static ({ cls := "java/util/Arrays", name := "fill", desc := "([JJ)V" } : Jvm.MethodName)) ∈ lw_tbl := lw_mem3 174 rfl
theorem kw_655 : (Jvm.Cond.code ({ cls := "java/util/Arrays", name := "fill", desc := "([JJ)V" } : Jvm.MethodName) prog_18_method_101_code (5 : Nat) (Option.none : Option Jvm.ClassFile.FieldType)) ∈ lw_tbl := lw_mem3 175 rfl
theorem kw_656 : (Jvm.Cond.methodLink "EldestSays" (267 : Nat) ({ cls := "EldestSays", name := "addVoter", desc := "(II)V" } : Jvm.MethodName)) ∈ lw_tbl := lw_mem3 176 rfl
theorem kw_657 : (Jvm.Cond.privateMethod ({ cls := "EldestSays", name := "addVoter", desc := "(II)V" } : Jvm.MethodName)) ∈ lw_tbl := lw_mem3 177 rfl
theorem kw_658 : (Jvm.Cond.instanceMethod ({ cls := "EldestSays", name := "addVoter", desc := "(II)V" } : Jvm.MethodName)) ∈ lw_tbl := lw_mem3 178 rfl
theorem kw_659 : (Jvm.Cond.code ({ cls := "EldestSays", name := "addVoter", desc := "(II)V" } : Jvm.MethodName) prog_1_method_42_code (6 : Nat) (Option.none : Option Jvm.ClassFile.FieldType)) ∈ lw_tbl := lw_mem3 179 rfl
theorem kw_660 : (Jvm.Cond.constantLong "EldestSays" (270 : Nat) (100 : Int64)) ∈ lw_tbl := lw_mem3 180 rfl
theorem kw_661 : (Jvm.Cond.methodLink "EldestSays" (224 : Nat) ({ cls := "EldestSays", name := "chanceCarried", desc := "()J" } : Jvm.MethodName)) ∈ lw_tbl := lw_mem3 181 rfl
theorem kw_662 : (Jvm.Cond.privateMethod ({ cls := "EldestSays", name := "chanceCarried", desc := "()J" } : Jvm.MethodName)) ∈ lw_tbl := lw_mem3 182 rfl
theorem kw_663 : (Jvm.Cond.instanceMethod ({ cls := "EldestSays", name := "chanceCarried", desc := "()J" } : Jvm.MethodName)) ∈ lw_tbl := lw_mem3 183 rfl
theorem kw_664 : (Jvm.Cond.code ({ cls := "EldestSays", name := "chanceCarried", desc := "()J" } : Jvm.MethodName) prog_1_method_43_code (5 : Nat) (Option.some Jvm.ClassFile.FieldType.long)) ∈ lw_tbl := lw_mem3 184 rfl
theorem kw_665 : (Jvm.Cond.methodLink "EldestSays" (272 : Nat) ({ cls := "EldestSays$Evening", name := "weightFrom", desc := "(I)I" } : Jvm.MethodName)) ∈ lw_tbl := lw_mem3 185 rfl
theorem kw_666 : (Jvm.Cond.methodLink "EldestSays" (275 : Nat) ({ cls := "EldestSays", name := "isEnough", desc := "(III)Z" } : Jvm.MethodName)) ∈ lw_tbl := lw_mem3 186 rfl
theorem kw_667 : (Jvm.Cond.methodLink "EldestSays" (228 : Nat) ({ cls := "EldestSays", name := "commonDivisor", desc := "(JJ)J" } : Jvm.MethodName)) ∈ lw_tbl := lw_mem3 187 rfl
theorem kw_668 : (Jvm.Cond.static ({ cls := "EldestSays", name := "commonDivisor", desc := "(JJ)J" } : Jvm.MethodName)) ∈ lw_tbl := lw_mem3 188 rfl
theorem kw_669 : (Jvm.Cond.code ({ cls := "EldestSays", name := "commonDivisor", desc := "(JJ)J" } : Jvm.MethodName) prog_1_method_44_code (11 : Nat) (Option.some Jvm.ClassFile.FieldType.long)) ∈ lw_tbl := lw_mem3 189 rfl
theorem kw_670 : (Jvm.Cond.methodLink "EldestSaysLaw" (115 : Nat) ({ cls := "EldestSays", name := "seeds", desc := "(III)I" } : Jvm.MethodName)) ∈ lw_tbl := lw_mem3 190 rfl
theorem kw_671 : (Jvm.Cond.instanceMethod ({ cls := "EldestSays", name := "seeds", desc := "(III)I" } : Jvm.MethodName)) ∈ lw_tbl := lw_mem3 191 rfl
theorem kw_672 : (Jvm.Cond.selects "EldestSays" ({ cls := "EldestSays", name := "seeds", desc := "(III)I" } : Jvm.MethodName) ({ cls := "EldestSays", name := "seeds", desc := "(III)I" } : Jvm.MethodName)) ∈ lw_tbl := lw_mem3 192 rfl
theorem kw_673 : (Jvm.Cond.code ({ cls := "EldestSays", name := "seeds", desc := "(III)I" } : Jvm.MethodName) prog_1_method_26_code (7 : Nat) (Option.some Jvm.ClassFile.FieldType.int)) ∈ lw_tbl := lw_mem3 193 rfl
theorem kw_674 : (Jvm.Cond.methodLink "EldestSays" (232 : Nat) ({ cls := "EldestSays", name := "drawOrder", desc := "(I)I" } : Jvm.MethodName)) ∈ lw_tbl := lw_mem3 194 rfl
theorem kw_675 : (Jvm.Cond.privateMethod ({ cls := "EldestSays", name := "drawOrder", desc := "(I)I" } : Jvm.MethodName)) ∈ lw_tbl := lw_mem3 195 rfl
theorem kw_676 : (Jvm.Cond.instanceMethod ({ cls := "EldestSays", name := "drawOrder", desc := "(I)I" } : Jvm.MethodName)) ∈ lw_tbl := lw_mem3 196 rfl
theorem kw_677 : (Jvm.Cond.code ({ cls := "EldestSays", name := "drawOrder", desc := "(I)I" } : Jvm.MethodName) prog_1_method_38_code (6 : Nat) (Option.some Jvm.ClassFile.FieldType.int)) ∈ lw_tbl := lw_mem3 197 rfl
theorem kw_678 : (Jvm.Cond.constant "EldestSays" (258 : Nat) (1103515245 : Int32)) ∈ lw_tbl := lw_mem3 198 rfl
theorem kw_679 : (Jvm.Cond.constant "EldestSays" (259 : Nat) (2147483647 : Int32)) ∈ lw_tbl := lw_mem3 199 rfl
theorem kw_680 : (Jvm.Cond.constant "EldestSays" (260 : Nat) (65536 : Int32)) ∈ lw_tbl := lw_mem3 200 rfl
theorem kw_681 : (Jvm.Cond.methodLink "EldestSays" (235 : Nat) ({ cls := "EldestSays", name := "placeOf", desc := "(I)I" } : Jvm.MethodName)) ∈ lw_tbl := lw_mem3 201 rfl
theorem kw_682 : (Jvm.Cond.privateMethod ({ cls := "EldestSays", name := "placeOf", desc := "(I)I" } : Jvm.MethodName)) ∈ lw_tbl := lw_mem3 202 rfl
theorem kw_683 : (Jvm.Cond.instanceMethod ({ cls := "EldestSays", name := "placeOf", desc := "(I)I" } : Jvm.MethodName)) ∈ lw_tbl := lw_mem3 203 rfl
theorem kw_684 : (Jvm.Cond.code ({ cls := "EldestSays", name := "placeOf", desc := "(I)I" } : Jvm.MethodName) prog_1_method_39_code (4 : Nat) (Option.some Jvm.ClassFile.FieldType.int)) ∈ lw_tbl := lw_mem3 204 rfl
theorem kw_685 : (Jvm.Cond.methodLink "EldestSays" (238 : Nat) ({ cls := "java/lang/Math", name := "max", desc := "(II)I" } : Jvm.MethodName)) ∈ lw_tbl := lw_mem3 205 rfl
theorem kw_686 : (Jvm.Cond.methodLink "EldestSaysLaw" (119 : Nat) ({ cls := "EldestSays", name := "clear", desc := "()I" } : Jvm.MethodName)) ∈ lw_tbl := lw_mem3 206 rfl
theorem kw_687 : (Jvm.Cond.instanceMethod ({ cls := "EldestSays", name := "clear", desc := "()I" } : Jvm.MethodName)) ∈ lw_tbl := lw_mem3 207 rfl
theorem kw_688 : (Jvm.Cond.selects "EldestSays" ({ cls := "EldestSays", name := "clear", desc := "()I" } : Jvm.MethodName) ({ cls := "EldestSays", name := "clear", desc := "()I" } : Jvm.MethodName)) ∈ lw_tbl := lw_mem3 208 rfl
theorem kw_689 : (Jvm.Cond.code ({ cls := "EldestSays", name := "clear", desc := "()I" } : Jvm.MethodName) prog_1_method_27_code (2 : Nat) (Option.some Jvm.ClassFile.FieldType.int)) ∈ lw_tbl := lw_mem3 209 rfl
theorem kw_690 : (Jvm.Cond.methodLink "EldestSaysLaw" (123 : Nat) ({ cls := "EldestSays", name := "image", desc := "()I" } : Jvm.MethodName)) ∈ lw_tbl := lw_mem3 210 rfl
theorem kw_691 : (Jvm.Cond.instanceMethod ({ cls := "EldestSays", name := "image", desc := "()I" } : Jvm.MethodName)) ∈ lw_tbl := lw_mem3 211 rfl
theorem kw_692 : (Jvm.Cond.selects "EldestSays" ({ cls := "EldestSays", name := "image", desc := "()I" } : Jvm.MethodName) ({ cls := "EldestSays", name := "image", desc := "()I" } : Jvm.MethodName)) ∈ lw_tbl := lw_mem3 212 rfl
theorem kw_693 : (Jvm.Cond.code ({ cls := "EldestSays", name := "image", desc := "()I" } : Jvm.MethodName) prog_1_method_28_code (1 : Nat) (Option.some Jvm.ClassFile.FieldType.int)) ∈ lw_tbl := lw_mem3 213 rfl
theorem kw_694 : (Jvm.Cond.methodLink "EldestSaysLaw" (127 : Nat) ({ cls := "EldestSays", name := "restore", desc := "()I" } : Jvm.MethodName)) ∈ lw_tbl := lw_mem3 214 rfl
theorem kw_695 : (Jvm.Cond.instanceMethod ({ cls := "EldestSays", name := "restore", desc := "()I" } : Jvm.MethodName)) ∈ lw_tbl := lw_mem3 215 rfl
theorem kw_696 : (Jvm.Cond.selects "EldestSays" ({ cls := "EldestSays", name := "restore", desc := "()I" } : Jvm.MethodName) ({ cls := "EldestSays", name := "restore", desc := "()I" } : Jvm.MethodName)) ∈ lw_tbl := lw_mem3 216 rfl
theorem kw_697 : (Jvm.Cond.code ({ cls := "EldestSays", name := "restore", desc := "()I" } : Jvm.MethodName) prog_1_method_29_code (1 : Nat) (Option.some Jvm.ClassFile.FieldType.int)) ∈ lw_tbl := lw_mem3 217 rfl
theorem kw_698 : (Jvm.Cond.methodLink "EldestSaysLaw" (131 : Nat) ({ cls := "EldestSays", name := "count", desc := "(I)I" } : Jvm.MethodName)) ∈ lw_tbl := lw_mem3 218 rfl
theorem kw_699 : (Jvm.Cond.instanceMethod ({ cls := "EldestSays", name := "count", desc := "(I)I" } : Jvm.MethodName)) ∈ lw_tbl := lw_mem3 219 rfl
theorem kw_700 : (Jvm.Cond.selects "EldestSays" ({ cls := "EldestSays", name := "count", desc := "(I)I" } : Jvm.MethodName) ({ cls := "EldestSays", name := "count", desc := "(I)I" } : Jvm.MethodName)) ∈ lw_tbl := lw_mem3 220 rfl
theorem kw_701 : (Jvm.Cond.code ({ cls := "EldestSays", name := "count", desc := "(I)I" } : Jvm.MethodName) prog_1_method_30_code (2 : Nat) (Option.some Jvm.ClassFile.FieldType.int)) ∈ lw_tbl := lw_mem3 221 rfl
theorem kw_702 : (Jvm.Cond.methodLink "EldestSays" (250 : Nat) ({ cls := "EldestSays$Evening", name := "weightLeft", desc := "()I" } : Jvm.MethodName)) ∈ lw_tbl := lw_mem3 222 rfl
theorem kw_703 : (Jvm.Cond.instanceMethod ({ cls := "EldestSays$Evening", name := "weightLeft", desc := "()I" } : Jvm.MethodName)) ∈ lw_tbl := lw_mem3 223 rfl
theorem kw_704 : (Jvm.Cond.selects "EldestSays$Evening" ({ cls := "EldestSays$Evening", name := "weightLeft", desc := "()I" } : Jvm.MethodName) ({ cls := "EldestSays$Evening", name := "weightLeft", desc := "()I" } : Jvm.MethodName)) ∈ lw_tbl := lw_mem3 224 rfl
theorem kw_705 : (Jvm.Cond.code ({ cls := "EldestSays$Evening", name := "weightLeft", desc := "()I" } : Jvm.MethodName) prog_6_method_7_code (1 : Nat) (Option.some Jvm.ClassFile.FieldType.int)) ∈ lw_tbl := lw_mem3 225 rfl
theorem kw_706 : (Jvm.Cond.methodLink "EldestSays$Evening" (53 : Nat) ({ cls := "EldestSays$Evening", name := "has", desc := "(I)Z" } : Jvm.MethodName)) ∈ lw_tbl := lw_mem3 226 rfl
theorem kw_707 : (Jvm.Cond.methodLink "EldestSays" (255 : Nat) ({ cls := "EldestSays", name := "countRefusals", desc := "(I)I" } : Jvm.MethodName)) ∈ lw_tbl := lw_mem3 227 rfl
theorem kw_708 : (Jvm.Cond.privateMethod ({ cls := "EldestSays", name := "countRefusals", desc := "(I)I" } : Jvm.MethodName)) ∈ lw_tbl := lw_mem3 228 rfl
theorem kw_709 : (Jvm.Cond.instanceMethod ({ cls := "EldestSays", name := "countRefusals", desc := "(I)I" } : Jvm.MethodName)) ∈ lw_tbl := lw_mem3 229 rfl
theorem kw_710 : (Jvm.Cond.code ({ cls := "EldestSays", name := "countRefusals", desc := "(I)I" } : Jvm.MethodName) prog_1_method_31_code (2 : Nat) (Option.some Jvm.ClassFile.FieldType.int)) ∈ lw_tbl := lw_mem3 230 rfl
theorem kw_711 : (Jvm.Cond.classLink "EldestSaysLaw" (10 : Nat) "EldestSaysModel") ∈ lw_tbl := lw_mem3 231 rfl
theorem kw_712 : (Jvm.Cond.instantiable "EldestSaysModel" (33 : Nat)) ∈ lw_tbl := lw_mem3 232 rfl
theorem kw_713 : (Jvm.Cond.methodLink "EldestSaysLaw" (12 : Nat) ({ cls := "EldestSaysModel", name := "<init>", desc := "()V" } : Jvm.MethodName)) ∈ lw_tbl := lw_mem3 233 rfl
theorem kw_714 : (Jvm.Cond.instanceMethod ({ cls := "EldestSaysModel", name := "<init>", desc := "()V" } : Jvm.MethodName)) ∈ lw_tbl := lw_mem3 234 rfl
theorem kw_715 : (Jvm.Cond.code ({ cls := "EldestSaysModel", name := "<init>", desc := "()V" } : Jvm.MethodName) prog_14_method_1_code (1 : Nat) (Option.none : Option Jvm.ClassFile.FieldType)) ∈ lw_tbl := lw_mem3 235 rfl
theorem kw_716 : (Jvm.Cond.methodLink "EldestSaysModel" (1 : Nat) ({ cls := "java/lang/Object", name := "<init>", desc := "()V" } : Jvm.MethodName)) ∈ lw_tbl := lw_mem3 236 rfl
theorem kw_717 : (Jvm.Cond.fieldLink "EldestSaysModel" (7 : Nat) "EldestSaysModel" "refused" "[I") ∈ lw_tbl := lw_mem3 237 rfl
theorem kw_718 : (Jvm.Cond.fieldLink "EldestSaysModel" (13 : Nat) "EldestSaysModel" "kind" "[I") ∈ lw_tbl := lw_mem3 238 rfl
theorem kw_719 : (Jvm.Cond.fieldLink "EldestSaysModel" (16 : Nat) "EldestSaysModel" "figure" "[I") ∈ lw_tbl := lw_mem3 239 rfl
theorem kw_720 : (Jvm.Cond.fieldLink "EldestSaysModel" (19 : Nat) "EldestSaysModel" "weight" "[I") ∈ lw_tbl := lw_mem4 0 rfl
theorem kw_721 : (Jvm.Cond.fieldLink "EldestSaysModel" (22 : Nat) "EldestSaysModel" "got" "[I") ∈ lw_tbl := lw_mem4 1 rfl
theorem kw_722 : (Jvm.Cond.fieldLink "EldestSaysModel" (25 : Nat) "EldestSaysModel" "setting" "[I") ∈ lw_tbl := lw_mem4 2 rfl
theorem kw_723 : (Jvm.Cond.fieldLink "EldestSaysModel" (82 : Nat) "EldestSaysModel" "men" "I") ∈ lw_tbl := lw_mem4 3 rfl
theorem kw_724 : (Jvm.Cond.fieldLink "EldestSaysModel" (144 : Nat) "EldestSaysModel" "sayer" "I") ∈ lw_tbl := lw_mem4 4 rfl
theorem kw_725 : (Jvm.Cond.fieldLink "EldestSaysModel" (115 : Nat) "EldestSaysModel" "done" "I") ∈ lw_tbl := lw_mem4 5 rfl
theorem kw_726 : (Jvm.Cond.fieldLink "EldestSaysModel" (28 : Nat) "EldestSaysModel" "tape" "[I") ∈ lw_tbl := lw_mem4 6 rfl
theorem kw_727 : (Jvm.Cond.fieldLink "EldestSaysModel" (31 : Nat) "EldestSaysModel" "letter" "[I") ∈ lw_tbl := lw_mem4 7 rfl
theorem kw_728 : (Jvm.Cond.fieldLink "EldestSaysModel" (34 : Nat) "EldestSaysModel" "letterAt" "[I") ∈ lw_tbl := lw_mem4 8 rfl
theorem kw_729 : (Jvm.Cond.fieldLink "EldestSaysModel" (37 : Nat) "EldestSaysModel" "told" "[I") ∈ lw_tbl := lw_mem4 9 rfl
theorem kw_730 : (Jvm.Cond.fieldLink "EldestSaysModel" (90 : Nat) "EldestSaysModel" "taped" "I") ∈ lw_tbl := lw_mem4 10 rfl
theorem kw_731 : (Jvm.Cond.fieldLink "EldestSaysModel" (97 : Nat) "EldestSaysModel" "at" "I") ∈ lw_tbl := lw_mem4 11 rfl
theorem kw_732 : (Jvm.Cond.fieldLink "EldestSaysModel" (108 : Nat) "EldestSaysModel" "statements" "I") ∈ lw_tbl := lw_mem4 12 rfl
theorem kw_733 : (Jvm.Cond.fieldLink "EldestSaysModel" (40 : Nat) "EldestSaysModel" "kept" "[I") ∈ lw_tbl := lw_mem4 13 rfl
theorem kw_734 : (Jvm.Cond.fieldLink "EldestSaysModel" (147 : Nat) "EldestSaysModel" "hasImage" "Z") ∈ lw_tbl := lw_mem4 14 rfl
theorem kw_735 : (Jvm.Cond.fieldLink "EldestSaysModel" (130 : Nat) "EldestSaysModel" "isKeeping" "Z") ∈ lw_tbl := lw_mem4 15 rfl
theorem kw_736 : (Jvm.Cond.fieldLink "EldestSaysModel" (134 : Nat) "EldestSaysModel" "cursor" "I") ∈ lw_tbl := lw_mem4 16 rfl
theorem kw_737 : (Jvm.Cond.fieldLink "EldestSaysModel" (43 : Nat) "EldestSaysModel" "price" "[I") ∈ lw_tbl := lw_mem4 17 rfl
theorem kw_738 : (Jvm.Cond.fieldLink "EldestSaysModel" (46 : Nat) "EldestSaysModel" "offer" "[I") ∈ lw_tbl := lw_mem4 18 rfl
theorem kw_739 : (Jvm.Cond.fieldLink "EldestSaysModel" (49 : Nat) "EldestSaysModel" "gets" "[I") ∈ lw_tbl := lw_mem4 19 rfl
theorem kw_740 : (Jvm.Cond.fieldLink "EldestSaysModel" (52 : Nat) "EldestSaysModel" "yes" "[I") ∈ lw_tbl := lw_mem4 20 rfl
theorem kw_741 : (Jvm.Cond.fieldLink "EldestSaysModel" (55 : Nat) "EldestSaysModel" "buys" "[I") ∈ lw_tbl := lw_mem4 21 rfl
theorem kw_742 : (Jvm.Cond.fieldLink "EldestSaysModel" (58 : Nat) "EldestSaysModel" "ends" "[I") ∈ lw_tbl := lw_mem4 22 rfl
theorem kw_743 : (Jvm.Cond.fieldLink "EldestSaysModel" (61 : Nat) "EldestSaysModel" "carried" "[I") ∈ lw_tbl := lw_mem4 23 rfl
theorem kw_744 : (Jvm.Cond.fieldLink "EldestSaysModel" (64 : Nat) "EldestSaysModel" "row" "[I") ∈ lw_tbl := lw_mem4 24 rfl
theorem kw_745 : (Jvm.Cond.fieldLink "EldestSaysModel" (210 : Nat) "EldestSaysModel" "rowMany" "I") ∈ lw_tbl := lw_mem4 25 rfl
theorem kw_746 : (Jvm.Cond.fieldLink "EldestSaysModel" (67 : Nat) "EldestSaysModel" "keptRow" "[I") ∈ lw_tbl := lw_mem4 26 rfl
theorem kw_747 : (Jvm.Cond.fieldLink "EldestSaysModel" (70 : Nat) "EldestSaysModel" "likeGets" "[I") ∈ lw_tbl := lw_mem4 27 rfl
theorem kw_748 : (Jvm.Cond.fieldLink "EldestSaysModel" (73 : Nat) "EldestSaysModel" "likePrice" "[I") ∈ lw_tbl := lw_mem4 28 rfl
theorem kw_749 : (Jvm.Cond.fieldLink "EldestSaysModel" (76 : Nat) "EldestSaysModel" "ahead" "[I") ∈ lw_tbl := lw_mem4 29 rfl
theorem kw_750 : (Jvm.Cond.laysFinal "EldestSaysModel" "EldestSaysModel" "refused" "[I") ∈ lw_tbl := lw_mem4 30 rfl
theorem kw_751 : (Jvm.Cond.soleField "EldestSaysModel" "refused") ∈ lw_tbl := lw_mem4 31 rfl
theorem kw_752 : (Jvm.Cond.laysFinal "EldestSaysModel" "EldestSaysModel" "kind" "[I") ∈ lw_tbl := lw_mem4 32 rfl
theorem kw_753 : (Jvm.Cond.soleField "EldestSaysModel" "kind") ∈ lw_tbl := lw_mem4 33 rfl
theorem kw_754 : (Jvm.Cond.laysFinal "EldestSaysModel" "EldestSaysModel" "figure" "[I") ∈ lw_tbl := lw_mem4 34 rfl
theorem kw_755 : (Jvm.Cond.soleField "EldestSaysModel" "figure") ∈ lw_tbl := lw_mem4 35 rfl
theorem kw_756 : (Jvm.Cond.laysFinal "EldestSaysModel" "EldestSaysModel" "weight" "[I") ∈ lw_tbl := lw_mem4 36 rfl
theorem kw_757 : (Jvm.Cond.soleField "EldestSaysModel" "weight") ∈ lw_tbl := lw_mem4 37 rfl
theorem kw_758 : (Jvm.Cond.laysFinal "EldestSaysModel" "EldestSaysModel" "got" "[I") ∈ lw_tbl := lw_mem4 38 rfl
theorem kw_759 : (Jvm.Cond.soleField "EldestSaysModel" "got") ∈ lw_tbl := lw_mem4 39 rfl
theorem kw_760 : (Jvm.Cond.laysFinal "EldestSaysModel" "EldestSaysModel" "setting" "[I") ∈ lw_tbl := lw_mem4 40 rfl
theorem kw_761 : (Jvm.Cond.soleField "EldestSaysModel" "setting") ∈ lw_tbl := lw_mem4 41 rfl
theorem kw_762 : (Jvm.Cond.lays "EldestSaysModel" "EldestSaysModel" "men" "I") ∈ lw_tbl := lw_mem4 42 rfl
theorem kw_763 : (Jvm.Cond.soleField "EldestSaysModel" "men") ∈ lw_tbl := lw_mem4 43 rfl
theorem kw_764 : (Jvm.Cond.lays "EldestSaysModel" "EldestSaysModel" "sayer" "I") ∈ lw_tbl := lw_mem4 44 rfl
theorem kw_765 : (Jvm.Cond.soleField "EldestSaysModel" "sayer") ∈ lw_tbl := lw_mem4 45 rfl
theorem kw_766 : (Jvm.Cond.lays "EldestSaysModel" "EldestSaysModel" "done" "I") ∈ lw_tbl := lw_mem4 46 rfl
theorem kw_767 : (Jvm.Cond.soleField "EldestSaysModel" "done") ∈ lw_tbl := lw_mem4 47 rfl
theorem kw_768 : (Jvm.Cond.laysFinal "EldestSaysModel" "EldestSaysModel" "tape" "[I") ∈ lw_tbl := lw_mem4 48 rfl
theorem kw_769 : (Jvm.Cond.soleField "EldestSaysModel" "tape") ∈ lw_tbl := lw_mem4 49 rfl
theorem kw_770 : (Jvm.Cond.laysFinal "EldestSaysModel" "EldestSaysModel" "letter" "[I") ∈ lw_tbl := lw_mem4 50 rfl
theorem kw_771 : (Jvm.Cond.soleField "EldestSaysModel" "letter") ∈ lw_tbl := lw_mem4 51 rfl
theorem kw_772 : (Jvm.Cond.laysFinal "EldestSaysModel" "EldestSaysModel" "letterAt" "[I") ∈ lw_tbl := lw_mem4 52 rfl
theorem kw_773 : (Jvm.Cond.soleField "EldestSaysModel" "letterAt") ∈ lw_tbl := lw_mem4 53 rfl
theorem kw_774 : (Jvm.Cond.laysFinal "EldestSaysModel" "EldestSaysModel" "told" "[I") ∈ lw_tbl := lw_mem4 54 rfl
theorem kw_775 : (Jvm.Cond.soleField "EldestSaysModel" "told") ∈ lw_tbl := lw_mem4 55 rfl
theorem kw_776 : (Jvm.Cond.lays "EldestSaysModel" "EldestSaysModel" "taped" "I") ∈ lw_tbl := lw_mem4 56 rfl
theorem kw_777 : (Jvm.Cond.soleField "EldestSaysModel" "taped") ∈ lw_tbl := lw_mem4 57 rfl
theorem kw_778 : (Jvm.Cond.lays "EldestSaysModel" "EldestSaysModel" "at" "I") ∈ lw_tbl := lw_mem4 58 rfl
theorem kw_779 : (Jvm.Cond.soleField "EldestSaysModel" "at") ∈ lw_tbl := lw_mem4 59 rfl
theorem kw_780 : (Jvm.Cond.lays "EldestSaysModel" "EldestSaysModel" "statements" "I") ∈ lw_tbl := lw_mem4 60 rfl
theorem kw_781 : (Jvm.Cond.soleField "EldestSaysModel" "statements") ∈ lw_tbl := lw_mem4 61 rfl
theorem kw_782 : (Jvm.Cond.laysFinal "EldestSaysModel" "EldestSaysModel" "kept" "[I") ∈ lw_tbl := lw_mem4 62 rfl
theorem kw_783 : (Jvm.Cond.soleField "EldestSaysModel" "kept") ∈ lw_tbl := lw_mem4 63 rfl
theorem kw_784 : (Jvm.Cond.lays "EldestSaysModel" "EldestSaysModel" "hasImage" "Z") ∈ lw_tbl := lw_mem4 64 rfl
theorem kw_785 : (Jvm.Cond.soleField "EldestSaysModel" "hasImage") ∈ lw_tbl := lw_mem4 65 rfl
theorem kw_786 : (Jvm.Cond.lays "EldestSaysModel" "EldestSaysModel" "isKeeping" "Z") ∈ lw_tbl := lw_mem4 66 rfl
theorem kw_787 : (Jvm.Cond.soleField "EldestSaysModel" "isKeeping") ∈ lw_tbl := lw_mem4 67 rfl
theorem kw_788 : (Jvm.Cond.lays "EldestSaysModel" "EldestSaysModel" "cursor" "I") ∈ lw_tbl := lw_mem4 68 rfl
theorem kw_789 : (Jvm.Cond.soleField "EldestSaysModel" "cursor") ∈ lw_tbl := lw_mem4 69 rfl
theorem kw_790 : (Jvm.Cond.laysFinal "EldestSaysModel" "EldestSaysModel" "price" "[I") ∈ lw_tbl := lw_mem4 70 rfl
theorem kw_791 : (Jvm.Cond.soleField "EldestSaysModel" "price") ∈ lw_tbl := lw_mem4 71 rfl
theorem kw_792 : (Jvm.Cond.laysFinal "EldestSaysModel" "EldestSaysModel" "offer" "[I") ∈ lw_tbl := lw_mem4 72 rfl
theorem kw_793 : (Jvm.Cond.soleField "EldestSaysModel" "offer") ∈ lw_tbl := lw_mem4 73 rfl
theorem kw_794 : (Jvm.Cond.laysFinal "EldestSaysModel" "EldestSaysModel" "gets" "[I") ∈ lw_tbl := lw_mem4 74 rfl
theorem kw_795 : (Jvm.Cond.soleField "EldestSaysModel" "gets") ∈ lw_tbl := lw_mem4 75 rfl
theorem kw_796 : (Jvm.Cond.laysFinal "EldestSaysModel" "EldestSaysModel" "yes" "[I") ∈ lw_tbl := lw_mem4 76 rfl
theorem kw_797 : (Jvm.Cond.soleField "EldestSaysModel" "yes") ∈ lw_tbl := lw_mem4 77 rfl
theorem kw_798 : (Jvm.Cond.laysFinal "EldestSaysModel" "EldestSaysModel" "buys" "[I") ∈ lw_tbl := lw_mem4 78 rfl
theorem kw_799 : (Jvm.Cond.soleField "EldestSaysModel" "buys") ∈ lw_tbl := lw_mem4 79 rfl
theorem kw_800 : (Jvm.Cond.laysFinal "EldestSaysModel" "EldestSaysModel" "ends" "[I") ∈ lw_tbl := lw_mem4 80 rfl
theorem kw_801 : (Jvm.Cond.soleField "EldestSaysModel" "ends") ∈ lw_tbl := lw_mem4 81 rfl
theorem kw_802 : (Jvm.Cond.laysFinal "EldestSaysModel" "EldestSaysModel" "carried" "[I") ∈ lw_tbl := lw_mem4 82 rfl
theorem kw_803 : (Jvm.Cond.soleField "EldestSaysModel" "carried") ∈ lw_tbl := lw_mem4 83 rfl
theorem kw_804 : (Jvm.Cond.laysFinal "EldestSaysModel" "EldestSaysModel" "row" "[I") ∈ lw_tbl := lw_mem4 84 rfl
theorem kw_805 : (Jvm.Cond.soleField "EldestSaysModel" "row") ∈ lw_tbl := lw_mem4 85 rfl
theorem kw_806 : (Jvm.Cond.lays "EldestSaysModel" "EldestSaysModel" "rowMany" "I") ∈ lw_tbl := lw_mem4 86 rfl
theorem kw_807 : (Jvm.Cond.soleField "EldestSaysModel" "rowMany") ∈ lw_tbl := lw_mem4 87 rfl
theorem kw_808 : (Jvm.Cond.laysFinal "EldestSaysModel" "EldestSaysModel" "keptRow" "[I") ∈ lw_tbl := lw_mem4 88 rfl
theorem kw_809 : (Jvm.Cond.soleField "EldestSaysModel" "keptRow") ∈ lw_tbl := lw_mem4 89 rfl
theorem kw_810 : (Jvm.Cond.laysFinal "EldestSaysModel" "EldestSaysModel" "likeGets" "[I") ∈ lw_tbl := lw_mem4 90 rfl
theorem kw_811 : (Jvm.Cond.soleField "EldestSaysModel" "likeGets") ∈ lw_tbl := lw_mem4 91 rfl
theorem kw_812 : (Jvm.Cond.laysFinal "EldestSaysModel" "EldestSaysModel" "likePrice" "[I") ∈ lw_tbl := lw_mem4 92 rfl
theorem kw_813 : (Jvm.Cond.soleField "EldestSaysModel" "likePrice") ∈ lw_tbl := lw_mem4 93 rfl
theorem kw_814 : (Jvm.Cond.laysFinal "EldestSaysModel" "EldestSaysModel" "ahead" "[I") ∈ lw_tbl := lw_mem4 94 rfl
theorem kw_815 : (Jvm.Cond.soleField "EldestSaysModel" "ahead") ∈ lw_tbl := lw_mem4 95 rfl
theorem kw_816 : (Jvm.Cond.superclass "EldestSaysModel" "java/lang/Object") ∈ lw_tbl := lw_mem4 96 rfl
theorem kw_817 : (Jvm.Cond.methodLink "EldestSaysLaw" (17 : Nat) ({ cls := "EldestSaysModel", name := "feed", desc := "(I)I" } : Jvm.MethodName)) ∈ lw_tbl := lw_mem4 97 rfl
theorem kw_818 : (Jvm.Cond.instanceMethod ({ cls := "EldestSaysModel", name := "feed", desc := "(I)I" } : Jvm.MethodName)) ∈ lw_tbl := lw_mem4 98 rfl
theorem kw_819 : (Jvm.Cond.selects "EldestSaysModel" ({ cls := "EldestSaysModel", name := "feed", desc := "(I)I" } : Jvm.MethodName) ({ cls := "EldestSaysModel", name := "feed", desc := "(I)I" } : Jvm.MethodName)) ∈ lw_tbl := lw_mem4 99 rfl
theorem kw_820 : (Jvm.Cond.code ({ cls := "EldestSaysModel", name := "feed", desc := "(I)I" } : Jvm.MethodName) prog_14_method_8_code (3 : Nat) (Option.some Jvm.ClassFile.FieldType.int)) ∈ lw_tbl := lw_mem4 100 rfl
theorem kw_821 : (Jvm.Cond.methodLink "EldestSaysModel" (86 : Nat) ({ cls := "EldestSaysModel", name := "bound", desc := "(III)I" } : Jvm.MethodName)) ∈ lw_tbl := lw_mem4 101 rfl
theorem kw_822 : (Jvm.Cond.static ({ cls := "EldestSaysModel", name := "bound", desc := "(III)I" } : Jvm.MethodName)) ∈ lw_tbl := lw_mem4 102 rfl
theorem kw_823 : (Jvm.Cond.code ({ cls := "EldestSaysModel", name := "bound", desc := "(III)I" } : Jvm.MethodName) prog_14_method_6_code (3 : Nat) (Option.some Jvm.ClassFile.FieldType.int)) ∈ lw_tbl := lw_mem4 103 rfl
theorem kw_824 : (Jvm.Cond.methodLink "EldestSaysModel" (93 : Nat) ({ cls := "EldestSaysModel", name := "no", desc := "(I)I" } : Jvm.MethodName)) ∈ lw_tbl := lw_mem4 104 rfl
theorem kw_825 : (Jvm.Cond.privateMethod ({ cls := "EldestSaysModel", name := "no", desc := "(I)I" } : Jvm.MethodName)) ∈ lw_tbl := lw_mem4 105 rfl
theorem kw_826 : (Jvm.Cond.instanceMethod ({ cls := "EldestSaysModel", name := "no", desc := "(I)I" } : Jvm.MethodName)) ∈ lw_tbl := lw_mem4 106 rfl
theorem kw_827 : (Jvm.Cond.code ({ cls := "EldestSaysModel", name := "no", desc := "(I)I" } : Jvm.MethodName) prog_14_method_2_code (2 : Nat) (Option.some Jvm.ClassFile.FieldType.int)) ∈ lw_tbl := lw_mem4 107 rfl
theorem kw_828 : (Jvm.Cond.methodLink "EldestSaysLaw" (22 : Nat) ({ cls := "EldestSaysModel", name := "beach", desc := "()I" } : Jvm.MethodName)) ∈ lw_tbl := lw_mem4 108 rfl
theorem kw_829 : (Jvm.Cond.instanceMethod ({ cls := "EldestSaysModel", name := "beach", desc := "()I" } : Jvm.MethodName)) ∈ lw_tbl := lw_mem4 109 rfl
theorem kw_830 : (Jvm.Cond.selects "EldestSaysModel" ({ cls := "EldestSaysModel", name := "beach", desc := "()I" } : Jvm.MethodName) ({ cls := "EldestSaysModel", name := "beach", desc := "()I" } : Jvm.MethodName)) ∈ lw_tbl := lw_mem4 110 rfl
theorem kw_831 : (Jvm.Cond.code ({ cls := "EldestSaysModel", name := "beach", desc := "()I" } : Jvm.MethodName) prog_14_method_13_code (3 : Nat) (Option.some Jvm.ClassFile.FieldType.int)) ∈ lw_tbl := lw_mem4 111 rfl
theorem kw_832 : (Jvm.Cond.methodLink "EldestSaysModel" (118 : Nat) ({ cls := "EldestSaysModel", name := "statement", desc := "()Z" } : Jvm.MethodName)) ∈ lw_tbl := lw_mem4 112 rfl
theorem kw_833 : (Jvm.Cond.privateMethod ({ cls := "EldestSaysModel", name := "statement", desc := "()Z" } : Jvm.MethodName)) ∈ lw_tbl := lw_mem4 113 rfl
theorem kw_834 : (Jvm.Cond.instanceMethod ({ cls := "EldestSaysModel", name := "statement", desc := "()Z" } : Jvm.MethodName)) ∈ lw_tbl := lw_mem4 114 rfl
theorem kw_835 : (Jvm.Cond.code ({ cls := "EldestSaysModel", name := "statement", desc := "()Z" } : Jvm.MethodName) prog_14_method_11_code (4 : Nat) (Option.some Jvm.ClassFile.FieldType.boolean)) ∈ lw_tbl := lw_mem4 115 rfl
theorem kw_836 : (Jvm.Cond.methodLink "EldestSaysModel" (100 : Nat) ({ cls := "EldestSaysModel", name := "next", desc := "()I" } : Jvm.MethodName)) ∈ lw_tbl := lw_mem4 116 rfl
theorem kw_837 : (Jvm.Cond.privateMethod ({ cls := "EldestSaysModel", name := "next", desc := "()I" } : Jvm.MethodName)) ∈ lw_tbl := lw_mem4 117 rfl
theorem kw_838 : (Jvm.Cond.instanceMethod ({ cls := "EldestSaysModel", name := "next", desc := "()I" } : Jvm.MethodName)) ∈ lw_tbl := lw_mem4 118 rfl
theorem kw_839 : (Jvm.Cond.code ({ cls := "EldestSaysModel", name := "next", desc := "()I" } : Jvm.MethodName) prog_14_method_9_code (1 : Nat) (Option.some Jvm.ClassFile.FieldType.int)) ∈ lw_tbl := lw_mem4 119 rfl
theorem kw_840 : (Jvm.Cond.methodLink "EldestSaysModel" (111 : Nat) ({ cls := "EldestSaysModel", name := "reads", desc := "(II)Z" } : Jvm.MethodName)) ∈ lw_tbl := lw_mem4 120 rfl
theorem kw_841 : (Jvm.Cond.privateMethod ({ cls := "EldestSaysModel", name := "reads", desc := "(II)Z" } : Jvm.MethodName)) ∈ lw_tbl := lw_mem4 121 rfl
theorem kw_842 : (Jvm.Cond.instanceMethod ({ cls := "EldestSaysModel", name := "reads", desc := "(II)Z" } : Jvm.MethodName)) ∈ lw_tbl := lw_mem4 122 rfl
theorem kw_843 : (Jvm.Cond.code ({ cls := "EldestSaysModel", name := "reads", desc := "(II)Z" } : Jvm.MethodName) prog_14_method_10_code (5 : Nat) (Option.some Jvm.ClassFile.FieldType.boolean)) ∈ lw_tbl := lw_mem4 123 rfl
theorem kw_844 : (Jvm.Cond.methodLink "EldestSaysModel" (104 : Nat) ({ cls := "EldestSaysModel", name := "isIn", desc := "(III)Z" } : Jvm.MethodName)) ∈ lw_tbl := lw_mem4 124 rfl
theorem kw_845 : (Jvm.Cond.static ({ cls := "EldestSaysModel", name := "isIn", desc := "(III)Z" } : Jvm.MethodName)) ∈ lw_tbl := lw_mem4 125 rfl
theorem kw_846 : (Jvm.Cond.code ({ cls := "EldestSaysModel", name := "isIn", desc := "(III)Z" } : Jvm.MethodName) prog_14_method_5_code (3 : Nat) (Option.some Jvm.ClassFile.FieldType.boolean)) ∈ lw_tbl := lw_mem4 126 rfl
theorem kw_847 : (Jvm.Cond.methodLink "EldestSaysModel" (122 : Nat) ({ cls := "EldestSaysModel", name := "passesAll", desc := "(IZ)V" } : Jvm.MethodName)) ∈ lw_tbl := lw_mem4 127 rfl
theorem kw_848 : (Jvm.Cond.privateMethod ({ cls := "EldestSaysModel", name := "passesAll", desc := "(IZ)V" } : Jvm.MethodName)) ∈ lw_tbl := lw_mem4 128 rfl
theorem kw_849 : (Jvm.Cond.instanceMethod ({ cls := "EldestSaysModel", name := "passesAll", desc := "(IZ)V" } : Jvm.MethodName)) ∈ lw_tbl := lw_mem4 129 rfl
theorem kw_850 : (Jvm.Cond.code ({ cls := "EldestSaysModel", name := "passesAll", desc := "(IZ)V" } : Jvm.MethodName) prog_14_method_16_code (3 : Nat) (Option.none : Option Jvm.ClassFile.FieldType)) ∈ lw_tbl := lw_mem4 130 rfl
theorem kw_851 : (Jvm.Cond.methodLink "EldestSaysModel" (137 : Nat) ({ cls := "EldestSaysModel", name := "passes", desc := "([I)V" } : Jvm.MethodName)) ∈ lw_tbl := lw_mem4 131 rfl
theorem kw_852 : (Jvm.Cond.privateMethod ({ cls := "EldestSaysModel", name := "passes", desc := "([I)V" } : Jvm.MethodName)) ∈ lw_tbl := lw_mem4 132 rfl
theorem kw_853 : (Jvm.Cond.instanceMethod ({ cls := "EldestSaysModel", name := "passes", desc := "([I)V" } : Jvm.MethodName)) ∈ lw_tbl := lw_mem4 133 rfl
theorem kw_854 : (Jvm.Cond.code ({ cls := "EldestSaysModel", name := "passes", desc := "([I)V" } : Jvm.MethodName) prog_14_method_14_code (3 : Nat) (Option.none : Option Jvm.ClassFile.FieldType)) ∈ lw_tbl := lw_mem4 134 rfl
theorem kw_855 : (Jvm.Cond.methodLink "EldestSaysModel" (141 : Nat) ({ cls := "EldestSaysModel", name := "passOne", desc := "(I)I" } : Jvm.MethodName)) ∈ lw_tbl := lw_mem4 135 rfl
theorem kw_856 : (Jvm.Cond.privateMethod ({ cls := "EldestSaysModel", name := "passOne", desc := "(I)I" } : Jvm.MethodName)) ∈ lw_tbl := lw_mem4 136 rfl
theorem kw_857 : (Jvm.Cond.instanceMethod ({ cls := "EldestSaysModel", name := "passOne", desc := "(I)I" } : Jvm.MethodName)) ∈ lw_tbl := lw_mem4 137 rfl
theorem kw_858 : (Jvm.Cond.code ({ cls := "EldestSaysModel", name := "passOne", desc := "(I)I" } : Jvm.MethodName) prog_14_method_15_code (3 : Nat) (Option.some Jvm.ClassFile.FieldType.int)) ∈ lw_tbl := lw_mem4 138 rfl
theorem kw_859 : (Jvm.Cond.methodLink "EldestSaysModel" (126 : Nat) ({ cls := "EldestSaysModel", name := "comes", desc := "(I)Z" } : Jvm.MethodName)) ∈ lw_tbl := lw_mem4 139 rfl
theorem kw_860 : (Jvm.Cond.privateMethod ({ cls := "EldestSaysModel", name := "comes", desc := "(I)Z" } : Jvm.MethodName)) ∈ lw_tbl := lw_mem4 140 rfl
theorem kw_861 : (Jvm.Cond.instanceMethod ({ cls := "EldestSaysModel", name := "comes", desc := "(I)Z" } : Jvm.MethodName)) ∈ lw_tbl := lw_mem4 141 rfl
theorem kw_862 : (Jvm.Cond.code ({ cls := "EldestSaysModel", name := "comes", desc := "(I)Z" } : Jvm.MethodName) prog_14_method_12_code (4 : Nat) (Option.some Jvm.ClassFile.FieldType.boolean)) ∈ lw_tbl := lw_mem4 142 rfl
theorem kw_863 : (Jvm.Cond.methodLink "EldestSaysLaw" (126 : Nat) ({ cls := "EldestSaysModel", name := "image", desc := "()I" } : Jvm.MethodName)) ∈ lw_tbl := lw_mem4 143 rfl
theorem kw_864 : (Jvm.Cond.instanceMethod ({ cls := "EldestSaysModel", name := "image", desc := "()I" } : Jvm.MethodName)) ∈ lw_tbl := lw_mem4 144 rfl
theorem kw_865 : (Jvm.Cond.selects "EldestSaysModel" ({ cls := "EldestSaysModel", name := "image", desc := "()I" } : Jvm.MethodName) ({ cls := "EldestSaysModel", name := "image", desc := "()I" } : Jvm.MethodName)) ∈ lw_tbl := lw_mem4 145 rfl
theorem kw_866 : (Jvm.Cond.code ({ cls := "EldestSaysModel", name := "image", desc := "()I" } : Jvm.MethodName) prog_14_method_17_code (1 : Nat) (Option.some Jvm.ClassFile.FieldType.int)) ∈ lw_tbl := lw_mem4 146 rfl
theorem kw_867 : (Jvm.Cond.methodLink "EldestSaysLaw" (130 : Nat) ({ cls := "EldestSaysModel", name := "restore", desc := "()I" } : Jvm.MethodName)) ∈ lw_tbl := lw_mem4 147 rfl
theorem kw_868 : (Jvm.Cond.instanceMethod ({ cls := "EldestSaysModel", name := "restore", desc := "()I" } : Jvm.MethodName)) ∈ lw_tbl := lw_mem4 148 rfl
theorem kw_869 : (Jvm.Cond.selects "EldestSaysModel" ({ cls := "EldestSaysModel", name := "restore", desc := "()I" } : Jvm.MethodName) ({ cls := "EldestSaysModel", name := "restore", desc := "()I" } : Jvm.MethodName)) ∈ lw_tbl := lw_mem4 149 rfl
theorem kw_870 : (Jvm.Cond.code ({ cls := "EldestSaysModel", name := "restore", desc := "()I" } : Jvm.MethodName) prog_14_method_18_code (1 : Nat) (Option.some Jvm.ClassFile.FieldType.int)) ∈ lw_tbl := lw_mem4 150 rfl
theorem kw_871 : (Jvm.Cond.methodLink "EldestSaysLaw" (27 : Nat) ({ cls := "EldestSaysModel", name := "man", desc := "(II)I" } : Jvm.MethodName)) ∈ lw_tbl := lw_mem4 151 rfl
theorem kw_872 : (Jvm.Cond.instanceMethod ({ cls := "EldestSaysModel", name := "man", desc := "(II)I" } : Jvm.MethodName)) ∈ lw_tbl := lw_mem4 152 rfl
theorem kw_873 : (Jvm.Cond.selects "EldestSaysModel" ({ cls := "EldestSaysModel", name := "man", desc := "(II)I" } : Jvm.MethodName) ({ cls := "EldestSaysModel", name := "man", desc := "(II)I" } : Jvm.MethodName)) ∈ lw_tbl := lw_mem4 153 rfl
theorem kw_874 : (Jvm.Cond.code ({ cls := "EldestSaysModel", name := "man", desc := "(II)I" } : Jvm.MethodName) prog_14_method_19_code (3 : Nat) (Option.some Jvm.ClassFile.FieldType.int)) ∈ lw_tbl := lw_mem4 154 rfl
theorem kw_875 : (Jvm.Cond.methodLink "EldestSaysModel" (150 : Nat) ({ cls := "EldestSaysModel", name := "isMan", desc := "(I)Z" } : Jvm.MethodName)) ∈ lw_tbl := lw_mem4 155 rfl
theorem kw_876 : (Jvm.Cond.privateMethod ({ cls := "EldestSaysModel", name := "isMan", desc := "(I)Z" } : Jvm.MethodName)) ∈ lw_tbl := lw_mem4 156 rfl
theorem kw_877 : (Jvm.Cond.instanceMethod ({ cls := "EldestSaysModel", name := "isMan", desc := "(I)Z" } : Jvm.MethodName)) ∈ lw_tbl := lw_mem4 157 rfl
theorem kw_878 : (Jvm.Cond.code ({ cls := "EldestSaysModel", name := "isMan", desc := "(I)Z" } : Jvm.MethodName) prog_14_method_7_code (2 : Nat) (Option.some Jvm.ClassFile.FieldType.boolean)) ∈ lw_tbl := lw_mem4 158 rfl
theorem kw_879 : (Jvm.Cond.methodLink "EldestSaysLaw" (31 : Nat) ({ cls := "EldestSaysModel", name := "set", desc := "(II)I" } : Jvm.MethodName)) ∈ lw_tbl := lw_mem4 159 rfl
theorem kw_880 : (Jvm.Cond.instanceMethod ({ cls := "EldestSaysModel", name := "set", desc := "(II)I" } : Jvm.MethodName)) ∈ lw_tbl := lw_mem4 160 rfl
theorem kw_881 : (Jvm.Cond.selects "EldestSaysModel" ({ cls := "EldestSaysModel", name := "set", desc := "(II)I" } : Jvm.MethodName) ({ cls := "EldestSaysModel", name := "set", desc := "(II)I" } : Jvm.MethodName)) ∈ lw_tbl := lw_mem4 161 rfl
theorem kw_882 : (Jvm.Cond.code ({ cls := "EldestSaysModel", name := "set", desc := "(II)I" } : Jvm.MethodName) prog_14_method_20_code (5 : Nat) (Option.some Jvm.ClassFile.FieldType.int)) ∈ lw_tbl := lw_mem4 162 rfl
theorem kw_883 : (Jvm.Cond.fieldLink "EldestSaysModel" (153 : Nat) "EldestSaysModel" "MOST_SET" "[I") ∈ lw_tbl := lw_mem4 163 rfl
theorem kw_884 : (Jvm.Cond.laysStatic "EldestSaysModel" "MOST_SET" "[I") ∈ lw_tbl := lw_mem4 164 rfl
theorem kw_885 : (Jvm.Cond.methodLink "EldestSaysLaw" (35 : Nat) ({ cls := "EldestSaysModel", name := "offered", desc := "(II)I" } : Jvm.MethodName)) ∈ lw_tbl := lw_mem4 165 rfl
theorem kw_886 : (Jvm.Cond.instanceMethod ({ cls := "EldestSaysModel", name := "offered", desc := "(II)I" } : Jvm.MethodName)) ∈ lw_tbl := lw_mem4 166 rfl
theorem kw_887 : (Jvm.Cond.selects "EldestSaysModel" ({ cls := "EldestSaysModel", name := "offered", desc := "(II)I" } : Jvm.MethodName) ({ cls := "EldestSaysModel", name := "offered", desc := "(II)I" } : Jvm.MethodName)) ∈ lw_tbl := lw_mem4 167 rfl
theorem kw_888 : (Jvm.Cond.code ({ cls := "EldestSaysModel", name := "offered", desc := "(II)I" } : Jvm.MethodName) prog_14_method_37_code (3 : Nat) (Option.some Jvm.ClassFile.FieldType.int)) ∈ lw_tbl := lw_mem4 168 rfl
theorem kw_889 : (Jvm.Cond.methodLink "EldestSaysModel" (201 : Nat) ({ cls := "EldestSaysModel", name := "areInOrder", desc := "(II)Z" } : Jvm.MethodName)) ∈ lw_tbl := lw_mem4 169 rfl
theorem kw_890 : (Jvm.Cond.privateMethod ({ cls := "EldestSaysModel", name := "areInOrder", desc := "(II)Z" } : Jvm.MethodName)) ∈ lw_tbl := lw_mem4 170 rfl
theorem kw_891 : (Jvm.Cond.instanceMethod ({ cls := "EldestSaysModel", name := "areInOrder", desc := "(II)Z" } : Jvm.MethodName)) ∈ lw_tbl := lw_mem4 171 rfl
theorem kw_892 : (Jvm.Cond.code ({ cls := "EldestSaysModel", name := "areInOrder", desc := "(II)Z" } : Jvm.MethodName) prog_14_method_36_code (3 : Nat) (Option.some Jvm.ClassFile.FieldType.boolean)) ∈ lw_tbl := lw_mem4 172 rfl
theorem kw_893 : (Jvm.Cond.methodLink "EldestSaysModel" (204 : Nat) ({ cls := "EldestSaysModel", name := "solvesAll", desc := "()V" } : Jvm.MethodName)) ∈ lw_tbl := lw_mem4 173 rfl
theorem kw_894 : (Jvm.Cond.privateMethod ({ cls := "EldestSaysModel", name := "solvesAll", desc := "()V" } : Jvm.MethodName)) ∈ lw_tbl := lw_mem4 174 rfl

end

section
/-! 03.words03 -/
theorem kw_895 : (Jvm.Cond.instanceMethod ({ cls := "EldestSaysModel", name := "solvesAll", desc := "()V" } : Jvm.MethodName)) ∈ lw_tbl := lw_mem4 175 rfl
theorem kw_896 : (Jvm.Cond.code ({ cls := "EldestSaysModel", name := "solvesAll", desc := "()V" } : Jvm.MethodName) prog_14_method_35_code (2 : Nat) (Option.none : Option Jvm.ClassFile.FieldType)) ∈ lw_tbl := lw_mem4 176 rfl
theorem kw_897 : (Jvm.Cond.methodLink "EldestSaysModel" (198 : Nat) ({ cls := "EldestSaysModel", name := "solves", desc := "(I)V" } : Jvm.MethodName)) ∈ lw_tbl := lw_mem4 177 rfl
theorem kw_898 : (Jvm.Cond.privateMethod ({ cls := "EldestSaysModel", name := "solves", desc := "(I)V" } : Jvm.MethodName)) ∈ lw_tbl := lw_mem4 178 rfl
theorem kw_899 : (Jvm.Cond.instanceMethod ({ cls := "EldestSaysModel", name := "solves", desc := "(I)V" } : Jvm.MethodName)) ∈ lw_tbl := lw_mem4 179 rfl
theorem kw_900 : (Jvm.Cond.code ({ cls := "EldestSaysModel", name := "solves", desc := "(I)V" } : Jvm.MethodName) prog_14_method_34_code (3 : Nat) (Option.none : Option Jvm.ClassFile.FieldType)) ∈ lw_tbl := lw_mem4 180 rfl
theorem kw_901 : (Jvm.Cond.methodLink "EldestSaysModel" (191 : Nat) ({ cls := "EldestSaysModel", name := "priceOf", desc := "(II)I" } : Jvm.MethodName)) ∈ lw_tbl := lw_mem4 181 rfl
theorem kw_902 : (Jvm.Cond.privateMethod ({ cls := "EldestSaysModel", name := "priceOf", desc := "(II)I" } : Jvm.MethodName)) ∈ lw_tbl := lw_mem4 182 rfl
theorem kw_903 : (Jvm.Cond.instanceMethod ({ cls := "EldestSaysModel", name := "priceOf", desc := "(II)I" } : Jvm.MethodName)) ∈ lw_tbl := lw_mem4 183 rfl
theorem kw_904 : (Jvm.Cond.code ({ cls := "EldestSaysModel", name := "priceOf", desc := "(II)I" } : Jvm.MethodName) prog_14_method_25_code (5 : Nat) (Option.some Jvm.ClassFile.FieldType.int)) ∈ lw_tbl := lw_mem4 184 rfl
theorem kw_905 : (Jvm.Cond.methodLink "EldestSaysModel" (156 : Nat) ({ cls := "EldestSaysModel", name := "above", desc := "(I)I" } : Jvm.MethodName)) ∈ lw_tbl := lw_mem4 185 rfl
theorem kw_906 : (Jvm.Cond.static ({ cls := "EldestSaysModel", name := "above", desc := "(I)I" } : Jvm.MethodName)) ∈ lw_tbl := lw_mem4 186 rfl
theorem kw_907 : (Jvm.Cond.code ({ cls := "EldestSaysModel", name := "above", desc := "(I)I" } : Jvm.MethodName) prog_14_method_24_code (1 : Nat) (Option.some Jvm.ClassFile.FieldType.int)) ∈ lw_tbl := lw_mem4 187 rfl
theorem kw_908 : (Jvm.Cond.methodLink "EldestSaysModel" (194 : Nat) ({ cls := "EldestSaysModel", name := "findOffer", desc := "(I)V" } : Jvm.MethodName)) ∈ lw_tbl := lw_mem4 188 rfl
theorem kw_909 : (Jvm.Cond.privateMethod ({ cls := "EldestSaysModel", name := "findOffer", desc := "(I)V" } : Jvm.MethodName)) ∈ lw_tbl := lw_mem4 189 rfl
theorem kw_910 : (Jvm.Cond.instanceMethod ({ cls := "EldestSaysModel", name := "findOffer", desc := "(I)V" } : Jvm.MethodName)) ∈ lw_tbl := lw_mem4 190 rfl
theorem kw_911 : (Jvm.Cond.code ({ cls := "EldestSaysModel", name := "findOffer", desc := "(I)V" } : Jvm.MethodName) prog_14_method_33_code (3 : Nat) (Option.none : Option Jvm.ClassFile.FieldType)) ∈ lw_tbl := lw_mem4 191 rfl
theorem kw_912 : (Jvm.Cond.methodLink "EldestSaysModel" (182 : Nat) ({ cls := "EldestSaysModel", name := "doesBuy", desc := "(I)Z" } : Jvm.MethodName)) ∈ lw_tbl := lw_mem4 192 rfl
theorem kw_913 : (Jvm.Cond.static ({ cls := "EldestSaysModel", name := "doesBuy", desc := "(I)Z" } : Jvm.MethodName)) ∈ lw_tbl := lw_mem4 193 rfl
theorem kw_914 : (Jvm.Cond.code ({ cls := "EldestSaysModel", name := "doesBuy", desc := "(I)Z" } : Jvm.MethodName) prog_14_method_32_code (1 : Nat) (Option.some Jvm.ClassFile.FieldType.boolean)) ∈ lw_tbl := lw_mem4 194 rfl
theorem kw_915 : (Jvm.Cond.methodLink "EldestSaysModel" (185 : Nat) ({ cls := "EldestSaysModel", name := "buysBy", desc := "(I)I" } : Jvm.MethodName)) ∈ lw_tbl := lw_mem4 195 rfl
theorem kw_916 : (Jvm.Cond.privateMethod ({ cls := "EldestSaysModel", name := "buysBy", desc := "(I)I" } : Jvm.MethodName)) ∈ lw_tbl := lw_mem4 196 rfl
theorem kw_917 : (Jvm.Cond.instanceMethod ({ cls := "EldestSaysModel", name := "buysBy", desc := "(I)I" } : Jvm.MethodName)) ∈ lw_tbl := lw_mem4 197 rfl
theorem kw_918 : (Jvm.Cond.code ({ cls := "EldestSaysModel", name := "buysBy", desc := "(I)I" } : Jvm.MethodName) prog_14_method_29_code (6 : Nat) (Option.some Jvm.ClassFile.FieldType.int)) ∈ lw_tbl := lw_mem4 198 rfl
theorem kw_919 : (Jvm.Cond.methodLink "EldestSaysModel" (159 : Nat) ({ cls := "EldestSaysModel", name := "leftFrom", desc := "(I)I" } : Jvm.MethodName)) ∈ lw_tbl := lw_mem4 199 rfl
theorem kw_920 : (Jvm.Cond.privateMethod ({ cls := "EldestSaysModel", name := "leftFrom", desc := "(I)I" } : Jvm.MethodName)) ∈ lw_tbl := lw_mem4 200 rfl
theorem kw_921 : (Jvm.Cond.instanceMethod ({ cls := "EldestSaysModel", name := "leftFrom", desc := "(I)I" } : Jvm.MethodName)) ∈ lw_tbl := lw_mem4 201 rfl
theorem kw_922 : (Jvm.Cond.code ({ cls := "EldestSaysModel", name := "leftFrom", desc := "(I)I" } : Jvm.MethodName) prog_14_method_23_code (2 : Nat) (Option.some Jvm.ClassFile.FieldType.int)) ∈ lw_tbl := lw_mem4 202 rfl
theorem kw_923 : (Jvm.Cond.methodLink "EldestSaysModel" (162 : Nat) ({ cls := "EldestSaysModel", name := "unbought", desc := "(I)I" } : Jvm.MethodName)) ∈ lw_tbl := lw_mem4 203 rfl
theorem kw_924 : (Jvm.Cond.privateMethod ({ cls := "EldestSaysModel", name := "unbought", desc := "(I)I" } : Jvm.MethodName)) ∈ lw_tbl := lw_mem4 204 rfl
theorem kw_925 : (Jvm.Cond.instanceMethod ({ cls := "EldestSaysModel", name := "unbought", desc := "(I)I" } : Jvm.MethodName)) ∈ lw_tbl := lw_mem4 205 rfl
theorem kw_926 : (Jvm.Cond.code ({ cls := "EldestSaysModel", name := "unbought", desc := "(I)I" } : Jvm.MethodName) prog_14_method_27_code (4 : Nat) (Option.some Jvm.ClassFile.FieldType.int)) ∈ lw_tbl := lw_mem4 206 rfl
theorem kw_927 : (Jvm.Cond.methodLink "EldestSaysModel" (165 : Nat) ({ cls := "EldestSaysModel", name := "weightOf", desc := "(I)I" } : Jvm.MethodName)) ∈ lw_tbl := lw_mem4 207 rfl
theorem kw_928 : (Jvm.Cond.privateMethod ({ cls := "EldestSaysModel", name := "weightOf", desc := "(I)I" } : Jvm.MethodName)) ∈ lw_tbl := lw_mem4 208 rfl
theorem kw_929 : (Jvm.Cond.instanceMethod ({ cls := "EldestSaysModel", name := "weightOf", desc := "(I)I" } : Jvm.MethodName)) ∈ lw_tbl := lw_mem4 209 rfl
theorem kw_930 : (Jvm.Cond.code ({ cls := "EldestSaysModel", name := "weightOf", desc := "(I)I" } : Jvm.MethodName) prog_14_method_22_code (4 : Nat) (Option.some Jvm.ClassFile.FieldType.int)) ∈ lw_tbl := lw_mem4 210 rfl
theorem kw_931 : (Jvm.Cond.methodLink "EldestSaysModel" (168 : Nat) ({ cls := "EldestSaysModel", name := "isCarried", desc := "(III)Z" } : Jvm.MethodName)) ∈ lw_tbl := lw_mem4 211 rfl
theorem kw_932 : (Jvm.Cond.static ({ cls := "EldestSaysModel", name := "isCarried", desc := "(III)Z" } : Jvm.MethodName)) ∈ lw_tbl := lw_mem4 212 rfl
theorem kw_933 : (Jvm.Cond.code ({ cls := "EldestSaysModel", name := "isCarried", desc := "(III)Z" } : Jvm.MethodName) prog_14_method_21_code (3 : Nat) (Option.some Jvm.ClassFile.FieldType.boolean)) ∈ lw_tbl := lw_mem4 213 rfl
theorem kw_934 : (Jvm.Cond.methodLink "EldestSaysModel" (171 : Nat) ({ cls := "EldestSaysModel", name := "costOf", desc := "(II)I" } : Jvm.MethodName)) ∈ lw_tbl := lw_mem4 214 rfl
theorem kw_935 : (Jvm.Cond.privateMethod ({ cls := "EldestSaysModel", name := "costOf", desc := "(II)I" } : Jvm.MethodName)) ∈ lw_tbl := lw_mem4 215 rfl
theorem kw_936 : (Jvm.Cond.instanceMethod ({ cls := "EldestSaysModel", name := "costOf", desc := "(II)I" } : Jvm.MethodName)) ∈ lw_tbl := lw_mem4 216 rfl
theorem kw_937 : (Jvm.Cond.code ({ cls := "EldestSaysModel", name := "costOf", desc := "(II)I" } : Jvm.MethodName) prog_14_method_26_code (5 : Nat) (Option.some Jvm.ClassFile.FieldType.int)) ∈ lw_tbl := lw_mem4 217 rfl
theorem kw_938 : (Jvm.Cond.methodLink "EldestSaysModel" (175 : Nat) ({ cls := "EldestSaysModel", name := "isAhead", desc := "(II)Z" } : Jvm.MethodName)) ∈ lw_tbl := lw_mem4 218 rfl
theorem kw_939 : (Jvm.Cond.privateMethod ({ cls := "EldestSaysModel", name := "isAhead", desc := "(II)Z" } : Jvm.MethodName)) ∈ lw_tbl := lw_mem4 219 rfl
theorem kw_940 : (Jvm.Cond.instanceMethod ({ cls := "EldestSaysModel", name := "isAhead", desc := "(II)Z" } : Jvm.MethodName)) ∈ lw_tbl := lw_mem4 220 rfl
theorem kw_941 : (Jvm.Cond.code ({ cls := "EldestSaysModel", name := "isAhead", desc := "(II)Z" } : Jvm.MethodName) prog_14_method_28_code (6 : Nat) (Option.some Jvm.ClassFile.FieldType.boolean)) ∈ lw_tbl := lw_mem4 221 rfl
theorem kw_942 : (Jvm.Cond.methodLink "EldestSaysModel" (178 : Nat) ({ cls := "EldestSaysModel", name := "offersEach", desc := "(III)V" } : Jvm.MethodName)) ∈ lw_tbl := lw_mem4 222 rfl
theorem kw_943 : (Jvm.Cond.privateMethod ({ cls := "EldestSaysModel", name := "offersEach", desc := "(III)V" } : Jvm.MethodName)) ∈ lw_tbl := lw_mem4 223 rfl
theorem kw_944 : (Jvm.Cond.instanceMethod ({ cls := "EldestSaysModel", name := "offersEach", desc := "(III)V" } : Jvm.MethodName)) ∈ lw_tbl := lw_mem4 224 rfl
theorem kw_945 : (Jvm.Cond.code ({ cls := "EldestSaysModel", name := "offersEach", desc := "(III)V" } : Jvm.MethodName) prog_14_method_30_code (4 : Nat) (Option.none : Option Jvm.ClassFile.FieldType)) ∈ lw_tbl := lw_mem4 225 rfl
theorem kw_946 : (Jvm.Cond.methodLink "EldestSaysModel" (188 : Nat) ({ cls := "EldestSaysModel", name := "offersFools", desc := "(IZ)V" } : Jvm.MethodName)) ∈ lw_tbl := lw_mem4 226 rfl
theorem kw_947 : (Jvm.Cond.privateMethod ({ cls := "EldestSaysModel", name := "offersFools", desc := "(IZ)V" } : Jvm.MethodName)) ∈ lw_tbl := lw_mem4 227 rfl
theorem kw_948 : (Jvm.Cond.instanceMethod ({ cls := "EldestSaysModel", name := "offersFools", desc := "(IZ)V" } : Jvm.MethodName)) ∈ lw_tbl := lw_mem4 228 rfl
theorem kw_949 : (Jvm.Cond.code ({ cls := "EldestSaysModel", name := "offersFools", desc := "(IZ)V" } : Jvm.MethodName) prog_14_method_31_code (4 : Nat) (Option.none : Option Jvm.ClassFile.FieldType)) ∈ lw_tbl := lw_mem4 229 rfl
theorem kw_950 : (Jvm.Cond.methodLink "EldestSaysLaw" (39 : Nat) ({ cls := "EldestSaysModel", name := "price", desc := "(II)I" } : Jvm.MethodName)) ∈ lw_tbl := lw_mem4 230 rfl
theorem kw_951 : (Jvm.Cond.instanceMethod ({ cls := "EldestSaysModel", name := "price", desc := "(II)I" } : Jvm.MethodName)) ∈ lw_tbl := lw_mem4 231 rfl
theorem kw_952 : (Jvm.Cond.selects "EldestSaysModel" ({ cls := "EldestSaysModel", name := "price", desc := "(II)I" } : Jvm.MethodName) ({ cls := "EldestSaysModel", name := "price", desc := "(II)I" } : Jvm.MethodName)) ∈ lw_tbl := lw_mem4 232 rfl
theorem kw_953 : (Jvm.Cond.code ({ cls := "EldestSaysModel", name := "price", desc := "(II)I" } : Jvm.MethodName) prog_14_method_38_code (3 : Nat) (Option.some Jvm.ClassFile.FieldType.int)) ∈ lw_tbl := lw_mem4 233 rfl
theorem kw_954 : (Jvm.Cond.methodLink "EldestSaysLaw" (43 : Nat) ({ cls := "EldestSaysModel", name := "votes", desc := "(I)I" } : Jvm.MethodName)) ∈ lw_tbl := lw_mem4 234 rfl
theorem kw_955 : (Jvm.Cond.instanceMethod ({ cls := "EldestSaysModel", name := "votes", desc := "(I)I" } : Jvm.MethodName)) ∈ lw_tbl := lw_mem4 235 rfl
theorem kw_956 : (Jvm.Cond.selects "EldestSaysModel" ({ cls := "EldestSaysModel", name := "votes", desc := "(I)I" } : Jvm.MethodName) ({ cls := "EldestSaysModel", name := "votes", desc := "(I)I" } : Jvm.MethodName)) ∈ lw_tbl := lw_mem4 236 rfl
theorem kw_957 : (Jvm.Cond.code ({ cls := "EldestSaysModel", name := "votes", desc := "(I)I" } : Jvm.MethodName) prog_14_method_39_code (2 : Nat) (Option.some Jvm.ClassFile.FieldType.int)) ∈ lw_tbl := lw_mem4 237 rfl
theorem kw_958 : (Jvm.Cond.methodLink "EldestSaysLaw" (47 : Nat) ({ cls := "EldestSaysModel", name := "carries", desc := "(I)I" } : Jvm.MethodName)) ∈ lw_tbl := lw_mem4 238 rfl
theorem kw_959 : (Jvm.Cond.instanceMethod ({ cls := "EldestSaysModel", name := "carries", desc := "(I)I" } : Jvm.MethodName)) ∈ lw_tbl := lw_mem4 239 rfl
theorem kw_960 : (Jvm.Cond.selects "EldestSaysModel" ({ cls := "EldestSaysModel", name := "carries", desc := "(I)I" } : Jvm.MethodName) ({ cls := "EldestSaysModel", name := "carries", desc := "(I)I" } : Jvm.MethodName)) ∈ lw_tbl := lw_mem5 0 rfl
theorem kw_961 : (Jvm.Cond.code ({ cls := "EldestSaysModel", name := "carries", desc := "(I)I" } : Jvm.MethodName) prog_14_method_40_code (2 : Nat) (Option.some Jvm.ClassFile.FieldType.int)) ∈ lw_tbl := lw_mem5 1 rfl
theorem kw_962 : (Jvm.Cond.methodLink "EldestSaysLaw" (51 : Nat) ({ cls := "EldestSaysModel", name := "ends", desc := "(I)I" } : Jvm.MethodName)) ∈ lw_tbl := lw_mem5 2 rfl
theorem kw_963 : (Jvm.Cond.instanceMethod ({ cls := "EldestSaysModel", name := "ends", desc := "(I)I" } : Jvm.MethodName)) ∈ lw_tbl := lw_mem5 3 rfl
theorem kw_964 : (Jvm.Cond.selects "EldestSaysModel" ({ cls := "EldestSaysModel", name := "ends", desc := "(I)I" } : Jvm.MethodName) ({ cls := "EldestSaysModel", name := "ends", desc := "(I)I" } : Jvm.MethodName)) ∈ lw_tbl := lw_mem5 4 rfl
theorem kw_965 : (Jvm.Cond.code ({ cls := "EldestSaysModel", name := "ends", desc := "(I)I" } : Jvm.MethodName) prog_14_method_41_code (2 : Nat) (Option.some Jvm.ClassFile.FieldType.int)) ∈ lw_tbl := lw_mem5 5 rfl
theorem kw_966 : (Jvm.Cond.methodLink "EldestSaysLaw" (55 : Nat) ({ cls := "EldestSaysModel", name := "gets", desc := "(II)I" } : Jvm.MethodName)) ∈ lw_tbl := lw_mem5 6 rfl
theorem kw_967 : (Jvm.Cond.instanceMethod ({ cls := "EldestSaysModel", name := "gets", desc := "(II)I" } : Jvm.MethodName)) ∈ lw_tbl := lw_mem5 7 rfl
theorem kw_968 : (Jvm.Cond.selects "EldestSaysModel" ({ cls := "EldestSaysModel", name := "gets", desc := "(II)I" } : Jvm.MethodName) ({ cls := "EldestSaysModel", name := "gets", desc := "(II)I" } : Jvm.MethodName)) ∈ lw_tbl := lw_mem5 8 rfl
theorem kw_969 : (Jvm.Cond.code ({ cls := "EldestSaysModel", name := "gets", desc := "(II)I" } : Jvm.MethodName) prog_14_method_42_code (3 : Nat) (Option.some Jvm.ClassFile.FieldType.int)) ∈ lw_tbl := lw_mem5 9 rfl
theorem kw_970 : (Jvm.Cond.methodLink "EldestSaysModel" (207 : Nat) ({ cls := "EldestSaysModel", name := "lower", desc := "(I)I" } : Jvm.MethodName)) ∈ lw_tbl := lw_mem5 10 rfl
theorem kw_971 : (Jvm.Cond.privateMethod ({ cls := "EldestSaysModel", name := "lower", desc := "(I)I" } : Jvm.MethodName)) ∈ lw_tbl := lw_mem5 11 rfl
theorem kw_972 : (Jvm.Cond.instanceMethod ({ cls := "EldestSaysModel", name := "lower", desc := "(I)I" } : Jvm.MethodName)) ∈ lw_tbl := lw_mem5 12 rfl
theorem kw_973 : (Jvm.Cond.code ({ cls := "EldestSaysModel", name := "lower", desc := "(I)I" } : Jvm.MethodName) prog_14_method_3_code (2 : Nat) (Option.some Jvm.ClassFile.FieldType.int)) ∈ lw_tbl := lw_mem5 13 rfl
theorem kw_974 : (Jvm.Cond.constant "EldestSaysModel" (79 : Nat) (1000000000 : Int32)) ∈ lw_tbl := lw_mem5 14 rfl
theorem kw_975 : (Jvm.Cond.methodLink "EldestSaysLaw" (59 : Nat) ({ cls := "EldestSaysModel", name := "bought", desc := "(I)I" } : Jvm.MethodName)) ∈ lw_tbl := lw_mem5 15 rfl
theorem kw_976 : (Jvm.Cond.instanceMethod ({ cls := "EldestSaysModel", name := "bought", desc := "(I)I" } : Jvm.MethodName)) ∈ lw_tbl := lw_mem5 16 rfl
theorem kw_977 : (Jvm.Cond.selects "EldestSaysModel" ({ cls := "EldestSaysModel", name := "bought", desc := "(I)I" } : Jvm.MethodName) ({ cls := "EldestSaysModel", name := "bought", desc := "(I)I" } : Jvm.MethodName)) ∈ lw_tbl := lw_mem5 17 rfl
theorem kw_978 : (Jvm.Cond.code ({ cls := "EldestSaysModel", name := "bought", desc := "(I)I" } : Jvm.MethodName) prog_14_method_43_code (2 : Nat) (Option.some Jvm.ClassFile.FieldType.int)) ∈ lw_tbl := lw_mem5 18 rfl
theorem kw_979 : (Jvm.Cond.methodLink "EldestSaysLaw" (63 : Nat) ({ cls := "EldestSaysModel", name := "row", desc := "(I)I" } : Jvm.MethodName)) ∈ lw_tbl := lw_mem5 19 rfl
theorem kw_980 : (Jvm.Cond.instanceMethod ({ cls := "EldestSaysModel", name := "row", desc := "(I)I" } : Jvm.MethodName)) ∈ lw_tbl := lw_mem5 20 rfl
theorem kw_981 : (Jvm.Cond.selects "EldestSaysModel" ({ cls := "EldestSaysModel", name := "row", desc := "(I)I" } : Jvm.MethodName) ({ cls := "EldestSaysModel", name := "row", desc := "(I)I" } : Jvm.MethodName)) ∈ lw_tbl := lw_mem5 21 rfl
theorem kw_982 : (Jvm.Cond.code ({ cls := "EldestSaysModel", name := "row", desc := "(I)I" } : Jvm.MethodName) prog_14_method_44_code (3 : Nat) (Option.some Jvm.ClassFile.FieldType.int)) ∈ lw_tbl := lw_mem5 22 rfl
theorem kw_983 : (Jvm.Cond.methodLink "EldestSaysLaw" (122 : Nat) ({ cls := "EldestSaysModel", name := "clear", desc := "()I" } : Jvm.MethodName)) ∈ lw_tbl := lw_mem5 23 rfl
theorem kw_984 : (Jvm.Cond.instanceMethod ({ cls := "EldestSaysModel", name := "clear", desc := "()I" } : Jvm.MethodName)) ∈ lw_tbl := lw_mem5 24 rfl
theorem kw_985 : (Jvm.Cond.selects "EldestSaysModel" ({ cls := "EldestSaysModel", name := "clear", desc := "()I" } : Jvm.MethodName) ({ cls := "EldestSaysModel", name := "clear", desc := "()I" } : Jvm.MethodName)) ∈ lw_tbl := lw_mem5 25 rfl
theorem kw_986 : (Jvm.Cond.code ({ cls := "EldestSaysModel", name := "clear", desc := "()I" } : Jvm.MethodName) prog_14_method_45_code (2 : Nat) (Option.some Jvm.ClassFile.FieldType.int)) ∈ lw_tbl := lw_mem5 26 rfl
theorem kw_987 : (Jvm.Cond.methodLink "EldestSaysLaw" (67 : Nat) ({ cls := "EldestSaysModel", name := "judge", desc := "(I)I" } : Jvm.MethodName)) ∈ lw_tbl := lw_mem5 27 rfl
theorem kw_988 : (Jvm.Cond.instanceMethod ({ cls := "EldestSaysModel", name := "judge", desc := "(I)I" } : Jvm.MethodName)) ∈ lw_tbl := lw_mem5 28 rfl
theorem kw_989 : (Jvm.Cond.selects "EldestSaysModel" ({ cls := "EldestSaysModel", name := "judge", desc := "(I)I" } : Jvm.MethodName) ({ cls := "EldestSaysModel", name := "judge", desc := "(I)I" } : Jvm.MethodName)) ∈ lw_tbl := lw_mem5 29 rfl
theorem kw_990 : (Jvm.Cond.code ({ cls := "EldestSaysModel", name := "judge", desc := "(I)I" } : Jvm.MethodName) prog_14_method_48_code (5 : Nat) (Option.some Jvm.ClassFile.FieldType.int)) ∈ lw_tbl := lw_mem5 30 rfl
theorem kw_991 : (Jvm.Cond.methodLink "EldestSaysModel" (213 : Nat) ({ cls := "EldestSaysModel", name := "isOver", desc := "()Z" } : Jvm.MethodName)) ∈ lw_tbl := lw_mem5 31 rfl
theorem kw_992 : (Jvm.Cond.privateMethod ({ cls := "EldestSaysModel", name := "isOver", desc := "()Z" } : Jvm.MethodName)) ∈ lw_tbl := lw_mem5 32 rfl
theorem kw_993 : (Jvm.Cond.instanceMethod ({ cls := "EldestSaysModel", name := "isOver", desc := "()Z" } : Jvm.MethodName)) ∈ lw_tbl := lw_mem5 33 rfl
theorem kw_994 : (Jvm.Cond.code ({ cls := "EldestSaysModel", name := "isOver", desc := "()Z" } : Jvm.MethodName) prog_14_method_46_code (1 : Nat) (Option.some Jvm.ClassFile.FieldType.boolean)) ∈ lw_tbl := lw_mem5 34 rfl
theorem kw_995 : (Jvm.Cond.methodLink "EldestSaysModel" (216 : Nat) ({ cls := "EldestSaysModel", name := "isOffer", desc := "()Z" } : Jvm.MethodName)) ∈ lw_tbl := lw_mem5 35 rfl
theorem kw_996 : (Jvm.Cond.privateMethod ({ cls := "EldestSaysModel", name := "isOffer", desc := "()Z" } : Jvm.MethodName)) ∈ lw_tbl := lw_mem5 36 rfl
theorem kw_997 : (Jvm.Cond.instanceMethod ({ cls := "EldestSaysModel", name := "isOffer", desc := "()Z" } : Jvm.MethodName)) ∈ lw_tbl := lw_mem5 37 rfl
theorem kw_998 : (Jvm.Cond.code ({ cls := "EldestSaysModel", name := "isOffer", desc := "()Z" } : Jvm.MethodName) prog_14_method_47_code (3 : Nat) (Option.some Jvm.ClassFile.FieldType.boolean)) ∈ lw_tbl := lw_mem5 38 rfl
theorem kw_999 : (Jvm.Cond.methodLink "EldestSaysLaw" (71 : Nat) ({ cls := "EldestSaysModel", name := "goes", desc := "(I)I" } : Jvm.MethodName)) ∈ lw_tbl := lw_mem5 39 rfl
theorem kw_1000 : (Jvm.Cond.instanceMethod ({ cls := "EldestSaysModel", name := "goes", desc := "(I)I" } : Jvm.MethodName)) ∈ lw_tbl := lw_mem5 40 rfl
theorem kw_1001 : (Jvm.Cond.selects "EldestSaysModel" ({ cls := "EldestSaysModel", name := "goes", desc := "(I)I" } : Jvm.MethodName) ({ cls := "EldestSaysModel", name := "goes", desc := "(I)I" } : Jvm.MethodName)) ∈ lw_tbl := lw_mem5 41 rfl
theorem kw_1002 : (Jvm.Cond.code ({ cls := "EldestSaysModel", name := "goes", desc := "(I)I" } : Jvm.MethodName) prog_14_method_50_code (2 : Nat) (Option.some Jvm.ClassFile.FieldType.int)) ∈ lw_tbl := lw_mem5 42 rfl
theorem kw_1003 : (Jvm.Cond.methodLink "EldestSaysModel" (219 : Nat) ({ cls := "EldestSaysModel", name := "decides", desc := "(I)I" } : Jvm.MethodName)) ∈ lw_tbl := lw_mem5 43 rfl
theorem kw_1004 : (Jvm.Cond.privateMethod ({ cls := "EldestSaysModel", name := "decides", desc := "(I)I" } : Jvm.MethodName)) ∈ lw_tbl := lw_mem5 44 rfl
theorem kw_1005 : (Jvm.Cond.instanceMethod ({ cls := "EldestSaysModel", name := "decides", desc := "(I)I" } : Jvm.MethodName)) ∈ lw_tbl := lw_mem5 45 rfl
theorem kw_1006 : (Jvm.Cond.code ({ cls := "EldestSaysModel", name := "decides", desc := "(I)I" } : Jvm.MethodName) prog_14_method_49_code (5 : Nat) (Option.some Jvm.ClassFile.FieldType.int)) ∈ lw_tbl := lw_mem5 46 rfl
theorem kw_1007 : (Jvm.Cond.methodLink "EldestSaysLaw" (75 : Nat) ({ cls := "EldestSaysModel", name := "says", desc := "()I" } : Jvm.MethodName)) ∈ lw_tbl := lw_mem5 47 rfl
theorem kw_1008 : (Jvm.Cond.instanceMethod ({ cls := "EldestSaysModel", name := "says", desc := "()I" } : Jvm.MethodName)) ∈ lw_tbl := lw_mem5 48 rfl
theorem kw_1009 : (Jvm.Cond.selects "EldestSaysModel" ({ cls := "EldestSaysModel", name := "says", desc := "()I" } : Jvm.MethodName) ({ cls := "EldestSaysModel", name := "says", desc := "()I" } : Jvm.MethodName)) ∈ lw_tbl := lw_mem5 49 rfl
theorem kw_1010 : (Jvm.Cond.code ({ cls := "EldestSaysModel", name := "says", desc := "()I" } : Jvm.MethodName) prog_14_method_51_code (4 : Nat) (Option.some Jvm.ClassFile.FieldType.int)) ∈ lw_tbl := lw_mem5 50 rfl
theorem kw_1011 : (Jvm.Cond.methodLink "EldestSaysLaw" (79 : Nat) ({ cls := "EldestSaysModel", name := "got", desc := "(I)I" } : Jvm.MethodName)) ∈ lw_tbl := lw_mem5 51 rfl
theorem kw_1012 : (Jvm.Cond.instanceMethod ({ cls := "EldestSaysModel", name := "got", desc := "(I)I" } : Jvm.MethodName)) ∈ lw_tbl := lw_mem5 52 rfl
theorem kw_1013 : (Jvm.Cond.selects "EldestSaysModel" ({ cls := "EldestSaysModel", name := "got", desc := "(I)I" } : Jvm.MethodName) ({ cls := "EldestSaysModel", name := "got", desc := "(I)I" } : Jvm.MethodName)) ∈ lw_tbl := lw_mem5 53 rfl
theorem kw_1014 : (Jvm.Cond.code ({ cls := "EldestSaysModel", name := "got", desc := "(I)I" } : Jvm.MethodName) prog_14_method_52_code (2 : Nat) (Option.some Jvm.ClassFile.FieldType.int)) ∈ lw_tbl := lw_mem5 54 rfl
theorem kw_1015 : (Jvm.Cond.methodLink "EldestSaysLaw" (84 : Nat) ({ cls := "EldestSaysModel", name := "alike", desc := "(IIIZ)I" } : Jvm.MethodName)) ∈ lw_tbl := lw_mem5 55 rfl
theorem kw_1016 : (Jvm.Cond.instanceMethod ({ cls := "EldestSaysModel", name := "alike", desc := "(IIIZ)I" } : Jvm.MethodName)) ∈ lw_tbl := lw_mem5 56 rfl
theorem kw_1017 : (Jvm.Cond.selects "EldestSaysModel" ({ cls := "EldestSaysModel", name := "alike", desc := "(IIIZ)I" } : Jvm.MethodName) ({ cls := "EldestSaysModel", name := "alike", desc := "(IIIZ)I" } : Jvm.MethodName)) ∈ lw_tbl := lw_mem5 57 rfl
theorem kw_1018 : (Jvm.Cond.code ({ cls := "EldestSaysModel", name := "alike", desc := "(IIIZ)I" } : Jvm.MethodName) prog_14_method_57_code (8 : Nat) (Option.some Jvm.ClassFile.FieldType.int)) ∈ lw_tbl := lw_mem5 58 rfl
theorem kw_1019 : (Jvm.Cond.methodLink "EldestSaysModel" (232 : Nat) ({ cls := "EldestSaysModel", name := "likeSays", desc := "(III)Z" } : Jvm.MethodName)) ∈ lw_tbl := lw_mem5 59 rfl
theorem kw_1020 : (Jvm.Cond.privateMethod ({ cls := "EldestSaysModel", name := "likeSays", desc := "(III)Z" } : Jvm.MethodName)) ∈ lw_tbl := lw_mem5 60 rfl
theorem kw_1021 : (Jvm.Cond.instanceMethod ({ cls := "EldestSaysModel", name := "likeSays", desc := "(III)Z" } : Jvm.MethodName)) ∈ lw_tbl := lw_mem5 61 rfl
theorem kw_1022 : (Jvm.Cond.code ({ cls := "EldestSaysModel", name := "likeSays", desc := "(III)Z" } : Jvm.MethodName) prog_14_method_55_code (10 : Nat) (Option.some Jvm.ClassFile.FieldType.boolean)) ∈ lw_tbl := lw_mem5 62 rfl
theorem kw_1023 : (Jvm.Cond.methodLink "EldestSaysModel" (222 : Nat) ({ cls := "EldestSaysModel", name := "enough", desc := "(I)I" } : Jvm.MethodName)) ∈ lw_tbl := lw_mem5 63 rfl
theorem kw_1024 : (Jvm.Cond.privateMethod ({ cls := "EldestSaysModel", name := "enough", desc := "(I)I" } : Jvm.MethodName)) ∈ lw_tbl := lw_mem5 64 rfl
theorem kw_1025 : (Jvm.Cond.instanceMethod ({ cls := "EldestSaysModel", name := "enough", desc := "(I)I" } : Jvm.MethodName)) ∈ lw_tbl := lw_mem5 65 rfl
theorem kw_1026 : (Jvm.Cond.code ({ cls := "EldestSaysModel", name := "enough", desc := "(I)I" } : Jvm.MethodName) prog_14_method_53_code (3 : Nat) (Option.some Jvm.ClassFile.FieldType.int)) ∈ lw_tbl := lw_mem5 66 rfl
theorem kw_1027 : (Jvm.Cond.methodLink "EldestSaysModel" (225 : Nat) ({ cls := "EldestSaysModel", name := "withPrice", desc := "(III)I" } : Jvm.MethodName)) ∈ lw_tbl := lw_mem5 67 rfl
theorem kw_1028 : (Jvm.Cond.privateMethod ({ cls := "EldestSaysModel", name := "withPrice", desc := "(III)I" } : Jvm.MethodName)) ∈ lw_tbl := lw_mem5 68 rfl
theorem kw_1029 : (Jvm.Cond.instanceMethod ({ cls := "EldestSaysModel", name := "withPrice", desc := "(III)I" } : Jvm.MethodName)) ∈ lw_tbl := lw_mem5 69 rfl
theorem kw_1030 : (Jvm.Cond.code ({ cls := "EldestSaysModel", name := "withPrice", desc := "(III)I" } : Jvm.MethodName) prog_14_method_54_code (6 : Nat) (Option.some Jvm.ClassFile.FieldType.int)) ∈ lw_tbl := lw_mem5 70 rfl
theorem kw_1031 : (Jvm.Cond.methodLink "EldestSaysModel" (228 : Nat) ({ cls := "EldestSaysModel", name := "likeTakes", desc := "(IIII)V" } : Jvm.MethodName)) ∈ lw_tbl := lw_mem5 71 rfl
theorem kw_1032 : (Jvm.Cond.privateMethod ({ cls := "EldestSaysModel", name := "likeTakes", desc := "(IIII)V" } : Jvm.MethodName)) ∈ lw_tbl := lw_mem5 72 rfl
theorem kw_1033 : (Jvm.Cond.instanceMethod ({ cls := "EldestSaysModel", name := "likeTakes", desc := "(IIII)V" } : Jvm.MethodName)) ∈ lw_tbl := lw_mem5 73 rfl
theorem kw_1034 : (Jvm.Cond.code ({ cls := "EldestSaysModel", name := "likeTakes", desc := "(IIII)V" } : Jvm.MethodName) prog_14_method_56_code (9 : Nat) (Option.none : Option Jvm.ClassFile.FieldType)) ∈ lw_tbl := lw_mem5 74 rfl
theorem kw_1035 : (Jvm.Cond.methodLink "EldestSaysLaw" (88 : Nat) ({ cls := "EldestSaysModel", name := "fewest", desc := "()I" } : Jvm.MethodName)) ∈ lw_tbl := lw_mem5 75 rfl
theorem kw_1036 : (Jvm.Cond.instanceMethod ({ cls := "EldestSaysModel", name := "fewest", desc := "()I" } : Jvm.MethodName)) ∈ lw_tbl := lw_mem5 76 rfl
theorem kw_1037 : (Jvm.Cond.selects "EldestSaysModel" ({ cls := "EldestSaysModel", name := "fewest", desc := "()I" } : Jvm.MethodName) ({ cls := "EldestSaysModel", name := "fewest", desc := "()I" } : Jvm.MethodName)) ∈ lw_tbl := lw_mem5 77 rfl
theorem kw_1038 : (Jvm.Cond.code ({ cls := "EldestSaysModel", name := "fewest", desc := "()I" } : Jvm.MethodName) prog_14_method_58_code (4 : Nat) (Option.some Jvm.ClassFile.FieldType.int)) ∈ lw_tbl := lw_mem5 78 rfl
theorem kw_1039 : (Jvm.Cond.methodLink "EldestSaysLaw" (93 : Nat) ({ cls := "EldestSaysModel", name := "byLaw", desc := "(III)I" } : Jvm.MethodName)) ∈ lw_tbl := lw_mem5 79 rfl
theorem kw_1040 : (Jvm.Cond.instanceMethod ({ cls := "EldestSaysModel", name := "byLaw", desc := "(III)I" } : Jvm.MethodName)) ∈ lw_tbl := lw_mem5 80 rfl
theorem kw_1041 : (Jvm.Cond.selects "EldestSaysModel" ({ cls := "EldestSaysModel", name := "byLaw", desc := "(III)I" } : Jvm.MethodName) ({ cls := "EldestSaysModel", name := "byLaw", desc := "(III)I" } : Jvm.MethodName)) ∈ lw_tbl := lw_mem5 81 rfl
theorem kw_1042 : (Jvm.Cond.code ({ cls := "EldestSaysModel", name := "byLaw", desc := "(III)I" } : Jvm.MethodName) prog_14_method_59_code (6 : Nat) (Option.some Jvm.ClassFile.FieldType.int)) ∈ lw_tbl := lw_mem5 82 rfl
theorem kw_1043 : (Jvm.Cond.methodLink "EldestSaysLaw" (97 : Nat) ({ cls := "EldestSaysModel", name := "gains", desc := "()I" } : Jvm.MethodName)) ∈ lw_tbl := lw_mem5 83 rfl
theorem kw_1044 : (Jvm.Cond.instanceMethod ({ cls := "EldestSaysModel", name := "gains", desc := "()I" } : Jvm.MethodName)) ∈ lw_tbl := lw_mem5 84 rfl
theorem kw_1045 : (Jvm.Cond.selects "EldestSaysModel" ({ cls := "EldestSaysModel", name := "gains", desc := "()I" } : Jvm.MethodName) ({ cls := "EldestSaysModel", name := "gains", desc := "()I" } : Jvm.MethodName)) ∈ lw_tbl := lw_mem5 85 rfl
theorem kw_1046 : (Jvm.Cond.code ({ cls := "EldestSaysModel", name := "gains", desc := "()I" } : Jvm.MethodName) prog_14_method_60_code (3 : Nat) (Option.some Jvm.ClassFile.FieldType.int)) ∈ lw_tbl := lw_mem5 86 rfl
theorem kw_1047 : (Jvm.Cond.methodLink "EldestSaysModel" (235 : Nat) ({ cls := "EldestSaysModel", name := "moves", desc := "(II)V" } : Jvm.MethodName)) ∈ lw_tbl := lw_mem5 87 rfl
theorem kw_1048 : (Jvm.Cond.privateMethod ({ cls := "EldestSaysModel", name := "moves", desc := "(II)V" } : Jvm.MethodName)) ∈ lw_tbl := lw_mem5 88 rfl
theorem kw_1049 : (Jvm.Cond.instanceMethod ({ cls := "EldestSaysModel", name := "moves", desc := "(II)V" } : Jvm.MethodName)) ∈ lw_tbl := lw_mem5 89 rfl
theorem kw_1050 : (Jvm.Cond.code ({ cls := "EldestSaysModel", name := "moves", desc := "(II)V" } : Jvm.MethodName) prog_14_method_61_code (3 : Nat) (Option.none : Option Jvm.ClassFile.FieldType)) ∈ lw_tbl := lw_mem5 90 rfl
theorem kw_1051 : (Jvm.Cond.methodLink "EldestSaysLaw" (101 : Nat) ({ cls := "EldestSaysModel", name := "swap", desc := "(II)I" } : Jvm.MethodName)) ∈ lw_tbl := lw_mem5 91 rfl
theorem kw_1052 : (Jvm.Cond.instanceMethod ({ cls := "EldestSaysModel", name := "swap", desc := "(II)I" } : Jvm.MethodName)) ∈ lw_tbl := lw_mem5 92 rfl
theorem kw_1053 : (Jvm.Cond.selects "EldestSaysModel" ({ cls := "EldestSaysModel", name := "swap", desc := "(II)I" } : Jvm.MethodName) ({ cls := "EldestSaysModel", name := "swap", desc := "(II)I" } : Jvm.MethodName)) ∈ lw_tbl := lw_mem5 93 rfl
theorem kw_1054 : (Jvm.Cond.code ({ cls := "EldestSaysModel", name := "swap", desc := "(II)I" } : Jvm.MethodName) prog_14_method_63_code (3 : Nat) (Option.some Jvm.ClassFile.FieldType.int)) ∈ lw_tbl := lw_mem5 94 rfl
theorem kw_1055 : (Jvm.Cond.methodLink "EldestSaysModel" (239 : Nat) ({ cls := "EldestSaysModel", name := "swaps", desc := "(II)V" } : Jvm.MethodName)) ∈ lw_tbl := lw_mem5 95 rfl
theorem kw_1056 : (Jvm.Cond.privateMethod ({ cls := "EldestSaysModel", name := "swaps", desc := "(II)V" } : Jvm.MethodName)) ∈ lw_tbl := lw_mem5 96 rfl
theorem kw_1057 : (Jvm.Cond.instanceMethod ({ cls := "EldestSaysModel", name := "swaps", desc := "(II)V" } : Jvm.MethodName)) ∈ lw_tbl := lw_mem5 97 rfl
theorem kw_1058 : (Jvm.Cond.code ({ cls := "EldestSaysModel", name := "swaps", desc := "(II)V" } : Jvm.MethodName) prog_14_method_62_code (3 : Nat) (Option.none : Option Jvm.ClassFile.FieldType)) ∈ lw_tbl := lw_mem5 98 rfl
theorem kw_1059 : (Jvm.Cond.methodLink "EldestSaysLaw" (105 : Nat) ({ cls := "EldestSaysModel", name := "bestAge", desc := "(I)I" } : Jvm.MethodName)) ∈ lw_tbl := lw_mem5 99 rfl
theorem kw_1060 : (Jvm.Cond.instanceMethod ({ cls := "EldestSaysModel", name := "bestAge", desc := "(I)I" } : Jvm.MethodName)) ∈ lw_tbl := lw_mem5 100 rfl
theorem kw_1061 : (Jvm.Cond.selects "EldestSaysModel" ({ cls := "EldestSaysModel", name := "bestAge", desc := "(I)I" } : Jvm.MethodName) ({ cls := "EldestSaysModel", name := "bestAge", desc := "(I)I" } : Jvm.MethodName)) ∈ lw_tbl := lw_mem5 101 rfl
theorem kw_1062 : (Jvm.Cond.code ({ cls := "EldestSaysModel", name := "bestAge", desc := "(I)I" } : Jvm.MethodName) prog_14_method_64_code (6 : Nat) (Option.some Jvm.ClassFile.FieldType.int)) ∈ lw_tbl := lw_mem5 102 rfl
theorem kw_1063 : (Jvm.Cond.methodLink "EldestSaysLaw" (109 : Nat) ({ cls := "EldestSaysModel", name := "league", desc := "(I)I" } : Jvm.MethodName)) ∈ lw_tbl := lw_mem5 103 rfl
theorem kw_1064 : (Jvm.Cond.instanceMethod ({ cls := "EldestSaysModel", name := "league", desc := "(I)I" } : Jvm.MethodName)) ∈ lw_tbl := lw_mem5 104 rfl
theorem kw_1065 : (Jvm.Cond.selects "EldestSaysModel" ({ cls := "EldestSaysModel", name := "league", desc := "(I)I" } : Jvm.MethodName) ({ cls := "EldestSaysModel", name := "league", desc := "(I)I" } : Jvm.MethodName)) ∈ lw_tbl := lw_mem5 105 rfl
theorem kw_1066 : (Jvm.Cond.code ({ cls := "EldestSaysModel", name := "league", desc := "(I)I" } : Jvm.MethodName) prog_14_method_67_code (6 : Nat) (Option.some Jvm.ClassFile.FieldType.int)) ∈ lw_tbl := lw_mem5 106 rfl
theorem kw_1067 : (Jvm.Cond.methodLink "EldestSaysModel" (242 : Nat) ({ cls := "EldestSaysModel", name := "bits", desc := "(I)I" } : Jvm.MethodName)) ∈ lw_tbl := lw_mem5 107 rfl
theorem kw_1068 : (Jvm.Cond.static ({ cls := "EldestSaysModel", name := "bits", desc := "(I)I" } : Jvm.MethodName)) ∈ lw_tbl := lw_mem5 108 rfl
theorem kw_1069 : (Jvm.Cond.code ({ cls := "EldestSaysModel", name := "bits", desc := "(I)I" } : Jvm.MethodName) prog_14_method_66_code (3 : Nat) (Option.some Jvm.ClassFile.FieldType.int)) ∈ lw_tbl := lw_mem5 109 rfl
theorem kw_1070 : (Jvm.Cond.methodLink "EldestSaysModel" (245 : Nat) ({ cls := "EldestSaysModel", name := "isFree", desc := "(I)Z" } : Jvm.MethodName)) ∈ lw_tbl := lw_mem5 110 rfl
theorem kw_1071 : (Jvm.Cond.privateMethod ({ cls := "EldestSaysModel", name := "isFree", desc := "(I)Z" } : Jvm.MethodName)) ∈ lw_tbl := lw_mem5 111 rfl
theorem kw_1072 : (Jvm.Cond.instanceMethod ({ cls := "EldestSaysModel", name := "isFree", desc := "(I)Z" } : Jvm.MethodName)) ∈ lw_tbl := lw_mem5 112 rfl
theorem kw_1073 : (Jvm.Cond.code ({ cls := "EldestSaysModel", name := "isFree", desc := "(I)Z" } : Jvm.MethodName) prog_14_method_65_code (3 : Nat) (Option.some Jvm.ClassFile.FieldType.boolean)) ∈ lw_tbl := lw_mem5 113 rfl
theorem kw_1074 : (Jvm.Cond.methodLink "EldestSaysLaw" (114 : Nat) ({ cls := "EldestSaysModel", name := "shaken", desc := "(I)J" } : Jvm.MethodName)) ∈ lw_tbl := lw_mem5 114 rfl
theorem kw_1075 : (Jvm.Cond.instanceMethod ({ cls := "EldestSaysModel", name := "shaken", desc := "(I)J" } : Jvm.MethodName)) ∈ lw_tbl := lw_mem5 115 rfl
theorem kw_1076 : (Jvm.Cond.selects "EldestSaysModel" ({ cls := "EldestSaysModel", name := "shaken", desc := "(I)J" } : Jvm.MethodName) ({ cls := "EldestSaysModel", name := "shaken", desc := "(I)J" } : Jvm.MethodName)) ∈ lw_tbl := lw_mem5 116 rfl
theorem kw_1077 : (Jvm.Cond.code ({ cls := "EldestSaysModel", name := "shaken", desc := "(I)J" } : Jvm.MethodName) prog_14_method_69_code (11 : Nat) (Option.some Jvm.ClassFile.FieldType.long)) ∈ lw_tbl := lw_mem5 117 rfl
theorem kw_1078 : (Jvm.Cond.methodLink "EldestSaysModel" (248 : Nat) ({ cls := "EldestSaysModel", name := "lowest", desc := "(I)J" } : Jvm.MethodName)) ∈ lw_tbl := lw_mem5 118 rfl
theorem kw_1079 : (Jvm.Cond.privateMethod ({ cls := "EldestSaysModel", name := "lowest", desc := "(I)J" } : Jvm.MethodName)) ∈ lw_tbl := lw_mem5 119 rfl
theorem kw_1080 : (Jvm.Cond.instanceMethod ({ cls := "EldestSaysModel", name := "lowest", desc := "(I)J" } : Jvm.MethodName)) ∈ lw_tbl := lw_mem5 120 rfl
theorem kw_1081 : (Jvm.Cond.code ({ cls := "EldestSaysModel", name := "lowest", desc := "(I)J" } : Jvm.MethodName) prog_14_method_4_code (2 : Nat) (Option.some Jvm.ClassFile.FieldType.long)) ∈ lw_tbl := lw_mem5 121 rfl
theorem kw_1082 : (Jvm.Cond.constantLong "EldestSaysModel" (80 : Nat) (4000000000000000000 : Int64)) ∈ lw_tbl := lw_mem5 122 rfl
theorem kw_1083 : (Jvm.Cond.constantLong "EldestSaysModel" (252 : Nat) (100 : Int64)) ∈ lw_tbl := lw_mem5 123 rfl
theorem kw_1084 : (Jvm.Cond.methodLink "EldestSaysModel" (254 : Nat) ({ cls := "EldestSaysModel", name := "divisor", desc := "(JJ)J" } : Jvm.MethodName)) ∈ lw_tbl := lw_mem5 124 rfl
theorem kw_1085 : (Jvm.Cond.static ({ cls := "EldestSaysModel", name := "divisor", desc := "(JJ)J" } : Jvm.MethodName)) ∈ lw_tbl := lw_mem5 125 rfl
theorem kw_1086 : (Jvm.Cond.code ({ cls := "EldestSaysModel", name := "divisor", desc := "(JJ)J" } : Jvm.MethodName) prog_14_method_68_code (10 : Nat) (Option.some Jvm.ClassFile.FieldType.long)) ∈ lw_tbl := lw_mem5 126 rfl
theorem kw_1087 : (Jvm.Cond.methodLink "EldestSaysLaw" (118 : Nat) ({ cls := "EldestSaysModel", name := "seeds", desc := "(III)I" } : Jvm.MethodName)) ∈ lw_tbl := lw_mem5 127 rfl
theorem kw_1088 : (Jvm.Cond.instanceMethod ({ cls := "EldestSaysModel", name := "seeds", desc := "(III)I" } : Jvm.MethodName)) ∈ lw_tbl := lw_mem5 128 rfl
theorem kw_1089 : (Jvm.Cond.selects "EldestSaysModel" ({ cls := "EldestSaysModel", name := "seeds", desc := "(III)I" } : Jvm.MethodName) ({ cls := "EldestSaysModel", name := "seeds", desc := "(III)I" } : Jvm.MethodName)) ∈ lw_tbl := lw_mem5 129 rfl
theorem kw_1090 : (Jvm.Cond.code ({ cls := "EldestSaysModel", name := "seeds", desc := "(III)I" } : Jvm.MethodName) prog_14_method_70_code (11 : Nat) (Option.some Jvm.ClassFile.FieldType.int)) ∈ lw_tbl := lw_mem5 130 rfl
theorem kw_1091 : (Jvm.Cond.constant "EldestSaysModel" (258 : Nat) (1103515245 : Int32)) ∈ lw_tbl := lw_mem5 131 rfl
theorem kw_1092 : (Jvm.Cond.constant "EldestSaysModel" (259 : Nat) (2147483647 : Int32)) ∈ lw_tbl := lw_mem5 132 rfl
theorem kw_1093 : (Jvm.Cond.constant "EldestSaysModel" (260 : Nat) (65536 : Int32)) ∈ lw_tbl := lw_mem5 133 rfl
theorem kw_1094 : (Jvm.Cond.methodLink "EldestSaysLaw" (134 : Nat) ({ cls := "EldestSaysModel", name := "count", desc := "(I)I" } : Jvm.MethodName)) ∈ lw_tbl := lw_mem5 134 rfl
theorem kw_1095 : (Jvm.Cond.instanceMethod ({ cls := "EldestSaysModel", name := "count", desc := "(I)I" } : Jvm.MethodName)) ∈ lw_tbl := lw_mem5 135 rfl
theorem kw_1096 : (Jvm.Cond.selects "EldestSaysModel" ({ cls := "EldestSaysModel", name := "count", desc := "(I)I" } : Jvm.MethodName) ({ cls := "EldestSaysModel", name := "count", desc := "(I)I" } : Jvm.MethodName)) ∈ lw_tbl := lw_mem5 136 rfl
theorem kw_1097 : (Jvm.Cond.code ({ cls := "EldestSaysModel", name := "count", desc := "(I)I" } : Jvm.MethodName) prog_14_method_71_code (2 : Nat) (Option.some Jvm.ClassFile.FieldType.int)) ∈ lw_tbl := lw_mem5 137 rfl
theorem kw_1098 : (Jvm.Cond.sameMethod "EldestSays$Fool" "EldestSays$Fool" "ask" "(III)I") ∈ lw_tbl := lw_mem5 138 rfl
theorem kw_1099 : (Jvm.Cond.sameMethod "EldestSays$Envious" "EldestSays$Envious" "ask" "(III)I") ∈ lw_tbl := lw_mem5 139 rfl
theorem kw_1100 : (Jvm.Cond.castable "EldestSays$Company" "EldestSays$Clever") ∈ lw_tbl := lw_mem5 140 rfl
theorem kw_1101 : (Jvm.Cond.castable "EldestSays$Envious" "EldestSays$Clever") ∈ lw_tbl := lw_mem5 141 rfl
theorem kw_1102 : (Jvm.Cond.castable "EldestSays$Fair" "EldestSays$Clever") ∈ lw_tbl := lw_mem5 142 rfl
theorem kw_1103 : (Jvm.Cond.castable "EldestSays$Fool" "EldestSays$Clever") ∈ lw_tbl := lw_mem5 143 rfl
theorem kw_1104 : (Jvm.Cond.castable "EldestSays$Spiteful" "EldestSays$Clever") ∈ lw_tbl := lw_mem5 144 rfl
theorem kw_1105 : (Jvm.Cond.castable "EldestSays$Meek" "EldestSays$Clever") ∈ lw_tbl := lw_mem5 145 rfl
theorem ks_0 : Cond.selects "EldestSays" ⟨"EldestSays", "refuse", "(I)I"⟩ ⟨"EldestSays", "refuse", "(I)I"⟩ ∈ lw_tbl := List.mem_append_left _ (List.mem_of_getElem? (i := 0) rfl)
theorem ks_1 : Cond.selects "EldestSays$Letters" ⟨"EldestSays$Letters", "brokenAt", "()I"⟩ ⟨"EldestSays$Letters", "brokenAt", "()I"⟩ ∈ lw_tbl := List.mem_append_left _ (List.mem_of_getElem? (i := 1) rfl)
theorem ks_2 : Cond.selects "EldestSays$Letters" ⟨"EldestSays$Letters", "wrongAt", "(LEldestSays$Evening;)I"⟩ ⟨"EldestSays$Letters", "wrongAt", "(LEldestSays$Evening;)I"⟩ ∈ lw_tbl := List.mem_append_left _ (List.mem_of_getElem? (i := 2) rfl)
theorem ks_3 : Cond.selects "EldestSays$Letters" ⟨"EldestSays$Letters", "isRight", "(IIZ)Z"⟩ ⟨"EldestSays$Letters", "isRight", "(IIZ)Z"⟩ ∈ lw_tbl := List.mem_append_left _ (List.mem_of_getElem? (i := 3) rfl)
theorem ks_4 : Cond.selects "EldestSays$Letters" ⟨"EldestSays$Letters", "digit", "(I)I"⟩ ⟨"EldestSays$Letters", "digit", "(I)I"⟩ ∈ lw_tbl := List.mem_append_left _ (List.mem_of_getElem? (i := 4) rfl)
theorem ks_5 : Cond.selects "EldestSays$Letters" ⟨"EldestSays$Letters", "tellOne", "(LEldestSays$Evening;II)V"⟩ ⟨"EldestSays$Letters", "tellOne", "(LEldestSays$Evening;II)V"⟩ ∈ lw_tbl := List.mem_append_left _ (List.mem_of_getElem? (i := 5) rfl)
theorem ks_6 : Cond.selects "EldestSays" ⟨"EldestSays", "solved", "()LEldestSays$Plans;"⟩ ⟨"EldestSays", "solved", "()LEldestSays$Plans;"⟩ ∈ lw_tbl := List.mem_append_left _ (List.mem_of_getElem? (i := 6) rfl)
theorem ks_7 : Cond.selects "EldestSays$Plans" ⟨"EldestSays$Plans", "askYounger", "(I)V"⟩ ⟨"EldestSays$Plans", "askYounger", "(I)V"⟩ ∈ lw_tbl := List.mem_append_left _ (List.mem_of_getElem? (i := 7) rfl)
theorem ks_8 : Cond.selects "EldestSays$Plans" ⟨"EldestSays$Plans", "kindOf", "(I)LEldestSays$Clever;"⟩ ⟨"EldestSays$Plans", "kindOf", "(I)LEldestSays$Clever;"⟩ ∈ lw_tbl := List.mem_append_left _ (List.mem_of_getElem? (i := 8) rfl)
theorem ks_9 : Cond.selects "EldestSays$Plans" ⟨"EldestSays$Plans", "keepAll", "(I)V"⟩ ⟨"EldestSays$Plans", "keepAll", "(I)V"⟩ ∈ lw_tbl := List.mem_append_left _ (List.mem_of_getElem? (i := 9) rfl)
theorem ks_10 : Cond.selects "EldestSays$Plans" ⟨"EldestSays$Plans", "give", "(III)V"⟩ ⟨"EldestSays$Plans", "give", "(III)V"⟩ ∈ lw_tbl := List.mem_append_left _ (List.mem_of_getElem? (i := 10) rfl)
theorem ks_11 : Cond.selects "EldestSays$Plans" ⟨"EldestSays$Plans", "forgetUnits", "()V"⟩ ⟨"EldestSays$Plans", "forgetUnits", "()V"⟩ ∈ lw_tbl := List.mem_append_left _ (List.mem_of_getElem? (i := 11) rfl)
theorem ks_12 : Cond.selects "EldestSays$Plans" ⟨"EldestSays$Plans", "manOfUnit", "(II)I"⟩ ⟨"EldestSays$Plans", "manOfUnit", "(II)I"⟩ ∈ lw_tbl := List.mem_append_left _ (List.mem_of_getElem? (i := 12) rfl)
theorem ks_13 : Cond.selects "EldestSays$Plans" ⟨"EldestSays$Plans", "addUnit", "(II)V"⟩ ⟨"EldestSays$Plans", "addUnit", "(II)V"⟩ ∈ lw_tbl := List.mem_append_left _ (List.mem_of_getElem? (i := 13) rfl)
theorem ks_14 : Cond.selects "EldestSays$Plans" ⟨"EldestSays$Plans", "cheapestSet", "(I)I"⟩ ⟨"EldestSays$Plans", "cheapestSet", "(I)I"⟩ ∈ lw_tbl := List.mem_append_left _ (List.mem_of_getElem? (i := 14) rfl)
theorem ks_15 : Cond.selects "EldestSays$Plans" ⟨"EldestSays$Plans", "listSets", "(I)I"⟩ ⟨"EldestSays$Plans", "listSets", "(I)I"⟩ ∈ lw_tbl := List.mem_append_left _ (List.mem_of_getElem? (i := 15) rfl)
theorem ks_16 : Cond.selects "EldestSays$Plans" ⟨"EldestSays$Plans", "vote", "(I)V"⟩ ⟨"EldestSays$Plans", "vote", "(I)V"⟩ ∈ lw_tbl := List.mem_append_left _ (List.mem_of_getElem? (i := 16) rfl)
theorem ks_17 : Cond.selects "EldestSays$Plans" ⟨"EldestSays$Plans", "end", "(I)V"⟩ ⟨"EldestSays$Plans", "end", "(I)V"⟩ ∈ lw_tbl := List.mem_append_left _ (List.mem_of_getElem? (i := 17) rfl)
theorem ks_18 : Cond.selects "EldestSays" ⟨"EldestSays", "isRowRight", "()Z"⟩ ⟨"EldestSays", "isRowRight", "()Z"⟩ ∈ lw_tbl := List.mem_append_left _ (List.mem_of_getElem? (i := 18) rfl)
theorem ks_19 : Cond.selects "EldestSays" ⟨"EldestSays", "firstOddVote", "(I)I"⟩ ⟨"EldestSays", "firstOddVote", "(I)I"⟩ ∈ lw_tbl := List.mem_append_left _ (List.mem_of_getElem? (i := 19) rfl)
theorem ks_20 : Cond.selects "EldestSays$Evening" ⟨"EldestSays$Evening", "part", "([II)V"⟩ ⟨"EldestSays$Evening", "part", "([II)V"⟩ ∈ lw_tbl := List.mem_append_left _ (List.mem_of_getElem? (i := 20) rfl)
theorem ks_21 : Cond.selects "EldestSays$Evening" ⟨"EldestSays$Evening", "putAshore", "()V"⟩ ⟨"EldestSays$Evening", "putAshore", "()V"⟩ ∈ lw_tbl := List.mem_append_left _ (List.mem_of_getElem? (i := 21) rfl)
theorem ks_22 : Cond.selects "EldestSays$Crowd" ⟨"EldestSays$Crowd", "askYounger", "(II)I"⟩ ⟨"EldestSays$Crowd", "askYounger", "(II)I"⟩ ∈ lw_tbl := List.mem_append_left _ (List.mem_of_getElem? (i := 22) rfl)
theorem ks_23 : Cond.selects "EldestSays$Crowd" ⟨"EldestSays$Crowd", "buyYounger", "(III)I"⟩ ⟨"EldestSays$Crowd", "buyYounger", "(III)I"⟩ ∈ lw_tbl := List.mem_append_left _ (List.mem_of_getElem? (i := 23) rfl)
theorem ks_24 : Cond.selects "EldestSays$Crowd" ⟨"EldestSays$Crowd", "nextLevel", "(II)I"⟩ ⟨"EldestSays$Crowd", "nextLevel", "(II)I"⟩ ∈ lw_tbl := List.mem_append_left _ (List.mem_of_getElem? (i := 24) rfl)
theorem ks_25 : Cond.selects "EldestSays$Crowd" ⟨"EldestSays$Crowd", "buyAtLevel", "(IIII)I"⟩ ⟨"EldestSays$Crowd", "buyAtLevel", "(IIII)I"⟩ ∈ lw_tbl := List.mem_append_left _ (List.mem_of_getElem? (i := 25) rfl)
theorem ks_26 : Cond.selects "EldestSays" ⟨"EldestSays", "orderAsIs", "()V"⟩ ⟨"EldestSays", "orderAsIs", "()V"⟩ ∈ lw_tbl := List.mem_append_left _ (List.mem_of_getElem? (i := 26) rfl)
theorem ks_27 : Cond.selects "EldestSays" ⟨"EldestSays", "seat", "()V"⟩ ⟨"EldestSays", "seat", "()V"⟩ ∈ lw_tbl := List.mem_append_left _ (List.mem_of_getElem? (i := 27) rfl)
theorem ks_28 : Cond.selects "EldestSays" ⟨"EldestSays", "orderWith", "(II)V"⟩ ⟨"EldestSays", "orderWith", "(II)V"⟩ ∈ lw_tbl := List.mem_append_left _ (List.mem_of_getElem? (i := 28) rfl)
theorem ks_29 : Cond.selects "EldestSays" ⟨"EldestSays", "shakeVotes", "(I)J"⟩ ⟨"EldestSays", "shakeVotes", "(I)J"⟩ ∈ lw_tbl := List.mem_append_left _ (List.mem_of_getElem? (i := 29) rfl)
theorem ks_30 : Cond.selects "EldestSays" ⟨"EldestSays", "addVoter", "(II)V"⟩ ⟨"EldestSays", "addVoter", "(II)V"⟩ ∈ lw_tbl := List.mem_append_left _ (List.mem_of_getElem? (i := 30) rfl)
theorem ks_31 : Cond.selects "EldestSays" ⟨"EldestSays", "chanceCarried", "()J"⟩ ⟨"EldestSays", "chanceCarried", "()J"⟩ ∈ lw_tbl := List.mem_append_left _ (List.mem_of_getElem? (i := 31) rfl)
theorem ks_32 : Cond.selects "EldestSays" ⟨"EldestSays", "drawOrder", "(I)I"⟩ ⟨"EldestSays", "drawOrder", "(I)I"⟩ ∈ lw_tbl := List.mem_append_left _ (List.mem_of_getElem? (i := 32) rfl)
theorem ks_33 : Cond.selects "EldestSays" ⟨"EldestSays", "placeOf", "(I)I"⟩ ⟨"EldestSays", "placeOf", "(I)I"⟩ ∈ lw_tbl := List.mem_append_left _ (List.mem_of_getElem? (i := 33) rfl)
theorem ks_34 : Cond.selects "EldestSays" ⟨"EldestSays", "countRefusals", "(I)I"⟩ ⟨"EldestSays", "countRefusals", "(I)I"⟩ ∈ lw_tbl := List.mem_append_left _ (List.mem_of_getElem? (i := 34) rfl)
theorem ks_35 : Cond.selects "EldestSaysModel" ⟨"EldestSaysModel", "no", "(I)I"⟩ ⟨"EldestSaysModel", "no", "(I)I"⟩ ∈ lw_tbl := List.mem_append_left _ (List.mem_of_getElem? (i := 35) rfl)
theorem ks_36 : Cond.selects "EldestSaysModel" ⟨"EldestSaysModel", "statement", "()Z"⟩ ⟨"EldestSaysModel", "statement", "()Z"⟩ ∈ lw_tbl := List.mem_append_left _ (List.mem_of_getElem? (i := 36) rfl)
theorem ks_37 : Cond.selects "EldestSaysModel" ⟨"EldestSaysModel", "next", "()I"⟩ ⟨"EldestSaysModel", "next", "()I"⟩ ∈ lw_tbl := List.mem_append_left _ (List.mem_of_getElem? (i := 37) rfl)
theorem ks_38 : Cond.selects "EldestSaysModel" ⟨"EldestSaysModel", "reads", "(II)Z"⟩ ⟨"EldestSaysModel", "reads", "(II)Z"⟩ ∈ lw_tbl := List.mem_append_left _ (List.mem_of_getElem? (i := 38) rfl)
theorem ks_39 : Cond.selects "EldestSaysModel" ⟨"EldestSaysModel", "passesAll", "(IZ)V"⟩ ⟨"EldestSaysModel", "passesAll", "(IZ)V"⟩ ∈ lw_tbl := List.mem_append_left _ (List.mem_of_getElem? (i := 39) rfl)
theorem ks_40 : Cond.selects "EldestSaysModel" ⟨"EldestSaysModel", "passes", "([I)V"⟩ ⟨"EldestSaysModel", "passes", "([I)V"⟩ ∈ lw_tbl := List.mem_append_left _ (List.mem_of_getElem? (i := 40) rfl)
theorem ks_41 : Cond.selects "EldestSaysModel" ⟨"EldestSaysModel", "passOne", "(I)I"⟩ ⟨"EldestSaysModel", "passOne", "(I)I"⟩ ∈ lw_tbl := List.mem_append_left _ (List.mem_of_getElem? (i := 41) rfl)
theorem ks_42 : Cond.selects "EldestSaysModel" ⟨"EldestSaysModel", "comes", "(I)Z"⟩ ⟨"EldestSaysModel", "comes", "(I)Z"⟩ ∈ lw_tbl := List.mem_append_left _ (List.mem_of_getElem? (i := 42) rfl)
theorem ks_43 : Cond.selects "EldestSaysModel" ⟨"EldestSaysModel", "isMan", "(I)Z"⟩ ⟨"EldestSaysModel", "isMan", "(I)Z"⟩ ∈ lw_tbl := List.mem_append_left _ (List.mem_of_getElem? (i := 43) rfl)
theorem ks_44 : Cond.selects "EldestSaysModel" ⟨"EldestSaysModel", "areInOrder", "(II)Z"⟩ ⟨"EldestSaysModel", "areInOrder", "(II)Z"⟩ ∈ lw_tbl := List.mem_append_left _ (List.mem_of_getElem? (i := 44) rfl)
theorem ks_45 : Cond.selects "EldestSaysModel" ⟨"EldestSaysModel", "solvesAll", "()V"⟩ ⟨"EldestSaysModel", "solvesAll", "()V"⟩ ∈ lw_tbl := List.mem_append_left _ (List.mem_of_getElem? (i := 45) rfl)
theorem ks_46 : Cond.selects "EldestSaysModel" ⟨"EldestSaysModel", "solves", "(I)V"⟩ ⟨"EldestSaysModel", "solves", "(I)V"⟩ ∈ lw_tbl := List.mem_append_left _ (List.mem_of_getElem? (i := 46) rfl)
theorem ks_47 : Cond.selects "EldestSaysModel" ⟨"EldestSaysModel", "priceOf", "(II)I"⟩ ⟨"EldestSaysModel", "priceOf", "(II)I"⟩ ∈ lw_tbl := List.mem_append_left _ (List.mem_of_getElem? (i := 47) rfl)
theorem ks_48 : Cond.selects "EldestSaysModel" ⟨"EldestSaysModel", "findOffer", "(I)V"⟩ ⟨"EldestSaysModel", "findOffer", "(I)V"⟩ ∈ lw_tbl := List.mem_append_left _ (List.mem_of_getElem? (i := 48) rfl)
theorem ks_49 : Cond.selects "EldestSaysModel" ⟨"EldestSaysModel", "buysBy", "(I)I"⟩ ⟨"EldestSaysModel", "buysBy", "(I)I"⟩ ∈ lw_tbl := List.mem_append_left _ (List.mem_of_getElem? (i := 49) rfl)
theorem ks_50 : Cond.selects "EldestSaysModel" ⟨"EldestSaysModel", "leftFrom", "(I)I"⟩ ⟨"EldestSaysModel", "leftFrom", "(I)I"⟩ ∈ lw_tbl := List.mem_append_left _ (List.mem_of_getElem? (i := 50) rfl)
theorem ks_51 : Cond.selects "EldestSaysModel" ⟨"EldestSaysModel", "unbought", "(I)I"⟩ ⟨"EldestSaysModel", "unbought", "(I)I"⟩ ∈ lw_tbl := List.mem_append_left _ (List.mem_of_getElem? (i := 51) rfl)
theorem ks_52 : Cond.selects "EldestSaysModel" ⟨"EldestSaysModel", "weightOf", "(I)I"⟩ ⟨"EldestSaysModel", "weightOf", "(I)I"⟩ ∈ lw_tbl := List.mem_append_left _ (List.mem_of_getElem? (i := 52) rfl)
theorem ks_53 : Cond.selects "EldestSaysModel" ⟨"EldestSaysModel", "costOf", "(II)I"⟩ ⟨"EldestSaysModel", "costOf", "(II)I"⟩ ∈ lw_tbl := List.mem_append_left _ (List.mem_of_getElem? (i := 53) rfl)
theorem ks_54 : Cond.selects "EldestSaysModel" ⟨"EldestSaysModel", "isAhead", "(II)Z"⟩ ⟨"EldestSaysModel", "isAhead", "(II)Z"⟩ ∈ lw_tbl := List.mem_append_left _ (List.mem_of_getElem? (i := 54) rfl)
theorem ks_55 : Cond.selects "EldestSaysModel" ⟨"EldestSaysModel", "offersEach", "(III)V"⟩ ⟨"EldestSaysModel", "offersEach", "(III)V"⟩ ∈ lw_tbl := List.mem_append_left _ (List.mem_of_getElem? (i := 55) rfl)
theorem ks_56 : Cond.selects "EldestSaysModel" ⟨"EldestSaysModel", "offersFools", "(IZ)V"⟩ ⟨"EldestSaysModel", "offersFools", "(IZ)V"⟩ ∈ lw_tbl := List.mem_append_left _ (List.mem_of_getElem? (i := 56) rfl)
theorem ks_57 : Cond.selects "EldestSaysModel" ⟨"EldestSaysModel", "lower", "(I)I"⟩ ⟨"EldestSaysModel", "lower", "(I)I"⟩ ∈ lw_tbl := List.mem_append_left _ (List.mem_of_getElem? (i := 57) rfl)
theorem ks_58 : Cond.selects "EldestSaysModel" ⟨"EldestSaysModel", "isOver", "()Z"⟩ ⟨"EldestSaysModel", "isOver", "()Z"⟩ ∈ lw_tbl := List.mem_append_left _ (List.mem_of_getElem? (i := 58) rfl)
theorem ks_59 : Cond.selects "EldestSaysModel" ⟨"EldestSaysModel", "isOffer", "()Z"⟩ ⟨"EldestSaysModel", "isOffer", "()Z"⟩ ∈ lw_tbl := List.mem_append_left _ (List.mem_of_getElem? (i := 59) rfl)
theorem ks_60 : Cond.selects "EldestSaysModel" ⟨"EldestSaysModel", "decides", "(I)I"⟩ ⟨"EldestSaysModel", "decides", "(I)I"⟩ ∈ lw_tbl := List.mem_append_left _ (List.mem_of_getElem? (i := 60) rfl)
theorem ks_61 : Cond.selects "EldestSaysModel" ⟨"EldestSaysModel", "likeSays", "(III)Z"⟩ ⟨"EldestSaysModel", "likeSays", "(III)Z"⟩ ∈ lw_tbl := List.mem_append_left _ (List.mem_of_getElem? (i := 61) rfl)
theorem ks_62 : Cond.selects "EldestSaysModel" ⟨"EldestSaysModel", "enough", "(I)I"⟩ ⟨"EldestSaysModel", "enough", "(I)I"⟩ ∈ lw_tbl := List.mem_append_left _ (List.mem_of_getElem? (i := 62) rfl)
theorem ks_63 : Cond.selects "EldestSaysModel" ⟨"EldestSaysModel", "withPrice", "(III)I"⟩ ⟨"EldestSaysModel", "withPrice", "(III)I"⟩ ∈ lw_tbl := List.mem_append_left _ (List.mem_of_getElem? (i := 63) rfl)
theorem ks_64 : Cond.selects "EldestSaysModel" ⟨"EldestSaysModel", "likeTakes", "(IIII)V"⟩ ⟨"EldestSaysModel", "likeTakes", "(IIII)V"⟩ ∈ lw_tbl := List.mem_append_left _ (List.mem_of_getElem? (i := 64) rfl)
theorem ks_65 : Cond.selects "EldestSaysModel" ⟨"EldestSaysModel", "moves", "(II)V"⟩ ⟨"EldestSaysModel", "moves", "(II)V"⟩ ∈ lw_tbl := List.mem_append_left _ (List.mem_of_getElem? (i := 65) rfl)
theorem ks_66 : Cond.selects "EldestSaysModel" ⟨"EldestSaysModel", "swaps", "(II)V"⟩ ⟨"EldestSaysModel", "swaps", "(II)V"⟩ ∈ lw_tbl := List.mem_append_left _ (List.mem_of_getElem? (i := 66) rfl)
theorem ks_67 : Cond.selects "EldestSaysModel" ⟨"EldestSaysModel", "isFree", "(I)Z"⟩ ⟨"EldestSaysModel", "isFree", "(I)Z"⟩ ∈ lw_tbl := List.mem_append_left _ (List.mem_of_getElem? (i := 67) rfl)
theorem ks_68 : Cond.selects "EldestSaysModel" ⟨"EldestSaysModel", "lowest", "(I)J"⟩ ⟨"EldestSaysModel", "lowest", "(I)J"⟩ ∈ lw_tbl := List.mem_append_left _ (List.mem_of_getElem? (i := 68) rfl)

end

