-- ===== PART A: goes FIRST, ahead of the names: the tables' words, and 'selects' of the private methods out of them =====
/-- a private method of a class that the tables say can be made, by its rows of tables_1 -/
def lw_okq (q : MethodName × Nat) : Prop := (q.1.cls ≠ "java/lang/invoke/MethodHandle" ∧ q.1.cls ≠ "java/lang/invoke/VarHandle") ∧ Cond.instantiable q.1.cls q.2 ∈ tables_1 ∧ Cond.privateMethod q.1 ∈ tables_1 ∧ Cond.instanceMethod q.1 ∈ tables_1
theorem tm_1 {c : Cond} (i : Nat) (h : tables_1_1[i]? = some c) : c ∈ tables_1 := List.mem_append_left _ (List.mem_of_getElem? h)
theorem tm_2 {c : Cond} (i : Nat) (h : tables_1_2[i]? = some c) : c ∈ tables_1 := List.mem_append_right _ (List.mem_append_left _ (List.mem_of_getElem? h))
theorem tm_3 {c : Cond} (i : Nat) (h : tables_1_3[i]? = some c) : c ∈ tables_1 := List.mem_append_right _ (List.mem_append_right _ (List.mem_append_left _ (List.mem_of_getElem? h)))
theorem tm_4 {c : Cond} (i : Nat) (h : tables_1_4[i]? = some c) : c ∈ tables_1 := List.mem_append_right _ (List.mem_append_right _ (List.mem_append_right _ (List.mem_append_left _ (List.mem_of_getElem? h))))
theorem tm_5 {c : Cond} (i : Nat) (h : tables_1_5[i]? = some c) : c ∈ tables_1 := List.mem_append_right _ (List.mem_append_right _ (List.mem_append_right _ (List.mem_append_right _ ((List.mem_of_getElem? h)))))
theorem nq_0 : ("EldestSays" : String) ≠ "java/lang/invoke/MethodHandle" ∧ ("EldestSays" : String) ≠ "java/lang/invoke/VarHandle" := by decide +kernel
theorem nq_1 : ("EldestSays$Letters" : String) ≠ "java/lang/invoke/MethodHandle" ∧ ("EldestSays$Letters" : String) ≠ "java/lang/invoke/VarHandle" := by decide +kernel
theorem nq_2 : ("EldestSays$Plans" : String) ≠ "java/lang/invoke/MethodHandle" ∧ ("EldestSays$Plans" : String) ≠ "java/lang/invoke/VarHandle" := by decide +kernel
theorem nq_3 : ("EldestSays$Evening" : String) ≠ "java/lang/invoke/MethodHandle" ∧ ("EldestSays$Evening" : String) ≠ "java/lang/invoke/VarHandle" := by decide +kernel
theorem nq_4 : ("EldestSays$Crowd" : String) ≠ "java/lang/invoke/MethodHandle" ∧ ("EldestSays$Crowd" : String) ≠ "java/lang/invoke/VarHandle" := by decide +kernel
theorem nq_5 : ("EldestSaysModel" : String) ≠ "java/lang/invoke/MethodHandle" ∧ ("EldestSaysModel" : String) ≠ "java/lang/invoke/VarHandle" := by decide +kernel
theorem lw_p0 : lw_okq (⟨"EldestSays", "refuse", "(I)I"⟩, 14) := ⟨nq_0, tm_1 19 rfl, tm_2 34 rfl, tm_2 35 rfl⟩
theorem lw_p1 : lw_okq (⟨"EldestSays$Letters", "brokenAt", "()I"⟩, 2) := ⟨nq_1, tm_1 75 rfl, tm_2 54 rfl, tm_2 55 rfl⟩
theorem lw_p2 : lw_okq (⟨"EldestSays$Letters", "wrongAt", "(LEldestSays$Evening;)I"⟩, 2) := ⟨nq_1, tm_1 75 rfl, tm_2 64 rfl, tm_2 65 rfl⟩
theorem lw_p3 : lw_okq (⟨"EldestSays$Letters", "isRight", "(IIZ)Z"⟩, 2) := ⟨nq_1, tm_1 75 rfl, tm_2 68 rfl, tm_2 69 rfl⟩
theorem lw_p4 : lw_okq (⟨"EldestSays$Letters", "digit", "(I)I"⟩, 2) := ⟨nq_1, tm_1 75 rfl, tm_2 72 rfl, tm_2 73 rfl⟩
theorem lw_p5 : lw_okq (⟨"EldestSays$Letters", "tellOne", "(LEldestSays$Evening;II)V"⟩, 2) := ⟨nq_1, tm_1 75 rfl, tm_2 82 rfl, tm_2 83 rfl⟩
theorem lw_p6 : lw_okq (⟨"EldestSays", "solved", "()LEldestSays$Plans;"⟩, 14) := ⟨nq_0, tm_1 19 rfl, tm_2 111 rfl, tm_2 112 rfl⟩
theorem lw_p7 : lw_okq (⟨"EldestSays$Plans", "askYounger", "(I)V"⟩, 14) := ⟨nq_2, tm_1 141 rfl, tm_2 119 rfl, tm_2 120 rfl⟩
theorem lw_p8 : lw_okq (⟨"EldestSays$Plans", "kindOf", "(I)LEldestSays$Clever;"⟩, 14) := ⟨nq_2, tm_1 141 rfl, tm_2 123 rfl, tm_2 124 rfl⟩
theorem lw_p9 : lw_okq (⟨"EldestSays$Plans", "keepAll", "(I)V"⟩, 14) := ⟨nq_2, tm_1 141 rfl, tm_2 154 rfl, tm_2 155 rfl⟩
theorem lw_p10 : lw_okq (⟨"EldestSays$Plans", "give", "(III)V"⟩, 14) := ⟨nq_2, tm_1 141 rfl, tm_2 174 rfl, tm_2 175 rfl⟩
theorem lw_p11 : lw_okq (⟨"EldestSays$Plans", "forgetUnits", "()V"⟩, 14) := ⟨nq_2, tm_1 141 rfl, tm_2 203 rfl, tm_2 204 rfl⟩
theorem lw_p12 : lw_okq (⟨"EldestSays$Plans", "manOfUnit", "(II)I"⟩, 14) := ⟨nq_2, tm_1 141 rfl, tm_2 207 rfl, tm_2 208 rfl⟩
theorem lw_p13 : lw_okq (⟨"EldestSays$Plans", "addUnit", "(II)V"⟩, 14) := ⟨nq_2, tm_1 141 rfl, tm_2 211 rfl, tm_2 212 rfl⟩
theorem lw_p14 : lw_okq (⟨"EldestSays$Plans", "cheapestSet", "(I)I"⟩, 14) := ⟨nq_2, tm_1 141 rfl, tm_2 215 rfl, tm_2 216 rfl⟩
theorem lw_p15 : lw_okq (⟨"EldestSays$Plans", "listSets", "(I)I"⟩, 14) := ⟨nq_2, tm_1 141 rfl, tm_2 219 rfl, tm_2 220 rfl⟩
def lw_privs_1 : List (MethodName × Nat) := [(⟨"EldestSays", "refuse", "(I)I"⟩, 14), (⟨"EldestSays$Letters", "brokenAt", "()I"⟩, 2), (⟨"EldestSays$Letters", "wrongAt", "(LEldestSays$Evening;)I"⟩, 2), (⟨"EldestSays$Letters", "isRight", "(IIZ)Z"⟩, 2), (⟨"EldestSays$Letters", "digit", "(I)I"⟩, 2), (⟨"EldestSays$Letters", "tellOne", "(LEldestSays$Evening;II)V"⟩, 2), (⟨"EldestSays", "solved", "()LEldestSays$Plans;"⟩, 14), (⟨"EldestSays$Plans", "askYounger", "(I)V"⟩, 14), (⟨"EldestSays$Plans", "kindOf", "(I)LEldestSays$Clever;"⟩, 14), (⟨"EldestSays$Plans", "keepAll", "(I)V"⟩, 14), (⟨"EldestSays$Plans", "give", "(III)V"⟩, 14), (⟨"EldestSays$Plans", "forgetUnits", "()V"⟩, 14), (⟨"EldestSays$Plans", "manOfUnit", "(II)I"⟩, 14), (⟨"EldestSays$Plans", "addUnit", "(II)V"⟩, 14), (⟨"EldestSays$Plans", "cheapestSet", "(I)I"⟩, 14), (⟨"EldestSays$Plans", "listSets", "(I)I"⟩, 14)]
theorem lw_r1 : ∀ q ∈ lw_privs_1, lw_okq q := List.forall_mem_cons.mpr ⟨lw_p0, List.forall_mem_cons.mpr ⟨lw_p1, List.forall_mem_cons.mpr ⟨lw_p2, List.forall_mem_cons.mpr ⟨lw_p3, List.forall_mem_cons.mpr ⟨lw_p4, List.forall_mem_cons.mpr ⟨lw_p5, List.forall_mem_cons.mpr ⟨lw_p6, List.forall_mem_cons.mpr ⟨lw_p7, List.forall_mem_cons.mpr ⟨lw_p8, List.forall_mem_cons.mpr ⟨lw_p9, List.forall_mem_cons.mpr ⟨lw_p10, List.forall_mem_cons.mpr ⟨lw_p11, List.forall_mem_cons.mpr ⟨lw_p12, List.forall_mem_cons.mpr ⟨lw_p13, List.forall_mem_cons.mpr ⟨lw_p14, List.forall_mem_cons.mpr ⟨lw_p15, fun _ h => absurd h List.not_mem_nil⟩⟩⟩⟩⟩⟩⟩⟩⟩⟩⟩⟩⟩⟩⟩⟩
theorem lw_p16 : lw_okq (⟨"EldestSays$Plans", "vote", "(I)V"⟩, 14) := ⟨nq_2, tm_1 141 rfl, tm_2 231 rfl, tm_2 232 rfl⟩
theorem lw_p17 : lw_okq (⟨"EldestSays$Plans", "end", "(I)V"⟩, 14) := ⟨nq_2, tm_1 141 rfl, tm_2 235 rfl, tm_2 236 rfl⟩
theorem lw_p18 : lw_okq (⟨"EldestSays", "isRowRight", "()Z"⟩, 14) := ⟨nq_0, tm_1 19 rfl, tm_3 45 rfl, tm_3 46 rfl⟩
theorem lw_p19 : lw_okq (⟨"EldestSays", "firstOddVote", "(I)I"⟩, 14) := ⟨nq_0, tm_1 19 rfl, tm_3 49 rfl, tm_3 50 rfl⟩
theorem lw_p20 : lw_okq (⟨"EldestSays$Evening", "part", "([II)V"⟩, 8) := ⟨nq_3, tm_1 27 rfl, tm_3 62 rfl, tm_3 63 rfl⟩
theorem lw_p21 : lw_okq (⟨"EldestSays$Evening", "putAshore", "()V"⟩, 8) := ⟨nq_3, tm_1 27 rfl, tm_3 66 rfl, tm_3 67 rfl⟩
theorem lw_p22 : lw_okq (⟨"EldestSays$Crowd", "askYounger", "(II)I"⟩, 6) := ⟨nq_4, tm_1 201 rfl, tm_3 89 rfl, tm_3 90 rfl⟩
theorem lw_p23 : lw_okq (⟨"EldestSays$Crowd", "buyYounger", "(III)I"⟩, 6) := ⟨nq_4, tm_1 201 rfl, tm_3 98 rfl, tm_3 99 rfl⟩
theorem lw_p24 : lw_okq (⟨"EldestSays$Crowd", "nextLevel", "(II)I"⟩, 6) := ⟨nq_4, tm_1 201 rfl, tm_3 103 rfl, tm_3 104 rfl⟩
theorem lw_p25 : lw_okq (⟨"EldestSays$Crowd", "buyAtLevel", "(IIII)I"⟩, 6) := ⟨nq_4, tm_1 201 rfl, tm_3 107 rfl, tm_3 108 rfl⟩
theorem lw_p26 : lw_okq (⟨"EldestSays", "orderAsIs", "()V"⟩, 14) := ⟨nq_0, tm_1 19 rfl, tm_3 135 rfl, tm_3 136 rfl⟩
theorem lw_p27 : lw_okq (⟨"EldestSays", "seat", "()V"⟩, 14) := ⟨nq_0, tm_1 19 rfl, tm_3 139 rfl, tm_3 140 rfl⟩
theorem lw_p28 : lw_okq (⟨"EldestSays", "orderWith", "(II)V"⟩, 14) := ⟨nq_0, tm_1 19 rfl, tm_3 147 rfl, tm_3 148 rfl⟩
theorem lw_p29 : lw_okq (⟨"EldestSays", "shakeVotes", "(I)J"⟩, 14) := ⟨nq_0, tm_1 19 rfl, tm_3 170 rfl, tm_3 171 rfl⟩
theorem lw_p30 : lw_okq (⟨"EldestSays", "addVoter", "(II)V"⟩, 14) := ⟨nq_0, tm_1 19 rfl, tm_3 177 rfl, tm_3 178 rfl⟩
theorem lw_p31 : lw_okq (⟨"EldestSays", "chanceCarried", "()J"⟩, 14) := ⟨nq_0, tm_1 19 rfl, tm_3 182 rfl, tm_3 183 rfl⟩
def lw_privs_2 : List (MethodName × Nat) := [(⟨"EldestSays$Plans", "vote", "(I)V"⟩, 14), (⟨"EldestSays$Plans", "end", "(I)V"⟩, 14), (⟨"EldestSays", "isRowRight", "()Z"⟩, 14), (⟨"EldestSays", "firstOddVote", "(I)I"⟩, 14), (⟨"EldestSays$Evening", "part", "([II)V"⟩, 8), (⟨"EldestSays$Evening", "putAshore", "()V"⟩, 8), (⟨"EldestSays$Crowd", "askYounger", "(II)I"⟩, 6), (⟨"EldestSays$Crowd", "buyYounger", "(III)I"⟩, 6), (⟨"EldestSays$Crowd", "nextLevel", "(II)I"⟩, 6), (⟨"EldestSays$Crowd", "buyAtLevel", "(IIII)I"⟩, 6), (⟨"EldestSays", "orderAsIs", "()V"⟩, 14), (⟨"EldestSays", "seat", "()V"⟩, 14), (⟨"EldestSays", "orderWith", "(II)V"⟩, 14), (⟨"EldestSays", "shakeVotes", "(I)J"⟩, 14), (⟨"EldestSays", "addVoter", "(II)V"⟩, 14), (⟨"EldestSays", "chanceCarried", "()J"⟩, 14)]
theorem lw_r2 : ∀ q ∈ lw_privs_2, lw_okq q := List.forall_mem_cons.mpr ⟨lw_p16, List.forall_mem_cons.mpr ⟨lw_p17, List.forall_mem_cons.mpr ⟨lw_p18, List.forall_mem_cons.mpr ⟨lw_p19, List.forall_mem_cons.mpr ⟨lw_p20, List.forall_mem_cons.mpr ⟨lw_p21, List.forall_mem_cons.mpr ⟨lw_p22, List.forall_mem_cons.mpr ⟨lw_p23, List.forall_mem_cons.mpr ⟨lw_p24, List.forall_mem_cons.mpr ⟨lw_p25, List.forall_mem_cons.mpr ⟨lw_p26, List.forall_mem_cons.mpr ⟨lw_p27, List.forall_mem_cons.mpr ⟨lw_p28, List.forall_mem_cons.mpr ⟨lw_p29, List.forall_mem_cons.mpr ⟨lw_p30, List.forall_mem_cons.mpr ⟨lw_p31, fun _ h => absurd h List.not_mem_nil⟩⟩⟩⟩⟩⟩⟩⟩⟩⟩⟩⟩⟩⟩⟩⟩
theorem lw_p32 : lw_okq (⟨"EldestSays", "drawOrder", "(I)I"⟩, 14) := ⟨nq_0, tm_1 19 rfl, tm_3 195 rfl, tm_3 196 rfl⟩
theorem lw_p33 : lw_okq (⟨"EldestSays", "placeOf", "(I)I"⟩, 14) := ⟨nq_0, tm_1 19 rfl, tm_3 202 rfl, tm_3 203 rfl⟩
theorem lw_p34 : lw_okq (⟨"EldestSays", "countRefusals", "(I)I"⟩, 14) := ⟨nq_0, tm_1 19 rfl, tm_3 228 rfl, tm_3 229 rfl⟩
theorem lw_p35 : lw_okq (⟨"EldestSaysModel", "no", "(I)I"⟩, 33) := ⟨nq_5, tm_3 232 rfl, tm_4 105 rfl, tm_4 106 rfl⟩
theorem lw_p36 : lw_okq (⟨"EldestSaysModel", "statement", "()Z"⟩, 33) := ⟨nq_5, tm_3 232 rfl, tm_4 113 rfl, tm_4 114 rfl⟩
theorem lw_p37 : lw_okq (⟨"EldestSaysModel", "next", "()I"⟩, 33) := ⟨nq_5, tm_3 232 rfl, tm_4 117 rfl, tm_4 118 rfl⟩
theorem lw_p38 : lw_okq (⟨"EldestSaysModel", "reads", "(II)Z"⟩, 33) := ⟨nq_5, tm_3 232 rfl, tm_4 121 rfl, tm_4 122 rfl⟩
theorem lw_p39 : lw_okq (⟨"EldestSaysModel", "passesAll", "(IZ)V"⟩, 33) := ⟨nq_5, tm_3 232 rfl, tm_4 128 rfl, tm_4 129 rfl⟩
theorem lw_p40 : lw_okq (⟨"EldestSaysModel", "passes", "([I)V"⟩, 33) := ⟨nq_5, tm_3 232 rfl, tm_4 132 rfl, tm_4 133 rfl⟩
theorem lw_p41 : lw_okq (⟨"EldestSaysModel", "passOne", "(I)I"⟩, 33) := ⟨nq_5, tm_3 232 rfl, tm_4 136 rfl, tm_4 137 rfl⟩
theorem lw_p42 : lw_okq (⟨"EldestSaysModel", "comes", "(I)Z"⟩, 33) := ⟨nq_5, tm_3 232 rfl, tm_4 140 rfl, tm_4 141 rfl⟩
theorem lw_p43 : lw_okq (⟨"EldestSaysModel", "isMan", "(I)Z"⟩, 33) := ⟨nq_5, tm_3 232 rfl, tm_4 156 rfl, tm_4 157 rfl⟩
theorem lw_p44 : lw_okq (⟨"EldestSaysModel", "areInOrder", "(II)Z"⟩, 33) := ⟨nq_5, tm_3 232 rfl, tm_4 170 rfl, tm_4 171 rfl⟩
theorem lw_p45 : lw_okq (⟨"EldestSaysModel", "solvesAll", "()V"⟩, 33) := ⟨nq_5, tm_3 232 rfl, tm_4 174 rfl, tm_4 175 rfl⟩
theorem lw_p46 : lw_okq (⟨"EldestSaysModel", "solves", "(I)V"⟩, 33) := ⟨nq_5, tm_3 232 rfl, tm_4 178 rfl, tm_4 179 rfl⟩
theorem lw_p47 : lw_okq (⟨"EldestSaysModel", "priceOf", "(II)I"⟩, 33) := ⟨nq_5, tm_3 232 rfl, tm_4 182 rfl, tm_4 183 rfl⟩
def lw_privs_3 : List (MethodName × Nat) := [(⟨"EldestSays", "drawOrder", "(I)I"⟩, 14), (⟨"EldestSays", "placeOf", "(I)I"⟩, 14), (⟨"EldestSays", "countRefusals", "(I)I"⟩, 14), (⟨"EldestSaysModel", "no", "(I)I"⟩, 33), (⟨"EldestSaysModel", "statement", "()Z"⟩, 33), (⟨"EldestSaysModel", "next", "()I"⟩, 33), (⟨"EldestSaysModel", "reads", "(II)Z"⟩, 33), (⟨"EldestSaysModel", "passesAll", "(IZ)V"⟩, 33), (⟨"EldestSaysModel", "passes", "([I)V"⟩, 33), (⟨"EldestSaysModel", "passOne", "(I)I"⟩, 33), (⟨"EldestSaysModel", "comes", "(I)Z"⟩, 33), (⟨"EldestSaysModel", "isMan", "(I)Z"⟩, 33), (⟨"EldestSaysModel", "areInOrder", "(II)Z"⟩, 33), (⟨"EldestSaysModel", "solvesAll", "()V"⟩, 33), (⟨"EldestSaysModel", "solves", "(I)V"⟩, 33), (⟨"EldestSaysModel", "priceOf", "(II)I"⟩, 33)]
theorem lw_r3 : ∀ q ∈ lw_privs_3, lw_okq q := List.forall_mem_cons.mpr ⟨lw_p32, List.forall_mem_cons.mpr ⟨lw_p33, List.forall_mem_cons.mpr ⟨lw_p34, List.forall_mem_cons.mpr ⟨lw_p35, List.forall_mem_cons.mpr ⟨lw_p36, List.forall_mem_cons.mpr ⟨lw_p37, List.forall_mem_cons.mpr ⟨lw_p38, List.forall_mem_cons.mpr ⟨lw_p39, List.forall_mem_cons.mpr ⟨lw_p40, List.forall_mem_cons.mpr ⟨lw_p41, List.forall_mem_cons.mpr ⟨lw_p42, List.forall_mem_cons.mpr ⟨lw_p43, List.forall_mem_cons.mpr ⟨lw_p44, List.forall_mem_cons.mpr ⟨lw_p45, List.forall_mem_cons.mpr ⟨lw_p46, List.forall_mem_cons.mpr ⟨lw_p47, fun _ h => absurd h List.not_mem_nil⟩⟩⟩⟩⟩⟩⟩⟩⟩⟩⟩⟩⟩⟩⟩⟩
theorem lw_p48 : lw_okq (⟨"EldestSaysModel", "findOffer", "(I)V"⟩, 33) := ⟨nq_5, tm_3 232 rfl, tm_4 189 rfl, tm_4 190 rfl⟩
theorem lw_p49 : lw_okq (⟨"EldestSaysModel", "buysBy", "(I)I"⟩, 33) := ⟨nq_5, tm_3 232 rfl, tm_4 196 rfl, tm_4 197 rfl⟩
theorem lw_p50 : lw_okq (⟨"EldestSaysModel", "leftFrom", "(I)I"⟩, 33) := ⟨nq_5, tm_3 232 rfl, tm_4 200 rfl, tm_4 201 rfl⟩
theorem lw_p51 : lw_okq (⟨"EldestSaysModel", "unbought", "(I)I"⟩, 33) := ⟨nq_5, tm_3 232 rfl, tm_4 204 rfl, tm_4 205 rfl⟩
theorem lw_p52 : lw_okq (⟨"EldestSaysModel", "weightOf", "(I)I"⟩, 33) := ⟨nq_5, tm_3 232 rfl, tm_4 208 rfl, tm_4 209 rfl⟩
theorem lw_p53 : lw_okq (⟨"EldestSaysModel", "costOf", "(II)I"⟩, 33) := ⟨nq_5, tm_3 232 rfl, tm_4 215 rfl, tm_4 216 rfl⟩
theorem lw_p54 : lw_okq (⟨"EldestSaysModel", "isAhead", "(II)Z"⟩, 33) := ⟨nq_5, tm_3 232 rfl, tm_4 219 rfl, tm_4 220 rfl⟩
theorem lw_p55 : lw_okq (⟨"EldestSaysModel", "offersEach", "(III)V"⟩, 33) := ⟨nq_5, tm_3 232 rfl, tm_4 223 rfl, tm_4 224 rfl⟩
theorem lw_p56 : lw_okq (⟨"EldestSaysModel", "offersFools", "(IZ)V"⟩, 33) := ⟨nq_5, tm_3 232 rfl, tm_4 227 rfl, tm_4 228 rfl⟩
theorem lw_p57 : lw_okq (⟨"EldestSaysModel", "lower", "(I)I"⟩, 33) := ⟨nq_5, tm_3 232 rfl, tm_5 11 rfl, tm_5 12 rfl⟩
theorem lw_p58 : lw_okq (⟨"EldestSaysModel", "isOver", "()Z"⟩, 33) := ⟨nq_5, tm_3 232 rfl, tm_5 32 rfl, tm_5 33 rfl⟩
theorem lw_p59 : lw_okq (⟨"EldestSaysModel", "isOffer", "()Z"⟩, 33) := ⟨nq_5, tm_3 232 rfl, tm_5 36 rfl, tm_5 37 rfl⟩
theorem lw_p60 : lw_okq (⟨"EldestSaysModel", "decides", "(I)I"⟩, 33) := ⟨nq_5, tm_3 232 rfl, tm_5 44 rfl, tm_5 45 rfl⟩
theorem lw_p61 : lw_okq (⟨"EldestSaysModel", "likeSays", "(III)Z"⟩, 33) := ⟨nq_5, tm_3 232 rfl, tm_5 60 rfl, tm_5 61 rfl⟩
theorem lw_p62 : lw_okq (⟨"EldestSaysModel", "enough", "(I)I"⟩, 33) := ⟨nq_5, tm_3 232 rfl, tm_5 64 rfl, tm_5 65 rfl⟩
theorem lw_p63 : lw_okq (⟨"EldestSaysModel", "withPrice", "(III)I"⟩, 33) := ⟨nq_5, tm_3 232 rfl, tm_5 68 rfl, tm_5 69 rfl⟩
def lw_privs_4 : List (MethodName × Nat) := [(⟨"EldestSaysModel", "findOffer", "(I)V"⟩, 33), (⟨"EldestSaysModel", "buysBy", "(I)I"⟩, 33), (⟨"EldestSaysModel", "leftFrom", "(I)I"⟩, 33), (⟨"EldestSaysModel", "unbought", "(I)I"⟩, 33), (⟨"EldestSaysModel", "weightOf", "(I)I"⟩, 33), (⟨"EldestSaysModel", "costOf", "(II)I"⟩, 33), (⟨"EldestSaysModel", "isAhead", "(II)Z"⟩, 33), (⟨"EldestSaysModel", "offersEach", "(III)V"⟩, 33), (⟨"EldestSaysModel", "offersFools", "(IZ)V"⟩, 33), (⟨"EldestSaysModel", "lower", "(I)I"⟩, 33), (⟨"EldestSaysModel", "isOver", "()Z"⟩, 33), (⟨"EldestSaysModel", "isOffer", "()Z"⟩, 33), (⟨"EldestSaysModel", "decides", "(I)I"⟩, 33), (⟨"EldestSaysModel", "likeSays", "(III)Z"⟩, 33), (⟨"EldestSaysModel", "enough", "(I)I"⟩, 33), (⟨"EldestSaysModel", "withPrice", "(III)I"⟩, 33)]
theorem lw_r4 : ∀ q ∈ lw_privs_4, lw_okq q := List.forall_mem_cons.mpr ⟨lw_p48, List.forall_mem_cons.mpr ⟨lw_p49, List.forall_mem_cons.mpr ⟨lw_p50, List.forall_mem_cons.mpr ⟨lw_p51, List.forall_mem_cons.mpr ⟨lw_p52, List.forall_mem_cons.mpr ⟨lw_p53, List.forall_mem_cons.mpr ⟨lw_p54, List.forall_mem_cons.mpr ⟨lw_p55, List.forall_mem_cons.mpr ⟨lw_p56, List.forall_mem_cons.mpr ⟨lw_p57, List.forall_mem_cons.mpr ⟨lw_p58, List.forall_mem_cons.mpr ⟨lw_p59, List.forall_mem_cons.mpr ⟨lw_p60, List.forall_mem_cons.mpr ⟨lw_p61, List.forall_mem_cons.mpr ⟨lw_p62, List.forall_mem_cons.mpr ⟨lw_p63, fun _ h => absurd h List.not_mem_nil⟩⟩⟩⟩⟩⟩⟩⟩⟩⟩⟩⟩⟩⟩⟩⟩
theorem lw_p64 : lw_okq (⟨"EldestSaysModel", "likeTakes", "(IIII)V"⟩, 33) := ⟨nq_5, tm_3 232 rfl, tm_5 72 rfl, tm_5 73 rfl⟩
theorem lw_p65 : lw_okq (⟨"EldestSaysModel", "moves", "(II)V"⟩, 33) := ⟨nq_5, tm_3 232 rfl, tm_5 88 rfl, tm_5 89 rfl⟩
theorem lw_p66 : lw_okq (⟨"EldestSaysModel", "swaps", "(II)V"⟩, 33) := ⟨nq_5, tm_3 232 rfl, tm_5 96 rfl, tm_5 97 rfl⟩
theorem lw_p67 : lw_okq (⟨"EldestSaysModel", "isFree", "(I)Z"⟩, 33) := ⟨nq_5, tm_3 232 rfl, tm_5 111 rfl, tm_5 112 rfl⟩
theorem lw_p68 : lw_okq (⟨"EldestSaysModel", "lowest", "(I)J"⟩, 33) := ⟨nq_5, tm_3 232 rfl, tm_5 119 rfl, tm_5 120 rfl⟩
def lw_privs_5 : List (MethodName × Nat) := [(⟨"EldestSaysModel", "likeTakes", "(IIII)V"⟩, 33), (⟨"EldestSaysModel", "moves", "(II)V"⟩, 33), (⟨"EldestSaysModel", "swaps", "(II)V"⟩, 33), (⟨"EldestSaysModel", "isFree", "(I)Z"⟩, 33), (⟨"EldestSaysModel", "lowest", "(I)J"⟩, 33)]
theorem lw_r5 : ∀ q ∈ lw_privs_5, lw_okq q := List.forall_mem_cons.mpr ⟨lw_p64, List.forall_mem_cons.mpr ⟨lw_p65, List.forall_mem_cons.mpr ⟨lw_p66, List.forall_mem_cons.mpr ⟨lw_p67, List.forall_mem_cons.mpr ⟨lw_p68, fun _ h => absurd h List.not_mem_nil⟩⟩⟩⟩⟩
def lw_privs : List (MethodName × Nat) := lw_privs_1 ++ (lw_privs_2 ++ (lw_privs_3 ++ (lw_privs_4 ++ (lw_privs_5))))
def lw_tbl : List Cond := k2_sels lw_privs ++ tables_1
theorem lw_privs_ok : ∀ q ∈ lw_privs, lw_okq q := by
  show ∀ q ∈ lw_privs_1 ++ (lw_privs_2 ++ (lw_privs_3 ++ (lw_privs_4 ++ (lw_privs_5)))), lw_okq q
  exact List.forall_mem_append.mpr ⟨lw_r1, List.forall_mem_append.mpr ⟨lw_r2, List.forall_mem_append.mpr ⟨lw_r3, List.forall_mem_append.mpr ⟨lw_r4, lw_r5⟩⟩⟩⟩
