section
/-! 01.tbl -/
-- ===== PART A: goes FIRST, ahead of the names: the tables' words, and 'selects' of the private methods out of them =====
/-- a private method of a class that the tables say can be made, by its rows of tables_1 -/
def lw_okq (q : MethodName × Nat) : Prop := (q.1.cls ≠ "java/lang/invoke/MethodHandle" ∧ q.1.cls ≠ "java/lang/invoke/VarHandle") ∧ Cond.instantiable q.1.cls q.2 ∈ tables_1 ∧ Cond.privateMethod q.1 ∈ tables_1 ∧ Cond.instanceMethod q.1 ∈ tables_1
theorem tm_1 {c : Cond} (i : Nat) (h : tables_1_1[i]? = some c) : c ∈ tables_1 := List.mem_append_left _ (List.mem_of_getElem? h)
theorem tm_2 {c : Cond} (i : Nat) (h : tables_1_2[i]? = some c) : c ∈ tables_1 := List.mem_append_right _ (List.mem_append_left _ (List.mem_of_getElem? h))
theorem tm_3 {c : Cond} (i : Nat) (h : tables_1_3[i]? = some c) : c ∈ tables_1 := List.mem_append_right _ (List.mem_append_right _ (List.mem_append_left _ (List.mem_of_getElem? h)))
theorem tm_4 {c : Cond} (i : Nat) (h : tables_1_4[i]? = some c) : c ∈ tables_1 := List.mem_append_right _ (List.mem_append_right _ (List.mem_append_right _ (List.mem_append_left _ (List.mem_of_getElem? h))))
theorem tm_5 {c : Cond} (i : Nat) (h : tables_1_5[i]? = some c) : c ∈ tables_1 := List.mem_append_right _ (List.mem_append_right _ (List.mem_append_right _ (List.mem_append_right _ ((List.mem_of_getElem? h)))))
theorem nq_0 : ("EldestSays" : String) ≠ "java/lang/invoke/MethodHandle" ∧ ("EldestSays" : String) ≠ "java/lang/invoke/VarHandle" := by decide +kernel
theorem nq_1 : ("EldestSays$Letters" : String) ≠ "java/lang/invoke/MethodHandle" ∧ ("EldestSays$Letters" : String) ≠ "java/lang/invoke/VarHandle" := by decide +kernel
theorem nq_2 : ("EldestSays$Plans" : String) ≠ "java/lang/invoke/MethodHandle" ∧ ("EldestSays$Plans" : String) ≠ "java/lang/invoke/VarHandle" := by decide +kernel
theorem nq_3 : ("EldestSays$Evening" : String) ≠ "java/lang/invoke/MethodHandle" ∧ ("EldestSays$Evening" : String) ≠ "java/lang/invoke/VarHandle" := by decide +kernel
theorem nq_4 : ("EldestSays$Crowd" : String) ≠ "java/lang/invoke/MethodHandle" ∧ ("EldestSays$Crowd" : String) ≠ "java/lang/invoke/VarHandle" := by decide +kernel
theorem nq_5 : ("EldestSaysModel" : String) ≠ "java/lang/invoke/MethodHandle" ∧ ("EldestSaysModel" : String) ≠ "java/lang/invoke/VarHandle" := by decide +kernel
theorem lw_p0 : lw_okq (⟨"EldestSays", "refuse", "(I)I"⟩, 14) := ⟨nq_0, tm_1 19 rfl, tm_2 34 rfl, tm_2 35 rfl⟩
theorem lw_p1 : lw_okq (⟨"EldestSays$Letters", "brokenAt", "()I"⟩, 2) := ⟨nq_1, tm_1 75 rfl, tm_2 54 rfl, tm_2 55 rfl⟩
theorem lw_p2 : lw_okq (⟨"EldestSays$Letters", "wrongAt", "(LEldestSays$Evening;)I"⟩, 2) := ⟨nq_1, tm_1 75 rfl, tm_2 64 rfl, tm_2 65 rfl⟩
theorem lw_p3 : lw_okq (⟨"EldestSays$Letters", "isRight", "(IIZ)Z"⟩, 2) := ⟨nq_1, tm_1 75 rfl, tm_2 68 rfl, tm_2 69 rfl⟩
theorem lw_p4 : lw_okq (⟨"EldestSays$Letters", "digit", "(I)I"⟩, 2) := ⟨nq_1, tm_1 75 rfl, tm_2 72 rfl, tm_2 73 rfl⟩
theorem lw_p5 : lw_okq (⟨"EldestSays$Letters", "tellOne", "(LEldestSays$Evening;II)V"⟩, 2) := ⟨nq_1, tm_1 75 rfl, tm_2 82 rfl, tm_2 83 rfl⟩
theorem lw_p6 : lw_okq (⟨"EldestSays", "solved", "()LEldestSays$Plans;"⟩, 14) := ⟨nq_0, tm_1 19 rfl, tm_2 111 rfl, tm_2 112 rfl⟩
theorem lw_p7 : lw_okq (⟨"EldestSays$Plans", "askYounger", "(I)V"⟩, 14) := ⟨nq_2, tm_1 141 rfl, tm_2 119 rfl, tm_2 120 rfl⟩
theorem lw_p8 : lw_okq (⟨"EldestSays$Plans", "kindOf", "(I)LEldestSays$Clever;"⟩, 14) := ⟨nq_2, tm_1 141 rfl, tm_2 123 rfl, tm_2 124 rfl⟩
theorem lw_p9 : lw_okq (⟨"EldestSays$Plans", "keepAll", "(I)V"⟩, 14) := ⟨nq_2, tm_1 141 rfl, tm_2 154 rfl, tm_2 155 rfl⟩
theorem lw_p10 : lw_okq (⟨"EldestSays$Plans", "give", "(III)V"⟩, 14) := ⟨nq_2, tm_1 141 rfl, tm_2 174 rfl, tm_2 175 rfl⟩
theorem lw_p11 : lw_okq (⟨"EldestSays$Plans", "forgetUnits", "()V"⟩, 14) := ⟨nq_2, tm_1 141 rfl, tm_2 203 rfl, tm_2 204 rfl⟩
theorem lw_p12 : lw_okq (⟨"EldestSays$Plans", "manOfUnit", "(II)I"⟩, 14) := ⟨nq_2, tm_1 141 rfl, tm_2 207 rfl, tm_2 208 rfl⟩
theorem lw_p13 : lw_okq (⟨"EldestSays$Plans", "addUnit", "(II)V"⟩, 14) := ⟨nq_2, tm_1 141 rfl, tm_2 211 rfl, tm_2 212 rfl⟩
theorem lw_p14 : lw_okq (⟨"EldestSays$Plans", "cheapestSet", "(I)I"⟩, 14) := ⟨nq_2, tm_1 141 rfl, tm_2 215 rfl, tm_2 216 rfl⟩
theorem lw_p15 : lw_okq (⟨"EldestSays$Plans", "listSets", "(I)I"⟩, 14) := ⟨nq_2, tm_1 141 rfl, tm_2 219 rfl, tm_2 220 rfl⟩
def lw_privs_1 : List (MethodName × Nat) := [(⟨"EldestSays", "refuse", "(I)I"⟩, 14), (⟨"EldestSays$Letters", "brokenAt", "()I"⟩, 2), (⟨"EldestSays$Letters", "wrongAt", "(LEldestSays$Evening;)I"⟩, 2), (⟨"EldestSays$Letters", "isRight", "(IIZ)Z"⟩, 2), (⟨"EldestSays$Letters", "digit", "(I)I"⟩, 2), (⟨"EldestSays$Letters", "tellOne", "(LEldestSays$Evening;II)V"⟩, 2), (⟨"EldestSays", "solved", "()LEldestSays$Plans;"⟩, 14), (⟨"EldestSays$Plans", "askYounger", "(I)V"⟩, 14), (⟨"EldestSays$Plans", "kindOf", "(I)LEldestSays$Clever;"⟩, 14), (⟨"EldestSays$Plans", "keepAll", "(I)V"⟩, 14), (⟨"EldestSays$Plans", "give", "(III)V"⟩, 14), (⟨"EldestSays$Plans", "forgetUnits", "()V"⟩, 14), (⟨"EldestSays$Plans", "manOfUnit", "(II)I"⟩, 14), (⟨"EldestSays$Plans", "addUnit", "(II)V"⟩, 14), (⟨"EldestSays$Plans", "cheapestSet", "(I)I"⟩, 14), (⟨"EldestSays$Plans", "listSets", "(I)I"⟩, 14)]
theorem lw_r1 : ∀ q ∈ lw_privs_1, lw_okq q := List.forall_mem_cons.mpr ⟨lw_p0, List.forall_mem_cons.mpr ⟨lw_p1, List.forall_mem_cons.mpr ⟨lw_p2, List.forall_mem_cons.mpr ⟨lw_p3, List.forall_mem_cons.mpr ⟨lw_p4, List.forall_mem_cons.mpr ⟨lw_p5, List.forall_mem_cons.mpr ⟨lw_p6, List.forall_mem_cons.mpr ⟨lw_p7, List.forall_mem_cons.mpr ⟨lw_p8, List.forall_mem_cons.mpr ⟨lw_p9, List.forall_mem_cons.mpr ⟨lw_p10, List.forall_mem_cons.mpr ⟨lw_p11, List.forall_mem_cons.mpr ⟨lw_p12, List.forall_mem_cons.mpr ⟨lw_p13, List.forall_mem_cons.mpr ⟨lw_p14, List.forall_mem_cons.mpr ⟨lw_p15, fun _ h => absurd h List.not_mem_nil⟩⟩⟩⟩⟩⟩⟩⟩⟩⟩⟩⟩⟩⟩⟩⟩
theorem lw_p16 : lw_okq (⟨"EldestSays$Plans", "vote", "(I)V"⟩, 14) := ⟨nq_2, tm_1 141 rfl, tm_2 231 rfl, tm_2 232 rfl⟩
theorem lw_p17 : lw_okq (⟨"EldestSays$Plans", "end", "(I)V"⟩, 14) := ⟨nq_2, tm_1 141 rfl, tm_2 235 rfl, tm_2 236 rfl⟩
theorem lw_p18 : lw_okq (⟨"EldestSays", "isRowRight", "()Z"⟩, 14) := ⟨nq_0, tm_1 19 rfl, tm_3 45 rfl, tm_3 46 rfl⟩
theorem lw_p19 : lw_okq (⟨"EldestSays", "firstOddVote", "(I)I"⟩, 14) := ⟨nq_0, tm_1 19 rfl, tm_3 49 rfl, tm_3 50 rfl⟩
theorem lw_p20 : lw_okq (⟨"EldestSays$Evening", "part", "([II)V"⟩, 8) := ⟨nq_3, tm_1 27 rfl, tm_3 62 rfl, tm_3 63 rfl⟩
theorem lw_p21 : lw_okq (⟨"EldestSays$Evening", "putAshore", "()V"⟩, 8) := ⟨nq_3, tm_1 27 rfl, tm_3 66 rfl, tm_3 67 rfl⟩
theorem lw_p22 : lw_okq (⟨"EldestSays$Crowd", "askYounger", "(II)I"⟩, 6) := ⟨nq_4, tm_1 201 rfl, tm_3 89 rfl, tm_3 90 rfl⟩
theorem lw_p23 : lw_okq (⟨"EldestSays$Crowd", "buyYounger", "(III)I"⟩, 6) := ⟨nq_4, tm_1 201 rfl, tm_3 98 rfl, tm_3 99 rfl⟩
theorem lw_p24 : lw_okq (⟨"EldestSays$Crowd", "nextLevel", "(II)I"⟩, 6) := ⟨nq_4, tm_1 201 rfl, tm_3 103 rfl, tm_3 104 rfl⟩
theorem lw_p25 : lw_okq (⟨"EldestSays$Crowd", "buyAtLevel", "(IIII)I"⟩, 6) := ⟨nq_4, tm_1 201 rfl, tm_3 107 rfl, tm_3 108 rfl⟩
theorem lw_p26 : lw_okq (⟨"EldestSays", "orderAsIs", "()V"⟩, 14) := ⟨nq_0, tm_1 19 rfl, tm_3 135 rfl, tm_3 136 rfl⟩
theorem lw_p27 : lw_okq (⟨"EldestSays", "seat", "()V"⟩, 14) := ⟨nq_0, tm_1 19 rfl, tm_3 139 rfl, tm_3 140 rfl⟩
theorem lw_p28 : lw_okq (⟨"EldestSays", "orderWith", "(II)V"⟩, 14) := ⟨nq_0, tm_1 19 rfl, tm_3 147 rfl, tm_3 148 rfl⟩
theorem lw_p29 : lw_okq (⟨"EldestSays", "shakeVotes", "(I)J"⟩, 14) := ⟨nq_0, tm_1 19 rfl, tm_3 170 rfl, tm_3 171 rfl⟩
theorem lw_p30 : lw_okq (⟨"EldestSays", "addVoter", "(II)V"⟩, 14) := ⟨nq_0, tm_1 19 rfl, tm_3 177 rfl, tm_3 178 rfl⟩
theorem lw_p31 : lw_okq (⟨"EldestSays", "chanceCarried", "()J"⟩, 14) := ⟨nq_0, tm_1 19 rfl, tm_3 182 rfl, tm_3 183 rfl⟩
def lw_privs_2 : List (MethodName × Nat) := [(⟨"EldestSays$Plans", "vote", "(I)V"⟩, 14), (⟨"EldestSays$Plans", "end", "(I)V"⟩, 14), (⟨"EldestSays", "isRowRight", "()Z"⟩, 14), (⟨"EldestSays", "firstOddVote", "(I)I"⟩, 14), (⟨"EldestSays$Evening", "part", "([II)V"⟩, 8), (⟨"EldestSays$Evening", "putAshore", "()V"⟩, 8), (⟨"EldestSays$Crowd", "askYounger", "(II)I"⟩, 6), (⟨"EldestSays$Crowd", "buyYounger", "(III)I"⟩, 6), (⟨"EldestSays$Crowd", "nextLevel", "(II)I"⟩, 6), (⟨"EldestSays$Crowd", "buyAtLevel", "(IIII)I"⟩, 6), (⟨"EldestSays", "orderAsIs", "()V"⟩, 14), (⟨"EldestSays", "seat", "()V"⟩, 14), (⟨"EldestSays", "orderWith", "(II)V"⟩, 14), (⟨"EldestSays", "shakeVotes", "(I)J"⟩, 14), (⟨"EldestSays", "addVoter", "(II)V"⟩, 14), (⟨"EldestSays", "chanceCarried", "()J"⟩, 14)]
theorem lw_r2 : ∀ q ∈ lw_privs_2, lw_okq q := List.forall_mem_cons.mpr ⟨lw_p16, List.forall_mem_cons.mpr ⟨lw_p17, List.forall_mem_cons.mpr ⟨lw_p18, List.forall_mem_cons.mpr ⟨lw_p19, List.forall_mem_cons.mpr ⟨lw_p20, List.forall_mem_cons.mpr ⟨lw_p21, List.forall_mem_cons.mpr ⟨lw_p22, List.forall_mem_cons.mpr ⟨lw_p23, List.forall_mem_cons.mpr ⟨lw_p24, List.forall_mem_cons.mpr ⟨lw_p25, List.forall_mem_cons.mpr ⟨lw_p26, List.forall_mem_cons.mpr ⟨lw_p27, List.forall_mem_cons.mpr ⟨lw_p28, List.forall_mem_cons.mpr ⟨lw_p29, List.forall_mem_cons.mpr ⟨lw_p30, List.forall_mem_cons.mpr ⟨lw_p31, fun _ h => absurd h List.not_mem_nil⟩⟩⟩⟩⟩⟩⟩⟩⟩⟩⟩⟩⟩⟩⟩⟩
theorem lw_p32 : lw_okq (⟨"EldestSays", "drawOrder", "(I)I"⟩, 14) := ⟨nq_0, tm_1 19 rfl, tm_3 195 rfl, tm_3 196 rfl⟩
theorem lw_p33 : lw_okq (⟨"EldestSays", "placeOf", "(I)I"⟩, 14) := ⟨nq_0, tm_1 19 rfl, tm_3 202 rfl, tm_3 203 rfl⟩
theorem lw_p34 : lw_okq (⟨"EldestSays", "countRefusals", "(I)I"⟩, 14) := ⟨nq_0, tm_1 19 rfl, tm_3 228 rfl, tm_3 229 rfl⟩
theorem lw_p35 : lw_okq (⟨"EldestSaysModel", "no", "(I)I"⟩, 33) := ⟨nq_5, tm_3 232 rfl, tm_4 105 rfl, tm_4 106 rfl⟩
theorem lw_p36 : lw_okq (⟨"EldestSaysModel", "statement", "()Z"⟩, 33) := ⟨nq_5, tm_3 232 rfl, tm_4 113 rfl, tm_4 114 rfl⟩
theorem lw_p37 : lw_okq (⟨"EldestSaysModel", "next", "()I"⟩, 33) := ⟨nq_5, tm_3 232 rfl, tm_4 117 rfl, tm_4 118 rfl⟩
theorem lw_p38 : lw_okq (⟨"EldestSaysModel", "reads", "(II)Z"⟩, 33) := ⟨nq_5, tm_3 232 rfl, tm_4 121 rfl, tm_4 122 rfl⟩
theorem lw_p39 : lw_okq (⟨"EldestSaysModel", "passesAll", "(IZ)V"⟩, 33) := ⟨nq_5, tm_3 232 rfl, tm_4 128 rfl, tm_4 129 rfl⟩
theorem lw_p40 : lw_okq (⟨"EldestSaysModel", "passes", "([I)V"⟩, 33) := ⟨nq_5, tm_3 232 rfl, tm_4 132 rfl, tm_4 133 rfl⟩
theorem lw_p41 : lw_okq (⟨"EldestSaysModel", "passOne", "(I)I"⟩, 33) := ⟨nq_5, tm_3 232 rfl, tm_4 136 rfl, tm_4 137 rfl⟩
theorem lw_p42 : lw_okq (⟨"EldestSaysModel", "comes", "(I)Z"⟩, 33) := ⟨nq_5, tm_3 232 rfl, tm_4 140 rfl, tm_4 141 rfl⟩
theorem lw_p43 : lw_okq (⟨"EldestSaysModel", "isMan", "(I)Z"⟩, 33) := ⟨nq_5, tm_3 232 rfl, tm_4 156 rfl, tm_4 157 rfl⟩
theorem lw_p44 : lw_okq (⟨"EldestSaysModel", "areInOrder", "(II)Z"⟩, 33) := ⟨nq_5, tm_3 232 rfl, tm_4 170 rfl, tm_4 171 rfl⟩
theorem lw_p45 : lw_okq (⟨"EldestSaysModel", "solvesAll", "()V"⟩, 33) := ⟨nq_5, tm_3 232 rfl, tm_4 174 rfl, tm_4 175 rfl⟩
theorem lw_p46 : lw_okq (⟨"EldestSaysModel", "solves", "(I)V"⟩, 33) := ⟨nq_5, tm_3 232 rfl, tm_4 178 rfl, tm_4 179 rfl⟩
theorem lw_p47 : lw_okq (⟨"EldestSaysModel", "priceOf", "(II)I"⟩, 33) := ⟨nq_5, tm_3 232 rfl, tm_4 182 rfl, tm_4 183 rfl⟩
def lw_privs_3 : List (MethodName × Nat) := [(⟨"EldestSays", "drawOrder", "(I)I"⟩, 14), (⟨"EldestSays", "placeOf", "(I)I"⟩, 14), (⟨"EldestSays", "countRefusals", "(I)I"⟩, 14), (⟨"EldestSaysModel", "no", "(I)I"⟩, 33), (⟨"EldestSaysModel", "statement", "()Z"⟩, 33), (⟨"EldestSaysModel", "next", "()I"⟩, 33), (⟨"EldestSaysModel", "reads", "(II)Z"⟩, 33), (⟨"EldestSaysModel", "passesAll", "(IZ)V"⟩, 33), (⟨"EldestSaysModel", "passes", "([I)V"⟩, 33), (⟨"EldestSaysModel", "passOne", "(I)I"⟩, 33), (⟨"EldestSaysModel", "comes", "(I)Z"⟩, 33), (⟨"EldestSaysModel", "isMan", "(I)Z"⟩, 33), (⟨"EldestSaysModel", "areInOrder", "(II)Z"⟩, 33), (⟨"EldestSaysModel", "solvesAll", "()V"⟩, 33), (⟨"EldestSaysModel", "solves", "(I)V"⟩, 33), (⟨"EldestSaysModel", "priceOf", "(II)I"⟩, 33)]
theorem lw_r3 : ∀ q ∈ lw_privs_3, lw_okq q := List.forall_mem_cons.mpr ⟨lw_p32, List.forall_mem_cons.mpr ⟨lw_p33, List.forall_mem_cons.mpr ⟨lw_p34, List.forall_mem_cons.mpr ⟨lw_p35, List.forall_mem_cons.mpr ⟨lw_p36, List.forall_mem_cons.mpr ⟨lw_p37, List.forall_mem_cons.mpr ⟨lw_p38, List.forall_mem_cons.mpr ⟨lw_p39, List.forall_mem_cons.mpr ⟨lw_p40, List.forall_mem_cons.mpr ⟨lw_p41, List.forall_mem_cons.mpr ⟨lw_p42, List.forall_mem_cons.mpr ⟨lw_p43, List.forall_mem_cons.mpr ⟨lw_p44, List.forall_mem_cons.mpr ⟨lw_p45, List.forall_mem_cons.mpr ⟨lw_p46, List.forall_mem_cons.mpr ⟨lw_p47, fun _ h => absurd h List.not_mem_nil⟩⟩⟩⟩⟩⟩⟩⟩⟩⟩⟩⟩⟩⟩⟩⟩
theorem lw_p48 : lw_okq (⟨"EldestSaysModel", "findOffer", "(I)V"⟩, 33) := ⟨nq_5, tm_3 232 rfl, tm_4 189 rfl, tm_4 190 rfl⟩
theorem lw_p49 : lw_okq (⟨"EldestSaysModel", "buysBy", "(I)I"⟩, 33) := ⟨nq_5, tm_3 232 rfl, tm_4 196 rfl, tm_4 197 rfl⟩
theorem lw_p50 : lw_okq (⟨"EldestSaysModel", "leftFrom", "(I)I"⟩, 33) := ⟨nq_5, tm_3 232 rfl, tm_4 200 rfl, tm_4 201 rfl⟩
theorem lw_p51 : lw_okq (⟨"EldestSaysModel", "unbought", "(I)I"⟩, 33) := ⟨nq_5, tm_3 232 rfl, tm_4 204 rfl, tm_4 205 rfl⟩
theorem lw_p52 : lw_okq (⟨"EldestSaysModel", "weightOf", "(I)I"⟩, 33) := ⟨nq_5, tm_3 232 rfl, tm_4 208 rfl, tm_4 209 rfl⟩
theorem lw_p53 : lw_okq (⟨"EldestSaysModel", "costOf", "(II)I"⟩, 33) := ⟨nq_5, tm_3 232 rfl, tm_4 215 rfl, tm_4 216 rfl⟩
theorem lw_p54 : lw_okq (⟨"EldestSaysModel", "isAhead", "(II)Z"⟩, 33) := ⟨nq_5, tm_3 232 rfl, tm_4 219 rfl, tm_4 220 rfl⟩
theorem lw_p55 : lw_okq (⟨"EldestSaysModel", "offersEach", "(III)V"⟩, 33) := ⟨nq_5, tm_3 232 rfl, tm_4 223 rfl, tm_4 224 rfl⟩
theorem lw_p56 : lw_okq (⟨"EldestSaysModel", "offersFools", "(IZ)V"⟩, 33) := ⟨nq_5, tm_3 232 rfl, tm_4 227 rfl, tm_4 228 rfl⟩
theorem lw_p57 : lw_okq (⟨"EldestSaysModel", "lower", "(I)I"⟩, 33) := ⟨nq_5, tm_3 232 rfl, tm_5 11 rfl, tm_5 12 rfl⟩
theorem lw_p58 : lw_okq (⟨"EldestSaysModel", "isOver", "()Z"⟩, 33) := ⟨nq_5, tm_3 232 rfl, tm_5 32 rfl, tm_5 33 rfl⟩
theorem lw_p59 : lw_okq (⟨"EldestSaysModel", "isOffer", "()Z"⟩, 33) := ⟨nq_5, tm_3 232 rfl, tm_5 36 rfl, tm_5 37 rfl⟩
theorem lw_p60 : lw_okq (⟨"EldestSaysModel", "decides", "(I)I"⟩, 33) := ⟨nq_5, tm_3 232 rfl, tm_5 44 rfl, tm_5 45 rfl⟩
theorem lw_p61 : lw_okq (⟨"EldestSaysModel", "likeSays", "(III)Z"⟩, 33) := ⟨nq_5, tm_3 232 rfl, tm_5 60 rfl, tm_5 61 rfl⟩
theorem lw_p62 : lw_okq (⟨"EldestSaysModel", "enough", "(I)I"⟩, 33) := ⟨nq_5, tm_3 232 rfl, tm_5 64 rfl, tm_5 65 rfl⟩
theorem lw_p63 : lw_okq (⟨"EldestSaysModel", "withPrice", "(III)I"⟩, 33) := ⟨nq_5, tm_3 232 rfl, tm_5 68 rfl, tm_5 69 rfl⟩
def lw_privs_4 : List (MethodName × Nat) := [(⟨"EldestSaysModel", "findOffer", "(I)V"⟩, 33), (⟨"EldestSaysModel", "buysBy", "(I)I"⟩, 33), (⟨"EldestSaysModel", "leftFrom", "(I)I"⟩, 33), (⟨"EldestSaysModel", "unbought", "(I)I"⟩, 33), (⟨"EldestSaysModel", "weightOf", "(I)I"⟩, 33), (⟨"EldestSaysModel", "costOf", "(II)I"⟩, 33), (⟨"EldestSaysModel", "isAhead", "(II)Z"⟩, 33), (⟨"EldestSaysModel", "offersEach", "(III)V"⟩, 33), (⟨"EldestSaysModel", "offersFools", "(IZ)V"⟩, 33), (⟨"EldestSaysModel", "lower", "(I)I"⟩, 33), (⟨"EldestSaysModel", "isOver", "()Z"⟩, 33), (⟨"EldestSaysModel", "isOffer", "()Z"⟩, 33), (⟨"EldestSaysModel", "decides", "(I)I"⟩, 33), (⟨"EldestSaysModel", "likeSays", "(III)Z"⟩, 33), (⟨"EldestSaysModel", "enough", "(I)I"⟩, 33), (⟨"EldestSaysModel", "withPrice", "(III)I"⟩, 33)]
theorem lw_r4 : ∀ q ∈ lw_privs_4, lw_okq q := List.forall_mem_cons.mpr ⟨lw_p48, List.forall_mem_cons.mpr ⟨lw_p49, List.forall_mem_cons.mpr ⟨lw_p50, List.forall_mem_cons.mpr ⟨lw_p51, List.forall_mem_cons.mpr ⟨lw_p52, List.forall_mem_cons.mpr ⟨lw_p53, List.forall_mem_cons.mpr ⟨lw_p54, List.forall_mem_cons.mpr ⟨lw_p55, List.forall_mem_cons.mpr ⟨lw_p56, List.forall_mem_cons.mpr ⟨lw_p57, List.forall_mem_cons.mpr ⟨lw_p58, List.forall_mem_cons.mpr ⟨lw_p59, List.forall_mem_cons.mpr ⟨lw_p60, List.forall_mem_cons.mpr ⟨lw_p61, List.forall_mem_cons.mpr ⟨lw_p62, List.forall_mem_cons.mpr ⟨lw_p63, fun _ h => absurd h List.not_mem_nil⟩⟩⟩⟩⟩⟩⟩⟩⟩⟩⟩⟩⟩⟩⟩⟩
theorem lw_p64 : lw_okq (⟨"EldestSaysModel", "likeTakes", "(IIII)V"⟩, 33) := ⟨nq_5, tm_3 232 rfl, tm_5 72 rfl, tm_5 73 rfl⟩
theorem lw_p65 : lw_okq (⟨"EldestSaysModel", "moves", "(II)V"⟩, 33) := ⟨nq_5, tm_3 232 rfl, tm_5 88 rfl, tm_5 89 rfl⟩
theorem lw_p66 : lw_okq (⟨"EldestSaysModel", "swaps", "(II)V"⟩, 33) := ⟨nq_5, tm_3 232 rfl, tm_5 96 rfl, tm_5 97 rfl⟩
theorem lw_p67 : lw_okq (⟨"EldestSaysModel", "isFree", "(I)Z"⟩, 33) := ⟨nq_5, tm_3 232 rfl, tm_5 111 rfl, tm_5 112 rfl⟩
theorem lw_p68 : lw_okq (⟨"EldestSaysModel", "lowest", "(I)J"⟩, 33) := ⟨nq_5, tm_3 232 rfl, tm_5 119 rfl, tm_5 120 rfl⟩
def lw_privs_5 : List (MethodName × Nat) := [(⟨"EldestSaysModel", "likeTakes", "(IIII)V"⟩, 33), (⟨"EldestSaysModel", "moves", "(II)V"⟩, 33), (⟨"EldestSaysModel", "swaps", "(II)V"⟩, 33), (⟨"EldestSaysModel", "isFree", "(I)Z"⟩, 33), (⟨"EldestSaysModel", "lowest", "(I)J"⟩, 33)]
theorem lw_r5 : ∀ q ∈ lw_privs_5, lw_okq q := List.forall_mem_cons.mpr ⟨lw_p64, List.forall_mem_cons.mpr ⟨lw_p65, List.forall_mem_cons.mpr ⟨lw_p66, List.forall_mem_cons.mpr ⟨lw_p67, List.forall_mem_cons.mpr ⟨lw_p68, fun _ h => absurd h List.not_mem_nil⟩⟩⟩⟩⟩
def lw_privs : List (MethodName × Nat) := lw_privs_1 ++ (lw_privs_2 ++ (lw_privs_3 ++ (lw_privs_4 ++ (lw_privs_5))))
def lw_tbl : List Cond := k2_sels lw_privs ++ tables_1
theorem lw_privs_ok : ∀ q ∈ lw_privs, lw_okq q := by
  show ∀ q ∈ lw_privs_1 ++ (lw_privs_2 ++ (lw_privs_3 ++ (lw_privs_4 ++ (lw_privs_5)))), lw_okq q
  exact List.forall_mem_append.mpr ⟨lw_r1, List.forall_mem_append.mpr ⟨lw_r2, List.forall_mem_append.mpr ⟨lw_r3, List.forall_mem_append.mpr ⟨lw_r4, lw_r5⟩⟩⟩⟩

end

section
/-! 02.names -/
def va_AOA (t : FieldType) (U : State) : Prop := (Cond.arrayOver (.array t)).before #[] U = true
theorem va_AOA.use {t : FieldType} {A : Array Value} {U : State} (h : va_AOA t U) : (Cond.arrayOver (.array t)).before A U = true := h
/-! ===== BEGIN words of one list among another's, by their places ===== -/
theorem goodIn_r {big : List Cond} (ws : List Cond) (ps : List Nat) (hp : ws = ps.filterMap (fun i => big[i]?)) (h : ws.all goodWord = true) : GoodIn big ws := by
  intro w hw
  have h1 := List.all_eq_true.mp h w hw
  rw [hp] at hw
  obtain ⟨i, -, hi⟩ := List.mem_filterMap.mp hw
  have hm : w ∈ big := by first | exact List.mem_of_getElem? hi | exact List.getElem?_mem hi
  exact ⟨hm, good_of_word h1⟩
theorem goodIn_app {big a b : List Cond} (ha : GoodIn big a) (hb : GoodIn big b) : GoodIn big (a ++ b) := fun w h => (List.mem_append.mp h).elim (ha w) (hb w)
theorem goodIn_ca {big a b : List Cond} {c : Cond} (ha : GoodIn big (c :: a)) (hb : GoodIn big b) : GoodIn big (c :: (a ++ b)) := fun w h => (List.mem_cons.mp h).elim (fun e => ha w (List.mem_cons.mpr (Or.inl e))) (fun h => (List.mem_append.mp h).elim (fun h => ha w (List.mem_cons.mpr (Or.inr h))) (hb w))
theorem goodIn_sub {big ws : List Cond} (hm : ∀ w ∈ ws, w ∈ big) (h : ws.all goodWord = true) : GoodIn big ws := fun w hw => ⟨hm w hw, good_of_word (List.all_eq_true.mp h w hw)⟩
/-! ===== END ===== -/

/-! ===== BEGIN new T[n][m]: the outer array a place, the inner ones among the pooled ===== -/
/-- f, but v at every address of l -/
def vr_up {α : Type} (f : Nat → α) (l : List Nat) (v : α) : Nat → α := fun a => if a ∈ l then v else f a
theorem vr_up_in {α : Type} {f : Nat → α} {l : List Nat} {v : α} {a : Nat} (h : a ∈ l) : vr_up f l v a = v := if_pos h
theorem vr_up_ne {α : Type} {f : Nat → α} {l : List Nat} {v : α} {a : Nat} (h : a ∉ l) : vr_up f l v a = f a := if_neg h
theorem vr_rows {L l : List Nat} {f : Nat → va_E} {e : va_E} (h : ∀ a, a ∈ l → a ∉ L) : va_pl L f ++ l.map (fun a => (a, e)) = va_pl (L ++ l) (vr_up f l e) := by
  unfold va_pl
  rw [List.map_append]
  congr 1
  · apply List.map_congr_left
    intro a ha
    rw [vr_up_ne (fun q => h a q ha)]
  · apply List.map_congr_left
    intro a ha
    rw [vr_up_in ha]
theorem vr_lay {X rows : va_W} {x : Nat × va_E} {pl : va_W} {D : va_G} {cl : List vw_C} {H : Heap} (hP : va_P D cl (((X ++ pl) ++ [x]) ++ rows) H) : va_P D cl ((X ++ [x]) ++ (pl ++ rows)) H := by
  rw [List.append_assoc (X ++ pl)] at hP
  have h := va_P.swap hP
  rw [← List.append_assoc X] at h
  have h2 := va_P.swap h
  rw [List.append_assoc (X ++ [x])] at h2
  exact h2
theorem vr_layD {X rows : va_W} {x : Nat × va_E} {pl : va_W} {A : Nat → Prop} (hD : va_D A (((X ++ pl) ++ [x]) ++ rows)) : va_D A ((X ++ [x]) ++ (pl ++ rows)) := by
  rw [List.append_assoc (X ++ pl)] at hD
  have h := va_D.swap hD
  rw [← List.append_assoc X] at h
  have h2 := va_D.swap h
  rw [List.append_assoc (X ++ [x])] at h2
  exact h2
theorem vr_outer (c : ClassId) (N h0 : Nat) : ∀ i : Nat, Jvm.Free.Multi.outerC c N h0 i = arrV c N (fun j => va_rf (if j < i then some (h0 + 1 + j) else none))
  | 0 => by
    show ({ cls := c, slots := Array.replicate N .null, vm := .none } : Cell) = _
    rw [arrV_new]
    refine congrArg (arrV c N) (funext fun j => ?_)
    simp [va_rf]
  | i + 1 => by
    show (Jvm.Free.Multi.outerC c N h0 i).setSlot i (.ref (h0 + 1 + i)) = _
    rw [vr_outer c N h0 i, arrV_store]
    refine congrArg (arrV c N) (funext fun j => ?_)
    by_cases e : j = i
    · subst e
      simp [updV, va_rf]
    · by_cases h : j < i
      · simp [updV, e, h, Nat.lt_succ_of_lt h]
      · simp [updV, e, h, show ¬ j < i + 1 by omega]
section VGM
variable {p : Program} {l : Launch} {e : Env} {R : Room} {s : State} {m : MethodId} {args : Array Value} {below : List Frame} {meth : Method} {c : Code} {H : Heap} {locs : List Loc} {cells slots : Nat} {Q : State → Prop}
variable {cc : ByteArray} {pc : Nat} {ls : Array Slot} {rest : List Value} {D : va_G} {cl : List vw_C} {A : Nat → Prop} {a : Nat} {tys : List (ClassId × FieldType)} {ws : va_W} {H0 : Heap}
theorem va_mna {X : va_W} {L : List Nat} {f : Nat → va_E} {cc : ByteArray} (hexec : p.tables.exec = Jvm.exec) (hb : c.code = cc) {own : String} {index : Nat} {ty : FieldType} {cy : ClassId} (hown : s.vm.findClass own = some m.cls) (hclink : (Cond.classLink own index ("[" ++ (FieldType.array ty).toString)).before args s = true) (hover : va_AOA ty s) (harr : (Cond.arrayClass ty).before args s = true) (hcy : s.vm.findClass (FieldType.array ty).toString = some cy)
    (hK : va_K D cl tys s) (hP : va_P D cl (X ++ va_pl L f) H) (hD : va_D A (X ++ va_pl L f)) (hS : va_S A H0 H locs) (hA : ∀ q, H0.size ≤ q → A q) {n k : Int32} {N' K' : Nat} {z : vp_A} (hn : ¬ n < 0) (hk : ¬ k < 0) (hN : n.toNatClampNeg = N') (hM : k.toNatClampNeg = K')
    (hb1 : N' * 4 ≤ 536870912) (hb2 : K' * componentBytes ty ≤ 536870912) (hb3 : K' ≤ 536870912) (hdf : fits ty (defaultValue ty) = true) (hdd : (defaultValue ty).isDefault = true) (hcells : cells + (1 + N') ≤ R.cells) (hslots : slots + (N' + N' * K') ≤ R.slots) (hz : ∀ c : ClassId, Jvm.Free.Multi.innerC c K' (defaultValue ty) = vp_cell c z) (hdg : decode cc pc = .ok (.multianewarray index 2, 4))
    (kk : ∀ (q : Nat) (r : Nat → Nat) (cA : ClassId) (H1 : Heap), (∀ i j : Nat, i < N' → j < N' → r i = r j → i = j) → (∀ i : Nat, i < N' → r i ∉ L) → va_K D cl (tys ++ [(cA, .array ty)]) s →
      va_P D cl ((X ++ [(q, .inl (cA, N', .inr (.inr (.inr (.inr (fun i => if i < N' then some (r i) else none))))))]) ++ va_pl (L ++ (List.range N').map r) (vr_up f ((List.range N').map r) (.inl (cy, z)))) H1 → va_D A ((X ++ [(q, .inl (cA, N', .inr (.inr (.inr (.inr (fun i => if i < N' then some (r i) else none))))))]) ++ va_pl (L ++ (List.range N').map r) (vr_up f ((List.range N').map r) (.inl (cy, z)))) → va_S A H0 H1 locs →
      W p l e R s m args below meth c H1 locs (cells + 1 + N') (slots + N' + N' * K') Q (F0 m (pc + 4) ls (.ref q :: rest))) : W p l e R s m args below meth c H locs cells slots Q (F0 m pc ls (.int k :: .int n :: rest)) := by
  subst hN
  subst hM
  intro T hT Xs
  obtain ⟨vm₁, cA, comp, -, fA, fC, hO, -, X', step⟩ := Xs.multianewarray2F hexec hown hclink (va_AOA.use hover) harr (g := F0 m pc ls (.int k :: .int n :: rest)) rfl (by rw [hb]; exact hdg) rfl hn hk hb1 hb2 hb3 hdf hdd hcells hslots
  have ec : some cy = some comp := hcy.symm.trans fC
  cases ec
  generalize hF : Jvm.Free.Multi.fill (T.setVm vm₁) cA cy n.toNatClampNeg k.toNatClampNeg (defaultValue ty) n.toNatClampNeg = F at X' step
  have hTh : (T.setVm vm₁).heap = H := hT
  obtain ⟨f1, f2, -, -⟩ := Jvm.Free.Multi.fill_facts (T.setVm vm₁) cA cy n.toNatClampNeg k.toNatClampNeg (defaultValue ty) n.toNatClampNeg
  rw [hF, hTh] at f1 f2
  have hold : ∀ x : Nat, x < H.size → F.heap[x]? = H[x]? := fun x hx => by
    have := Jvm.Free.Multi.fill_old (T.setVm vm₁) cA cy n.toNatClampNeg k.toNatClampNeg (defaultValue ty) (a := x) (by rw [hTh]; exact hx) n.toNatClampNeg
    rw [hF, hTh] at this
    exact this
  have hrow : ∀ j : Nat, j < n.toNatClampNeg → F.heap[H.size + 1 + j]? = some (vp_cell cy z) := fun j hj => by
    have := Jvm.Free.Multi.fill_inner (T.setVm vm₁) cA cy n.toNatClampNeg k.toNatClampNeg (defaultValue ty) n.toNatClampNeg j hj
    rw [hF, hTh, hz] at this
    exact this
  have hout : Jvm.Free.Multi.outerC cA n.toNatClampNeg H.size n.toNatClampNeg = vp_cell cA (n.toNatClampNeg, .inr (.inr (.inr (.inr (fun i => if i < n.toNatClampNeg then some (H.size + 1 + i) else none))))) := by
    rw [vp_cell_q]
    exact vr_outer cA n.toNatClampNeg H.size n.toNatClampNeg
  rw [hout] at f2
  have hlt : ∀ a, a ∈ L → a < H.size := fun a ha => by
    obtain ⟨k9, hk9⟩ := va_pl_get (X := X) (f := f) ha
    exact (hP k9 _ hk9).lt
  have hnl : ∀ i : Nat, i < n.toNatClampNeg → H.size + 1 + i ∉ L := fun i _ h => by
    have := hlt _ h
    omega
  have hnm : ∀ a, a ∈ (List.range n.toNatClampNeg).map (fun i => H.size + 1 + i) → a ∉ L := fun a ha h => by
    obtain ⟨i, -, rfl⟩ := List.mem_map.mp ha
    have := hlt _ h
    omega
  have hP0 : va_P D cl (X ++ va_pl L f) F.heap := hP.kept (fun k9 x hx => hold x.1 ((hP k9 x hx).lt))
  have hP1 : va_P D cl ((X ++ va_pl L f) ++ [(H.size, .inl (cA, n.toNatClampNeg, .inr (.inr (.inr (.inr (fun i => if i < n.toNatClampNeg then some (H.size + 1 + i) else none))))))]) F.heap := hP0.app (fun k9 x hx => by
    have h0 : k9 < 1 := (List.getElem?_eq_some_iff.mp hx).1
    rw [show k9 = 0 by omega] at hx
    cases hx
    exact f2)
  have hP2 : va_P D cl (((X ++ va_pl L f) ++ [(H.size, .inl (cA, n.toNatClampNeg, .inr (.inr (.inr (.inr (fun i => if i < n.toNatClampNeg then some (H.size + 1 + i) else none))))))]) ++ ((List.range n.toNatClampNeg).map (fun i => H.size + 1 + i)).map (fun a => (a, .inl (cy, z)))) F.heap := hP1.app (fun k9 x hx => by
    obtain ⟨a, ha, rfl⟩ := List.mem_map.mp (List.mem_of_getElem? hx)
    obtain ⟨i, hi, rfl⟩ := List.mem_map.mp ha
    exact hrow i (List.mem_range.mp hi))
  have hD2 : va_D A (((X ++ va_pl L f) ++ [(H.size, .inl (cA, n.toNatClampNeg, .inr (.inr (.inr (.inr (fun i => if i < n.toNatClampNeg then some (H.size + 1 + i) else none))))))]) ++ ((List.range n.toNatClampNeg).map (fun i => H.size + 1 + i)).map (fun a => (a, .inl (cy, z)))) := by
    have hD1 := hD.push (e := .inl (cA, n.toNatClampNeg, .inr (.inr (.inr (.inr (fun i => if i < n.toNatClampNeg then some (H.size + 1 + i) else none)))))) hP rfl (hA _ hS.1)
    generalize hW1 : (X ++ va_pl L f) ++ [(H.size, .inl (cA, n.toNatClampNeg, .inr (.inr (.inr (.inr (fun i => if i < n.toNatClampNeg then some (H.size + 1 + i) else none))))))] = W1 at hD1 hP1 ⊢
    have hle : ∀ (k9 : Nat) (x : Nat × va_E), W1[k9]? = some x → x.1 ≤ H.size := fun k9 x hx => by
      rw [← hW1] at hx
      by_cases hl : k9 < (X ++ va_pl L f).length
      · rw [List.getElem?_append_left hl] at hx
        exact Nat.le_of_lt ((hP k9 x hx).lt)
      · rw [List.getElem?_append_right (by omega)] at hx
        have h0 : k9 - (X ++ va_pl L f).length < 1 := (List.getElem?_eq_some_iff.mp hx).1
        rw [show k9 - (X ++ va_pl L f).length = 0 by omega] at hx
        cases hx
        exact Nat.le_refl _
    have hr : ∀ (k9 : Nat) (x : Nat × va_E), (((List.range n.toNatClampNeg).map (fun i => H.size + 1 + i)).map (fun a => ((a, .inl (cy, z)) : Nat × va_E)))[k9]? = some x → x.1 = H.size + 1 + k9 := fun k9 x hx => by
      rw [List.getElem?_map, List.getElem?_map] at hx
      by_cases h9 : k9 < n.toNatClampNeg
      · rw [List.getElem?_range h9] at hx
        cases hx
        rfl
      · have hn0 : (List.range n.toNatClampNeg)[k9]? = none := List.getElem?_eq_none (by rw [List.length_range]; omega)
        rw [hn0] at hx
        cases hx
    refine ⟨fun i j x y hi hj hxy => ?_, fun k9 x hx => ?_⟩
    · by_cases h1 : i < W1.length <;> by_cases h2 : j < W1.length
      · rw [List.getElem?_append_left h1] at hi
        rw [List.getElem?_append_left h2] at hj
        exact hD1.1 i j x y hi hj hxy
      · rw [List.getElem?_append_left h1] at hi
        rw [List.getElem?_append_right (by omega)] at hj
        have := hle _ _ hi
        have := hr _ _ hj
        omega
      · rw [List.getElem?_append_right (by omega)] at hi
        rw [List.getElem?_append_left h2] at hj
        have := hle _ _ hj
        have := hr _ _ hi
        omega
      · rw [List.getElem?_append_right (by omega)] at hi hj
        have := hr _ _ hi
        have := hr _ _ hj
        omega
    · by_cases h1 : k9 < W1.length
      · rw [List.getElem?_append_left h1] at hx
        exact hD1.2 k9 x hx
      · rw [List.getElem?_append_right (by omega)] at hx
        have := hr _ _ hx
        exact hA _ (by have := hS.1; omega)
  have hAr : ArrOfT s cA (.array ty) := fun N9 z9 => by
    obtain ⟨-, k9, hk9, cm9, hkk9⟩ := (hO 0 0 0).1
    exact ⟨(fun q hq => by cases hq), k9, hk9, cm9, hkk9⟩
  have hK2 : va_K D cl (tys ++ [(cA, .array ty)]) s := ⟨hK.1, fun k9 x hx => by
    by_cases hl : k9 < tys.length
    · rw [List.getElem?_append_left hl] at hx
      exact hK.2 k9 x hx
    · rw [List.getElem?_append_right (by omega)] at hx
      have h0 : k9 - tys.length < 1 := (List.getElem?_eq_some_iff.mp hx).1
      rw [show k9 - tys.length = 0 by omega] at hx
      cases hx
      exact ⟨hAr, fA⟩⟩
  obtain ⟨t, a1, b1⟩ := kk H.size (fun i => H.size + 1 + i) cA F.heap (fun i j _ _ h => by have h9 : H.size + 1 + i = H.size + 1 + j := h; omega) hnl hK2 (by rw [← vr_rows hnm]; exact vr_lay hP2) (by rw [← vr_rows hnm]; exact vr_layD hD2) ⟨by rw [f1]; have := hS.1; omega, fun x h1 h2 => (hold x (Nat.lt_of_lt_of_le h1 hS.1)).trans (hS.2.1 x h1 h2), hS.2.2⟩ F rfl X'
  refine ⟨t, step t ?_, b1⟩
  have e : T.heap.size = H.size := by rw [hT]
  rw [e]
  exact a1
end VGM
/-! ===== END ===== -/

/-! ===== BEGIN printed: names, fields, word lists, decode rows ===== -/
def RX0 : String := "EldestSays$Clever"
def TX0 : u_T := fun k => match k with
  | _ => ("", "", "", false)
def tyX0 : Nat → FieldType := fun k => match k with
  | _ => .int
abbrev wsX00 : List Cond := u_ws RX0 TX0 0
theorem nmX0 : ∀ a, a < 0 → ∀ b, b < 0 → a ≠ b → (TX0 a).2.1 ≠ (TX0 b).2.1 := by decide +kernel
theorem tyX0_ok : ∀ k, k < 0 → parseFieldDescriptor (TX0 k).2.2.1 = some (tyX0 k) := by decide +kernel
abbrev cX0_init : ByteArray := prog_2_method_1_code
def yX0_init : MethodName := ⟨RX0, "<init>", "()V"⟩
abbrev cX0_ask : ByteArray := prog_2_method_2_code
def yX0_ask : MethodName := ⟨RX0, "ask", "(III)I"⟩
abbrev cX0_tell : ByteArray := prog_2_method_3_code
def yX0_tell : MethodName := ⟨RX0, "tell", "(LEldestSays$Plans;I)V"⟩
def RX1 : String := "EldestSays$Company"
def TX1 : u_T := fun k => match k with
  | _ => ("", "", "", false)
def tyX1 : Nat → FieldType := fun k => match k with
  | _ => .int
abbrev wsX10 : List Cond := u_ws RX1 TX1 0
theorem nmX1 : ∀ a, a < 0 → ∀ b, b < 0 → a ≠ b → (TX1 a).2.1 ≠ (TX1 b).2.1 := by decide +kernel
theorem tyX1_ok : ∀ k, k < 0 → parseFieldDescriptor (TX1 k).2.2.1 = some (tyX1 k) := by decide +kernel
abbrev cX1_init : ByteArray := prog_3_method_1_code
def yX1_init : MethodName := ⟨RX1, "<init>", "()V"⟩
abbrev cX1_ask : ByteArray := prog_3_method_2_code
def yX1_ask : MethodName := ⟨RX1, "ask", "(III)I"⟩
def RX2 : String := "EldestSays$Crowd"
def TX2 : u_T := fun k => match k with
  | 0 => ("EldestSays$Crowd", "shares", "[I", true)
  | 1 => ("EldestSays$Crowd", "asked", "[I", true)
  | 2 => ("EldestSays$Crowd", "offer", "[I", true)
  | 3 => ("EldestSays$Crowd", "clever", "LEldestSays$Clever;", true)
  | 4 => ("EldestSays$Crowd", "size", "I", false)
  | _ => ("EldestSays$Crowd", "coins", "I", false)
def tyX2 : Nat → FieldType := fun k => match k with
  | 0 => .array .int
  | 1 => .array .int
  | 2 => .array .int
  | 3 => .object "EldestSays$Clever"
  | 4 => .int
  | _ => .int
abbrev wsX20 : List Cond := u_ws RX2 TX2 6
theorem nmX2 : ∀ a, a < 6 → ∀ b, b < 6 → a ≠ b → (TX2 a).2.1 ≠ (TX2 b).2.1 := by decide +kernel
theorem tyX2_ok : ∀ k, k < 6 → parseFieldDescriptor (TX2 k).2.2.1 = some (tyX2 k) := by decide +kernel
abbrev cX2_init : ByteArray := prog_4_method_1_code
def yX2_init : MethodName := ⟨RX2, "<init>", "(LEldestSays$Clever;)V"⟩
abbrev cX2_solve : ByteArray := prog_4_method_2_code
def yX2_solve : MethodName := ⟨RX2, "solve", "(II[I)V"⟩
abbrev cX2_askYounger : ByteArray := prog_4_method_3_code
def yX2_askYounger : MethodName := ⟨RX2, "askYounger", "(II)I"⟩
abbrev cX2_votesLacking : ByteArray := prog_4_method_4_code
def yX2_votesLacking : MethodName := ⟨RX2, "votesLacking", "(III)I"⟩
abbrev cX2_buyYounger : ByteArray := prog_4_method_5_code
def yX2_buyYounger : MethodName := ⟨RX2, "buyYounger", "(III)I"⟩
abbrev cX2_nextLevel : ByteArray := prog_4_method_6_code
def yX2_nextLevel : MethodName := ⟨RX2, "nextLevel", "(II)I"⟩
abbrev cX2_buyAtLevel : ByteArray := prog_4_method_7_code
def yX2_buyAtLevel : MethodName := ⟨RX2, "buyAtLevel", "(IIII)I"⟩
def RX3 : String := "EldestSays$Envious"
def TX3 : u_T := fun k => match k with
  | _ => ("", "", "", false)
def tyX3 : Nat → FieldType := fun k => match k with
  | _ => .int
abbrev wsX30 : List Cond := u_ws RX3 TX3 0
theorem nmX3 : ∀ a, a < 0 → ∀ b, b < 0 → a ≠ b → (TX3 a).2.1 ≠ (TX3 b).2.1 := by decide +kernel
theorem tyX3_ok : ∀ k, k < 0 → parseFieldDescriptor (TX3 k).2.2.1 = some (tyX3 k) := by decide +kernel
abbrev cX3_init : ByteArray := prog_5_method_1_code
def yX3_init : MethodName := ⟨RX3, "<init>", "()V"⟩
abbrev cX3_ask : ByteArray := prog_5_method_2_code
def yX3_ask : MethodName := ⟨RX3, "ask", "(III)I"⟩
def RX4 : String := "EldestSays$Evening"
def TX4 : u_T := fun k => match k with
  | 0 => ("EldestSays$Evening", "kinds", "[I", true)
  | 1 => ("EldestSays$Evening", "figures", "[I", true)
  | 2 => ("EldestSays$Evening", "weights", "[I", true)
  | 3 => ("EldestSays$Evening", "purses", "[I", true)
  | 4 => ("EldestSays$Evening", "settings", "[I", true)
  | 5 => ("EldestSays$Evening", "size", "I", false)
  | 6 => ("EldestSays$Evening", "sayer", "I", false)
  | _ => ("EldestSays$Evening", "isDone", "Z", false)
def tyX4 : Nat → FieldType := fun k => match k with
  | 0 => .array .int
  | 1 => .array .int
  | 2 => .array .int
  | 3 => .array .int
  | 4 => .array .int
  | 5 => .int
  | 6 => .int
  | _ => .boolean
abbrev wsX40 : List Cond := u_ws RX4 TX4 8
theorem nmX4 : ∀ a, a < 8 → ∀ b, b < 8 → a ≠ b → (TX4 a).2.1 ≠ (TX4 b).2.1 := by decide +kernel
theorem tyX4_ok : ∀ k, k < 8 → parseFieldDescriptor (TX4 k).2.2.1 = some (tyX4 k) := by decide +kernel
abbrev cX4_init : ByteArray := prog_6_method_1_code
def yX4_init : MethodName := ⟨RX4, "<init>", "()V"⟩
abbrev cX4_copy : ByteArray := prog_6_method_2_code
def yX4_copy : MethodName := ⟨RX4, "copy", "(LEldestSays$Evening;)V"⟩
abbrev cX4_has : ByteArray := prog_6_method_3_code
def yX4_has : MethodName := ⟨RX4, "has", "(I)Z"⟩
abbrev cX4_isOver : ByteArray := prog_6_method_4_code
def yX4_isOver : MethodName := ⟨RX4, "isOver", "()Z"⟩
abbrev cX4_add : ByteArray := prog_6_method_5_code
def yX4_add : MethodName := ⟨RX4, "add", "(III)V"⟩
abbrev cX4_weightFrom : ByteArray := prog_6_method_6_code
def yX4_weightFrom : MethodName := ⟨RX4, "weightFrom", "(I)I"⟩
abbrev cX4_weightLeft : ByteArray := prog_6_method_7_code
def yX4_weightLeft : MethodName := ⟨RX4, "weightLeft", "()I"⟩
abbrev cX4_isCarried : ByteArray := prog_6_method_8_code
def yX4_isCarried : MethodName := ⟨RX4, "isCarried", "(II)Z"⟩
abbrev cX4_decide : ByteArray := prog_6_method_9_code
def yX4_decide : MethodName := ⟨RX4, "decide", "(I[II)I"⟩
abbrev cX4_part : ByteArray := prog_6_method_10_code
def yX4_part : MethodName := ⟨RX4, "part", "([II)V"⟩
abbrev cX4_putAshore : ByteArray := prog_6_method_11_code
def yX4_putAshore : MethodName := ⟨RX4, "putAshore", "()V"⟩
def RX5 : String := "EldestSays$Fair"
def TX5 : u_T := fun k => match k with
  | _ => ("", "", "", false)
def tyX5 : Nat → FieldType := fun k => match k with
  | _ => .int
abbrev wsX50 : List Cond := u_ws RX5 TX5 0
theorem nmX5 : ∀ a, a < 0 → ∀ b, b < 0 → a ≠ b → (TX5 a).2.1 ≠ (TX5 b).2.1 := by decide +kernel
theorem tyX5_ok : ∀ k, k < 0 → parseFieldDescriptor (TX5 k).2.2.1 = some (tyX5 k) := by decide +kernel
abbrev cX5_init : ByteArray := prog_7_method_1_code
def yX5_init : MethodName := ⟨RX5, "<init>", "()V"⟩
abbrev cX5_tell : ByteArray := prog_7_method_2_code
def yX5_tell : MethodName := ⟨RX5, "tell", "(LEldestSays$Plans;I)V"⟩
def RX6 : String := "EldestSays$Fool"
def TX6 : u_T := fun k => match k with
  | _ => ("", "", "", false)
def tyX6 : Nat → FieldType := fun k => match k with
  | _ => .int
abbrev wsX60 : List Cond := u_ws RX6 TX6 0
theorem nmX6 : ∀ a, a < 0 → ∀ b, b < 0 → a ≠ b → (TX6 a).2.1 ≠ (TX6 b).2.1 := by decide +kernel
theorem tyX6_ok : ∀ k, k < 0 → parseFieldDescriptor (TX6 k).2.2.1 = some (tyX6 k) := by decide +kernel
abbrev cX6_init : ByteArray := prog_8_method_1_code
def yX6_init : MethodName := ⟨RX6, "<init>", "()V"⟩
abbrev cX6_ask : ByteArray := prog_8_method_2_code
def yX6_ask : MethodName := ⟨RX6, "ask", "(III)I"⟩
abbrev cX6_tell : ByteArray := prog_8_method_3_code
def yX6_tell : MethodName := ⟨RX6, "tell", "(LEldestSays$Plans;I)V"⟩
def RX7 : String := "EldestSays$Letters"
def TX7 : u_T := fun k => match k with
  | 0 => ("EldestSays$Letters", "size", "I", false)
  | _ => ("EldestSays$Letters", "signs", "[C", true)
def tyX7 : Nat → FieldType := fun k => match k with
  | 0 => .int
  | _ => .array .char
abbrev wsX70 : List Cond := u_ws RX7 TX7 2
theorem nmX7 : ∀ a, a < 2 → ∀ b, b < 2 → a ≠ b → (TX7 a).2.1 ≠ (TX7 b).2.1 := by decide +kernel
theorem tyX7_ok : ∀ k, k < 2 → parseFieldDescriptor (TX7 k).2.2.1 = some (tyX7 k) := by decide +kernel
abbrev cX7_init : ByteArray := prog_9_method_1_code
def yX7_init : MethodName := ⟨RX7, "<init>", "()V"⟩
abbrev cX7_isFull : ByteArray := prog_9_method_2_code
def yX7_isFull : MethodName := ⟨RX7, "isFull", "()Z"⟩
abbrev cX7_add : ByteArray := prog_9_method_3_code
def yX7_add : MethodName := ⟨RX7, "add", "(C)I"⟩
abbrev cX7_forget : ByteArray := prog_9_method_4_code
def yX7_forget : MethodName := ⟨RX7, "forget", "()V"⟩
abbrev cX7_fault : ByteArray := prog_9_method_5_code
def yX7_fault : MethodName := ⟨RX7, "fault", "(LEldestSays$Evening;)I"⟩
abbrev cX7_tell : ByteArray := prog_9_method_6_code
def yX7_tell : MethodName := ⟨RX7, "tell", "(LEldestSays$Evening;)I"⟩
abbrev cX7_brokenAt : ByteArray := prog_9_method_7_code
def yX7_brokenAt : MethodName := ⟨RX7, "brokenAt", "()I"⟩
abbrev cX7_digitsOf : ByteArray := prog_9_method_8_code
def yX7_digitsOf : MethodName := ⟨RX7, "digitsOf", "(C)I"⟩
abbrev cX7_isDigit : ByteArray := prog_9_method_9_code
def yX7_isDigit : MethodName := ⟨RX7, "isDigit", "(C)Z"⟩
abbrev cX7_wrongAt : ByteArray := prog_9_method_10_code
def yX7_wrongAt : MethodName := ⟨RX7, "wrongAt", "(LEldestSays$Evening;)I"⟩
abbrev cX7_isRight : ByteArray := prog_9_method_11_code
def yX7_isRight : MethodName := ⟨RX7, "isRight", "(IIZ)Z"⟩
abbrev cX7_tellOne : ByteArray := prog_9_method_12_code
def yX7_tellOne : MethodName := ⟨RX7, "tellOne", "(LEldestSays$Evening;II)V"⟩
abbrev cX7_digit : ByteArray := prog_9_method_13_code
def yX7_digit : MethodName := ⟨RX7, "digit", "(I)I"⟩
def RX8 : String := "EldestSays$Meek"
def TX8 : u_T := fun k => match k with
  | _ => ("", "", "", false)
def tyX8 : Nat → FieldType := fun k => match k with
  | _ => .int
abbrev wsX80 : List Cond := u_ws RX8 TX8 0
theorem nmX8 : ∀ a, a < 0 → ∀ b, b < 0 → a ≠ b → (TX8 a).2.1 ≠ (TX8 b).2.1 := by decide +kernel
theorem tyX8_ok : ∀ k, k < 0 → parseFieldDescriptor (TX8 k).2.2.1 = some (tyX8 k) := by decide +kernel
abbrev cX8_init : ByteArray := prog_10_method_1_code
def yX8_init : MethodName := ⟨RX8, "<init>", "()V"⟩
abbrev cX8_ask : ByteArray := prog_10_method_2_code
def yX8_ask : MethodName := ⟨RX8, "ask", "(III)I"⟩
abbrev cX8_tell : ByteArray := prog_10_method_3_code
def yX8_tell : MethodName := ⟨RX8, "tell", "(LEldestSays$Plans;I)V"⟩
def RX9 : String := "EldestSays$Plans"
def TX9 : u_T := fun k => match k with
  | 0 => ("EldestSays$Plans", "offers", "[[I", true)
  | 1 => ("EldestSays$Plans", "prices", "[[I", true)
  | 2 => ("EldestSays$Plans", "shares", "[[I", true)
  | 3 => ("EldestSays$Plans", "ayes", "[I", true)
  | 4 => ("EldestSays$Plans", "enders", "[I", true)
  | 5 => ("EldestSays$Plans", "buys", "[I", true)
  | 6 => ("EldestSays$Plans", "evening", "LEldestSays$Evening;", true)
  | 7 => ("EldestSays$Plans", "kinds", "[LEldestSays$Clever;", true)
  | 8 => ("EldestSays$Plans", "unitPrices", "[I", true)
  | 9 => ("EldestSays$Plans", "unitWeights", "[I", true)
  | 10 => ("EldestSays$Plans", "setPrices", "[I", true)
  | 11 => ("EldestSays$Plans", "setWeights", "[I", true)
  | 12 => ("EldestSays$Plans", "units", "I", false)
  | _ => ("EldestSays$Plans", "freeWeight", "I", false)
def tyX9 : Nat → FieldType := fun k => match k with
  | 0 => .array (.array .int)
  | 1 => .array (.array .int)
  | 2 => .array (.array .int)
  | 3 => .array .int
  | 4 => .array .int
  | 5 => .array .int
  | 6 => .object "EldestSays$Evening"
  | 7 => .array (.object "EldestSays$Clever")
  | 8 => .array .int
  | 9 => .array .int
  | 10 => .array .int
  | 11 => .array .int
  | 12 => .int
  | _ => .int
abbrev wsX90 : List Cond := u_ws RX9 TX9 14
theorem nmX9 : ∀ a, a < 14 → ∀ b, b < 14 → a ≠ b → (TX9 a).2.1 ≠ (TX9 b).2.1 := by decide +kernel
theorem tyX9_ok : ∀ k, k < 14 → parseFieldDescriptor (TX9 k).2.2.1 = some (tyX9 k) := by decide +kernel
abbrev cX9_init : ByteArray := prog_11_method_1_code
def yX9_init : MethodName := ⟨RX9, "<init>", "([LEldestSays$Clever;)V"⟩
abbrev cX9_solve : ByteArray := prog_11_method_2_code
def yX9_solve : MethodName := ⟨RX9, "solve", "(I)V"⟩
abbrev cX9_kindOf : ByteArray := prog_11_method_3_code
def yX9_kindOf : MethodName := ⟨RX9, "kindOf", "(I)LEldestSays$Clever;"⟩
abbrev cX9_askYounger : ByteArray := prog_11_method_4_code
def yX9_askYounger : MethodName := ⟨RX9, "askYounger", "(I)V"⟩
abbrev cX9_keepAll : ByteArray := prog_11_method_5_code
def yX9_keepAll : MethodName := ⟨RX9, "keepAll", "(I)V"⟩
abbrev cX9_vote : ByteArray := prog_11_method_6_code
def yX9_vote : MethodName := ⟨RX9, "vote", "(I)V"⟩
abbrev cX9_end : ByteArray := prog_11_method_7_code
def yX9_end : MethodName := ⟨RX9, "end", "(I)V"⟩
abbrev cX9_buyCheapest : ByteArray := prog_11_method_8_code
def yX9_buyCheapest : MethodName := ⟨RX9, "buyCheapest", "(I)V"⟩
abbrev cX9_manOfUnit : ByteArray := prog_11_method_9_code
def yX9_manOfUnit : MethodName := ⟨RX9, "manOfUnit", "(II)I"⟩
abbrev cX9_forgetUnits : ByteArray := prog_11_method_10_code
def yX9_forgetUnits : MethodName := ⟨RX9, "forgetUnits", "()V"⟩
abbrev cX9_addUnit : ByteArray := prog_11_method_11_code
def yX9_addUnit : MethodName := ⟨RX9, "addUnit", "(II)V"⟩
abbrev cX9_cheapestSet : ByteArray := prog_11_method_12_code
def yX9_cheapestSet : MethodName := ⟨RX9, "cheapestSet", "(I)I"⟩
abbrev cX9_listSets : ByteArray := prog_11_method_13_code
def yX9_listSets : MethodName := ⟨RX9, "listSets", "(I)I"⟩
abbrev cX9_canBuy : ByteArray := prog_11_method_14_code
def yX9_canBuy : MethodName := ⟨RX9, "canBuy", "(II)Z"⟩
abbrev cX9_shareFairly : ByteArray := prog_11_method_15_code
def yX9_shareFairly : MethodName := ⟨RX9, "shareFairly", "(I)V"⟩
abbrev cX9_spreadFromEldest : ByteArray := prog_11_method_16_code
def yX9_spreadFromEldest : MethodName := ⟨RX9, "spreadFromEldest", "(II)V"⟩
abbrev cX9_spreadFromYoungest : ByteArray := prog_11_method_17_code
def yX9_spreadFromYoungest : MethodName := ⟨RX9, "spreadFromYoungest", "(II)V"⟩
abbrev cX9_figureOf : ByteArray := prog_11_method_18_code
def yX9_figureOf : MethodName := ⟨RX9, "figureOf", "(I)I"⟩
abbrev cX9_give : ByteArray := prog_11_method_19_code
def yX9_give : MethodName := ⟨RX9, "give", "(III)V"⟩
def RX10 : String := "EldestSays$Spiteful"
def TX10 : u_T := fun k => match k with
  | _ => ("", "", "", false)
def tyX10 : Nat → FieldType := fun k => match k with
  | _ => .int
abbrev wsX100 : List Cond := u_ws RX10 TX10 0
theorem nmX10 : ∀ a, a < 0 → ∀ b, b < 0 → a ≠ b → (TX10 a).2.1 ≠ (TX10 b).2.1 := by decide +kernel
theorem tyX10_ok : ∀ k, k < 0 → parseFieldDescriptor (TX10 k).2.2.1 = some (tyX10 k) := by decide +kernel
abbrev cX10_init : ByteArray := prog_12_method_1_code
def yX10_init : MethodName := ⟨RX10, "<init>", "()V"⟩
abbrev cX10_ask : ByteArray := prog_12_method_2_code
def yX10_ask : MethodName := ⟨RX10, "ask", "(III)I"⟩
def RX11 : String := "EldestSays"
def TX11 : u_T := fun k => match k with
  | 0 => ("EldestSays", "plans", "LEldestSays$Plans;", true)
  | 1 => ("EldestSays", "trialPlans", "LEldestSays$Plans;", true)
  | 2 => ("EldestSays", "now", "LEldestSays$Evening;", true)
  | 3 => ("EldestSays", "trial", "LEldestSays$Evening;", true)
  | 4 => ("EldestSays", "kept", "LEldestSays$Evening;", true)
  | 5 => ("EldestSays", "letters", "LEldestSays$Letters;", true)
  | 6 => ("EldestSays", "crowd", "LEldestSays$Crowd;", true)
  | 7 => ("EldestSays", "order", "[I", true)
  | 8 => ("EldestSays", "told", "[I", true)
  | 9 => ("EldestSays", "refusals", "[I", true)
  | 10 => ("EldestSays", "chances", "[J", true)
  | 11 => ("EldestSays", "toldSize", "I", false)
  | 12 => ("EldestSays", "isKept", "Z", false)
  | _ => ("EldestSays", "isStale", "Z", false)
def tyX11 : Nat → FieldType := fun k => match k with
  | 0 => .object "EldestSays$Plans"
  | 1 => .object "EldestSays$Plans"
  | 2 => .object "EldestSays$Evening"
  | 3 => .object "EldestSays$Evening"
  | 4 => .object "EldestSays$Evening"
  | 5 => .object "EldestSays$Letters"
  | 6 => .object "EldestSays$Crowd"
  | 7 => .array .int
  | 8 => .array .int
  | 9 => .array .int
  | 10 => .array .long
  | 11 => .int
  | 12 => .boolean
  | _ => .boolean
abbrev wsX110 : List Cond := u_ws RX11 TX11 14
theorem nmX11 : ∀ a, a < 14 → ∀ b, b < 14 → a ≠ b → (TX11 a).2.1 ≠ (TX11 b).2.1 := by decide +kernel
theorem tyX11_ok : ∀ k, k < 14 → parseFieldDescriptor (TX11 k).2.2.1 = some (tyX11 k) := by decide +kernel
abbrev cX11_init : ByteArray := prog_1_method_1_code
def yX11_init : MethodName := ⟨RX11, "<init>", "()V"⟩
abbrev cX11_feed : ByteArray := prog_1_method_2_code
def yX11_feed : MethodName := ⟨RX11, "feed", "(I)I"⟩
abbrev cX11_beach : ByteArray := prog_1_method_3_code
def yX11_beach : MethodName := ⟨RX11, "beach", "()I"⟩
abbrev cX11_man : ByteArray := prog_1_method_4_code
def yX11_man : MethodName := ⟨RX11, "man", "(II)I"⟩
abbrev cX11_set : ByteArray := prog_1_method_5_code
def yX11_set : MethodName := ⟨RX11, "set", "(II)I"⟩
abbrev cX11_offered : ByteArray := prog_1_method_6_code
def yX11_offered : MethodName := ⟨RX11, "offered", "(II)I"⟩
abbrev cX11_price : ByteArray := prog_1_method_7_code
def yX11_price : MethodName := ⟨RX11, "price", "(II)I"⟩
abbrev cX11_votes : ByteArray := prog_1_method_8_code
def yX11_votes : MethodName := ⟨RX11, "votes", "(I)I"⟩
abbrev cX11_carries : ByteArray := prog_1_method_9_code
def yX11_carries : MethodName := ⟨RX11, "carries", "(I)I"⟩
abbrev cX11_ends : ByteArray := prog_1_method_10_code
def yX11_ends : MethodName := ⟨RX11, "ends", "(I)I"⟩
abbrev cX11_gets : ByteArray := prog_1_method_11_code
def yX11_gets : MethodName := ⟨RX11, "gets", "(II)I"⟩
abbrev cX11_bought : ByteArray := prog_1_method_12_code
def yX11_bought : MethodName := ⟨RX11, "bought", "(I)I"⟩
abbrev cX11_row : ByteArray := prog_1_method_13_code
def yX11_row : MethodName := ⟨RX11, "row", "(I)I"⟩
abbrev cX11_judge : ByteArray := prog_1_method_14_code
def yX11_judge : MethodName := ⟨RX11, "judge", "(I)I"⟩
abbrev cX11_goes : ByteArray := prog_1_method_15_code
def yX11_goes : MethodName := ⟨RX11, "goes", "(I)I"⟩
abbrev cX11_says : ByteArray := prog_1_method_16_code
def yX11_says : MethodName := ⟨RX11, "says", "()I"⟩
abbrev cX11_got : ByteArray := prog_1_method_17_code
def yX11_got : MethodName := ⟨RX11, "got", "(I)I"⟩
abbrev cX11_alike : ByteArray := prog_1_method_18_code
def yX11_alike : MethodName := ⟨RX11, "alike", "(IIIZ)I"⟩
abbrev cX11_fewest : ByteArray := prog_1_method_19_code
def yX11_fewest : MethodName := ⟨RX11, "fewest", "()I"⟩
abbrev cX11_byLaw : ByteArray := prog_1_method_20_code
def yX11_byLaw : MethodName := ⟨RX11, "byLaw", "(III)I"⟩
abbrev cX11_gains : ByteArray := prog_1_method_21_code
def yX11_gains : MethodName := ⟨RX11, "gains", "()I"⟩
abbrev cX11_swap : ByteArray := prog_1_method_22_code
def yX11_swap : MethodName := ⟨RX11, "swap", "(II)I"⟩
abbrev cX11_bestAge : ByteArray := prog_1_method_23_code
def yX11_bestAge : MethodName := ⟨RX11, "bestAge", "(I)I"⟩
abbrev cX11_league : ByteArray := prog_1_method_24_code
def yX11_league : MethodName := ⟨RX11, "league", "(I)I"⟩
abbrev cX11_shaken : ByteArray := prog_1_method_25_code
def yX11_shaken : MethodName := ⟨RX11, "shaken", "(I)J"⟩
abbrev cX11_seeds : ByteArray := prog_1_method_26_code
def yX11_seeds : MethodName := ⟨RX11, "seeds", "(III)I"⟩
abbrev cX11_clear : ByteArray := prog_1_method_27_code
def yX11_clear : MethodName := ⟨RX11, "clear", "()I"⟩
abbrev cX11_image : ByteArray := prog_1_method_28_code
def yX11_image : MethodName := ⟨RX11, "image", "()I"⟩
abbrev cX11_restore : ByteArray := prog_1_method_29_code
def yX11_restore : MethodName := ⟨RX11, "restore", "()I"⟩
abbrev cX11_count : ByteArray := prog_1_method_30_code
def yX11_count : MethodName := ⟨RX11, "count", "(I)I"⟩
abbrev cX11_countRefusals : ByteArray := prog_1_method_31_code
def yX11_countRefusals : MethodName := ⟨RX11, "countRefusals", "(I)I"⟩
abbrev cX11_refuse : ByteArray := prog_1_method_32_code
def yX11_refuse : MethodName := ⟨RX11, "refuse", "(I)I"⟩
abbrev cX11_solved : ByteArray := prog_1_method_33_code
def yX11_solved : MethodName := ⟨RX11, "solved", "()LEldestSays$Plans;"⟩
abbrev cX11_isRowRight : ByteArray := prog_1_method_34_code
def yX11_isRowRight : MethodName := ⟨RX11, "isRowRight", "()Z"⟩
abbrev cX11_firstOddVote : ByteArray := prog_1_method_35_code
def yX11_firstOddVote : MethodName := ⟨RX11, "firstOddVote", "(I)I"⟩
abbrev cX11_orderAsIs : ByteArray := prog_1_method_36_code
def yX11_orderAsIs : MethodName := ⟨RX11, "orderAsIs", "()V"⟩
abbrev cX11_orderWith : ByteArray := prog_1_method_37_code
def yX11_orderWith : MethodName := ⟨RX11, "orderWith", "(II)V"⟩
abbrev cX11_drawOrder : ByteArray := prog_1_method_38_code
def yX11_drawOrder : MethodName := ⟨RX11, "drawOrder", "(I)I"⟩
abbrev cX11_placeOf : ByteArray := prog_1_method_39_code
def yX11_placeOf : MethodName := ⟨RX11, "placeOf", "(I)I"⟩
abbrev cX11_seat : ByteArray := prog_1_method_40_code
def yX11_seat : MethodName := ⟨RX11, "seat", "()V"⟩
abbrev cX11_shakeVotes : ByteArray := prog_1_method_41_code
def yX11_shakeVotes : MethodName := ⟨RX11, "shakeVotes", "(I)J"⟩
abbrev cX11_addVoter : ByteArray := prog_1_method_42_code
def yX11_addVoter : MethodName := ⟨RX11, "addVoter", "(II)V"⟩
abbrev cX11_chanceCarried : ByteArray := prog_1_method_43_code
def yX11_chanceCarried : MethodName := ⟨RX11, "chanceCarried", "()J"⟩
abbrev cX11_commonDivisor : ByteArray := prog_1_method_44_code
def yX11_commonDivisor : MethodName := ⟨RX11, "commonDivisor", "(JJ)J"⟩
abbrev cX11_isEnough : ByteArray := prog_1_method_45_code
def yX11_isEnough : MethodName := ⟨RX11, "isEnough", "(III)Z"⟩
def RX12 : String := "EldestSaysModel"
def TX12 : u_T := fun k => match k with
  | 0 => ("EldestSaysModel", "refused", "[I", true)
  | 1 => ("EldestSaysModel", "kind", "[I", true)
  | 2 => ("EldestSaysModel", "figure", "[I", true)
  | 3 => ("EldestSaysModel", "weight", "[I", true)
  | 4 => ("EldestSaysModel", "got", "[I", true)
  | 5 => ("EldestSaysModel", "setting", "[I", true)
  | 6 => ("EldestSaysModel", "men", "I", false)
  | 7 => ("EldestSaysModel", "sayer", "I", false)
  | 8 => ("EldestSaysModel", "done", "I", false)
  | 9 => ("EldestSaysModel", "tape", "[I", true)
  | 10 => ("EldestSaysModel", "letter", "[I", true)
  | 11 => ("EldestSaysModel", "letterAt", "[I", true)
  | 12 => ("EldestSaysModel", "told", "[I", true)
  | 13 => ("EldestSaysModel", "taped", "I", false)
  | 14 => ("EldestSaysModel", "at", "I", false)
  | 15 => ("EldestSaysModel", "statements", "I", false)
  | 16 => ("EldestSaysModel", "kept", "[I", true)
  | 17 => ("EldestSaysModel", "hasImage", "Z", false)
  | 18 => ("EldestSaysModel", "isKeeping", "Z", false)
  | 19 => ("EldestSaysModel", "cursor", "I", false)
  | 20 => ("EldestSaysModel", "price", "[I", true)
  | 21 => ("EldestSaysModel", "offer", "[I", true)
  | 22 => ("EldestSaysModel", "gets", "[I", true)
  | 23 => ("EldestSaysModel", "yes", "[I", true)
  | 24 => ("EldestSaysModel", "buys", "[I", true)
  | 25 => ("EldestSaysModel", "ends", "[I", true)
  | 26 => ("EldestSaysModel", "carried", "[I", true)
  | 27 => ("EldestSaysModel", "row", "[I", true)
  | 28 => ("EldestSaysModel", "rowMany", "I", false)
  | 29 => ("EldestSaysModel", "keptRow", "[I", true)
  | 30 => ("EldestSaysModel", "likeGets", "[I", true)
  | 31 => ("EldestSaysModel", "likePrice", "[I", true)
  | _ => ("EldestSaysModel", "ahead", "[I", true)
def tyX12 : Nat → FieldType := fun k => match k with
  | 0 => .array .int
  | 1 => .array .int
  | 2 => .array .int
  | 3 => .array .int
  | 4 => .array .int
  | 5 => .array .int
  | 6 => .int
  | 7 => .int
  | 8 => .int
  | 9 => .array .int
  | 10 => .array .int
  | 11 => .array .int
  | 12 => .array .int
  | 13 => .int
  | 14 => .int
  | 15 => .int
  | 16 => .array .int
  | 17 => .boolean
  | 18 => .boolean
  | 19 => .int
  | 20 => .array .int
  | 21 => .array .int
  | 22 => .array .int
  | 23 => .array .int
  | 24 => .array .int
  | 25 => .array .int
  | 26 => .array .int
  | 27 => .array .int
  | 28 => .int
  | 29 => .array .int
  | 30 => .array .int
  | 31 => .array .int
  | _ => .array .int
abbrev wsX120 : List Cond := u_ws RX12 TX12 33
theorem nmX12 : ∀ a, a < 33 → ∀ b, b < 33 → a ≠ b → (TX12 a).2.1 ≠ (TX12 b).2.1 := by decide +kernel
theorem tyX12_ok : ∀ k, k < 33 → parseFieldDescriptor (TX12 k).2.2.1 = some (tyX12 k) := by decide +kernel
abbrev cX12_init : ByteArray := prog_14_method_1_code
def yX12_init : MethodName := ⟨RX12, "<init>", "()V"⟩
abbrev cX12_no : ByteArray := prog_14_method_2_code
def yX12_no : MethodName := ⟨RX12, "no", "(I)I"⟩
abbrev cX12_lower : ByteArray := prog_14_method_3_code
def yX12_lower : MethodName := ⟨RX12, "lower", "(I)I"⟩
abbrev cX12_lowest : ByteArray := prog_14_method_4_code
def yX12_lowest : MethodName := ⟨RX12, "lowest", "(I)J"⟩
abbrev cX12_isIn : ByteArray := prog_14_method_5_code
def yX12_isIn : MethodName := ⟨RX12, "isIn", "(III)Z"⟩
abbrev cX12_bound : ByteArray := prog_14_method_6_code
def yX12_bound : MethodName := ⟨RX12, "bound", "(III)I"⟩
abbrev cX12_isMan : ByteArray := prog_14_method_7_code
def yX12_isMan : MethodName := ⟨RX12, "isMan", "(I)Z"⟩
abbrev cX12_feed : ByteArray := prog_14_method_8_code
def yX12_feed : MethodName := ⟨RX12, "feed", "(I)I"⟩
abbrev cX12_next : ByteArray := prog_14_method_9_code
def yX12_next : MethodName := ⟨RX12, "next", "()I"⟩
abbrev cX12_reads : ByteArray := prog_14_method_10_code
def yX12_reads : MethodName := ⟨RX12, "reads", "(II)Z"⟩
abbrev cX12_statement : ByteArray := prog_14_method_11_code
def yX12_statement : MethodName := ⟨RX12, "statement", "()Z"⟩
abbrev cX12_comes : ByteArray := prog_14_method_12_code
def yX12_comes : MethodName := ⟨RX12, "comes", "(I)Z"⟩
abbrev cX12_beach : ByteArray := prog_14_method_13_code
def yX12_beach : MethodName := ⟨RX12, "beach", "()I"⟩
abbrev cX12_passes : ByteArray := prog_14_method_14_code
def yX12_passes : MethodName := ⟨RX12, "passes", "([I)V"⟩
abbrev cX12_passOne : ByteArray := prog_14_method_15_code
def yX12_passOne : MethodName := ⟨RX12, "passOne", "(I)I"⟩
abbrev cX12_passesAll : ByteArray := prog_14_method_16_code
def yX12_passesAll : MethodName := ⟨RX12, "passesAll", "(IZ)V"⟩
abbrev cX12_image : ByteArray := prog_14_method_17_code
def yX12_image : MethodName := ⟨RX12, "image", "()I"⟩
abbrev cX12_restore : ByteArray := prog_14_method_18_code
def yX12_restore : MethodName := ⟨RX12, "restore", "()I"⟩
abbrev cX12_man : ByteArray := prog_14_method_19_code
def yX12_man : MethodName := ⟨RX12, "man", "(II)I"⟩
abbrev cX12_set : ByteArray := prog_14_method_20_code
def yX12_set : MethodName := ⟨RX12, "set", "(II)I"⟩
abbrev cX12_isCarried : ByteArray := prog_14_method_21_code
def yX12_isCarried : MethodName := ⟨RX12, "isCarried", "(III)Z"⟩
abbrev cX12_weightOf : ByteArray := prog_14_method_22_code
def yX12_weightOf : MethodName := ⟨RX12, "weightOf", "(I)I"⟩
abbrev cX12_leftFrom : ByteArray := prog_14_method_23_code
def yX12_leftFrom : MethodName := ⟨RX12, "leftFrom", "(I)I"⟩
abbrev cX12_above : ByteArray := prog_14_method_24_code
def yX12_above : MethodName := ⟨RX12, "above", "(I)I"⟩
abbrev cX12_priceOf : ByteArray := prog_14_method_25_code
def yX12_priceOf : MethodName := ⟨RX12, "priceOf", "(II)I"⟩
abbrev cX12_costOf : ByteArray := prog_14_method_26_code
def yX12_costOf : MethodName := ⟨RX12, "costOf", "(II)I"⟩
abbrev cX12_unbought : ByteArray := prog_14_method_27_code
def yX12_unbought : MethodName := ⟨RX12, "unbought", "(I)I"⟩
abbrev cX12_isAhead : ByteArray := prog_14_method_28_code
def yX12_isAhead : MethodName := ⟨RX12, "isAhead", "(II)Z"⟩
abbrev cX12_buysBy : ByteArray := prog_14_method_29_code
def yX12_buysBy : MethodName := ⟨RX12, "buysBy", "(I)I"⟩
abbrev cX12_offersEach : ByteArray := prog_14_method_30_code
def yX12_offersEach : MethodName := ⟨RX12, "offersEach", "(III)V"⟩
abbrev cX12_offersFools : ByteArray := prog_14_method_31_code
def yX12_offersFools : MethodName := ⟨RX12, "offersFools", "(IZ)V"⟩
abbrev cX12_doesBuy : ByteArray := prog_14_method_32_code
def yX12_doesBuy : MethodName := ⟨RX12, "doesBuy", "(I)Z"⟩
abbrev cX12_findOffer : ByteArray := prog_14_method_33_code
def yX12_findOffer : MethodName := ⟨RX12, "findOffer", "(I)V"⟩
abbrev cX12_solves : ByteArray := prog_14_method_34_code
def yX12_solves : MethodName := ⟨RX12, "solves", "(I)V"⟩
abbrev cX12_solvesAll : ByteArray := prog_14_method_35_code
def yX12_solvesAll : MethodName := ⟨RX12, "solvesAll", "()V"⟩
abbrev cX12_areInOrder : ByteArray := prog_14_method_36_code
def yX12_areInOrder : MethodName := ⟨RX12, "areInOrder", "(II)Z"⟩
abbrev cX12_offered : ByteArray := prog_14_method_37_code
def yX12_offered : MethodName := ⟨RX12, "offered", "(II)I"⟩
abbrev cX12_price : ByteArray := prog_14_method_38_code
def yX12_price : MethodName := ⟨RX12, "price", "(II)I"⟩
abbrev cX12_votes : ByteArray := prog_14_method_39_code
def yX12_votes : MethodName := ⟨RX12, "votes", "(I)I"⟩
abbrev cX12_carries : ByteArray := prog_14_method_40_code
def yX12_carries : MethodName := ⟨RX12, "carries", "(I)I"⟩
abbrev cX12_ends : ByteArray := prog_14_method_41_code
def yX12_ends : MethodName := ⟨RX12, "ends", "(I)I"⟩
abbrev cX12_gets : ByteArray := prog_14_method_42_code
def yX12_gets : MethodName := ⟨RX12, "gets", "(II)I"⟩
abbrev cX12_bought : ByteArray := prog_14_method_43_code
def yX12_bought : MethodName := ⟨RX12, "bought", "(I)I"⟩
abbrev cX12_row : ByteArray := prog_14_method_44_code
def yX12_row : MethodName := ⟨RX12, "row", "(I)I"⟩
abbrev cX12_clear : ByteArray := prog_14_method_45_code
def yX12_clear : MethodName := ⟨RX12, "clear", "()I"⟩
abbrev cX12_isOver : ByteArray := prog_14_method_46_code
def yX12_isOver : MethodName := ⟨RX12, "isOver", "()Z"⟩
abbrev cX12_isOffer : ByteArray := prog_14_method_47_code
def yX12_isOffer : MethodName := ⟨RX12, "isOffer", "()Z"⟩
abbrev cX12_judge : ByteArray := prog_14_method_48_code
def yX12_judge : MethodName := ⟨RX12, "judge", "(I)I"⟩
abbrev cX12_decides : ByteArray := prog_14_method_49_code
def yX12_decides : MethodName := ⟨RX12, "decides", "(I)I"⟩
abbrev cX12_goes : ByteArray := prog_14_method_50_code
def yX12_goes : MethodName := ⟨RX12, "goes", "(I)I"⟩
abbrev cX12_says : ByteArray := prog_14_method_51_code
def yX12_says : MethodName := ⟨RX12, "says", "()I"⟩
abbrev cX12_got : ByteArray := prog_14_method_52_code
def yX12_got : MethodName := ⟨RX12, "got", "(I)I"⟩
abbrev cX12_enough : ByteArray := prog_14_method_53_code
def yX12_enough : MethodName := ⟨RX12, "enough", "(I)I"⟩
abbrev cX12_withPrice : ByteArray := prog_14_method_54_code
def yX12_withPrice : MethodName := ⟨RX12, "withPrice", "(III)I"⟩
abbrev cX12_likeSays : ByteArray := prog_14_method_55_code
def yX12_likeSays : MethodName := ⟨RX12, "likeSays", "(III)Z"⟩
abbrev cX12_likeTakes : ByteArray := prog_14_method_56_code
def yX12_likeTakes : MethodName := ⟨RX12, "likeTakes", "(IIII)V"⟩
abbrev cX12_alike : ByteArray := prog_14_method_57_code
def yX12_alike : MethodName := ⟨RX12, "alike", "(IIIZ)I"⟩
abbrev cX12_fewest : ByteArray := prog_14_method_58_code
def yX12_fewest : MethodName := ⟨RX12, "fewest", "()I"⟩
abbrev cX12_byLaw : ByteArray := prog_14_method_59_code
def yX12_byLaw : MethodName := ⟨RX12, "byLaw", "(III)I"⟩
abbrev cX12_gains : ByteArray := prog_14_method_60_code
def yX12_gains : MethodName := ⟨RX12, "gains", "()I"⟩
abbrev cX12_moves : ByteArray := prog_14_method_61_code
def yX12_moves : MethodName := ⟨RX12, "moves", "(II)V"⟩
abbrev cX12_swaps : ByteArray := prog_14_method_62_code
def yX12_swaps : MethodName := ⟨RX12, "swaps", "(II)V"⟩
abbrev cX12_swap : ByteArray := prog_14_method_63_code
def yX12_swap : MethodName := ⟨RX12, "swap", "(II)I"⟩
abbrev cX12_bestAge : ByteArray := prog_14_method_64_code
def yX12_bestAge : MethodName := ⟨RX12, "bestAge", "(I)I"⟩
abbrev cX12_isFree : ByteArray := prog_14_method_65_code
def yX12_isFree : MethodName := ⟨RX12, "isFree", "(I)Z"⟩
abbrev cX12_bits : ByteArray := prog_14_method_66_code
def yX12_bits : MethodName := ⟨RX12, "bits", "(I)I"⟩
abbrev cX12_league : ByteArray := prog_14_method_67_code
def yX12_league : MethodName := ⟨RX12, "league", "(I)I"⟩
abbrev cX12_divisor : ByteArray := prog_14_method_68_code
def yX12_divisor : MethodName := ⟨RX12, "divisor", "(JJ)J"⟩
abbrev cX12_shaken : ByteArray := prog_14_method_69_code
def yX12_shaken : MethodName := ⟨RX12, "shaken", "(I)J"⟩
abbrev cX12_seeds : ByteArray := prog_14_method_70_code
def yX12_seeds : MethodName := ⟨RX12, "seeds", "(III)I"⟩
abbrev cX12_count : ByteArray := prog_14_method_71_code
def yX12_count : MethodName := ⟨RX12, "count", "(I)I"⟩
def RJ6 : String := "java/lang/Integer"
def TJ6 : u_T := fun k => match k with
  | _ => ("", "", "", false)
def tyJ6 : Nat → FieldType := fun k => match k with
  | _ => .int
abbrev wsJ60 : List Cond := u_ws RJ6 TJ6 0
theorem nmJ6 : ∀ a, a < 0 → ∀ b, b < 0 → a ≠ b → (TJ6 a).2.1 ≠ (TJ6 b).2.1 := by decide +kernel
theorem tyJ6_ok : ∀ k, k < 0 → parseFieldDescriptor (TJ6 k).2.2.1 = some (tyJ6 k) := by decide +kernel
abbrev cJ6_bitCount_0f7a4 : ByteArray := prog_15_method_49_code
def yJ6_bitCount_0f7a4 : MethodName := ⟨RJ6, "bitCount", "(I)I"⟩
def RJ9 : String := "java/lang/Math"
def TJ9 : u_T := fun k => match k with
  | _ => ("", "", "", false)
def tyJ9 : Nat → FieldType := fun k => match k with
  | _ => .int
abbrev wsJ90 : List Cond := u_ws RJ9 TJ9 0
theorem nmJ9 : ∀ a, a < 0 → ∀ b, b < 0 → a ≠ b → (TJ9 a).2.1 ≠ (TJ9 b).2.1 := by decide +kernel
theorem tyJ9_ok : ∀ k, k < 0 → parseFieldDescriptor (TJ9 k).2.2.1 = some (tyJ9 k) := by decide +kernel
abbrev cJ9_max_7cf53 : ByteArray := prog_16_method_65_code
def yJ9_max_7cf53 : MethodName := ⟨RJ9, "max", "(II)I"⟩
abbrev cJ9_min_7cf53 : ByteArray := prog_16_method_69_code
def yJ9_min_7cf53 : MethodName := ⟨RJ9, "min", "(II)I"⟩
def RJ10 : String := "java/lang/System"
def TJ10 : u_T := fun k => match k with
  | _ => ("", "", "", false)
def tyJ10 : Nat → FieldType := fun k => match k with
  | _ => .int
abbrev wsJ100 : List Cond := u_ws RJ10 TJ10 0
theorem nmJ10 : ∀ a, a < 0 → ∀ b, b < 0 → a ≠ b → (TJ10 a).2.1 ≠ (TJ10 b).2.1 := by decide +kernel
theorem tyJ10_ok : ∀ k, k < 0 → parseFieldDescriptor (TJ10 k).2.2.1 = some (tyJ10 k) := by decide +kernel
def RJ7 : String := "java/util/Arrays"
def TJ7 : u_T := fun k => match k with
  | _ => ("", "", "", false)
def tyJ7 : Nat → FieldType := fun k => match k with
  | _ => .int
abbrev wsJ70 : List Cond := u_ws RJ7 TJ7 0
theorem nmJ7 : ∀ a, a < 0 → ∀ b, b < 0 → a ≠ b → (TJ7 a).2.1 ≠ (TJ7 b).2.1 := by decide +kernel
theorem tyJ7_ok : ∀ k, k < 0 → parseFieldDescriptor (TJ7 k).2.2.1 = some (tyJ7 k) := by decide +kernel
abbrev cJ7_fill_d0a16 : ByteArray := prog_18_method_101_code
def yJ7_fill_d0a16 : MethodName := ⟨RJ7, "fill", "([JJ)V"⟩
abbrev cJ7_fill_53178 : ByteArray := prog_18_method_103_code
def yJ7_fill_53178 : MethodName := ⟨RJ7, "fill", "([II)V"⟩
def RL : String := "EldestSaysLaw"
abbrev cL_law : ByteArray := code
def yL_law : MethodName := ⟨RL, "law", "([I)Z"⟩

end

section
/-! 03.words00 -/
theorem lw_mem1 {c : Cond} (i : Nat) (h : tables_1_1[i]? = some c) : c ∈ lw_tbl := List.mem_append_right _ (List.mem_append_left _ (List.mem_of_getElem? h))
theorem lw_mem2 {c : Cond} (i : Nat) (h : tables_1_2[i]? = some c) : c ∈ lw_tbl := List.mem_append_right _ (List.mem_append_right _ (List.mem_append_left _ (List.mem_of_getElem? h)))
theorem lw_mem3 {c : Cond} (i : Nat) (h : tables_1_3[i]? = some c) : c ∈ lw_tbl := List.mem_append_right _ (List.mem_append_right _ (List.mem_append_right _ (List.mem_append_left _ (List.mem_of_getElem? h))))
theorem lw_mem4 {c : Cond} (i : Nat) (h : tables_1_4[i]? = some c) : c ∈ lw_tbl := List.mem_append_right _ (List.mem_append_right _ (List.mem_append_right _ (List.mem_append_right _ (List.mem_append_left _ (List.mem_of_getElem? h)))))
theorem lw_mem5 {c : Cond} (i : Nat) (h : tables_1_5[i]? = some c) : c ∈ lw_tbl := List.mem_append_right _ (List.mem_append_right _ (List.mem_append_right _ (List.mem_append_right _ (List.mem_append_right _ ((List.mem_of_getElem? h))))))
theorem kw_0 : (Jvm.Cond.initialized "EldestSaysLaw") ∈ lw_tbl := lw_mem1 0 rfl
theorem kw_1 : (Jvm.Cond.initialized "EldestSays") ∈ lw_tbl := lw_mem1 1 rfl
theorem kw_2 : (Jvm.Cond.initialized "EldestSays$Evening") ∈ lw_tbl := lw_mem1 2 rfl
theorem kw_3 : (Jvm.Cond.initialized "EldestSays$Letters") ∈ lw_tbl := lw_mem1 3 rfl
theorem kw_4 : (Jvm.Cond.initialized "EldestSays$Clever") ∈ lw_tbl := lw_mem1 4 rfl
theorem kw_5 : (Jvm.Cond.initialized "EldestSays$Company") ∈ lw_tbl := lw_mem1 5 rfl
theorem kw_6 : (Jvm.Cond.initialized "EldestSays$Envious") ∈ lw_tbl := lw_mem1 6 rfl
theorem kw_7 : (Jvm.Cond.initialized "EldestSays$Fair") ∈ lw_tbl := lw_mem1 7 rfl
theorem kw_8 : (Jvm.Cond.initialized "EldestSays$Fool") ∈ lw_tbl := lw_mem1 8 rfl
theorem kw_9 : (Jvm.Cond.initialized "EldestSays$Spiteful") ∈ lw_tbl := lw_mem1 9 rfl
theorem kw_10 : (Jvm.Cond.initialized "EldestSays$Meek") ∈ lw_tbl := lw_mem1 10 rfl
theorem kw_11 : (Jvm.Cond.initialized "EldestSays$Plans") ∈ lw_tbl := lw_mem1 11 rfl
theorem kw_12 : (Jvm.Cond.initialized "EldestSays$Crowd") ∈ lw_tbl := lw_mem1 12 rfl
theorem kw_13 : (Jvm.Cond.initialized "EldestSaysModel") ∈ lw_tbl := lw_mem1 13 rfl
theorem kw_14 : (Jvm.Cond.initialized "java/lang/Math") ∈ lw_tbl := lw_mem1 14 rfl
theorem kw_15 : (Jvm.Cond.initialized "java/util/Arrays") ∈ lw_tbl := lw_mem1 15 rfl
theorem kw_16 : (Jvm.Cond.initialized "java/lang/System") ∈ lw_tbl := lw_mem1 16 rfl
theorem kw_17 : (Jvm.Cond.initialized "java/lang/Integer") ∈ lw_tbl := lw_mem1 17 rfl
theorem kw_18 : (Jvm.Cond.classLink "EldestSaysLaw" (7 : Nat) "EldestSays") ∈ lw_tbl := lw_mem1 18 rfl
theorem kw_19 : (Jvm.Cond.instantiable "EldestSays" (14 : Nat)) ∈ lw_tbl := lw_mem1 19 rfl
theorem kw_20 : (Jvm.Cond.methodLink "EldestSaysLaw" (9 : Nat) ({ cls := "EldestSays", name := "<init>", desc := "()V" } : Jvm.MethodName)) ∈ lw_tbl := lw_mem1 20 rfl
theorem kw_21 : (Jvm.Cond.instanceMethod ({ cls := "EldestSays", name := "<init>", desc := "()V" } : Jvm.MethodName)) ∈ lw_tbl := lw_mem1 21 rfl
theorem kw_22 : (Jvm.Cond.code ({ cls := "EldestSays", name := "<init>", desc := "()V" } : Jvm.MethodName) prog_1_method_1_code (3 : Nat) (Option.none : Option Jvm.ClassFile.FieldType)) ∈ lw_tbl := lw_mem1 22 rfl
theorem kw_23 : (Jvm.Cond.methodLink "EldestSays" (1 : Nat) ({ cls := "java/lang/Object", name := "<init>", desc := "()V" } : Jvm.MethodName)) ∈ lw_tbl := lw_mem1 23 rfl
theorem kw_24 : (Jvm.Cond.instanceMethod ({ cls := "java/lang/Object", name := "<init>", desc := "()V" } : Jvm.MethodName)) ∈ lw_tbl := lw_mem1 24 rfl
theorem kw_25 : (Jvm.Cond.code ({ cls := "java/lang/Object", name := "<init>", desc := "()V" } : Jvm.MethodName) object_method_1_code (1 : Nat) (Option.none : Option Jvm.ClassFile.FieldType)) ∈ lw_tbl := lw_mem1 25 rfl
theorem kw_26 : (Jvm.Cond.classLink "EldestSays" (7 : Nat) "EldestSays$Evening") ∈ lw_tbl := lw_mem1 26 rfl
theorem kw_27 : (Jvm.Cond.instantiable "EldestSays$Evening" (8 : Nat)) ∈ lw_tbl := lw_mem1 27 rfl
theorem kw_28 : (Jvm.Cond.methodLinkNest "EldestSays" (9 : Nat) ({ cls := "EldestSays$Evening", name := "<init>", desc := "()V" } : Jvm.MethodName) "EldestSays") ∈ lw_tbl := lw_mem1 28 rfl
theorem kw_29 : (Jvm.Cond.instanceMethod ({ cls := "EldestSays$Evening", name := "<init>", desc := "()V" } : Jvm.MethodName)) ∈ lw_tbl := lw_mem1 29 rfl
theorem kw_30 : (Jvm.Cond.code ({ cls := "EldestSays$Evening", name := "<init>", desc := "()V" } : Jvm.MethodName) prog_6_method_1_code (1 : Nat) (Option.none : Option Jvm.ClassFile.FieldType)) ∈ lw_tbl := lw_mem1 30 rfl
theorem kw_31 : (Jvm.Cond.methodLink "EldestSays$Evening" (3 : Nat) ({ cls := "java/lang/Object", name := "<init>", desc := "()V" } : Jvm.MethodName)) ∈ lw_tbl := lw_mem1 31 rfl
theorem kw_32 : (Jvm.Cond.fieldLink "EldestSays$Evening" (9 : Nat) "EldestSays$Evening" "kinds" "[I") ∈ lw_tbl := lw_mem1 32 rfl
theorem kw_33 : (Jvm.Cond.fieldLink "EldestSays$Plans" (82 : Nat) "EldestSays$Evening" "kinds" "[I") ∈ lw_tbl := lw_mem1 33 rfl
theorem kw_34 : (Jvm.Cond.fieldLink "EldestSays" (118 : Nat) "EldestSays$Evening" "kinds" "[I") ∈ lw_tbl := lw_mem1 34 rfl
theorem kw_35 : (Jvm.Cond.fieldLink "EldestSays$Evening" (15 : Nat) "EldestSays$Evening" "figures" "[I") ∈ lw_tbl := lw_mem1 35 rfl
theorem kw_36 : (Jvm.Cond.fieldLink "EldestSays$Plans" (84 : Nat) "EldestSays$Evening" "figures" "[I") ∈ lw_tbl := lw_mem1 36 rfl
theorem kw_37 : (Jvm.Cond.fieldLink "EldestSays" (121 : Nat) "EldestSays$Evening" "figures" "[I") ∈ lw_tbl := lw_mem1 37 rfl
theorem kw_38 : (Jvm.Cond.fieldLink "EldestSays$Evening" (18 : Nat) "EldestSays$Evening" "weights" "[I") ∈ lw_tbl := lw_mem1 38 rfl
theorem kw_39 : (Jvm.Cond.fieldLink "EldestSays" (124 : Nat) "EldestSays$Evening" "weights" "[I") ∈ lw_tbl := lw_mem1 39 rfl
theorem kw_40 : (Jvm.Cond.fieldLink "EldestSays$Plans" (117 : Nat) "EldestSays$Evening" "weights" "[I") ∈ lw_tbl := lw_mem1 40 rfl
theorem kw_41 : (Jvm.Cond.fieldLink "EldestSays$Evening" (21 : Nat) "EldestSays$Evening" "purses" "[I") ∈ lw_tbl := lw_mem1 41 rfl
theorem kw_42 : (Jvm.Cond.fieldLink "EldestSays" (177 : Nat) "EldestSays$Evening" "purses" "[I") ∈ lw_tbl := lw_mem1 42 rfl
theorem kw_43 : (Jvm.Cond.fieldLink "EldestSays$Evening" (24 : Nat) "EldestSays$Evening" "settings" "[I") ∈ lw_tbl := lw_mem1 43 rfl
theorem kw_44 : (Jvm.Cond.fieldLink "EldestSays$Plans" (87 : Nat) "EldestSays$Evening" "settings" "[I") ∈ lw_tbl := lw_mem1 44 rfl
theorem kw_45 : (Jvm.Cond.fieldLink "EldestSays" (130 : Nat) "EldestSays$Evening" "settings" "[I") ∈ lw_tbl := lw_mem1 45 rfl
theorem kw_46 : (Jvm.Cond.fieldLink "EldestSays$Letters" (62 : Nat) "EldestSays$Evening" "settings" "[I") ∈ lw_tbl := lw_mem1 46 rfl
theorem kw_47 : (Jvm.Cond.fieldLink "EldestSays$Plans" (55 : Nat) "EldestSays$Evening" "size" "I") ∈ lw_tbl := lw_mem1 47 rfl
theorem kw_48 : (Jvm.Cond.fieldLink "EldestSays$Evening" (36 : Nat) "EldestSays$Evening" "size" "I") ∈ lw_tbl := lw_mem1 48 rfl
theorem kw_49 : (Jvm.Cond.fieldLink "EldestSays$Letters" (39 : Nat) "EldestSays$Evening" "size" "I") ∈ lw_tbl := lw_mem1 49 rfl
theorem kw_50 : (Jvm.Cond.fieldLink "EldestSays" (193 : Nat) "EldestSays$Evening" "size" "I") ∈ lw_tbl := lw_mem1 50 rfl
theorem kw_51 : (Jvm.Cond.fieldLink "EldestSays$Evening" (40 : Nat) "EldestSays$Evening" "sayer" "I") ∈ lw_tbl := lw_mem1 51 rfl
theorem kw_52 : (Jvm.Cond.fieldLink "EldestSays" (170 : Nat) "EldestSays$Evening" "sayer" "I") ∈ lw_tbl := lw_mem1 52 rfl
theorem kw_53 : (Jvm.Cond.fieldLink "EldestSays$Evening" (43 : Nat) "EldestSays$Evening" "isDone" "Z") ∈ lw_tbl := lw_mem1 53 rfl
theorem kw_54 : (Jvm.Cond.fieldLink "EldestSays$Letters" (42 : Nat) "EldestSays$Evening" "isDone" "Z") ∈ lw_tbl := lw_mem1 54 rfl
theorem kw_55 : (Jvm.Cond.fieldLink "EldestSays" (247 : Nat) "EldestSays$Evening" "isDone" "Z") ∈ lw_tbl := lw_mem1 55 rfl
theorem kw_56 : (Jvm.Cond.laysFinal "EldestSays$Evening" "EldestSays$Evening" "kinds" "[I") ∈ lw_tbl := lw_mem1 56 rfl
theorem kw_57 : (Jvm.Cond.soleField "EldestSays$Evening" "kinds") ∈ lw_tbl := lw_mem1 57 rfl
theorem kw_58 : (Jvm.Cond.laysFinal "EldestSays$Evening" "EldestSays$Evening" "figures" "[I") ∈ lw_tbl := lw_mem1 58 rfl
theorem kw_59 : (Jvm.Cond.soleField "EldestSays$Evening" "figures") ∈ lw_tbl := lw_mem1 59 rfl
theorem kw_60 : (Jvm.Cond.laysFinal "EldestSays$Evening" "EldestSays$Evening" "weights" "[I") ∈ lw_tbl := lw_mem1 60 rfl
theorem kw_61 : (Jvm.Cond.soleField "EldestSays$Evening" "weights") ∈ lw_tbl := lw_mem1 61 rfl
theorem kw_62 : (Jvm.Cond.laysFinal "EldestSays$Evening" "EldestSays$Evening" "purses" "[I") ∈ lw_tbl := lw_mem1 62 rfl
theorem kw_63 : (Jvm.Cond.soleField "EldestSays$Evening" "purses") ∈ lw_tbl := lw_mem1 63 rfl
theorem kw_64 : (Jvm.Cond.laysFinal "EldestSays$Evening" "EldestSays$Evening" "settings" "[I") ∈ lw_tbl := lw_mem1 64 rfl
theorem kw_65 : (Jvm.Cond.soleField "EldestSays$Evening" "settings") ∈ lw_tbl := lw_mem1 65 rfl
theorem kw_66 : (Jvm.Cond.lays "EldestSays$Evening" "EldestSays$Evening" "size" "I") ∈ lw_tbl := lw_mem1 66 rfl
theorem kw_67 : (Jvm.Cond.soleField "EldestSays$Evening" "size") ∈ lw_tbl := lw_mem1 67 rfl
theorem kw_68 : (Jvm.Cond.lays "EldestSays$Evening" "EldestSays$Evening" "sayer" "I") ∈ lw_tbl := lw_mem1 68 rfl
theorem kw_69 : (Jvm.Cond.soleField "EldestSays$Evening" "sayer") ∈ lw_tbl := lw_mem1 69 rfl
theorem kw_70 : (Jvm.Cond.lays "EldestSays$Evening" "EldestSays$Evening" "isDone" "Z") ∈ lw_tbl := lw_mem1 70 rfl
theorem kw_71 : (Jvm.Cond.soleField "EldestSays$Evening" "isDone") ∈ lw_tbl := lw_mem1 71 rfl
theorem kw_72 : (Jvm.Cond.superclass "EldestSays$Evening" "java/lang/Object") ∈ lw_tbl := lw_mem1 72 rfl
theorem kw_73 : (Jvm.Cond.arrayClass Jvm.ClassFile.FieldType.int) ∈ lw_tbl := lw_mem1 73 rfl
theorem kw_74 : (Jvm.Cond.classLink "EldestSays" (16 : Nat) "EldestSays$Letters") ∈ lw_tbl := lw_mem1 74 rfl
theorem kw_75 : (Jvm.Cond.instantiable "EldestSays$Letters" (2 : Nat)) ∈ lw_tbl := lw_mem1 75 rfl
theorem kw_76 : (Jvm.Cond.methodLinkNest "EldestSays" (18 : Nat) ({ cls := "EldestSays$Letters", name := "<init>", desc := "()V" } : Jvm.MethodName) "EldestSays") ∈ lw_tbl := lw_mem1 76 rfl
theorem kw_77 : (Jvm.Cond.instanceMethod ({ cls := "EldestSays$Letters", name := "<init>", desc := "()V" } : Jvm.MethodName)) ∈ lw_tbl := lw_mem1 77 rfl
theorem kw_78 : (Jvm.Cond.code ({ cls := "EldestSays$Letters", name := "<init>", desc := "()V" } : Jvm.MethodName) prog_9_method_1_code (1 : Nat) (Option.none : Option Jvm.ClassFile.FieldType)) ∈ lw_tbl := lw_mem1 78 rfl
theorem kw_79 : (Jvm.Cond.methodLink "EldestSays$Letters" (3 : Nat) ({ cls := "java/lang/Object", name := "<init>", desc := "()V" } : Jvm.MethodName)) ∈ lw_tbl := lw_mem1 79 rfl
theorem kw_80 : (Jvm.Cond.fieldLink "EldestSays$Letters" (15 : Nat) "EldestSays$Letters" "size" "I") ∈ lw_tbl := lw_mem1 80 rfl
theorem kw_81 : (Jvm.Cond.fieldLink "EldestSays" (254 : Nat) "EldestSays$Letters" "size" "I") ∈ lw_tbl := lw_mem1 81 rfl
theorem kw_82 : (Jvm.Cond.fieldLink "EldestSays$Letters" (9 : Nat) "EldestSays$Letters" "signs" "[C") ∈ lw_tbl := lw_mem1 82 rfl
theorem kw_83 : (Jvm.Cond.lays "EldestSays$Letters" "EldestSays$Letters" "size" "I") ∈ lw_tbl := lw_mem1 83 rfl
theorem kw_84 : (Jvm.Cond.soleField "EldestSays$Letters" "size") ∈ lw_tbl := lw_mem1 84 rfl
theorem kw_85 : (Jvm.Cond.laysFinal "EldestSays$Letters" "EldestSays$Letters" "signs" "[C") ∈ lw_tbl := lw_mem1 85 rfl
theorem kw_86 : (Jvm.Cond.soleField "EldestSays$Letters" "signs") ∈ lw_tbl := lw_mem1 86 rfl
theorem kw_87 : (Jvm.Cond.superclass "EldestSays$Letters" "java/lang/Object") ∈ lw_tbl := lw_mem1 87 rfl
theorem kw_88 : (Jvm.Cond.arrayClass Jvm.ClassFile.FieldType.char) ∈ lw_tbl := lw_mem1 88 rfl
theorem kw_89 : (Jvm.Cond.classLink "EldestSays" (41 : Nat) "EldestSays$Clever") ∈ lw_tbl := lw_mem1 89 rfl
theorem kw_90 : (Jvm.Cond.instantiable "EldestSays$Clever" (0 : Nat)) ∈ lw_tbl := lw_mem1 90 rfl
theorem kw_91 : (Jvm.Cond.methodLinkNest "EldestSays" (43 : Nat) ({ cls := "EldestSays$Clever", name := "<init>", desc := "()V" } : Jvm.MethodName) "EldestSays") ∈ lw_tbl := lw_mem1 91 rfl
theorem kw_92 : (Jvm.Cond.instanceMethod ({ cls := "EldestSays$Clever", name := "<init>", desc := "()V" } : Jvm.MethodName)) ∈ lw_tbl := lw_mem1 92 rfl
theorem kw_93 : (Jvm.Cond.code ({ cls := "EldestSays$Clever", name := "<init>", desc := "()V" } : Jvm.MethodName) prog_2_method_1_code (1 : Nat) (Option.none : Option Jvm.ClassFile.FieldType)) ∈ lw_tbl := lw_mem1 93 rfl
theorem kw_94 : (Jvm.Cond.methodLink "EldestSays$Clever" (1 : Nat) ({ cls := "java/lang/Object", name := "<init>", desc := "()V" } : Jvm.MethodName)) ∈ lw_tbl := lw_mem1 94 rfl
theorem kw_95 : (Jvm.Cond.superclass "EldestSays$Clever" "java/lang/Object") ∈ lw_tbl := lw_mem1 95 rfl
theorem kw_96 : (Jvm.Cond.arrayClass Jvm.ClassFile.FieldType.long) ∈ lw_tbl := lw_mem1 96 rfl
theorem kw_97 : (Jvm.Cond.arrayOver (Jvm.ClassFile.FieldType.object "EldestSays$Clever")) ∈ lw_tbl := lw_mem1 97 rfl
theorem kw_98 : (Jvm.Cond.classLink "EldestSays" (44 : Nat) "EldestSays$Company") ∈ lw_tbl := lw_mem1 98 rfl
theorem kw_99 : (Jvm.Cond.instantiable "EldestSays$Company" (0 : Nat)) ∈ lw_tbl := lw_mem1 99 rfl
theorem kw_100 : (Jvm.Cond.methodLinkNest "EldestSays" (46 : Nat) ({ cls := "EldestSays$Company", name := "<init>", desc := "()V" } : Jvm.MethodName) "EldestSays") ∈ lw_tbl := lw_mem1 100 rfl
theorem kw_101 : (Jvm.Cond.instanceMethod ({ cls := "EldestSays$Company", name := "<init>", desc := "()V" } : Jvm.MethodName)) ∈ lw_tbl := lw_mem1 101 rfl
theorem kw_102 : (Jvm.Cond.code ({ cls := "EldestSays$Company", name := "<init>", desc := "()V" } : Jvm.MethodName) prog_3_method_1_code (1 : Nat) (Option.none : Option Jvm.ClassFile.FieldType)) ∈ lw_tbl := lw_mem1 102 rfl
theorem kw_103 : (Jvm.Cond.methodLinkNest "EldestSays$Company" (1 : Nat) ({ cls := "EldestSays$Clever", name := "<init>", desc := "()V" } : Jvm.MethodName) "EldestSays") ∈ lw_tbl := lw_mem1 103 rfl
theorem kw_104 : (Jvm.Cond.superclass "EldestSays$Company" "EldestSays$Clever") ∈ lw_tbl := lw_mem1 104 rfl
theorem kw_105 : (Jvm.Cond.classLink "EldestSays" (47 : Nat) "EldestSays$Envious") ∈ lw_tbl := lw_mem1 105 rfl
theorem kw_106 : (Jvm.Cond.instantiable "EldestSays$Envious" (0 : Nat)) ∈ lw_tbl := lw_mem1 106 rfl
theorem kw_107 : (Jvm.Cond.methodLinkNest "EldestSays" (49 : Nat) ({ cls := "EldestSays$Envious", name := "<init>", desc := "()V" } : Jvm.MethodName) "EldestSays") ∈ lw_tbl := lw_mem1 107 rfl
theorem kw_108 : (Jvm.Cond.instanceMethod ({ cls := "EldestSays$Envious", name := "<init>", desc := "()V" } : Jvm.MethodName)) ∈ lw_tbl := lw_mem1 108 rfl
theorem kw_109 : (Jvm.Cond.code ({ cls := "EldestSays$Envious", name := "<init>", desc := "()V" } : Jvm.MethodName) prog_5_method_1_code (1 : Nat) (Option.none : Option Jvm.ClassFile.FieldType)) ∈ lw_tbl := lw_mem1 109 rfl
theorem kw_110 : (Jvm.Cond.methodLinkNest "EldestSays$Envious" (1 : Nat) ({ cls := "EldestSays$Clever", name := "<init>", desc := "()V" } : Jvm.MethodName) "EldestSays") ∈ lw_tbl := lw_mem1 110 rfl
theorem kw_111 : (Jvm.Cond.superclass "EldestSays$Envious" "EldestSays$Clever") ∈ lw_tbl := lw_mem1 111 rfl
theorem kw_112 : (Jvm.Cond.classLink "EldestSays" (50 : Nat) "EldestSays$Fair") ∈ lw_tbl := lw_mem1 112 rfl
theorem kw_113 : (Jvm.Cond.instantiable "EldestSays$Fair" (0 : Nat)) ∈ lw_tbl := lw_mem1 113 rfl
theorem kw_114 : (Jvm.Cond.methodLinkNest "EldestSays" (52 : Nat) ({ cls := "EldestSays$Fair", name := "<init>", desc := "()V" } : Jvm.MethodName) "EldestSays") ∈ lw_tbl := lw_mem1 114 rfl
theorem kw_115 : (Jvm.Cond.instanceMethod ({ cls := "EldestSays$Fair", name := "<init>", desc := "()V" } : Jvm.MethodName)) ∈ lw_tbl := lw_mem1 115 rfl
theorem kw_116 : (Jvm.Cond.code ({ cls := "EldestSays$Fair", name := "<init>", desc := "()V" } : Jvm.MethodName) prog_7_method_1_code (1 : Nat) (Option.none : Option Jvm.ClassFile.FieldType)) ∈ lw_tbl := lw_mem1 116 rfl
theorem kw_117 : (Jvm.Cond.methodLinkNest "EldestSays$Fair" (1 : Nat) ({ cls := "EldestSays$Company", name := "<init>", desc := "()V" } : Jvm.MethodName) "EldestSays") ∈ lw_tbl := lw_mem1 117 rfl
theorem kw_118 : (Jvm.Cond.superclass "EldestSays$Fair" "EldestSays$Company") ∈ lw_tbl := lw_mem1 118 rfl
theorem kw_119 : (Jvm.Cond.classLink "EldestSays" (53 : Nat) "EldestSays$Fool") ∈ lw_tbl := lw_mem1 119 rfl
theorem kw_120 : (Jvm.Cond.instantiable "EldestSays$Fool" (0 : Nat)) ∈ lw_tbl := lw_mem1 120 rfl
theorem kw_121 : (Jvm.Cond.methodLinkNest "EldestSays" (55 : Nat) ({ cls := "EldestSays$Fool", name := "<init>", desc := "()V" } : Jvm.MethodName) "EldestSays") ∈ lw_tbl := lw_mem1 121 rfl
theorem kw_122 : (Jvm.Cond.instanceMethod ({ cls := "EldestSays$Fool", name := "<init>", desc := "()V" } : Jvm.MethodName)) ∈ lw_tbl := lw_mem1 122 rfl
theorem kw_123 : (Jvm.Cond.code ({ cls := "EldestSays$Fool", name := "<init>", desc := "()V" } : Jvm.MethodName) prog_8_method_1_code (1 : Nat) (Option.none : Option Jvm.ClassFile.FieldType)) ∈ lw_tbl := lw_mem1 123 rfl
theorem kw_124 : (Jvm.Cond.methodLinkNest "EldestSays$Fool" (1 : Nat) ({ cls := "EldestSays$Clever", name := "<init>", desc := "()V" } : Jvm.MethodName) "EldestSays") ∈ lw_tbl := lw_mem1 124 rfl
theorem kw_125 : (Jvm.Cond.superclass "EldestSays$Fool" "EldestSays$Clever") ∈ lw_tbl := lw_mem1 125 rfl
theorem kw_126 : (Jvm.Cond.classLink "EldestSays" (56 : Nat) "EldestSays$Spiteful") ∈ lw_tbl := lw_mem1 126 rfl
theorem kw_127 : (Jvm.Cond.instantiable "EldestSays$Spiteful" (0 : Nat)) ∈ lw_tbl := lw_mem1 127 rfl
theorem kw_128 : (Jvm.Cond.methodLinkNest "EldestSays" (58 : Nat) ({ cls := "EldestSays$Spiteful", name := "<init>", desc := "()V" } : Jvm.MethodName) "EldestSays") ∈ lw_tbl := lw_mem1 128 rfl
theorem kw_129 : (Jvm.Cond.instanceMethod ({ cls := "EldestSays$Spiteful", name := "<init>", desc := "()V" } : Jvm.MethodName)) ∈ lw_tbl := lw_mem1 129 rfl
theorem kw_130 : (Jvm.Cond.code ({ cls := "EldestSays$Spiteful", name := "<init>", desc := "()V" } : Jvm.MethodName) prog_12_method_1_code (1 : Nat) (Option.none : Option Jvm.ClassFile.FieldType)) ∈ lw_tbl := lw_mem1 130 rfl
theorem kw_131 : (Jvm.Cond.methodLinkNest "EldestSays$Spiteful" (1 : Nat) ({ cls := "EldestSays$Envious", name := "<init>", desc := "()V" } : Jvm.MethodName) "EldestSays") ∈ lw_tbl := lw_mem1 131 rfl
theorem kw_132 : (Jvm.Cond.superclass "EldestSays$Spiteful" "EldestSays$Envious") ∈ lw_tbl := lw_mem1 132 rfl
theorem kw_133 : (Jvm.Cond.classLink "EldestSays" (59 : Nat) "EldestSays$Meek") ∈ lw_tbl := lw_mem1 133 rfl
theorem kw_134 : (Jvm.Cond.instantiable "EldestSays$Meek" (0 : Nat)) ∈ lw_tbl := lw_mem1 134 rfl
theorem kw_135 : (Jvm.Cond.methodLinkNest "EldestSays" (61 : Nat) ({ cls := "EldestSays$Meek", name := "<init>", desc := "()V" } : Jvm.MethodName) "EldestSays") ∈ lw_tbl := lw_mem1 135 rfl
theorem kw_136 : (Jvm.Cond.instanceMethod ({ cls := "EldestSays$Meek", name := "<init>", desc := "()V" } : Jvm.MethodName)) ∈ lw_tbl := lw_mem1 136 rfl
theorem kw_137 : (Jvm.Cond.code ({ cls := "EldestSays$Meek", name := "<init>", desc := "()V" } : Jvm.MethodName) prog_10_method_1_code (1 : Nat) (Option.none : Option Jvm.ClassFile.FieldType)) ∈ lw_tbl := lw_mem1 137 rfl
theorem kw_138 : (Jvm.Cond.methodLinkNest "EldestSays$Meek" (1 : Nat) ({ cls := "EldestSays$Fool", name := "<init>", desc := "()V" } : Jvm.MethodName) "EldestSays") ∈ lw_tbl := lw_mem1 138 rfl
theorem kw_139 : (Jvm.Cond.superclass "EldestSays$Meek" "EldestSays$Fool") ∈ lw_tbl := lw_mem1 139 rfl
theorem kw_140 : (Jvm.Cond.classLink "EldestSays" (62 : Nat) "EldestSays$Plans") ∈ lw_tbl := lw_mem1 140 rfl
theorem kw_141 : (Jvm.Cond.instantiable "EldestSays$Plans" (14 : Nat)) ∈ lw_tbl := lw_mem1 141 rfl
theorem kw_142 : (Jvm.Cond.methodLink "EldestSays" (64 : Nat) ({ cls := "EldestSays$Plans", name := "<init>", desc := "([LEldestSays$Clever;)V" } : Jvm.MethodName)) ∈ lw_tbl := lw_mem1 142 rfl
theorem kw_143 : (Jvm.Cond.instanceMethod ({ cls := "EldestSays$Plans", name := "<init>", desc := "([LEldestSays$Clever;)V" } : Jvm.MethodName)) ∈ lw_tbl := lw_mem1 143 rfl
theorem kw_144 : (Jvm.Cond.code ({ cls := "EldestSays$Plans", name := "<init>", desc := "([LEldestSays$Clever;)V" } : Jvm.MethodName) prog_11_method_1_code (2 : Nat) (Option.none : Option Jvm.ClassFile.FieldType)) ∈ lw_tbl := lw_mem1 144 rfl
theorem kw_145 : (Jvm.Cond.methodLink "EldestSays$Plans" (3 : Nat) ({ cls := "java/lang/Object", name := "<init>", desc := "()V" } : Jvm.MethodName)) ∈ lw_tbl := lw_mem1 145 rfl
theorem kw_146 : (Jvm.Cond.classLink "EldestSays$Plans" (9 : Nat) "[[I") ∈ lw_tbl := lw_mem1 146 rfl
theorem kw_147 : (Jvm.Cond.arrayOver (Jvm.ClassFile.FieldType.array Jvm.ClassFile.FieldType.int)) ∈ lw_tbl := lw_mem1 147 rfl
theorem kw_148 : (Jvm.Cond.classLink "EldestSays$Plans" (32 : Nat) "EldestSays$Evening") ∈ lw_tbl := lw_mem1 148 rfl
theorem kw_149 : (Jvm.Cond.methodLinkNest "EldestSays$Plans" (34 : Nat) ({ cls := "EldestSays$Evening", name := "<init>", desc := "()V" } : Jvm.MethodName) "EldestSays") ∈ lw_tbl := lw_mem1 149 rfl
theorem kw_150 : (Jvm.Cond.fieldLink "EldestSays$Plans" (11 : Nat) "EldestSays$Plans" "offers" "[[I") ∈ lw_tbl := lw_mem1 150 rfl
theorem kw_151 : (Jvm.Cond.fieldLink "EldestSays" (137 : Nat) "EldestSays$Plans" "offers" "[[I") ∈ lw_tbl := lw_mem1 151 rfl
theorem kw_152 : (Jvm.Cond.fieldLink "EldestSays$Plans" (16 : Nat) "EldestSays$Plans" "prices" "[[I") ∈ lw_tbl := lw_mem1 152 rfl
theorem kw_153 : (Jvm.Cond.fieldLink "EldestSays" (141 : Nat) "EldestSays$Plans" "prices" "[[I") ∈ lw_tbl := lw_mem1 153 rfl
theorem kw_154 : (Jvm.Cond.fieldLink "EldestSays$Plans" (19 : Nat) "EldestSays$Plans" "shares" "[[I") ∈ lw_tbl := lw_mem1 154 rfl
theorem kw_155 : (Jvm.Cond.fieldLink "EldestSays" (151 : Nat) "EldestSays$Plans" "shares" "[[I") ∈ lw_tbl := lw_mem1 155 rfl
theorem kw_156 : (Jvm.Cond.fieldLink "EldestSays$Plans" (22 : Nat) "EldestSays$Plans" "ayes" "[I") ∈ lw_tbl := lw_mem1 156 rfl
theorem kw_157 : (Jvm.Cond.fieldLink "EldestSays" (144 : Nat) "EldestSays$Plans" "ayes" "[I") ∈ lw_tbl := lw_mem1 157 rfl
theorem kw_158 : (Jvm.Cond.fieldLink "EldestSays$Plans" (26 : Nat) "EldestSays$Plans" "enders" "[I") ∈ lw_tbl := lw_mem1 158 rfl
theorem kw_159 : (Jvm.Cond.fieldLink "EldestSays" (147 : Nat) "EldestSays$Plans" "enders" "[I") ∈ lw_tbl := lw_mem1 159 rfl
theorem kw_160 : (Jvm.Cond.fieldLink "EldestSays$Plans" (29 : Nat) "EldestSays$Plans" "buys" "[I") ∈ lw_tbl := lw_mem1 160 rfl
theorem kw_161 : (Jvm.Cond.fieldLink "EldestSays" (154 : Nat) "EldestSays$Plans" "buys" "[I") ∈ lw_tbl := lw_mem1 161 rfl
theorem kw_162 : (Jvm.Cond.fieldLink "EldestSays$Plans" (35 : Nat) "EldestSays$Plans" "evening" "LEldestSays$Evening;") ∈ lw_tbl := lw_mem1 162 rfl
theorem kw_163 : (Jvm.Cond.fieldLink "EldestSays" (74 : Nat) "EldestSays$Plans" "evening" "LEldestSays$Evening;") ∈ lw_tbl := lw_mem1 163 rfl
theorem kw_164 : (Jvm.Cond.fieldLink "EldestSays$Plans" (51 : Nat) "EldestSays$Plans" "kinds" "[LEldestSays$Clever;") ∈ lw_tbl := lw_mem1 164 rfl
theorem kw_165 : (Jvm.Cond.fieldLink "EldestSays$Plans" (39 : Nat) "EldestSays$Plans" "unitPrices" "[I") ∈ lw_tbl := lw_mem1 165 rfl
theorem kw_166 : (Jvm.Cond.fieldLink "EldestSays$Plans" (42 : Nat) "EldestSays$Plans" "unitWeights" "[I") ∈ lw_tbl := lw_mem1 166 rfl
theorem kw_167 : (Jvm.Cond.fieldLink "EldestSays$Plans" (45 : Nat) "EldestSays$Plans" "setPrices" "[I") ∈ lw_tbl := lw_mem1 167 rfl
theorem kw_168 : (Jvm.Cond.fieldLink "EldestSays$Plans" (48 : Nat) "EldestSays$Plans" "setWeights" "[I") ∈ lw_tbl := lw_mem1 168 rfl
theorem kw_169 : (Jvm.Cond.fieldLink "EldestSays$Plans" (128 : Nat) "EldestSays$Plans" "units" "I") ∈ lw_tbl := lw_mem1 169 rfl
theorem kw_170 : (Jvm.Cond.fieldLink "EldestSays$Plans" (131 : Nat) "EldestSays$Plans" "freeWeight" "I") ∈ lw_tbl := lw_mem1 170 rfl
theorem kw_171 : (Jvm.Cond.laysFinal "EldestSays$Plans" "EldestSays$Plans" "offers" "[[I") ∈ lw_tbl := lw_mem1 171 rfl
theorem kw_172 : (Jvm.Cond.soleField "EldestSays$Plans" "offers") ∈ lw_tbl := lw_mem1 172 rfl
theorem kw_173 : (Jvm.Cond.laysFinal "EldestSays$Plans" "EldestSays$Plans" "prices" "[[I") ∈ lw_tbl := lw_mem1 173 rfl
theorem kw_174 : (Jvm.Cond.soleField "EldestSays$Plans" "prices") ∈ lw_tbl := lw_mem1 174 rfl
theorem kw_175 : (Jvm.Cond.laysFinal "EldestSays$Plans" "EldestSays$Plans" "shares" "[[I") ∈ lw_tbl := lw_mem1 175 rfl
theorem kw_176 : (Jvm.Cond.soleField "EldestSays$Plans" "shares") ∈ lw_tbl := lw_mem1 176 rfl
theorem kw_177 : (Jvm.Cond.laysFinal "EldestSays$Plans" "EldestSays$Plans" "ayes" "[I") ∈ lw_tbl := lw_mem1 177 rfl
theorem kw_178 : (Jvm.Cond.soleField "EldestSays$Plans" "ayes") ∈ lw_tbl := lw_mem1 178 rfl
theorem kw_179 : (Jvm.Cond.laysFinal "EldestSays$Plans" "EldestSays$Plans" "enders" "[I") ∈ lw_tbl := lw_mem1 179 rfl
theorem kw_180 : (Jvm.Cond.soleField "EldestSays$Plans" "enders") ∈ lw_tbl := lw_mem1 180 rfl
theorem kw_181 : (Jvm.Cond.laysFinal "EldestSays$Plans" "EldestSays$Plans" "buys" "[I") ∈ lw_tbl := lw_mem1 181 rfl
theorem kw_182 : (Jvm.Cond.soleField "EldestSays$Plans" "buys") ∈ lw_tbl := lw_mem1 182 rfl
theorem kw_183 : (Jvm.Cond.laysFinal "EldestSays$Plans" "EldestSays$Plans" "evening" "LEldestSays$Evening;") ∈ lw_tbl := lw_mem1 183 rfl
theorem kw_184 : (Jvm.Cond.soleField "EldestSays$Plans" "evening") ∈ lw_tbl := lw_mem1 184 rfl
theorem kw_185 : (Jvm.Cond.laysFinal "EldestSays$Plans" "EldestSays$Plans" "kinds" "[LEldestSays$Clever;") ∈ lw_tbl := lw_mem1 185 rfl
theorem kw_186 : (Jvm.Cond.soleField "EldestSays$Plans" "kinds") ∈ lw_tbl := lw_mem1 186 rfl
theorem kw_187 : (Jvm.Cond.laysFinal "EldestSays$Plans" "EldestSays$Plans" "unitPrices" "[I") ∈ lw_tbl := lw_mem1 187 rfl
theorem kw_188 : (Jvm.Cond.soleField "EldestSays$Plans" "unitPrices") ∈ lw_tbl := lw_mem1 188 rfl
theorem kw_189 : (Jvm.Cond.laysFinal "EldestSays$Plans" "EldestSays$Plans" "unitWeights" "[I") ∈ lw_tbl := lw_mem1 189 rfl
theorem kw_190 : (Jvm.Cond.soleField "EldestSays$Plans" "unitWeights") ∈ lw_tbl := lw_mem1 190 rfl
theorem kw_191 : (Jvm.Cond.laysFinal "EldestSays$Plans" "EldestSays$Plans" "setPrices" "[I") ∈ lw_tbl := lw_mem1 191 rfl
theorem kw_192 : (Jvm.Cond.soleField "EldestSays$Plans" "setPrices") ∈ lw_tbl := lw_mem1 192 rfl
theorem kw_193 : (Jvm.Cond.laysFinal "EldestSays$Plans" "EldestSays$Plans" "setWeights" "[I") ∈ lw_tbl := lw_mem1 193 rfl
theorem kw_194 : (Jvm.Cond.soleField "EldestSays$Plans" "setWeights") ∈ lw_tbl := lw_mem1 194 rfl
theorem kw_195 : (Jvm.Cond.lays "EldestSays$Plans" "EldestSays$Plans" "units" "I") ∈ lw_tbl := lw_mem1 195 rfl
theorem kw_196 : (Jvm.Cond.soleField "EldestSays$Plans" "units") ∈ lw_tbl := lw_mem1 196 rfl
theorem kw_197 : (Jvm.Cond.lays "EldestSays$Plans" "EldestSays$Plans" "freeWeight" "I") ∈ lw_tbl := lw_mem1 197 rfl
theorem kw_198 : (Jvm.Cond.soleField "EldestSays$Plans" "freeWeight") ∈ lw_tbl := lw_mem1 198 rfl
theorem kw_199 : (Jvm.Cond.superclass "EldestSays$Plans" "java/lang/Object") ∈ lw_tbl := lw_mem1 199 rfl
theorem kw_200 : (Jvm.Cond.classLink "EldestSays" (83 : Nat) "EldestSays$Crowd") ∈ lw_tbl := lw_mem1 200 rfl
theorem kw_201 : (Jvm.Cond.instantiable "EldestSays$Crowd" (6 : Nat)) ∈ lw_tbl := lw_mem1 201 rfl
theorem kw_202 : (Jvm.Cond.methodLink "EldestSays" (85 : Nat) ({ cls := "EldestSays$Crowd", name := "<init>", desc := "(LEldestSays$Clever;)V" } : Jvm.MethodName)) ∈ lw_tbl := lw_mem1 202 rfl
theorem kw_203 : (Jvm.Cond.instanceMethod ({ cls := "EldestSays$Crowd", name := "<init>", desc := "(LEldestSays$Clever;)V" } : Jvm.MethodName)) ∈ lw_tbl := lw_mem1 203 rfl
theorem kw_204 : (Jvm.Cond.code ({ cls := "EldestSays$Crowd", name := "<init>", desc := "(LEldestSays$Clever;)V" } : Jvm.MethodName) prog_4_method_1_code (2 : Nat) (Option.none : Option Jvm.ClassFile.FieldType)) ∈ lw_tbl := lw_mem1 204 rfl
theorem kw_205 : (Jvm.Cond.methodLink "EldestSays$Crowd" (3 : Nat) ({ cls := "java/lang/Object", name := "<init>", desc := "()V" } : Jvm.MethodName)) ∈ lw_tbl := lw_mem1 205 rfl
theorem kw_206 : (Jvm.Cond.fieldLink "EldestSays$Crowd" (9 : Nat) "EldestSays$Crowd" "shares" "[I") ∈ lw_tbl := lw_mem1 206 rfl
theorem kw_207 : (Jvm.Cond.fieldLink "EldestSays" (184 : Nat) "EldestSays$Crowd" "shares" "[I") ∈ lw_tbl := lw_mem1 207 rfl
theorem kw_208 : (Jvm.Cond.fieldLink "EldestSays$Crowd" (15 : Nat) "EldestSays$Crowd" "asked" "[I") ∈ lw_tbl := lw_mem1 208 rfl
theorem kw_209 : (Jvm.Cond.fieldLink "EldestSays$Crowd" (18 : Nat) "EldestSays$Crowd" "offer" "[I") ∈ lw_tbl := lw_mem1 209 rfl
theorem kw_210 : (Jvm.Cond.fieldLink "EldestSays$Crowd" (21 : Nat) "EldestSays$Crowd" "clever" "LEldestSays$Clever;") ∈ lw_tbl := lw_mem1 210 rfl
theorem kw_211 : (Jvm.Cond.fieldLink "EldestSays$Crowd" (31 : Nat) "EldestSays$Crowd" "size" "I") ∈ lw_tbl := lw_mem1 211 rfl
theorem kw_212 : (Jvm.Cond.fieldLink "EldestSays$Crowd" (35 : Nat) "EldestSays$Crowd" "coins" "I") ∈ lw_tbl := lw_mem1 212 rfl
theorem kw_213 : (Jvm.Cond.laysFinal "EldestSays$Crowd" "EldestSays$Crowd" "shares" "[I") ∈ lw_tbl := lw_mem1 213 rfl
theorem kw_214 : (Jvm.Cond.soleField "EldestSays$Crowd" "shares") ∈ lw_tbl := lw_mem1 214 rfl
theorem kw_215 : (Jvm.Cond.laysFinal "EldestSays$Crowd" "EldestSays$Crowd" "asked" "[I") ∈ lw_tbl := lw_mem1 215 rfl
theorem kw_216 : (Jvm.Cond.soleField "EldestSays$Crowd" "asked") ∈ lw_tbl := lw_mem1 216 rfl
theorem kw_217 : (Jvm.Cond.laysFinal "EldestSays$Crowd" "EldestSays$Crowd" "offer" "[I") ∈ lw_tbl := lw_mem1 217 rfl
theorem kw_218 : (Jvm.Cond.soleField "EldestSays$Crowd" "offer") ∈ lw_tbl := lw_mem1 218 rfl
theorem kw_219 : (Jvm.Cond.laysFinal "EldestSays$Crowd" "EldestSays$Crowd" "clever" "LEldestSays$Clever;") ∈ lw_tbl := lw_mem1 219 rfl
theorem kw_220 : (Jvm.Cond.soleField "EldestSays$Crowd" "clever") ∈ lw_tbl := lw_mem1 220 rfl
theorem kw_221 : (Jvm.Cond.lays "EldestSays$Crowd" "EldestSays$Crowd" "size" "I") ∈ lw_tbl := lw_mem1 221 rfl
theorem kw_222 : (Jvm.Cond.soleField "EldestSays$Crowd" "size") ∈ lw_tbl := lw_mem1 222 rfl
theorem kw_223 : (Jvm.Cond.lays "EldestSays$Crowd" "EldestSays$Crowd" "coins" "I") ∈ lw_tbl := lw_mem1 223 rfl
theorem kw_224 : (Jvm.Cond.soleField "EldestSays$Crowd" "coins") ∈ lw_tbl := lw_mem1 224 rfl
theorem kw_225 : (Jvm.Cond.superclass "EldestSays$Crowd" "java/lang/Object") ∈ lw_tbl := lw_mem1 225 rfl
theorem kw_226 : (Jvm.Cond.fieldLink "EldestSays" (67 : Nat) "EldestSays" "plans" "LEldestSays$Plans;") ∈ lw_tbl := lw_mem1 226 rfl
theorem kw_227 : (Jvm.Cond.fieldLink "EldestSays" (71 : Nat) "EldestSays" "trialPlans" "LEldestSays$Plans;") ∈ lw_tbl := lw_mem1 227 rfl
theorem kw_228 : (Jvm.Cond.fieldLink "EldestSays" (77 : Nat) "EldestSays" "now" "LEldestSays$Evening;") ∈ lw_tbl := lw_mem1 228 rfl
theorem kw_229 : (Jvm.Cond.fieldLink "EldestSays" (80 : Nat) "EldestSays" "trial" "LEldestSays$Evening;") ∈ lw_tbl := lw_mem1 229 rfl
theorem kw_230 : (Jvm.Cond.fieldLink "EldestSays" (10 : Nat) "EldestSays" "kept" "LEldestSays$Evening;") ∈ lw_tbl := lw_mem1 230 rfl
theorem kw_231 : (Jvm.Cond.fieldLink "EldestSays" (19 : Nat) "EldestSays" "letters" "LEldestSays$Letters;") ∈ lw_tbl := lw_mem1 231 rfl
theorem kw_232 : (Jvm.Cond.fieldLink "EldestSays" (88 : Nat) "EldestSays" "crowd" "LEldestSays$Crowd;") ∈ lw_tbl := lw_mem1 232 rfl
theorem kw_233 : (Jvm.Cond.fieldLink "EldestSays" (23 : Nat) "EldestSays" "order" "[I") ∈ lw_tbl := lw_mem1 233 rfl
theorem kw_234 : (Jvm.Cond.fieldLink "EldestSays" (27 : Nat) "EldestSays" "told" "[I") ∈ lw_tbl := lw_mem1 234 rfl
theorem kw_235 : (Jvm.Cond.fieldLink "EldestSays" (30 : Nat) "EldestSays" "refusals" "[I") ∈ lw_tbl := lw_mem1 235 rfl
theorem kw_236 : (Jvm.Cond.fieldLink "EldestSays" (33 : Nat) "EldestSays" "chances" "[J") ∈ lw_tbl := lw_mem1 236 rfl
theorem kw_237 : (Jvm.Cond.fieldLink "EldestSays" (157 : Nat) "EldestSays" "toldSize" "I") ∈ lw_tbl := lw_mem1 237 rfl
theorem kw_238 : (Jvm.Cond.fieldLink "EldestSays" (244 : Nat) "EldestSays" "isKept" "Z") ∈ lw_tbl := lw_mem1 238 rfl
theorem kw_239 : (Jvm.Cond.fieldLink "EldestSays" (37 : Nat) "EldestSays" "isStale" "Z") ∈ lw_tbl := lw_mem1 239 rfl
theorem kw_240 : (Jvm.Cond.laysFinal "EldestSays" "EldestSays" "plans" "LEldestSays$Plans;") ∈ lw_tbl := lw_mem2 0 rfl
theorem kw_241 : (Jvm.Cond.soleField "EldestSays" "plans") ∈ lw_tbl := lw_mem2 1 rfl
theorem kw_242 : (Jvm.Cond.laysFinal "EldestSays" "EldestSays" "trialPlans" "LEldestSays$Plans;") ∈ lw_tbl := lw_mem2 2 rfl
theorem kw_243 : (Jvm.Cond.soleField "EldestSays" "trialPlans") ∈ lw_tbl := lw_mem2 3 rfl
theorem kw_244 : (Jvm.Cond.laysFinal "EldestSays" "EldestSays" "now" "LEldestSays$Evening;") ∈ lw_tbl := lw_mem2 4 rfl
theorem kw_245 : (Jvm.Cond.soleField "EldestSays" "now") ∈ lw_tbl := lw_mem2 5 rfl
theorem kw_246 : (Jvm.Cond.laysFinal "EldestSays" "EldestSays" "trial" "LEldestSays$Evening;") ∈ lw_tbl := lw_mem2 6 rfl
theorem kw_247 : (Jvm.Cond.soleField "EldestSays" "trial") ∈ lw_tbl := lw_mem2 7 rfl
theorem kw_248 : (Jvm.Cond.laysFinal "EldestSays" "EldestSays" "kept" "LEldestSays$Evening;") ∈ lw_tbl := lw_mem2 8 rfl
theorem kw_249 : (Jvm.Cond.soleField "EldestSays" "kept") ∈ lw_tbl := lw_mem2 9 rfl
theorem kw_250 : (Jvm.Cond.laysFinal "EldestSays" "EldestSays" "letters" "LEldestSays$Letters;") ∈ lw_tbl := lw_mem2 10 rfl
theorem kw_251 : (Jvm.Cond.soleField "EldestSays" "letters") ∈ lw_tbl := lw_mem2 11 rfl
theorem kw_252 : (Jvm.Cond.laysFinal "EldestSays" "EldestSays" "crowd" "LEldestSays$Crowd;") ∈ lw_tbl := lw_mem2 12 rfl
theorem kw_253 : (Jvm.Cond.soleField "EldestSays" "crowd") ∈ lw_tbl := lw_mem2 13 rfl
theorem kw_254 : (Jvm.Cond.laysFinal "EldestSays" "EldestSays" "order" "[I") ∈ lw_tbl := lw_mem2 14 rfl
theorem kw_255 : (Jvm.Cond.soleField "EldestSays" "order") ∈ lw_tbl := lw_mem2 15 rfl
theorem kw_256 : (Jvm.Cond.laysFinal "EldestSays" "EldestSays" "told" "[I") ∈ lw_tbl := lw_mem2 16 rfl
theorem kw_257 : (Jvm.Cond.soleField "EldestSays" "told") ∈ lw_tbl := lw_mem2 17 rfl
theorem kw_258 : (Jvm.Cond.laysFinal "EldestSays" "EldestSays" "refusals" "[I") ∈ lw_tbl := lw_mem2 18 rfl
theorem kw_259 : (Jvm.Cond.soleField "EldestSays" "refusals") ∈ lw_tbl := lw_mem2 19 rfl
theorem kw_260 : (Jvm.Cond.laysFinal "EldestSays" "EldestSays" "chances" "[J") ∈ lw_tbl := lw_mem2 20 rfl
theorem kw_261 : (Jvm.Cond.soleField "EldestSays" "chances") ∈ lw_tbl := lw_mem2 21 rfl
theorem kw_262 : (Jvm.Cond.lays "EldestSays" "EldestSays" "toldSize" "I") ∈ lw_tbl := lw_mem2 22 rfl
theorem kw_263 : (Jvm.Cond.soleField "EldestSays" "toldSize") ∈ lw_tbl := lw_mem2 23 rfl
theorem kw_264 : (Jvm.Cond.lays "EldestSays" "EldestSays" "isKept" "Z") ∈ lw_tbl := lw_mem2 24 rfl
theorem kw_265 : (Jvm.Cond.soleField "EldestSays" "isKept") ∈ lw_tbl := lw_mem2 25 rfl
theorem kw_266 : (Jvm.Cond.lays "EldestSays" "EldestSays" "isStale" "Z") ∈ lw_tbl := lw_mem2 26 rfl
theorem kw_267 : (Jvm.Cond.soleField "EldestSays" "isStale") ∈ lw_tbl := lw_mem2 27 rfl
theorem kw_268 : (Jvm.Cond.superclass "EldestSays" "java/lang/Object") ∈ lw_tbl := lw_mem2 28 rfl
theorem kw_269 : (Jvm.Cond.methodLink "EldestSaysLaw" (13 : Nat) ({ cls := "EldestSays", name := "feed", desc := "(I)I" } : Jvm.MethodName)) ∈ lw_tbl := lw_mem2 29 rfl
theorem kw_270 : (Jvm.Cond.instanceMethod ({ cls := "EldestSays", name := "feed", desc := "(I)I" } : Jvm.MethodName)) ∈ lw_tbl := lw_mem2 30 rfl
theorem kw_271 : (Jvm.Cond.selects "EldestSays" ({ cls := "EldestSays", name := "feed", desc := "(I)I" } : Jvm.MethodName) ({ cls := "EldestSays", name := "feed", desc := "(I)I" } : Jvm.MethodName)) ∈ lw_tbl := lw_mem2 31 rfl
theorem kw_272 : (Jvm.Cond.code ({ cls := "EldestSays", name := "feed", desc := "(I)I" } : Jvm.MethodName) prog_1_method_2_code (2 : Nat) (Option.some Jvm.ClassFile.FieldType.int)) ∈ lw_tbl := lw_mem2 32 rfl
theorem kw_273 : (Jvm.Cond.methodLink "EldestSays" (92 : Nat) ({ cls := "EldestSays", name := "refuse", desc := "(I)I" } : Jvm.MethodName)) ∈ lw_tbl := lw_mem2 33 rfl
theorem kw_274 : (Jvm.Cond.privateMethod ({ cls := "EldestSays", name := "refuse", desc := "(I)I" } : Jvm.MethodName)) ∈ lw_tbl := lw_mem2 34 rfl
theorem kw_275 : (Jvm.Cond.instanceMethod ({ cls := "EldestSays", name := "refuse", desc := "(I)I" } : Jvm.MethodName)) ∈ lw_tbl := lw_mem2 35 rfl
theorem kw_276 : (Jvm.Cond.code ({ cls := "EldestSays", name := "refuse", desc := "(I)I" } : Jvm.MethodName) prog_1_method_32_code (2 : Nat) (Option.some Jvm.ClassFile.FieldType.int)) ∈ lw_tbl := lw_mem2 36 rfl
theorem kw_277 : (Jvm.Cond.methodLink "EldestSays" (96 : Nat) ({ cls := "EldestSays$Letters", name := "isFull", desc := "()Z" } : Jvm.MethodName)) ∈ lw_tbl := lw_mem2 37 rfl
theorem kw_278 : (Jvm.Cond.instanceMethod ({ cls := "EldestSays$Letters", name := "isFull", desc := "()Z" } : Jvm.MethodName)) ∈ lw_tbl := lw_mem2 38 rfl
theorem kw_279 : (Jvm.Cond.selects "EldestSays$Letters" ({ cls := "EldestSays$Letters", name := "isFull", desc := "()Z" } : Jvm.MethodName) ({ cls := "EldestSays$Letters", name := "isFull", desc := "()Z" } : Jvm.MethodName)) ∈ lw_tbl := lw_mem2 39 rfl
theorem kw_280 : (Jvm.Cond.code ({ cls := "EldestSays$Letters", name := "isFull", desc := "()Z" } : Jvm.MethodName) prog_9_method_2_code (1 : Nat) (Option.some Jvm.ClassFile.FieldType.boolean)) ∈ lw_tbl := lw_mem2 40 rfl
theorem kw_281 : (Jvm.Cond.methodLink "EldestSays" (100 : Nat) ({ cls := "EldestSays$Letters", name := "add", desc := "(C)I" } : Jvm.MethodName)) ∈ lw_tbl := lw_mem2 41 rfl
theorem kw_282 : (Jvm.Cond.instanceMethod ({ cls := "EldestSays$Letters", name := "add", desc := "(C)I" } : Jvm.MethodName)) ∈ lw_tbl := lw_mem2 42 rfl
theorem kw_283 : (Jvm.Cond.selects "EldestSays$Letters" ({ cls := "EldestSays$Letters", name := "add", desc := "(C)I" } : Jvm.MethodName) ({ cls := "EldestSays$Letters", name := "add", desc := "(C)I" } : Jvm.MethodName)) ∈ lw_tbl := lw_mem2 43 rfl
theorem kw_284 : (Jvm.Cond.code ({ cls := "EldestSays$Letters", name := "add", desc := "(C)I" } : Jvm.MethodName) prog_9_method_3_code (2 : Nat) (Option.some Jvm.ClassFile.FieldType.int)) ∈ lw_tbl := lw_mem2 44 rfl
theorem kw_285 : (Jvm.Cond.methodLink "EldestSaysLaw" (18 : Nat) ({ cls := "EldestSays", name := "beach", desc := "()I" } : Jvm.MethodName)) ∈ lw_tbl := lw_mem2 45 rfl
theorem kw_286 : (Jvm.Cond.instanceMethod ({ cls := "EldestSays", name := "beach", desc := "()I" } : Jvm.MethodName)) ∈ lw_tbl := lw_mem2 46 rfl
theorem kw_287 : (Jvm.Cond.selects "EldestSays" ({ cls := "EldestSays", name := "beach", desc := "()I" } : Jvm.MethodName) ({ cls := "EldestSays", name := "beach", desc := "()I" } : Jvm.MethodName)) ∈ lw_tbl := lw_mem2 47 rfl
theorem kw_288 : (Jvm.Cond.code ({ cls := "EldestSays", name := "beach", desc := "()I" } : Jvm.MethodName) prog_1_method_3_code (2 : Nat) (Option.some Jvm.ClassFile.FieldType.int)) ∈ lw_tbl := lw_mem2 48 rfl
theorem kw_289 : (Jvm.Cond.methodLink "EldestSays" (104 : Nat) ({ cls := "EldestSays$Letters", name := "fault", desc := "(LEldestSays$Evening;)I" } : Jvm.MethodName)) ∈ lw_tbl := lw_mem2 49 rfl
theorem kw_290 : (Jvm.Cond.instanceMethod ({ cls := "EldestSays$Letters", name := "fault", desc := "(LEldestSays$Evening;)I" } : Jvm.MethodName)) ∈ lw_tbl := lw_mem2 50 rfl
theorem kw_291 : (Jvm.Cond.selects "EldestSays$Letters" ({ cls := "EldestSays$Letters", name := "fault", desc := "(LEldestSays$Evening;)I" } : Jvm.MethodName) ({ cls := "EldestSays$Letters", name := "fault", desc := "(LEldestSays$Evening;)I" } : Jvm.MethodName)) ∈ lw_tbl := lw_mem2 51 rfl
theorem kw_292 : (Jvm.Cond.code ({ cls := "EldestSays$Letters", name := "fault", desc := "(LEldestSays$Evening;)I" } : Jvm.MethodName) prog_9_method_5_code (4 : Nat) (Option.some Jvm.ClassFile.FieldType.int)) ∈ lw_tbl := lw_mem2 52 rfl
theorem kw_293 : (Jvm.Cond.methodLink "EldestSays$Letters" (19 : Nat) ({ cls := "EldestSays$Letters", name := "brokenAt", desc := "()I" } : Jvm.MethodName)) ∈ lw_tbl := lw_mem2 53 rfl
theorem kw_294 : (Jvm.Cond.privateMethod ({ cls := "EldestSays$Letters", name := "brokenAt", desc := "()I" } : Jvm.MethodName)) ∈ lw_tbl := lw_mem2 54 rfl

end

