section
-- ===== PART A: goes FIRST, ahead of the names: the tables' words, and 'selects' of the private methods out of them =====
/-- a private method of a class that the tables say can be made, by its rows of tables_1 -/
def lw_okq (q : MethodName × Nat) : Prop := (q.1.cls ≠ "java/lang/invoke/MethodHandle" ∧ q.1.cls ≠ "java/lang/invoke/VarHandle") ∧ Cond.instantiable q.1.cls q.2 ∈ tables_1 ∧ Cond.privateMethod q.1 ∈ tables_1 ∧ Cond.instanceMethod q.1 ∈ tables_1
theorem lw_p0 : lw_okq (⟨"EldestSays", "refuse", "(I)I"⟩, 14) := ⟨⟨by decide +kernel, by decide +kernel⟩, List.mem_of_getElem? (i := 19) (by decide +kernel), List.mem_of_getElem? (i := 274) (by decide +kernel), List.mem_of_getElem? (i := 275) (by decide +kernel)⟩
theorem lw_p1 : lw_okq (⟨"EldestSays$Letters", "brokenAt", "()I"⟩, 2) := ⟨⟨by decide +kernel, by decide +kernel⟩, List.mem_of_getElem? (i := 75) (by decide +kernel), List.mem_of_getElem? (i := 294) (by decide +kernel), List.mem_of_getElem? (i := 295) (by decide +kernel)⟩
theorem lw_p2 : lw_okq (⟨"EldestSays$Letters", "wrongAt", "(LEldestSays$Evening;)I"⟩, 2) := ⟨⟨by decide +kernel, by decide +kernel⟩, List.mem_of_getElem? (i := 75) (by decide +kernel), List.mem_of_getElem? (i := 304) (by decide +kernel), List.mem_of_getElem? (i := 305) (by decide +kernel)⟩
theorem lw_p3 : lw_okq (⟨"EldestSays$Letters", "isRight", "(IIZ)Z"⟩, 2) := ⟨⟨by decide +kernel, by decide +kernel⟩, List.mem_of_getElem? (i := 75) (by decide +kernel), List.mem_of_getElem? (i := 308) (by decide +kernel), List.mem_of_getElem? (i := 309) (by decide +kernel)⟩
theorem lw_p4 : lw_okq (⟨"EldestSays$Letters", "digit", "(I)I"⟩, 2) := ⟨⟨by decide +kernel, by decide +kernel⟩, List.mem_of_getElem? (i := 75) (by decide +kernel), List.mem_of_getElem? (i := 312) (by decide +kernel), List.mem_of_getElem? (i := 313) (by decide +kernel)⟩
theorem lw_p5 : lw_okq (⟨"EldestSays$Letters", "tellOne", "(LEldestSays$Evening;II)V"⟩, 2) := ⟨⟨by decide +kernel, by decide +kernel⟩, List.mem_of_getElem? (i := 75) (by decide +kernel), List.mem_of_getElem? (i := 322) (by decide +kernel), List.mem_of_getElem? (i := 323) (by decide +kernel)⟩
theorem lw_p6 : lw_okq (⟨"EldestSays", "solved", "()LEldestSays$Plans;"⟩, 14) := ⟨⟨by decide +kernel, by decide +kernel⟩, List.mem_of_getElem? (i := 19) (by decide +kernel), List.mem_of_getElem? (i := 351) (by decide +kernel), List.mem_of_getElem? (i := 352) (by decide +kernel)⟩
theorem lw_p7 : lw_okq (⟨"EldestSays$Plans", "askYounger", "(I)V"⟩, 14) := ⟨⟨by decide +kernel, by decide +kernel⟩, List.mem_of_getElem? (i := 141) (by decide +kernel), List.mem_of_getElem? (i := 359) (by decide +kernel), List.mem_of_getElem? (i := 360) (by decide +kernel)⟩
theorem lw_p8 : lw_okq (⟨"EldestSays$Plans", "kindOf", "(I)LEldestSays$Clever;"⟩, 14) := ⟨⟨by decide +kernel, by decide +kernel⟩, List.mem_of_getElem? (i := 141) (by decide +kernel), List.mem_of_getElem? (i := 363) (by decide +kernel), List.mem_of_getElem? (i := 364) (by decide +kernel)⟩
theorem lw_p9 : lw_okq (⟨"EldestSays$Plans", "keepAll", "(I)V"⟩, 14) := ⟨⟨by decide +kernel, by decide +kernel⟩, List.mem_of_getElem? (i := 141) (by decide +kernel), List.mem_of_getElem? (i := 394) (by decide +kernel), List.mem_of_getElem? (i := 395) (by decide +kernel)⟩
theorem lw_p10 : lw_okq (⟨"EldestSays$Plans", "give", "(III)V"⟩, 14) := ⟨⟨by decide +kernel, by decide +kernel⟩, List.mem_of_getElem? (i := 141) (by decide +kernel), List.mem_of_getElem? (i := 414) (by decide +kernel), List.mem_of_getElem? (i := 415) (by decide +kernel)⟩
theorem lw_p11 : lw_okq (⟨"EldestSays$Plans", "forgetUnits", "()V"⟩, 14) := ⟨⟨by decide +kernel, by decide +kernel⟩, List.mem_of_getElem? (i := 141) (by decide +kernel), List.mem_of_getElem? (i := 443) (by decide +kernel), List.mem_of_getElem? (i := 444) (by decide +kernel)⟩
theorem lw_p12 : lw_okq (⟨"EldestSays$Plans", "manOfUnit", "(II)I"⟩, 14) := ⟨⟨by decide +kernel, by decide +kernel⟩, List.mem_of_getElem? (i := 141) (by decide +kernel), List.mem_of_getElem? (i := 447) (by decide +kernel), List.mem_of_getElem? (i := 448) (by decide +kernel)⟩
theorem lw_p13 : lw_okq (⟨"EldestSays$Plans", "addUnit", "(II)V"⟩, 14) := ⟨⟨by decide +kernel, by decide +kernel⟩, List.mem_of_getElem? (i := 141) (by decide +kernel), List.mem_of_getElem? (i := 451) (by decide +kernel), List.mem_of_getElem? (i := 452) (by decide +kernel)⟩
theorem lw_p14 : lw_okq (⟨"EldestSays$Plans", "cheapestSet", "(I)I"⟩, 14) := ⟨⟨by decide +kernel, by decide +kernel⟩, List.mem_of_getElem? (i := 141) (by decide +kernel), List.mem_of_getElem? (i := 455) (by decide +kernel), List.mem_of_getElem? (i := 456) (by decide +kernel)⟩
theorem lw_p15 : lw_okq (⟨"EldestSays$Plans", "listSets", "(I)I"⟩, 14) := ⟨⟨by decide +kernel, by decide +kernel⟩, List.mem_of_getElem? (i := 141) (by decide +kernel), List.mem_of_getElem? (i := 459) (by decide +kernel), List.mem_of_getElem? (i := 460) (by decide +kernel)⟩
def lw_privs_1 : List (MethodName × Nat) := [(⟨"EldestSays", "refuse", "(I)I"⟩, 14), (⟨"EldestSays$Letters", "brokenAt", "()I"⟩, 2), (⟨"EldestSays$Letters", "wrongAt", "(LEldestSays$Evening;)I"⟩, 2), (⟨"EldestSays$Letters", "isRight", "(IIZ)Z"⟩, 2), (⟨"EldestSays$Letters", "digit", "(I)I"⟩, 2), (⟨"EldestSays$Letters", "tellOne", "(LEldestSays$Evening;II)V"⟩, 2), (⟨"EldestSays", "solved", "()LEldestSays$Plans;"⟩, 14), (⟨"EldestSays$Plans", "askYounger", "(I)V"⟩, 14), (⟨"EldestSays$Plans", "kindOf", "(I)LEldestSays$Clever;"⟩, 14), (⟨"EldestSays$Plans", "keepAll", "(I)V"⟩, 14), (⟨"EldestSays$Plans", "give", "(III)V"⟩, 14), (⟨"EldestSays$Plans", "forgetUnits", "()V"⟩, 14), (⟨"EldestSays$Plans", "manOfUnit", "(II)I"⟩, 14), (⟨"EldestSays$Plans", "addUnit", "(II)V"⟩, 14), (⟨"EldestSays$Plans", "cheapestSet", "(I)I"⟩, 14), (⟨"EldestSays$Plans", "listSets", "(I)I"⟩, 14)]
theorem lw_r1 : ∀ q ∈ lw_privs_1, lw_okq q := List.forall_mem_cons.mpr ⟨lw_p0, List.forall_mem_cons.mpr ⟨lw_p1, List.forall_mem_cons.mpr ⟨lw_p2, List.forall_mem_cons.mpr ⟨lw_p3, List.forall_mem_cons.mpr ⟨lw_p4, List.forall_mem_cons.mpr ⟨lw_p5, List.forall_mem_cons.mpr ⟨lw_p6, List.forall_mem_cons.mpr ⟨lw_p7, List.forall_mem_cons.mpr ⟨lw_p8, List.forall_mem_cons.mpr ⟨lw_p9, List.forall_mem_cons.mpr ⟨lw_p10, List.forall_mem_cons.mpr ⟨lw_p11, List.forall_mem_cons.mpr ⟨lw_p12, List.forall_mem_cons.mpr ⟨lw_p13, List.forall_mem_cons.mpr ⟨lw_p14, List.forall_mem_cons.mpr ⟨lw_p15, fun _ h => absurd h List.not_mem_nil⟩⟩⟩⟩⟩⟩⟩⟩⟩⟩⟩⟩⟩⟩⟩⟩
theorem lw_p16 : lw_okq (⟨"EldestSays$Plans", "vote", "(I)V"⟩, 14) := ⟨⟨by decide +kernel, by decide +kernel⟩, List.mem_of_getElem? (i := 141) (by decide +kernel), List.mem_of_getElem? (i := 471) (by decide +kernel), List.mem_of_getElem? (i := 472) (by decide +kernel)⟩
theorem lw_p17 : lw_okq (⟨"EldestSays$Plans", "end", "(I)V"⟩, 14) := ⟨⟨by decide +kernel, by decide +kernel⟩, List.mem_of_getElem? (i := 141) (by decide +kernel), List.mem_of_getElem? (i := 475) (by decide +kernel), List.mem_of_getElem? (i := 476) (by decide +kernel)⟩
theorem lw_p18 : lw_okq (⟨"EldestSays", "isRowRight", "()Z"⟩, 14) := ⟨⟨by decide +kernel, by decide +kernel⟩, List.mem_of_getElem? (i := 19) (by decide +kernel), List.mem_of_getElem? (i := 525) (by decide +kernel), List.mem_of_getElem? (i := 526) (by decide +kernel)⟩
theorem lw_p19 : lw_okq (⟨"EldestSays", "firstOddVote", "(I)I"⟩, 14) := ⟨⟨by decide +kernel, by decide +kernel⟩, List.mem_of_getElem? (i := 19) (by decide +kernel), List.mem_of_getElem? (i := 529) (by decide +kernel), List.mem_of_getElem? (i := 530) (by decide +kernel)⟩
theorem lw_p20 : lw_okq (⟨"EldestSays$Evening", "part", "([II)V"⟩, 8) := ⟨⟨by decide +kernel, by decide +kernel⟩, List.mem_of_getElem? (i := 27) (by decide +kernel), List.mem_of_getElem? (i := 542) (by decide +kernel), List.mem_of_getElem? (i := 543) (by decide +kernel)⟩
theorem lw_p21 : lw_okq (⟨"EldestSays$Evening", "putAshore", "()V"⟩, 8) := ⟨⟨by decide +kernel, by decide +kernel⟩, List.mem_of_getElem? (i := 27) (by decide +kernel), List.mem_of_getElem? (i := 546) (by decide +kernel), List.mem_of_getElem? (i := 547) (by decide +kernel)⟩
theorem lw_p22 : lw_okq (⟨"EldestSays$Crowd", "askYounger", "(II)I"⟩, 6) := ⟨⟨by decide +kernel, by decide +kernel⟩, List.mem_of_getElem? (i := 201) (by decide +kernel), List.mem_of_getElem? (i := 569) (by decide +kernel), List.mem_of_getElem? (i := 570) (by decide +kernel)⟩
theorem lw_p23 : lw_okq (⟨"EldestSays$Crowd", "buyYounger", "(III)I"⟩, 6) := ⟨⟨by decide +kernel, by decide +kernel⟩, List.mem_of_getElem? (i := 201) (by decide +kernel), List.mem_of_getElem? (i := 578) (by decide +kernel), List.mem_of_getElem? (i := 579) (by decide +kernel)⟩
theorem lw_p24 : lw_okq (⟨"EldestSays$Crowd", "nextLevel", "(II)I"⟩, 6) := ⟨⟨by decide +kernel, by decide +kernel⟩, List.mem_of_getElem? (i := 201) (by decide +kernel), List.mem_of_getElem? (i := 583) (by decide +kernel), List.mem_of_getElem? (i := 584) (by decide +kernel)⟩
theorem lw_p25 : lw_okq (⟨"EldestSays$Crowd", "buyAtLevel", "(IIII)I"⟩, 6) := ⟨⟨by decide +kernel, by decide +kernel⟩, List.mem_of_getElem? (i := 201) (by decide +kernel), List.mem_of_getElem? (i := 587) (by decide +kernel), List.mem_of_getElem? (i := 588) (by decide +kernel)⟩
theorem lw_p26 : lw_okq (⟨"EldestSays", "orderAsIs", "()V"⟩, 14) := ⟨⟨by decide +kernel, by decide +kernel⟩, List.mem_of_getElem? (i := 19) (by decide +kernel), List.mem_of_getElem? (i := 615) (by decide +kernel), List.mem_of_getElem? (i := 616) (by decide +kernel)⟩
theorem lw_p27 : lw_okq (⟨"EldestSays", "seat", "()V"⟩, 14) := ⟨⟨by decide +kernel, by decide +kernel⟩, List.mem_of_getElem? (i := 19) (by decide +kernel), List.mem_of_getElem? (i := 619) (by decide +kernel), List.mem_of_getElem? (i := 620) (by decide +kernel)⟩
theorem lw_p28 : lw_okq (⟨"EldestSays", "orderWith", "(II)V"⟩, 14) := ⟨⟨by decide +kernel, by decide +kernel⟩, List.mem_of_getElem? (i := 19) (by decide +kernel), List.mem_of_getElem? (i := 627) (by decide +kernel), List.mem_of_getElem? (i := 628) (by decide +kernel)⟩
theorem lw_p29 : lw_okq (⟨"EldestSays", "shakeVotes", "(I)J"⟩, 14) := ⟨⟨by decide +kernel, by decide +kernel⟩, List.mem_of_getElem? (i := 19) (by decide +kernel), List.mem_of_getElem? (i := 650) (by decide +kernel), List.mem_of_getElem? (i := 651) (by decide +kernel)⟩
theorem lw_p30 : lw_okq (⟨"EldestSays", "addVoter", "(II)V"⟩, 14) := ⟨⟨by decide +kernel, by decide +kernel⟩, List.mem_of_getElem? (i := 19) (by decide +kernel), List.mem_of_getElem? (i := 657) (by decide +kernel), List.mem_of_getElem? (i := 658) (by decide +kernel)⟩
theorem lw_p31 : lw_okq (⟨"EldestSays", "chanceCarried", "()J"⟩, 14) := ⟨⟨by decide +kernel, by decide +kernel⟩, List.mem_of_getElem? (i := 19) (by decide +kernel), List.mem_of_getElem? (i := 662) (by decide +kernel), List.mem_of_getElem? (i := 663) (by decide +kernel)⟩
def lw_privs_2 : List (MethodName × Nat) := [(⟨"EldestSays$Plans", "vote", "(I)V"⟩, 14), (⟨"EldestSays$Plans", "end", "(I)V"⟩, 14), (⟨"EldestSays", "isRowRight", "()Z"⟩, 14), (⟨"EldestSays", "firstOddVote", "(I)I"⟩, 14), (⟨"EldestSays$Evening", "part", "([II)V"⟩, 8), (⟨"EldestSays$Evening", "putAshore", "()V"⟩, 8), (⟨"EldestSays$Crowd", "askYounger", "(II)I"⟩, 6), (⟨"EldestSays$Crowd", "buyYounger", "(III)I"⟩, 6), (⟨"EldestSays$Crowd", "nextLevel", "(II)I"⟩, 6), (⟨"EldestSays$Crowd", "buyAtLevel", "(IIII)I"⟩, 6), (⟨"EldestSays", "orderAsIs", "()V"⟩, 14), (⟨"EldestSays", "seat", "()V"⟩, 14), (⟨"EldestSays", "orderWith", "(II)V"⟩, 14), (⟨"EldestSays", "shakeVotes", "(I)J"⟩, 14), (⟨"EldestSays", "addVoter", "(II)V"⟩, 14), (⟨"EldestSays", "chanceCarried", "()J"⟩, 14)]
theorem lw_r2 : ∀ q ∈ lw_privs_2, lw_okq q := List.forall_mem_cons.mpr ⟨lw_p16, List.forall_mem_cons.mpr ⟨lw_p17, List.forall_mem_cons.mpr ⟨lw_p18, List.forall_mem_cons.mpr ⟨lw_p19, List.forall_mem_cons.mpr ⟨lw_p20, List.forall_mem_cons.mpr ⟨lw_p21, List.forall_mem_cons.mpr ⟨lw_p22, List.forall_mem_cons.mpr ⟨lw_p23, List.forall_mem_cons.mpr ⟨lw_p24, List.forall_mem_cons.mpr ⟨lw_p25, List.forall_mem_cons.mpr ⟨lw_p26, List.forall_mem_cons.mpr ⟨lw_p27, List.forall_mem_cons.mpr ⟨lw_p28, List.forall_mem_cons.mpr ⟨lw_p29, List.forall_mem_cons.mpr ⟨lw_p30, List.forall_mem_cons.mpr ⟨lw_p31, fun _ h => absurd h List.not_mem_nil⟩⟩⟩⟩⟩⟩⟩⟩⟩⟩⟩⟩⟩⟩⟩⟩
theorem lw_p32 : lw_okq (⟨"EldestSays", "drawOrder", "(I)I"⟩, 14) := ⟨⟨by decide +kernel, by decide +kernel⟩, List.mem_of_getElem? (i := 19) (by decide +kernel), List.mem_of_getElem? (i := 675) (by decide +kernel), List.mem_of_getElem? (i := 676) (by decide +kernel)⟩
theorem lw_p33 : lw_okq (⟨"EldestSays", "placeOf", "(I)I"⟩, 14) := ⟨⟨by decide +kernel, by decide +kernel⟩, List.mem_of_getElem? (i := 19) (by decide +kernel), List.mem_of_getElem? (i := 682) (by decide +kernel), List.mem_of_getElem? (i := 683) (by decide +kernel)⟩
theorem lw_p34 : lw_okq (⟨"EldestSays", "countRefusals", "(I)I"⟩, 14) := ⟨⟨by decide +kernel, by decide +kernel⟩, List.mem_of_getElem? (i := 19) (by decide +kernel), List.mem_of_getElem? (i := 708) (by decide +kernel), List.mem_of_getElem? (i := 709) (by decide +kernel)⟩
theorem lw_p35 : lw_okq (⟨"EldestSaysModel", "no", "(I)I"⟩, 33) := ⟨⟨by decide +kernel, by decide +kernel⟩, List.mem_of_getElem? (i := 712) (by decide +kernel), List.mem_of_getElem? (i := 825) (by decide +kernel), List.mem_of_getElem? (i := 826) (by decide +kernel)⟩
theorem lw_p36 : lw_okq (⟨"EldestSaysModel", "statement", "()Z"⟩, 33) := ⟨⟨by decide +kernel, by decide +kernel⟩, List.mem_of_getElem? (i := 712) (by decide +kernel), List.mem_of_getElem? (i := 833) (by decide +kernel), List.mem_of_getElem? (i := 834) (by decide +kernel)⟩
theorem lw_p37 : lw_okq (⟨"EldestSaysModel", "next", "()I"⟩, 33) := ⟨⟨by decide +kernel, by decide +kernel⟩, List.mem_of_getElem? (i := 712) (by decide +kernel), List.mem_of_getElem? (i := 837) (by decide +kernel), List.mem_of_getElem? (i := 838) (by decide +kernel)⟩
theorem lw_p38 : lw_okq (⟨"EldestSaysModel", "reads", "(II)Z"⟩, 33) := ⟨⟨by decide +kernel, by decide +kernel⟩, List.mem_of_getElem? (i := 712) (by decide +kernel), List.mem_of_getElem? (i := 841) (by decide +kernel), List.mem_of_getElem? (i := 842) (by decide +kernel)⟩
theorem lw_p39 : lw_okq (⟨"EldestSaysModel", "passesAll", "(IZ)V"⟩, 33) := ⟨⟨by decide +kernel, by decide +kernel⟩, List.mem_of_getElem? (i := 712) (by decide +kernel), List.mem_of_getElem? (i := 848) (by decide +kernel), List.mem_of_getElem? (i := 849) (by decide +kernel)⟩
theorem lw_p40 : lw_okq (⟨"EldestSaysModel", "passes", "([I)V"⟩, 33) := ⟨⟨by decide +kernel, by decide +kernel⟩, List.mem_of_getElem? (i := 712) (by decide +kernel), List.mem_of_getElem? (i := 852) (by decide +kernel), List.mem_of_getElem? (i := 853) (by decide +kernel)⟩
theorem lw_p41 : lw_okq (⟨"EldestSaysModel", "passOne", "(I)I"⟩, 33) := ⟨⟨by decide +kernel, by decide +kernel⟩, List.mem_of_getElem? (i := 712) (by decide +kernel), List.mem_of_getElem? (i := 856) (by decide +kernel), List.mem_of_getElem? (i := 857) (by decide +kernel)⟩
theorem lw_p42 : lw_okq (⟨"EldestSaysModel", "comes", "(I)Z"⟩, 33) := ⟨⟨by decide +kernel, by decide +kernel⟩, List.mem_of_getElem? (i := 712) (by decide +kernel), List.mem_of_getElem? (i := 860) (by decide +kernel), List.mem_of_getElem? (i := 861) (by decide +kernel)⟩
theorem lw_p43 : lw_okq (⟨"EldestSaysModel", "isMan", "(I)Z"⟩, 33) := ⟨⟨by decide +kernel, by decide +kernel⟩, List.mem_of_getElem? (i := 712) (by decide +kernel), List.mem_of_getElem? (i := 876) (by decide +kernel), List.mem_of_getElem? (i := 877) (by decide +kernel)⟩
theorem lw_p44 : lw_okq (⟨"EldestSaysModel", "areInOrder", "(II)Z"⟩, 33) := ⟨⟨by decide +kernel, by decide +kernel⟩, List.mem_of_getElem? (i := 712) (by decide +kernel), List.mem_of_getElem? (i := 890) (by decide +kernel), List.mem_of_getElem? (i := 891) (by decide +kernel)⟩
theorem lw_p45 : lw_okq (⟨"EldestSaysModel", "solvesAll", "()V"⟩, 33) := ⟨⟨by decide +kernel, by decide +kernel⟩, List.mem_of_getElem? (i := 712) (by decide +kernel), List.mem_of_getElem? (i := 894) (by decide +kernel), List.mem_of_getElem? (i := 895) (by decide +kernel)⟩
theorem lw_p46 : lw_okq (⟨"EldestSaysModel", "solves", "(I)V"⟩, 33) := ⟨⟨by decide +kernel, by decide +kernel⟩, List.mem_of_getElem? (i := 712) (by decide +kernel), List.mem_of_getElem? (i := 898) (by decide +kernel), List.mem_of_getElem? (i := 899) (by decide +kernel)⟩
theorem lw_p47 : lw_okq (⟨"EldestSaysModel", "priceOf", "(II)I"⟩, 33) := ⟨⟨by decide +kernel, by decide +kernel⟩, List.mem_of_getElem? (i := 712) (by decide +kernel), List.mem_of_getElem? (i := 902) (by decide +kernel), List.mem_of_getElem? (i := 903) (by decide +kernel)⟩
def lw_privs_3 : List (MethodName × Nat) := [(⟨"EldestSays", "drawOrder", "(I)I"⟩, 14), (⟨"EldestSays", "placeOf", "(I)I"⟩, 14), (⟨"EldestSays", "countRefusals", "(I)I"⟩, 14), (⟨"EldestSaysModel", "no", "(I)I"⟩, 33), (⟨"EldestSaysModel", "statement", "()Z"⟩, 33), (⟨"EldestSaysModel", "next", "()I"⟩, 33), (⟨"EldestSaysModel", "reads", "(II)Z"⟩, 33), (⟨"EldestSaysModel", "passesAll", "(IZ)V"⟩, 33), (⟨"EldestSaysModel", "passes", "([I)V"⟩, 33), (⟨"EldestSaysModel", "passOne", "(I)I"⟩, 33), (⟨"EldestSaysModel", "comes", "(I)Z"⟩, 33), (⟨"EldestSaysModel", "isMan", "(I)Z"⟩, 33), (⟨"EldestSaysModel", "areInOrder", "(II)Z"⟩, 33), (⟨"EldestSaysModel", "solvesAll", "()V"⟩, 33), (⟨"EldestSaysModel", "solves", "(I)V"⟩, 33), (⟨"EldestSaysModel", "priceOf", "(II)I"⟩, 33)]
theorem lw_r3 : ∀ q ∈ lw_privs_3, lw_okq q := List.forall_mem_cons.mpr ⟨lw_p32, List.forall_mem_cons.mpr ⟨lw_p33, List.forall_mem_cons.mpr ⟨lw_p34, List.forall_mem_cons.mpr ⟨lw_p35, List.forall_mem_cons.mpr ⟨lw_p36, List.forall_mem_cons.mpr ⟨lw_p37, List.forall_mem_cons.mpr ⟨lw_p38, List.forall_mem_cons.mpr ⟨lw_p39, List.forall_mem_cons.mpr ⟨lw_p40, List.forall_mem_cons.mpr ⟨lw_p41, List.forall_mem_cons.mpr ⟨lw_p42, List.forall_mem_cons.mpr ⟨lw_p43, List.forall_mem_cons.mpr ⟨lw_p44, List.forall_mem_cons.mpr ⟨lw_p45, List.forall_mem_cons.mpr ⟨lw_p46, List.forall_mem_cons.mpr ⟨lw_p47, fun _ h => absurd h List.not_mem_nil⟩⟩⟩⟩⟩⟩⟩⟩⟩⟩⟩⟩⟩⟩⟩⟩
theorem lw_p48 : lw_okq (⟨"EldestSaysModel", "findOffer", "(I)V"⟩, 33) := ⟨⟨by decide +kernel, by decide +kernel⟩, List.mem_of_getElem? (i := 712) (by decide +kernel), List.mem_of_getElem? (i := 909) (by decide +kernel), List.mem_of_getElem? (i := 910) (by decide +kernel)⟩
theorem lw_p49 : lw_okq (⟨"EldestSaysModel", "buysBy", "(I)I"⟩, 33) := ⟨⟨by decide +kernel, by decide +kernel⟩, List.mem_of_getElem? (i := 712) (by decide +kernel), List.mem_of_getElem? (i := 916) (by decide +kernel), List.mem_of_getElem? (i := 917) (by decide +kernel)⟩
theorem lw_p50 : lw_okq (⟨"EldestSaysModel", "leftFrom", "(I)I"⟩, 33) := ⟨⟨by decide +kernel, by decide +kernel⟩, List.mem_of_getElem? (i := 712) (by decide +kernel), List.mem_of_getElem? (i := 920) (by decide +kernel), List.mem_of_getElem? (i := 921) (by decide +kernel)⟩
theorem lw_p51 : lw_okq (⟨"EldestSaysModel", "unbought", "(I)I"⟩, 33) := ⟨⟨by decide +kernel, by decide +kernel⟩, List.mem_of_getElem? (i := 712) (by decide +kernel), List.mem_of_getElem? (i := 924) (by decide +kernel), List.mem_of_getElem? (i := 925) (by decide +kernel)⟩
theorem lw_p52 : lw_okq (⟨"EldestSaysModel", "weightOf", "(I)I"⟩, 33) := ⟨⟨by decide +kernel, by decide +kernel⟩, List.mem_of_getElem? (i := 712) (by decide +kernel), List.mem_of_getElem? (i := 928) (by decide +kernel), List.mem_of_getElem? (i := 929) (by decide +kernel)⟩
theorem lw_p53 : lw_okq (⟨"EldestSaysModel", "costOf", "(II)I"⟩, 33) := ⟨⟨by decide +kernel, by decide +kernel⟩, List.mem_of_getElem? (i := 712) (by decide +kernel), List.mem_of_getElem? (i := 935) (by decide +kernel), List.mem_of_getElem? (i := 936) (by decide +kernel)⟩
theorem lw_p54 : lw_okq (⟨"EldestSaysModel", "isAhead", "(II)Z"⟩, 33) := ⟨⟨by decide +kernel, by decide +kernel⟩, List.mem_of_getElem? (i := 712) (by decide +kernel), List.mem_of_getElem? (i := 939) (by decide +kernel), List.mem_of_getElem? (i := 940) (by decide +kernel)⟩
theorem lw_p55 : lw_okq (⟨"EldestSaysModel", "offersEach", "(III)V"⟩, 33) := ⟨⟨by decide +kernel, by decide +kernel⟩, List.mem_of_getElem? (i := 712) (by decide +kernel), List.mem_of_getElem? (i := 943) (by decide +kernel), List.mem_of_getElem? (i := 944) (by decide +kernel)⟩
theorem lw_p56 : lw_okq (⟨"EldestSaysModel", "offersFools", "(IZ)V"⟩, 33) := ⟨⟨by decide +kernel, by decide +kernel⟩, List.mem_of_getElem? (i := 712) (by decide +kernel), List.mem_of_getElem? (i := 947) (by decide +kernel), List.mem_of_getElem? (i := 948) (by decide +kernel)⟩
theorem lw_p57 : lw_okq (⟨"EldestSaysModel", "lower", "(I)I"⟩, 33) := ⟨⟨by decide +kernel, by decide +kernel⟩, List.mem_of_getElem? (i := 712) (by decide +kernel), List.mem_of_getElem? (i := 971) (by decide +kernel), List.mem_of_getElem? (i := 972) (by decide +kernel)⟩
theorem lw_p58 : lw_okq (⟨"EldestSaysModel", "isOver", "()Z"⟩, 33) := ⟨⟨by decide +kernel, by decide +kernel⟩, List.mem_of_getElem? (i := 712) (by decide +kernel), List.mem_of_getElem? (i := 992) (by decide +kernel), List.mem_of_getElem? (i := 993) (by decide +kernel)⟩
theorem lw_p59 : lw_okq (⟨"EldestSaysModel", "isOffer", "()Z"⟩, 33) := ⟨⟨by decide +kernel, by decide +kernel⟩, List.mem_of_getElem? (i := 712) (by decide +kernel), List.mem_of_getElem? (i := 996) (by decide +kernel), List.mem_of_getElem? (i := 997) (by decide +kernel)⟩
theorem lw_p60 : lw_okq (⟨"EldestSaysModel", "decides", "(I)I"⟩, 33) := ⟨⟨by decide +kernel, by decide +kernel⟩, List.mem_of_getElem? (i := 712) (by decide +kernel), List.mem_of_getElem? (i := 1004) (by decide +kernel), List.mem_of_getElem? (i := 1005) (by decide +kernel)⟩
theorem lw_p61 : lw_okq (⟨"EldestSaysModel", "likeSays", "(III)Z"⟩, 33) := ⟨⟨by decide +kernel, by decide +kernel⟩, List.mem_of_getElem? (i := 712) (by decide +kernel), List.mem_of_getElem? (i := 1020) (by decide +kernel), List.mem_of_getElem? (i := 1021) (by decide +kernel)⟩
theorem lw_p62 : lw_okq (⟨"EldestSaysModel", "enough", "(I)I"⟩, 33) := ⟨⟨by decide +kernel, by decide +kernel⟩, List.mem_of_getElem? (i := 712) (by decide +kernel), List.mem_of_getElem? (i := 1024) (by decide +kernel), List.mem_of_getElem? (i := 1025) (by decide +kernel)⟩
theorem lw_p63 : lw_okq (⟨"EldestSaysModel", "withPrice", "(III)I"⟩, 33) := ⟨⟨by decide +kernel, by decide +kernel⟩, List.mem_of_getElem? (i := 712) (by decide +kernel), List.mem_of_getElem? (i := 1028) (by decide +kernel), List.mem_of_getElem? (i := 1029) (by decide +kernel)⟩
def lw_privs_4 : List (MethodName × Nat) := [(⟨"EldestSaysModel", "findOffer", "(I)V"⟩, 33), (⟨"EldestSaysModel", "buysBy", "(I)I"⟩, 33), (⟨"EldestSaysModel", "leftFrom", "(I)I"⟩, 33), (⟨"EldestSaysModel", "unbought", "(I)I"⟩, 33), (⟨"EldestSaysModel", "weightOf", "(I)I"⟩, 33), (⟨"EldestSaysModel", "costOf", "(II)I"⟩, 33), (⟨"EldestSaysModel", "isAhead", "(II)Z"⟩, 33), (⟨"EldestSaysModel", "offersEach", "(III)V"⟩, 33), (⟨"EldestSaysModel", "offersFools", "(IZ)V"⟩, 33), (⟨"EldestSaysModel", "lower", "(I)I"⟩, 33), (⟨"EldestSaysModel", "isOver", "()Z"⟩, 33), (⟨"EldestSaysModel", "isOffer", "()Z"⟩, 33), (⟨"EldestSaysModel", "decides", "(I)I"⟩, 33), (⟨"EldestSaysModel", "likeSays", "(III)Z"⟩, 33), (⟨"EldestSaysModel", "enough", "(I)I"⟩, 33), (⟨"EldestSaysModel", "withPrice", "(III)I"⟩, 33)]
theorem lw_r4 : ∀ q ∈ lw_privs_4, lw_okq q := List.forall_mem_cons.mpr ⟨lw_p48, List.forall_mem_cons.mpr ⟨lw_p49, List.forall_mem_cons.mpr ⟨lw_p50, List.forall_mem_cons.mpr ⟨lw_p51, List.forall_mem_cons.mpr ⟨lw_p52, List.forall_mem_cons.mpr ⟨lw_p53, List.forall_mem_cons.mpr ⟨lw_p54, List.forall_mem_cons.mpr ⟨lw_p55, List.forall_mem_cons.mpr ⟨lw_p56, List.forall_mem_cons.mpr ⟨lw_p57, List.forall_mem_cons.mpr ⟨lw_p58, List.forall_mem_cons.mpr ⟨lw_p59, List.forall_mem_cons.mpr ⟨lw_p60, List.forall_mem_cons.mpr ⟨lw_p61, List.forall_mem_cons.mpr ⟨lw_p62, List.forall_mem_cons.mpr ⟨lw_p63, fun _ h => absurd h List.not_mem_nil⟩⟩⟩⟩⟩⟩⟩⟩⟩⟩⟩⟩⟩⟩⟩⟩
theorem lw_p64 : lw_okq (⟨"EldestSaysModel", "likeTakes", "(IIII)V"⟩, 33) := ⟨⟨by decide +kernel, by decide +kernel⟩, List.mem_of_getElem? (i := 712) (by decide +kernel), List.mem_of_getElem? (i := 1032) (by decide +kernel), List.mem_of_getElem? (i := 1033) (by decide +kernel)⟩
theorem lw_p65 : lw_okq (⟨"EldestSaysModel", "moves", "(II)V"⟩, 33) := ⟨⟨by decide +kernel, by decide +kernel⟩, List.mem_of_getElem? (i := 712) (by decide +kernel), List.mem_of_getElem? (i := 1048) (by decide +kernel), List.mem_of_getElem? (i := 1049) (by decide +kernel)⟩
theorem lw_p66 : lw_okq (⟨"EldestSaysModel", "swaps", "(II)V"⟩, 33) := ⟨⟨by decide +kernel, by decide +kernel⟩, List.mem_of_getElem? (i := 712) (by decide +kernel), List.mem_of_getElem? (i := 1056) (by decide +kernel), List.mem_of_getElem? (i := 1057) (by decide +kernel)⟩
theorem lw_p67 : lw_okq (⟨"EldestSaysModel", "isFree", "(I)Z"⟩, 33) := ⟨⟨by decide +kernel, by decide +kernel⟩, List.mem_of_getElem? (i := 712) (by decide +kernel), List.mem_of_getElem? (i := 1071) (by decide +kernel), List.mem_of_getElem? (i := 1072) (by decide +kernel)⟩
theorem lw_p68 : lw_okq (⟨"EldestSaysModel", "lowest", "(I)J"⟩, 33) := ⟨⟨by decide +kernel, by decide +kernel⟩, List.mem_of_getElem? (i := 712) (by decide +kernel), List.mem_of_getElem? (i := 1079) (by decide +kernel), List.mem_of_getElem? (i := 1080) (by decide +kernel)⟩
def lw_privs_5 : List (MethodName × Nat) := [(⟨"EldestSaysModel", "likeTakes", "(IIII)V"⟩, 33), (⟨"EldestSaysModel", "moves", "(II)V"⟩, 33), (⟨"EldestSaysModel", "swaps", "(II)V"⟩, 33), (⟨"EldestSaysModel", "isFree", "(I)Z"⟩, 33), (⟨"EldestSaysModel", "lowest", "(I)J"⟩, 33)]
theorem lw_r5 : ∀ q ∈ lw_privs_5, lw_okq q := List.forall_mem_cons.mpr ⟨lw_p64, List.forall_mem_cons.mpr ⟨lw_p65, List.forall_mem_cons.mpr ⟨lw_p66, List.forall_mem_cons.mpr ⟨lw_p67, List.forall_mem_cons.mpr ⟨lw_p68, fun _ h => absurd h List.not_mem_nil⟩⟩⟩⟩⟩
def lw_privs : List (MethodName × Nat) := lw_privs_1 ++ (lw_privs_2 ++ (lw_privs_3 ++ (lw_privs_4 ++ (lw_privs_5))))
def lw_tbl : List Cond := k2_sels lw_privs ++ tables_1
theorem lw_privs_ok : ∀ q ∈ lw_privs, lw_okq q := by
  show ∀ q ∈ lw_privs_1 ++ (lw_privs_2 ++ (lw_privs_3 ++ (lw_privs_4 ++ (lw_privs_5)))), lw_okq q
  exact List.forall_mem_append.mpr ⟨lw_r1, List.forall_mem_append.mpr ⟨lw_r2, List.forall_mem_append.mpr ⟨lw_r3, List.forall_mem_append.mpr ⟨lw_r4, lw_r5⟩⟩⟩⟩
end
section
def va_AOA (t : FieldType) (U : State) : Prop := (Cond.arrayOver (.array t)).before #[] U = true
theorem va_AOA.use {t : FieldType} {A : Array Value} {U : State} (h : va_AOA t U) : (Cond.arrayOver (.array t)).before A U = true := h
/-! ===== BEGIN words of one list among another's, by their places ===== -/
theorem goodIn_r {big : List Cond} (ws : List Cond) (ps : List Nat) (hp : ws = ps.filterMap (fun i => big[i]?)) (h : ws.all goodWord = true) : GoodIn big ws := by
  intro w hw
  have h1 := List.all_eq_true.mp h w hw
  rw [hp] at hw
  obtain ⟨i, -, hi⟩ := List.mem_filterMap.mp hw
  have hm : w ∈ big := by first | exact List.mem_of_getElem? hi | exact List.getElem?_mem hi
  exact ⟨hm, good_of_word h1⟩
theorem goodIn_app {big a b : List Cond} (ha : GoodIn big a) (hb : GoodIn big b) : GoodIn big (a ++ b) := fun w h => (List.mem_append.mp h).elim (ha w) (hb w)
theorem goodIn_ca {big a b : List Cond} {c : Cond} (ha : GoodIn big (c :: a)) (hb : GoodIn big b) : GoodIn big (c :: (a ++ b)) := fun w h => (List.mem_cons.mp h).elim (fun e => ha w (List.mem_cons.mpr (Or.inl e))) (fun h => (List.mem_append.mp h).elim (fun h => ha w (List.mem_cons.mpr (Or.inr h))) (hb w))
theorem goodIn_sub {big ws : List Cond} (hm : ∀ w ∈ ws, w ∈ big) (h : ws.all goodWord = true) : GoodIn big ws := fun w hw => ⟨hm w hw, good_of_word (List.all_eq_true.mp h w hw)⟩
/-! ===== END ===== -/

/-! ===== BEGIN new T[n][m]: the outer array a place, the inner ones among the pooled ===== -/
/-- f, but v at every address of l -/
def vr_up {α : Type} (f : Nat → α) (l : List Nat) (v : α) : Nat → α := fun a => if a ∈ l then v else f a
theorem vr_up_in {α : Type} {f : Nat → α} {l : List Nat} {v : α} {a : Nat} (h : a ∈ l) : vr_up f l v a = v := if_pos h
theorem vr_up_ne {α : Type} {f : Nat → α} {l : List Nat} {v : α} {a : Nat} (h : a ∉ l) : vr_up f l v a = f a := if_neg h
theorem vr_rows {L l : List Nat} {f : Nat → va_E} {e : va_E} (h : ∀ a, a ∈ l → a ∉ L) : va_pl L f ++ l.map (fun a => (a, e)) = va_pl (L ++ l) (vr_up f l e) := by
  unfold va_pl
  rw [List.map_append]
  congr 1
  · apply List.map_congr_left
    intro a ha
    rw [vr_up_ne (fun q => h a q ha)]
  · apply List.map_congr_left
    intro a ha
    rw [vr_up_in ha]
theorem vr_lay {X rows : va_W} {x : Nat × va_E} {pl : va_W} {D : va_G} {cl : List vw_C} {H : Heap} (hP : va_P D cl (((X ++ pl) ++ [x]) ++ rows) H) : va_P D cl ((X ++ [x]) ++ (pl ++ rows)) H := by
  rw [List.append_assoc (X ++ pl)] at hP
  have h := va_P.swap hP
  rw [← List.append_assoc X] at h
  have h2 := va_P.swap h
  rw [List.append_assoc (X ++ [x])] at h2
  exact h2
theorem vr_layD {X rows : va_W} {x : Nat × va_E} {pl : va_W} {A : Nat → Prop} (hD : va_D A (((X ++ pl) ++ [x]) ++ rows)) : va_D A ((X ++ [x]) ++ (pl ++ rows)) := by
  rw [List.append_assoc (X ++ pl)] at hD
  have h := va_D.swap hD
  rw [← List.append_assoc X] at h
  have h2 := va_D.swap h
  rw [List.append_assoc (X ++ [x])] at h2
  exact h2
theorem vr_outer (c : ClassId) (N h0 : Nat) : ∀ i : Nat, Jvm.Free.Multi.outerC c N h0 i = arrV c N (fun j => va_rf (if j < i then some (h0 + 1 + j) else none))
  | 0 => by
    show ({ cls := c, slots := Array.replicate N .null, vm := .none } : Cell) = _
    rw [arrV_new]
    refine congrArg (arrV c N) (funext fun j => ?_)
    simp [va_rf]
  | i + 1 => by
    show (Jvm.Free.Multi.outerC c N h0 i).setSlot i (.ref (h0 + 1 + i)) = _
    rw [vr_outer c N h0 i, arrV_store]
    refine congrArg (arrV c N) (funext fun j => ?_)
    by_cases e : j = i
    · subst e
      simp [updV, va_rf]
    · by_cases h : j < i
      · simp [updV, e, h, Nat.lt_succ_of_lt h]
      · simp [updV, e, h, show ¬ j < i + 1 by omega]
section VGM
variable {p : Program} {l : Launch} {e : Env} {R : Room} {s : State} {m : MethodId} {args : Array Value} {below : List Frame} {meth : Method} {c : Code} {H : Heap} {locs : List Loc} {cells slots : Nat} {Q : State → Prop}
variable {cc : ByteArray} {pc : Nat} {ls : Array Slot} {rest : List Value} {D : va_G} {cl : List vw_C} {A : Nat → Prop} {a : Nat} {tys : List (ClassId × FieldType)} {ws : va_W} {H0 : Heap}
theorem va_mna {X : va_W} {L : List Nat} {f : Nat → va_E} {cc : ByteArray} (hexec : p.tables.exec = Jvm.exec) (hb : c.code = cc) {own : String} {index : Nat} {ty : FieldType} {cy : ClassId} (hown : s.vm.findClass own = some m.cls) (hclink : (Cond.classLink own index ("[" ++ (FieldType.array ty).toString)).before args s = true) (hover : va_AOA ty s) (harr : (Cond.arrayClass ty).before args s = true) (hcy : s.vm.findClass (FieldType.array ty).toString = some cy)
    (hK : va_K D cl tys s) (hP : va_P D cl (X ++ va_pl L f) H) (hD : va_D A (X ++ va_pl L f)) (hS : va_S A H0 H locs) (hA : ∀ q, H0.size ≤ q → A q) {n k : Int32} {N' K' : Nat} {z : vp_A} (hn : ¬ n < 0) (hk : ¬ k < 0) (hN : n.toNatClampNeg = N') (hM : k.toNatClampNeg = K')
    (hb1 : N' * 4 ≤ 536870912) (hb2 : K' * componentBytes ty ≤ 536870912) (hb3 : K' ≤ 536870912) (hdf : fits ty (defaultValue ty) = true) (hdd : (defaultValue ty).isDefault = true) (hcells : cells + (1 + N') ≤ R.cells) (hslots : slots + (N' + N' * K') ≤ R.slots) (hz : ∀ c : ClassId, Jvm.Free.Multi.innerC c K' (defaultValue ty) = vp_cell c z) (hdg : decode cc pc = .ok (.multianewarray index 2, 4))
    (kk : ∀ (q : Nat) (r : Nat → Nat) (cA : ClassId) (H1 : Heap), (∀ i j : Nat, i < N' → j < N' → r i = r j → i = j) → (∀ i : Nat, i < N' → r i ∉ L) → va_K D cl (tys ++ [(cA, .array ty)]) s →
      va_P D cl ((X ++ [(q, .inl (cA, N', .inr (.inr (.inr (.inr (fun i => if i < N' then some (r i) else none))))))]) ++ va_pl (L ++ (List.range N').map r) (vr_up f ((List.range N').map r) (.inl (cy, z)))) H1 → va_D A ((X ++ [(q, .inl (cA, N', .inr (.inr (.inr (.inr (fun i => if i < N' then some (r i) else none))))))]) ++ va_pl (L ++ (List.range N').map r) (vr_up f ((List.range N').map r) (.inl (cy, z)))) → va_S A H0 H1 locs →
      W p l e R s m args below meth c H1 locs (cells + 1 + N') (slots + N' + N' * K') Q (F0 m (pc + 4) ls (.ref q :: rest))) : W p l e R s m args below meth c H locs cells slots Q (F0 m pc ls (.int k :: .int n :: rest)) := by
  subst hN
  subst hM
  intro T hT Xs
  obtain ⟨vm₁, cA, comp, -, fA, fC, hO, -, X', step⟩ := Xs.multianewarray2F hexec hown hclink (va_AOA.use hover) harr (g := F0 m pc ls (.int k :: .int n :: rest)) rfl (by rw [hb]; exact hdg) rfl hn hk hb1 hb2 hb3 hdf hdd hcells hslots
  have ec : some cy = some comp := hcy.symm.trans fC
  cases ec
  generalize hF : Jvm.Free.Multi.fill (T.setVm vm₁) cA cy n.toNatClampNeg k.toNatClampNeg (defaultValue ty) n.toNatClampNeg = F at X' step
  have hTh : (T.setVm vm₁).heap = H := hT
  obtain ⟨f1, f2, -, -⟩ := Jvm.Free.Multi.fill_facts (T.setVm vm₁) cA cy n.toNatClampNeg k.toNatClampNeg (defaultValue ty) n.toNatClampNeg
  rw [hF, hTh] at f1 f2
  have hold : ∀ x : Nat, x < H.size → F.heap[x]? = H[x]? := fun x hx => by
    have := Jvm.Free.Multi.fill_old (T.setVm vm₁) cA cy n.toNatClampNeg k.toNatClampNeg (defaultValue ty) (a := x) (by rw [hTh]; exact hx) n.toNatClampNeg
    rw [hF, hTh] at this
    exact this
  have hrow : ∀ j : Nat, j < n.toNatClampNeg → F.heap[H.size + 1 + j]? = some (vp_cell cy z) := fun j hj => by
    have := Jvm.Free.Multi.fill_inner (T.setVm vm₁) cA cy n.toNatClampNeg k.toNatClampNeg (defaultValue ty) n.toNatClampNeg j hj
    rw [hF, hTh, hz] at this
    exact this
  have hout : Jvm.Free.Multi.outerC cA n.toNatClampNeg H.size n.toNatClampNeg = vp_cell cA (n.toNatClampNeg, .inr (.inr (.inr (.inr (fun i => if i < n.toNatClampNeg then some (H.size + 1 + i) else none))))) := by
    rw [vp_cell_q]
    exact vr_outer cA n.toNatClampNeg H.size n.toNatClampNeg
  rw [hout] at f2
  have hlt : ∀ a, a ∈ L → a < H.size := fun a ha => by
    obtain ⟨k9, hk9⟩ := va_pl_get (X := X) (f := f) ha
    exact (hP k9 _ hk9).lt
  have hnl : ∀ i : Nat, i < n.toNatClampNeg → H.size + 1 + i ∉ L := fun i _ h => by
    have := hlt _ h
    omega
  have hnm : ∀ a, a ∈ (List.range n.toNatClampNeg).map (fun i => H.size + 1 + i) → a ∉ L := fun a ha h => by
    obtain ⟨i, -, rfl⟩ := List.mem_map.mp ha
    have := hlt _ h
    omega
  have hP0 : va_P D cl (X ++ va_pl L f) F.heap := hP.kept (fun k9 x hx => hold x.1 ((hP k9 x hx).lt))
  have hP1 : va_P D cl ((X ++ va_pl L f) ++ [(H.size, .inl (cA, n.toNatClampNeg, .inr (.inr (.inr (.inr (fun i => if i < n.toNatClampNeg then some (H.size + 1 + i) else none))))))]) F.heap := hP0.app (fun k9 x hx => by
    have h0 : k9 < 1 := (List.getElem?_eq_some_iff.mp hx).1
    rw [show k9 = 0 by omega] at hx
    cases hx
    exact f2)
  have hP2 : va_P D cl (((X ++ va_pl L f) ++ [(H.size, .inl (cA, n.toNatClampNeg, .inr (.inr (.inr (.inr (fun i => if i < n.toNatClampNeg then some (H.size + 1 + i) else none))))))]) ++ ((List.range n.toNatClampNeg).map (fun i => H.size + 1 + i)).map (fun a => (a, .inl (cy, z)))) F.heap := hP1.app (fun k9 x hx => by
    obtain ⟨a, ha, rfl⟩ := List.mem_map.mp (List.mem_of_getElem? hx)
    obtain ⟨i, hi, rfl⟩ := List.mem_map.mp ha
    exact hrow i (List.mem_range.mp hi))
  have hD2 : va_D A (((X ++ va_pl L f) ++ [(H.size, .inl (cA, n.toNatClampNeg, .inr (.inr (.inr (.inr (fun i => if i < n.toNatClampNeg then some (H.size + 1 + i) else none))))))]) ++ ((List.range n.toNatClampNeg).map (fun i => H.size + 1 + i)).map (fun a => (a, .inl (cy, z)))) := by
    have hD1 := hD.push (e := .inl (cA, n.toNatClampNeg, .inr (.inr (.inr (.inr (fun i => if i < n.toNatClampNeg then some (H.size + 1 + i) else none)))))) hP rfl (hA _ hS.1)
    generalize hW1 : (X ++ va_pl L f) ++ [(H.size, .inl (cA, n.toNatClampNeg, .inr (.inr (.inr (.inr (fun i => if i < n.toNatClampNeg then some (H.size + 1 + i) else none))))))] = W1 at hD1 hP1 ⊢
    have hle : ∀ (k9 : Nat) (x : Nat × va_E), W1[k9]? = some x → x.1 ≤ H.size := fun k9 x hx => by
      rw [← hW1] at hx
      by_cases hl : k9 < (X ++ va_pl L f).length
      · rw [List.getElem?_append_left hl] at hx
        exact Nat.le_of_lt ((hP k9 x hx).lt)
      · rw [List.getElem?_append_right (by omega)] at hx
        have h0 : k9 - (X ++ va_pl L f).length < 1 := (List.getElem?_eq_some_iff.mp hx).1
        rw [show k9 - (X ++ va_pl L f).length = 0 by omega] at hx
        cases hx
        exact Nat.le_refl _
    have hr : ∀ (k9 : Nat) (x : Nat × va_E), (((List.range n.toNatClampNeg).map (fun i => H.size + 1 + i)).map (fun a => ((a, .inl (cy, z)) : Nat × va_E)))[k9]? = some x → x.1 = H.size + 1 + k9 := fun k9 x hx => by
      rw [List.getElem?_map, List.getElem?_map] at hx
      by_cases h9 : k9 < n.toNatClampNeg
      · rw [List.getElem?_range h9] at hx
        cases hx
        rfl
      · have hn0 : (List.range n.toNatClampNeg)[k9]? = none := List.getElem?_eq_none (by rw [List.length_range]; omega)
        rw [hn0] at hx
        cases hx
    refine ⟨fun i j x y hi hj hxy => ?_, fun k9 x hx => ?_⟩
    · by_cases h1 : i < W1.length <;> by_cases h2 : j < W1.length
      · rw [List.getElem?_append_left h1] at hi
        rw [List.getElem?_append_left h2] at hj
        exact hD1.1 i j x y hi hj hxy
      · rw [List.getElem?_append_left h1] at hi
        rw [List.getElem?_append_right (by omega)] at hj
        have := hle _ _ hi
        have := hr _ _ hj
        omega
      · rw [List.getElem?_append_right (by omega)] at hi
        rw [List.getElem?_append_left h2] at hj
        have := hle _ _ hj
        have := hr _ _ hi
        omega
      · rw [List.getElem?_append_right (by omega)] at hi hj
        have := hr _ _ hi
        have := hr _ _ hj
        omega
    · by_cases h1 : k9 < W1.length
      · rw [List.getElem?_append_left h1] at hx
        exact hD1.2 k9 x hx
      · rw [List.getElem?_append_right (by omega)] at hx
        have := hr _ _ hx
        exact hA _ (by have := hS.1; omega)
  have hAr : ArrOfT s cA (.array ty) := fun N9 z9 => by
    obtain ⟨-, k9, hk9, cm9, hkk9⟩ := (hO 0 0 0).1
    exact ⟨(fun q hq => by cases hq), k9, hk9, cm9, hkk9⟩
  have hK2 : va_K D cl (tys ++ [(cA, .array ty)]) s := ⟨hK.1, fun k9 x hx => by
    by_cases hl : k9 < tys.length
    · rw [List.getElem?_append_left hl] at hx
      exact hK.2 k9 x hx
    · rw [List.getElem?_append_right (by omega)] at hx
      have h0 : k9 - tys.length < 1 := (List.getElem?_eq_some_iff.mp hx).1
      rw [show k9 - tys.length = 0 by omega] at hx
      cases hx
      exact ⟨hAr, fA⟩⟩
  obtain ⟨t, a1, b1⟩ := kk H.size (fun i => H.size + 1 + i) cA F.heap (fun i j _ _ h => by have h9 : H.size + 1 + i = H.size + 1 + j := h; omega) hnl hK2 (by rw [← vr_rows hnm]; exact vr_lay hP2) (by rw [← vr_rows hnm]; exact vr_layD hD2) ⟨by rw [f1]; have := hS.1; omega, fun x h1 h2 => (hold x (Nat.lt_of_lt_of_le h1 hS.1)).trans (hS.2.1 x h1 h2), hS.2.2⟩ F rfl X'
  refine ⟨t, step t ?_, b1⟩
  have e : T.heap.size = H.size := by rw [hT]
  rw [e]
  exact a1
end VGM
/-! ===== END ===== -/

/-! ===== BEGIN printed: names, fields, word lists, decode rows ===== -/
def RX0 : String := "EldestSays$Clever"
def TX0 : u_T := fun k => match k with
  | _ => ("", "", "", false)
def tyX0 : Nat → FieldType := fun k => match k with
  | _ => .int
abbrev wsX00 : List Cond := u_ws RX0 TX0 0
theorem nmX0 : ∀ a, a < 0 → ∀ b, b < 0 → a ≠ b → (TX0 a).2.1 ≠ (TX0 b).2.1 := by decide +kernel
theorem tyX0_ok : ∀ k, k < 0 → parseFieldDescriptor (TX0 k).2.2.1 = some (tyX0 k) := by decide +kernel
abbrev cX0_init : ByteArray := prog_2_method_1_code
def yX0_init : MethodName := ⟨RX0, "<init>", "()V"⟩
abbrev cX0_ask : ByteArray := prog_2_method_2_code
def yX0_ask : MethodName := ⟨RX0, "ask", "(III)I"⟩
abbrev cX0_tell : ByteArray := prog_2_method_3_code
def yX0_tell : MethodName := ⟨RX0, "tell", "(LEldestSays$Plans;I)V"⟩
def RX1 : String := "EldestSays$Company"
def TX1 : u_T := fun k => match k with
  | _ => ("", "", "", false)
def tyX1 : Nat → FieldType := fun k => match k with
  | _ => .int
abbrev wsX10 : List Cond := u_ws RX1 TX1 0
theorem nmX1 : ∀ a, a < 0 → ∀ b, b < 0 → a ≠ b → (TX1 a).2.1 ≠ (TX1 b).2.1 := by decide +kernel
theorem tyX1_ok : ∀ k, k < 0 → parseFieldDescriptor (TX1 k).2.2.1 = some (tyX1 k) := by decide +kernel
abbrev cX1_init : ByteArray := prog_3_method_1_code
def yX1_init : MethodName := ⟨RX1, "<init>", "()V"⟩
abbrev cX1_ask : ByteArray := prog_3_method_2_code
def yX1_ask : MethodName := ⟨RX1, "ask", "(III)I"⟩
def RX2 : String := "EldestSays$Crowd"
def TX2 : u_T := fun k => match k with
  | 0 => ("EldestSays$Crowd", "shares", "[I", true)
  | 1 => ("EldestSays$Crowd", "asked", "[I", true)
  | 2 => ("EldestSays$Crowd", "offer", "[I", true)
  | 3 => ("EldestSays$Crowd", "clever", "LEldestSays$Clever;", true)
  | 4 => ("EldestSays$Crowd", "size", "I", false)
  | _ => ("EldestSays$Crowd", "coins", "I", false)
def tyX2 : Nat → FieldType := fun k => match k with
  | 0 => .array .int
  | 1 => .array .int
  | 2 => .array .int
  | 3 => .object "EldestSays$Clever"
  | 4 => .int
  | _ => .int
abbrev wsX20 : List Cond := u_ws RX2 TX2 6
theorem nmX2 : ∀ a, a < 6 → ∀ b, b < 6 → a ≠ b → (TX2 a).2.1 ≠ (TX2 b).2.1 := by decide +kernel
theorem tyX2_ok : ∀ k, k < 6 → parseFieldDescriptor (TX2 k).2.2.1 = some (tyX2 k) := by decide +kernel
abbrev cX2_init : ByteArray := prog_4_method_1_code
def yX2_init : MethodName := ⟨RX2, "<init>", "(LEldestSays$Clever;)V"⟩
abbrev cX2_solve : ByteArray := prog_4_method_2_code
def yX2_solve : MethodName := ⟨RX2, "solve", "(II[I)V"⟩
abbrev cX2_askYounger : ByteArray := prog_4_method_3_code
def yX2_askYounger : MethodName := ⟨RX2, "askYounger", "(II)I"⟩
abbrev cX2_votesLacking : ByteArray := prog_4_method_4_code
def yX2_votesLacking : MethodName := ⟨RX2, "votesLacking", "(III)I"⟩
abbrev cX2_buyYounger : ByteArray := prog_4_method_5_code
def yX2_buyYounger : MethodName := ⟨RX2, "buyYounger", "(III)I"⟩
abbrev cX2_nextLevel : ByteArray := prog_4_method_6_code
def yX2_nextLevel : MethodName := ⟨RX2, "nextLevel", "(II)I"⟩
abbrev cX2_buyAtLevel : ByteArray := prog_4_method_7_code
def yX2_buyAtLevel : MethodName := ⟨RX2, "buyAtLevel", "(IIII)I"⟩
def RX3 : String := "EldestSays$Envious"
def TX3 : u_T := fun k => match k with
  | _ => ("", "", "", false)
def tyX3 : Nat → FieldType := fun k => match k with
  | _ => .int
abbrev wsX30 : List Cond := u_ws RX3 TX3 0
theorem nmX3 : ∀ a, a < 0 → ∀ b, b < 0 → a ≠ b → (TX3 a).2.1 ≠ (TX3 b).2.1 := by decide +kernel
theorem tyX3_ok : ∀ k, k < 0 → parseFieldDescriptor (TX3 k).2.2.1 = some (tyX3 k) := by decide +kernel
abbrev cX3_init : ByteArray := prog_5_method_1_code
def yX3_init : MethodName := ⟨RX3, "<init>", "()V"⟩
abbrev cX3_ask : ByteArray := prog_5_method_2_code
def yX3_ask : MethodName := ⟨RX3, "ask", "(III)I"⟩
def RX4 : String := "EldestSays$Evening"
def TX4 : u_T := fun k => match k with
  | 0 => ("EldestSays$Evening", "kinds", "[I", true)
  | 1 => ("EldestSays$Evening", "figures", "[I", true)
  | 2 => ("EldestSays$Evening", "weights", "[I", true)
  | 3 => ("EldestSays$Evening", "purses", "[I", true)
  | 4 => ("EldestSays$Evening", "settings", "[I", true)
  | 5 => ("EldestSays$Evening", "size", "I", false)
  | 6 => ("EldestSays$Evening", "sayer", "I", false)
  | _ => ("EldestSays$Evening", "isDone", "Z", false)
def tyX4 : Nat → FieldType := fun k => match k with
  | 0 => .array .int
  | 1 => .array .int
  | 2 => .array .int
  | 3 => .array .int
  | 4 => .array .int
  | 5 => .int
  | 6 => .int
  | _ => .boolean
abbrev wsX40 : List Cond := u_ws RX4 TX4 8
theorem nmX4 : ∀ a, a < 8 → ∀ b, b < 8 → a ≠ b → (TX4 a).2.1 ≠ (TX4 b).2.1 := by decide +kernel
theorem tyX4_ok : ∀ k, k < 8 → parseFieldDescriptor (TX4 k).2.2.1 = some (tyX4 k) := by decide +kernel
abbrev cX4_init : ByteArray := prog_6_method_1_code
def yX4_init : MethodName := ⟨RX4, "<init>", "()V"⟩
abbrev cX4_copy : ByteArray := prog_6_method_2_code
def yX4_copy : MethodName := ⟨RX4, "copy", "(LEldestSays$Evening;)V"⟩
abbrev cX4_has : ByteArray := prog_6_method_3_code
def yX4_has : MethodName := ⟨RX4, "has", "(I)Z"⟩
abbrev cX4_isOver : ByteArray := prog_6_method_4_code
def yX4_isOver : MethodName := ⟨RX4, "isOver", "()Z"⟩
abbrev cX4_add : ByteArray := prog_6_method_5_code
def yX4_add : MethodName := ⟨RX4, "add", "(III)V"⟩
abbrev cX4_weightFrom : ByteArray := prog_6_method_6_code
def yX4_weightFrom : MethodName := ⟨RX4, "weightFrom", "(I)I"⟩
abbrev cX4_weightLeft : ByteArray := prog_6_method_7_code
def yX4_weightLeft : MethodName := ⟨RX4, "weightLeft", "()I"⟩
abbrev cX4_isCarried : ByteArray := prog_6_method_8_code
def yX4_isCarried : MethodName := ⟨RX4, "isCarried", "(II)Z"⟩
abbrev cX4_decide : ByteArray := prog_6_method_9_code
def yX4_decide : MethodName := ⟨RX4, "decide", "(I[II)I"⟩
abbrev cX4_part : ByteArray := prog_6_method_10_code
def yX4_part : MethodName := ⟨RX4, "part", "([II)V"⟩
abbrev cX4_putAshore : ByteArray := prog_6_method_11_code
def yX4_putAshore : MethodName := ⟨RX4, "putAshore", "()V"⟩
def RX5 : String := "EldestSays$Fair"
def TX5 : u_T := fun k => match k with
  | _ => ("", "", "", false)
def tyX5 : Nat → FieldType := fun k => match k with
  | _ => .int
abbrev wsX50 : List Cond := u_ws RX5 TX5 0
theorem nmX5 : ∀ a, a < 0 → ∀ b, b < 0 → a ≠ b → (TX5 a).2.1 ≠ (TX5 b).2.1 := by decide +kernel
theorem tyX5_ok : ∀ k, k < 0 → parseFieldDescriptor (TX5 k).2.2.1 = some (tyX5 k) := by decide +kernel
abbrev cX5_init : ByteArray := prog_7_method_1_code
def yX5_init : MethodName := ⟨RX5, "<init>", "()V"⟩
abbrev cX5_tell : ByteArray := prog_7_method_2_code
def yX5_tell : MethodName := ⟨RX5, "tell", "(LEldestSays$Plans;I)V"⟩
def RX6 : String := "EldestSays$Fool"
def TX6 : u_T := fun k => match k with
  | _ => ("", "", "", false)
def tyX6 : Nat → FieldType := fun k => match k with
  | _ => .int
abbrev wsX60 : List Cond := u_ws RX6 TX6 0
theorem nmX6 : ∀ a, a < 0 → ∀ b, b < 0 → a ≠ b → (TX6 a).2.1 ≠ (TX6 b).2.1 := by decide +kernel
theorem tyX6_ok : ∀ k, k < 0 → parseFieldDescriptor (TX6 k).2.2.1 = some (tyX6 k) := by decide +kernel
abbrev cX6_init : ByteArray := prog_8_method_1_code
def yX6_init : MethodName := ⟨RX6, "<init>", "()V"⟩
abbrev cX6_ask : ByteArray := prog_8_method_2_code
def yX6_ask : MethodName := ⟨RX6, "ask", "(III)I"⟩
abbrev cX6_tell : ByteArray := prog_8_method_3_code
def yX6_tell : MethodName := ⟨RX6, "tell", "(LEldestSays$Plans;I)V"⟩
def RX7 : String := "EldestSays$Letters"
def TX7 : u_T := fun k => match k with
  | 0 => ("EldestSays$Letters", "size", "I", false)
  | _ => ("EldestSays$Letters", "signs", "[C", true)
def tyX7 : Nat → FieldType := fun k => match k with
  | 0 => .int
  | _ => .array .char
abbrev wsX70 : List Cond := u_ws RX7 TX7 2
theorem nmX7 : ∀ a, a < 2 → ∀ b, b < 2 → a ≠ b → (TX7 a).2.1 ≠ (TX7 b).2.1 := by decide +kernel
theorem tyX7_ok : ∀ k, k < 2 → parseFieldDescriptor (TX7 k).2.2.1 = some (tyX7 k) := by decide +kernel
abbrev cX7_init : ByteArray := prog_9_method_1_code
def yX7_init : MethodName := ⟨RX7, "<init>", "()V"⟩
abbrev cX7_isFull : ByteArray := prog_9_method_2_code
def yX7_isFull : MethodName := ⟨RX7, "isFull", "()Z"⟩
abbrev cX7_add : ByteArray := prog_9_method_3_code
def yX7_add : MethodName := ⟨RX7, "add", "(C)I"⟩
abbrev cX7_forget : ByteArray := prog_9_method_4_code
def yX7_forget : MethodName := ⟨RX7, "forget", "()V"⟩
abbrev cX7_fault : ByteArray := prog_9_method_5_code
def yX7_fault : MethodName := ⟨RX7, "fault", "(LEldestSays$Evening;)I"⟩
abbrev cX7_tell : ByteArray := prog_9_method_6_code
def yX7_tell : MethodName := ⟨RX7, "tell", "(LEldestSays$Evening;)I"⟩
abbrev cX7_brokenAt : ByteArray := prog_9_method_7_code
def yX7_brokenAt : MethodName := ⟨RX7, "brokenAt", "()I"⟩
abbrev cX7_digitsOf : ByteArray := prog_9_method_8_code
def yX7_digitsOf : MethodName := ⟨RX7, "digitsOf", "(C)I"⟩
abbrev cX7_isDigit : ByteArray := prog_9_method_9_code
def yX7_isDigit : MethodName := ⟨RX7, "isDigit", "(C)Z"⟩
abbrev cX7_wrongAt : ByteArray := prog_9_method_10_code
def yX7_wrongAt : MethodName := ⟨RX7, "wrongAt", "(LEldestSays$Evening;)I"⟩
abbrev cX7_isRight : ByteArray := prog_9_method_11_code
def yX7_isRight : MethodName := ⟨RX7, "isRight", "(IIZ)Z"⟩
abbrev cX7_tellOne : ByteArray := prog_9_method_12_code
def yX7_tellOne : MethodName := ⟨RX7, "tellOne", "(LEldestSays$Evening;II)V"⟩
abbrev cX7_digit : ByteArray := prog_9_method_13_code
def yX7_digit : MethodName := ⟨RX7, "digit", "(I)I"⟩
def RX8 : String := "EldestSays$Meek"
def TX8 : u_T := fun k => match k with
  | _ => ("", "", "", false)
def tyX8 : Nat → FieldType := fun k => match k with
  | _ => .int
abbrev wsX80 : List Cond := u_ws RX8 TX8 0
theorem nmX8 : ∀ a, a < 0 → ∀ b, b < 0 → a ≠ b → (TX8 a).2.1 ≠ (TX8 b).2.1 := by decide +kernel
theorem tyX8_ok : ∀ k, k < 0 → parseFieldDescriptor (TX8 k).2.2.1 = some (tyX8 k) := by decide +kernel
abbrev cX8_init : ByteArray := prog_10_method_1_code
def yX8_init : MethodName := ⟨RX8, "<init>", "()V"⟩
abbrev cX8_ask : ByteArray := prog_10_method_2_code
def yX8_ask : MethodName := ⟨RX8, "ask", "(III)I"⟩
abbrev cX8_tell : ByteArray := prog_10_method_3_code
def yX8_tell : MethodName := ⟨RX8, "tell", "(LEldestSays$Plans;I)V"⟩
def RX9 : String := "EldestSays$Plans"
def TX9 : u_T := fun k => match k with
  | 0 => ("EldestSays$Plans", "offers", "[[I", true)
  | 1 => ("EldestSays$Plans", "prices", "[[I", true)
  | 2 => ("EldestSays$Plans", "shares", "[[I", true)
  | 3 => ("EldestSays$Plans", "ayes", "[I", true)
  | 4 => ("EldestSays$Plans", "enders", "[I", true)
  | 5 => ("EldestSays$Plans", "buys", "[I", true)
  | 6 => ("EldestSays$Plans", "evening", "LEldestSays$Evening;", true)
  | 7 => ("EldestSays$Plans", "kinds", "[LEldestSays$Clever;", true)
  | 8 => ("EldestSays$Plans", "unitPrices", "[I", true)
  | 9 => ("EldestSays$Plans", "unitWeights", "[I", true)
  | 10 => ("EldestSays$Plans", "setPrices", "[I", true)
  | 11 => ("EldestSays$Plans", "setWeights", "[I", true)
  | 12 => ("EldestSays$Plans", "units", "I", false)
  | _ => ("EldestSays$Plans", "freeWeight", "I", false)
def tyX9 : Nat → FieldType := fun k => match k with
  | 0 => .array (.array .int)
  | 1 => .array (.array .int)
  | 2 => .array (.array .int)
  | 3 => .array .int
  | 4 => .array .int
  | 5 => .array .int
  | 6 => .object "EldestSays$Evening"
  | 7 => .array (.object "EldestSays$Clever")
  | 8 => .array .int
  | 9 => .array .int
  | 10 => .array .int
  | 11 => .array .int
  | 12 => .int
  | _ => .int
abbrev wsX90 : List Cond := u_ws RX9 TX9 14
theorem nmX9 : ∀ a, a < 14 → ∀ b, b < 14 → a ≠ b → (TX9 a).2.1 ≠ (TX9 b).2.1 := by decide +kernel
theorem tyX9_ok : ∀ k, k < 14 → parseFieldDescriptor (TX9 k).2.2.1 = some (tyX9 k) := by decide +kernel
abbrev cX9_init : ByteArray := prog_11_method_1_code
def yX9_init : MethodName := ⟨RX9, "<init>", "([LEldestSays$Clever;)V"⟩
abbrev cX9_solve : ByteArray := prog_11_method_2_code
def yX9_solve : MethodName := ⟨RX9, "solve", "(I)V"⟩
abbrev cX9_kindOf : ByteArray := prog_11_method_3_code
def yX9_kindOf : MethodName := ⟨RX9, "kindOf", "(I)LEldestSays$Clever;"⟩
abbrev cX9_askYounger : ByteArray := prog_11_method_4_code
def yX9_askYounger : MethodName := ⟨RX9, "askYounger", "(I)V"⟩
abbrev cX9_keepAll : ByteArray := prog_11_method_5_code
def yX9_keepAll : MethodName := ⟨RX9, "keepAll", "(I)V"⟩
abbrev cX9_vote : ByteArray := prog_11_method_6_code
def yX9_vote : MethodName := ⟨RX9, "vote", "(I)V"⟩
abbrev cX9_end : ByteArray := prog_11_method_7_code
def yX9_end : MethodName := ⟨RX9, "end", "(I)V"⟩
abbrev cX9_buyCheapest : ByteArray := prog_11_method_8_code
def yX9_buyCheapest : MethodName := ⟨RX9, "buyCheapest", "(I)V"⟩
abbrev cX9_manOfUnit : ByteArray := prog_11_method_9_code
def yX9_manOfUnit : MethodName := ⟨RX9, "manOfUnit", "(II)I"⟩
abbrev cX9_forgetUnits : ByteArray := prog_11_method_10_code
def yX9_forgetUnits : MethodName := ⟨RX9, "forgetUnits", "()V"⟩
abbrev cX9_addUnit : ByteArray := prog_11_method_11_code
def yX9_addUnit : MethodName := ⟨RX9, "addUnit", "(II)V"⟩
abbrev cX9_cheapestSet : ByteArray := prog_11_method_12_code
def yX9_cheapestSet : MethodName := ⟨RX9, "cheapestSet", "(I)I"⟩
abbrev cX9_listSets : ByteArray := prog_11_method_13_code
def yX9_listSets : MethodName := ⟨RX9, "listSets", "(I)I"⟩
abbrev cX9_canBuy : ByteArray := prog_11_method_14_code
def yX9_canBuy : MethodName := ⟨RX9, "canBuy", "(II)Z"⟩
abbrev cX9_shareFairly : ByteArray := prog_11_method_15_code
def yX9_shareFairly : MethodName := ⟨RX9, "shareFairly", "(I)V"⟩
abbrev cX9_spreadFromEldest : ByteArray := prog_11_method_16_code
def yX9_spreadFromEldest : MethodName := ⟨RX9, "spreadFromEldest", "(II)V"⟩
abbrev cX9_spreadFromYoungest : ByteArray := prog_11_method_17_code
def yX9_spreadFromYoungest : MethodName := ⟨RX9, "spreadFromYoungest", "(II)V"⟩
abbrev cX9_figureOf : ByteArray := prog_11_method_18_code
def yX9_figureOf : MethodName := ⟨RX9, "figureOf", "(I)I"⟩
abbrev cX9_give : ByteArray := prog_11_method_19_code
def yX9_give : MethodName := ⟨RX9, "give", "(III)V"⟩
def RX10 : String := "EldestSays$Spiteful"
def TX10 : u_T := fun k => match k with
  | _ => ("", "", "", false)
def tyX10 : Nat → FieldType := fun k => match k with
  | _ => .int
abbrev wsX100 : List Cond := u_ws RX10 TX10 0
theorem nmX10 : ∀ a, a < 0 → ∀ b, b < 0 → a ≠ b → (TX10 a).2.1 ≠ (TX10 b).2.1 := by decide +kernel
theorem tyX10_ok : ∀ k, k < 0 → parseFieldDescriptor (TX10 k).2.2.1 = some (tyX10 k) := by decide +kernel
abbrev cX10_init : ByteArray := prog_12_method_1_code
def yX10_init : MethodName := ⟨RX10, "<init>", "()V"⟩
abbrev cX10_ask : ByteArray := prog_12_method_2_code
def yX10_ask : MethodName := ⟨RX10, "ask", "(III)I"⟩
def RX11 : String := "EldestSays"
def TX11 : u_T := fun k => match k with
  | 0 => ("EldestSays", "plans", "LEldestSays$Plans;", true)
  | 1 => ("EldestSays", "trialPlans", "LEldestSays$Plans;", true)
  | 2 => ("EldestSays", "now", "LEldestSays$Evening;", true)
  | 3 => ("EldestSays", "trial", "LEldestSays$Evening;", true)
  | 4 => ("EldestSays", "kept", "LEldestSays$Evening;", true)
  | 5 => ("EldestSays", "letters", "LEldestSays$Letters;", true)
  | 6 => ("EldestSays", "crowd", "LEldestSays$Crowd;", true)
  | 7 => ("EldestSays", "order", "[I", true)
  | 8 => ("EldestSays", "told", "[I", true)
  | 9 => ("EldestSays", "refusals", "[I", true)
  | 10 => ("EldestSays", "chances", "[J", true)
  | 11 => ("EldestSays", "toldSize", "I", false)
  | 12 => ("EldestSays", "isKept", "Z", false)
  | _ => ("EldestSays", "isStale", "Z", false)
def tyX11 : Nat → FieldType := fun k => match k with
  | 0 => .object "EldestSays$Plans"
  | 1 => .object "EldestSays$Plans"
  | 2 => .object "EldestSays$Evening"
  | 3 => .object "EldestSays$Evening"
  | 4 => .object "EldestSays$Evening"
  | 5 => .object "EldestSays$Letters"
  | 6 => .object "EldestSays$Crowd"
  | 7 => .array .int
  | 8 => .array .int
  | 9 => .array .int
  | 10 => .array .long
  | 11 => .int
  | 12 => .boolean
  | _ => .boolean
abbrev wsX110 : List Cond := u_ws RX11 TX11 14
theorem nmX11 : ∀ a, a < 14 → ∀ b, b < 14 → a ≠ b → (TX11 a).2.1 ≠ (TX11 b).2.1 := by decide +kernel
theorem tyX11_ok : ∀ k, k < 14 → parseFieldDescriptor (TX11 k).2.2.1 = some (tyX11 k) := by decide +kernel
abbrev cX11_init : ByteArray := prog_1_method_1_code
def yX11_init : MethodName := ⟨RX11, "<init>", "()V"⟩
abbrev cX11_feed : ByteArray := prog_1_method_2_code
def yX11_feed : MethodName := ⟨RX11, "feed", "(I)I"⟩
abbrev cX11_beach : ByteArray := prog_1_method_3_code
def yX11_beach : MethodName := ⟨RX11, "beach", "()I"⟩
abbrev cX11_man : ByteArray := prog_1_method_4_code
def yX11_man : MethodName := ⟨RX11, "man", "(II)I"⟩
abbrev cX11_set : ByteArray := prog_1_method_5_code
def yX11_set : MethodName := ⟨RX11, "set", "(II)I"⟩
abbrev cX11_offered : ByteArray := prog_1_method_6_code
def yX11_offered : MethodName := ⟨RX11, "offered", "(II)I"⟩
abbrev cX11_price : ByteArray := prog_1_method_7_code
def yX11_price : MethodName := ⟨RX11, "price", "(II)I"⟩
abbrev cX11_votes : ByteArray := prog_1_method_8_code
def yX11_votes : MethodName := ⟨RX11, "votes", "(I)I"⟩
abbrev cX11_carries : ByteArray := prog_1_method_9_code
def yX11_carries : MethodName := ⟨RX11, "carries", "(I)I"⟩
abbrev cX11_ends : ByteArray := prog_1_method_10_code
def yX11_ends : MethodName := ⟨RX11, "ends", "(I)I"⟩
abbrev cX11_gets : ByteArray := prog_1_method_11_code
def yX11_gets : MethodName := ⟨RX11, "gets", "(II)I"⟩
abbrev cX11_bought : ByteArray := prog_1_method_12_code
def yX11_bought : MethodName := ⟨RX11, "bought", "(I)I"⟩
abbrev cX11_row : ByteArray := prog_1_method_13_code
def yX11_row : MethodName := ⟨RX11, "row", "(I)I"⟩
abbrev cX11_judge : ByteArray := prog_1_method_14_code
def yX11_judge : MethodName := ⟨RX11, "judge", "(I)I"⟩
abbrev cX11_goes : ByteArray := prog_1_method_15_code
def yX11_goes : MethodName := ⟨RX11, "goes", "(I)I"⟩
abbrev cX11_says : ByteArray := prog_1_method_16_code
def yX11_says : MethodName := ⟨RX11, "says", "()I"⟩
abbrev cX11_got : ByteArray := prog_1_method_17_code
def yX11_got : MethodName := ⟨RX11, "got", "(I)I"⟩
abbrev cX11_alike : ByteArray := prog_1_method_18_code
def yX11_alike : MethodName := ⟨RX11, "alike", "(IIIZ)I"⟩
abbrev cX11_fewest : ByteArray := prog_1_method_19_code
def yX11_fewest : MethodName := ⟨RX11, "fewest", "()I"⟩
abbrev cX11_byLaw : ByteArray := prog_1_method_20_code
def yX11_byLaw : MethodName := ⟨RX11, "byLaw", "(III)I"⟩
abbrev cX11_gains : ByteArray := prog_1_method_21_code
def yX11_gains : MethodName := ⟨RX11, "gains", "()I"⟩
abbrev cX11_swap : ByteArray := prog_1_method_22_code
def yX11_swap : MethodName := ⟨RX11, "swap", "(II)I"⟩
abbrev cX11_bestAge : ByteArray := prog_1_method_23_code
def yX11_bestAge : MethodName := ⟨RX11, "bestAge", "(I)I"⟩
abbrev cX11_league : ByteArray := prog_1_method_24_code
def yX11_league : MethodName := ⟨RX11, "league", "(I)I"⟩
abbrev cX11_shaken : ByteArray := prog_1_method_25_code
def yX11_shaken : MethodName := ⟨RX11, "shaken", "(I)J"⟩
abbrev cX11_seeds : ByteArray := prog_1_method_26_code
def yX11_seeds : MethodName := ⟨RX11, "seeds", "(III)I"⟩
abbrev cX11_clear : ByteArray := prog_1_method_27_code
def yX11_clear : MethodName := ⟨RX11, "clear", "()I"⟩
abbrev cX11_image : ByteArray := prog_1_method_28_code
def yX11_image : MethodName := ⟨RX11, "image", "()I"⟩
abbrev cX11_restore : ByteArray := prog_1_method_29_code
def yX11_restore : MethodName := ⟨RX11, "restore", "()I"⟩
abbrev cX11_count : ByteArray := prog_1_method_30_code
def yX11_count : MethodName := ⟨RX11, "count", "(I)I"⟩
abbrev cX11_countRefusals : ByteArray := prog_1_method_31_code
def yX11_countRefusals : MethodName := ⟨RX11, "countRefusals", "(I)I"⟩
abbrev cX11_refuse : ByteArray := prog_1_method_32_code
def yX11_refuse : MethodName := ⟨RX11, "refuse", "(I)I"⟩
abbrev cX11_solved : ByteArray := prog_1_method_33_code
def yX11_solved : MethodName := ⟨RX11, "solved", "()LEldestSays$Plans;"⟩
abbrev cX11_isRowRight : ByteArray := prog_1_method_34_code
def yX11_isRowRight : MethodName := ⟨RX11, "isRowRight", "()Z"⟩
abbrev cX11_firstOddVote : ByteArray := prog_1_method_35_code
def yX11_firstOddVote : MethodName := ⟨RX11, "firstOddVote", "(I)I"⟩
abbrev cX11_orderAsIs : ByteArray := prog_1_method_36_code
def yX11_orderAsIs : MethodName := ⟨RX11, "orderAsIs", "()V"⟩
abbrev cX11_orderWith : ByteArray := prog_1_method_37_code
def yX11_orderWith : MethodName := ⟨RX11, "orderWith", "(II)V"⟩
abbrev cX11_drawOrder : ByteArray := prog_1_method_38_code
def yX11_drawOrder : MethodName := ⟨RX11, "drawOrder", "(I)I"⟩
abbrev cX11_placeOf : ByteArray := prog_1_method_39_code
def yX11_placeOf : MethodName := ⟨RX11, "placeOf", "(I)I"⟩
abbrev cX11_seat : ByteArray := prog_1_method_40_code
def yX11_seat : MethodName := ⟨RX11, "seat", "()V"⟩
abbrev cX11_shakeVotes : ByteArray := prog_1_method_41_code
def yX11_shakeVotes : MethodName := ⟨RX11, "shakeVotes", "(I)J"⟩
abbrev cX11_addVoter : ByteArray := prog_1_method_42_code
def yX11_addVoter : MethodName := ⟨RX11, "addVoter", "(II)V"⟩
abbrev cX11_chanceCarried : ByteArray := prog_1_method_43_code
def yX11_chanceCarried : MethodName := ⟨RX11, "chanceCarried", "()J"⟩
abbrev cX11_commonDivisor : ByteArray := prog_1_method_44_code
def yX11_commonDivisor : MethodName := ⟨RX11, "commonDivisor", "(JJ)J"⟩
abbrev cX11_isEnough : ByteArray := prog_1_method_45_code
def yX11_isEnough : MethodName := ⟨RX11, "isEnough", "(III)Z"⟩
def RX12 : String := "EldestSaysModel"
def TX12 : u_T := fun k => match k with
  | 0 => ("EldestSaysModel", "refused", "[I", true)
  | 1 => ("EldestSaysModel", "kind", "[I", true)
  | 2 => ("EldestSaysModel", "figure", "[I", true)
  | 3 => ("EldestSaysModel", "weight", "[I", true)
  | 4 => ("EldestSaysModel", "got", "[I", true)
  | 5 => ("EldestSaysModel", "setting", "[I", true)
  | 6 => ("EldestSaysModel", "men", "I", false)
  | 7 => ("EldestSaysModel", "sayer", "I", false)
  | 8 => ("EldestSaysModel", "done", "I", false)
  | 9 => ("EldestSaysModel", "tape", "[I", true)
  | 10 => ("EldestSaysModel", "letter", "[I", true)
  | 11 => ("EldestSaysModel", "letterAt", "[I", true)
  | 12 => ("EldestSaysModel", "told", "[I", true)
  | 13 => ("EldestSaysModel", "taped", "I", false)
  | 14 => ("EldestSaysModel", "at", "I", false)
  | 15 => ("EldestSaysModel", "statements", "I", false)
  | 16 => ("EldestSaysModel", "kept", "[I", true)
  | 17 => ("EldestSaysModel", "hasImage", "Z", false)
  | 18 => ("EldestSaysModel", "isKeeping", "Z", false)
  | 19 => ("EldestSaysModel", "cursor", "I", false)
  | 20 => ("EldestSaysModel", "price", "[I", true)
  | 21 => ("EldestSaysModel", "offer", "[I", true)
  | 22 => ("EldestSaysModel", "gets", "[I", true)
  | 23 => ("EldestSaysModel", "yes", "[I", true)
  | 24 => ("EldestSaysModel", "buys", "[I", true)
  | 25 => ("EldestSaysModel", "ends", "[I", true)
  | 26 => ("EldestSaysModel", "carried", "[I", true)
  | 27 => ("EldestSaysModel", "row", "[I", true)
  | 28 => ("EldestSaysModel", "rowMany", "I", false)
  | 29 => ("EldestSaysModel", "keptRow", "[I", true)
  | 30 => ("EldestSaysModel", "likeGets", "[I", true)
  | 31 => ("EldestSaysModel", "likePrice", "[I", true)
  | _ => ("EldestSaysModel", "ahead", "[I", true)
def tyX12 : Nat → FieldType := fun k => match k with
  | 0 => .array .int
  | 1 => .array .int
  | 2 => .array .int
  | 3 => .array .int
  | 4 => .array .int
  | 5 => .array .int
  | 6 => .int
  | 7 => .int
  | 8 => .int
  | 9 => .array .int
  | 10 => .array .int
  | 11 => .array .int
  | 12 => .array .int
  | 13 => .int
  | 14 => .int
  | 15 => .int
  | 16 => .array .int
  | 17 => .boolean
  | 18 => .boolean
  | 19 => .int
  | 20 => .array .int
  | 21 => .array .int
  | 22 => .array .int
  | 23 => .array .int
  | 24 => .array .int
  | 25 => .array .int
  | 26 => .array .int
  | 27 => .array .int
  | 28 => .int
  | 29 => .array .int
  | 30 => .array .int
  | 31 => .array .int
  | _ => .array .int
abbrev wsX120 : List Cond := u_ws RX12 TX12 33
theorem nmX12 : ∀ a, a < 33 → ∀ b, b < 33 → a ≠ b → (TX12 a).2.1 ≠ (TX12 b).2.1 := by decide +kernel
theorem tyX12_ok : ∀ k, k < 33 → parseFieldDescriptor (TX12 k).2.2.1 = some (tyX12 k) := by decide +kernel
abbrev cX12_init : ByteArray := prog_14_method_1_code
def yX12_init : MethodName := ⟨RX12, "<init>", "()V"⟩
abbrev cX12_no : ByteArray := prog_14_method_2_code
def yX12_no : MethodName := ⟨RX12, "no", "(I)I"⟩
abbrev cX12_lower : ByteArray := prog_14_method_3_code
def yX12_lower : MethodName := ⟨RX12, "lower", "(I)I"⟩
abbrev cX12_lowest : ByteArray := prog_14_method_4_code
def yX12_lowest : MethodName := ⟨RX12, "lowest", "(I)J"⟩
abbrev cX12_isIn : ByteArray := prog_14_method_5_code
def yX12_isIn : MethodName := ⟨RX12, "isIn", "(III)Z"⟩
abbrev cX12_bound : ByteArray := prog_14_method_6_code
def yX12_bound : MethodName := ⟨RX12, "bound", "(III)I"⟩
abbrev cX12_isMan : ByteArray := prog_14_method_7_code
def yX12_isMan : MethodName := ⟨RX12, "isMan", "(I)Z"⟩
abbrev cX12_feed : ByteArray := prog_14_method_8_code
def yX12_feed : MethodName := ⟨RX12, "feed", "(I)I"⟩
abbrev cX12_next : ByteArray := prog_14_method_9_code
def yX12_next : MethodName := ⟨RX12, "next", "()I"⟩
abbrev cX12_reads : ByteArray := prog_14_method_10_code
def yX12_reads : MethodName := ⟨RX12, "reads", "(II)Z"⟩
abbrev cX12_statement : ByteArray := prog_14_method_11_code
def yX12_statement : MethodName := ⟨RX12, "statement", "()Z"⟩
abbrev cX12_comes : ByteArray := prog_14_method_12_code
def yX12_comes : MethodName := ⟨RX12, "comes", "(I)Z"⟩
abbrev cX12_beach : ByteArray := prog_14_method_13_code
def yX12_beach : MethodName := ⟨RX12, "beach", "()I"⟩
abbrev cX12_passes : ByteArray := prog_14_method_14_code
def yX12_passes : MethodName := ⟨RX12, "passes", "([I)V"⟩
abbrev cX12_passOne : ByteArray := prog_14_method_15_code
def yX12_passOne : MethodName := ⟨RX12, "passOne", "(I)I"⟩
abbrev cX12_passesAll : ByteArray := prog_14_method_16_code
def yX12_passesAll : MethodName := ⟨RX12, "passesAll", "(IZ)V"⟩
abbrev cX12_image : ByteArray := prog_14_method_17_code
def yX12_image : MethodName := ⟨RX12, "image", "()I"⟩
abbrev cX12_restore : ByteArray := prog_14_method_18_code
def yX12_restore : MethodName := ⟨RX12, "restore", "()I"⟩
abbrev cX12_man : ByteArray := prog_14_method_19_code
def yX12_man : MethodName := ⟨RX12, "man", "(II)I"⟩
abbrev cX12_set : ByteArray := prog_14_method_20_code
def yX12_set : MethodName := ⟨RX12, "set", "(II)I"⟩
abbrev cX12_isCarried : ByteArray := prog_14_method_21_code
def yX12_isCarried : MethodName := ⟨RX12, "isCarried", "(III)Z"⟩
abbrev cX12_weightOf : ByteArray := prog_14_method_22_code
def yX12_weightOf : MethodName := ⟨RX12, "weightOf", "(I)I"⟩
abbrev cX12_leftFrom : ByteArray := prog_14_method_23_code
def yX12_leftFrom : MethodName := ⟨RX12, "leftFrom", "(I)I"⟩
abbrev cX12_above : ByteArray := prog_14_method_24_code
def yX12_above : MethodName := ⟨RX12, "above", "(I)I"⟩
abbrev cX12_priceOf : ByteArray := prog_14_method_25_code
def yX12_priceOf : MethodName := ⟨RX12, "priceOf", "(II)I"⟩
abbrev cX12_costOf : ByteArray := prog_14_method_26_code
def yX12_costOf : MethodName := ⟨RX12, "costOf", "(II)I"⟩
abbrev cX12_unbought : ByteArray := prog_14_method_27_code
def yX12_unbought : MethodName := ⟨RX12, "unbought", "(I)I"⟩
abbrev cX12_isAhead : ByteArray := prog_14_method_28_code
def yX12_isAhead : MethodName := ⟨RX12, "isAhead", "(II)Z"⟩
abbrev cX12_buysBy : ByteArray := prog_14_method_29_code
def yX12_buysBy : MethodName := ⟨RX12, "buysBy", "(I)I"⟩
abbrev cX12_offersEach : ByteArray := prog_14_method_30_code
def yX12_offersEach : MethodName := ⟨RX12, "offersEach", "(III)V"⟩
abbrev cX12_offersFools : ByteArray := prog_14_method_31_code
def yX12_offersFools : MethodName := ⟨RX12, "offersFools", "(IZ)V"⟩
abbrev cX12_doesBuy : ByteArray := prog_14_method_32_code
def yX12_doesBuy : MethodName := ⟨RX12, "doesBuy", "(I)Z"⟩
abbrev cX12_findOffer : ByteArray := prog_14_method_33_code
def yX12_findOffer : MethodName := ⟨RX12, "findOffer", "(I)V"⟩
abbrev cX12_solves : ByteArray := prog_14_method_34_code
def yX12_solves : MethodName := ⟨RX12, "solves", "(I)V"⟩
abbrev cX12_solvesAll : ByteArray := prog_14_method_35_code
def yX12_solvesAll : MethodName := ⟨RX12, "solvesAll", "()V"⟩
abbrev cX12_areInOrder : ByteArray := prog_14_method_36_code
def yX12_areInOrder : MethodName := ⟨RX12, "areInOrder", "(II)Z"⟩
abbrev cX12_offered : ByteArray := prog_14_method_37_code
def yX12_offered : MethodName := ⟨RX12, "offered", "(II)I"⟩
abbrev cX12_price : ByteArray := prog_14_method_38_code
def yX12_price : MethodName := ⟨RX12, "price", "(II)I"⟩
abbrev cX12_votes : ByteArray := prog_14_method_39_code
def yX12_votes : MethodName := ⟨RX12, "votes", "(I)I"⟩
abbrev cX12_carries : ByteArray := prog_14_method_40_code
def yX12_carries : MethodName := ⟨RX12, "carries", "(I)I"⟩
abbrev cX12_ends : ByteArray := prog_14_method_41_code
def yX12_ends : MethodName := ⟨RX12, "ends", "(I)I"⟩
abbrev cX12_gets : ByteArray := prog_14_method_42_code
def yX12_gets : MethodName := ⟨RX12, "gets", "(II)I"⟩
abbrev cX12_bought : ByteArray := prog_14_method_43_code
def yX12_bought : MethodName := ⟨RX12, "bought", "(I)I"⟩
abbrev cX12_row : ByteArray := prog_14_method_44_code
def yX12_row : MethodName := ⟨RX12, "row", "(I)I"⟩
abbrev cX12_clear : ByteArray := prog_14_method_45_code
def yX12_clear : MethodName := ⟨RX12, "clear", "()I"⟩
abbrev cX12_isOver : ByteArray := prog_14_method_46_code
def yX12_isOver : MethodName := ⟨RX12, "isOver", "()Z"⟩
abbrev cX12_isOffer : ByteArray := prog_14_method_47_code
def yX12_isOffer : MethodName := ⟨RX12, "isOffer", "()Z"⟩
abbrev cX12_judge : ByteArray := prog_14_method_48_code
def yX12_judge : MethodName := ⟨RX12, "judge", "(I)I"⟩
abbrev cX12_decides : ByteArray := prog_14_method_49_code
def yX12_decides : MethodName := ⟨RX12, "decides", "(I)I"⟩
abbrev cX12_goes : ByteArray := prog_14_method_50_code
def yX12_goes : MethodName := ⟨RX12, "goes", "(I)I"⟩
abbrev cX12_says : ByteArray := prog_14_method_51_code
def yX12_says : MethodName := ⟨RX12, "says", "()I"⟩
abbrev cX12_got : ByteArray := prog_14_method_52_code
def yX12_got : MethodName := ⟨RX12, "got", "(I)I"⟩
abbrev cX12_enough : ByteArray := prog_14_method_53_code
def yX12_enough : MethodName := ⟨RX12, "enough", "(I)I"⟩
abbrev cX12_withPrice : ByteArray := prog_14_method_54_code
def yX12_withPrice : MethodName := ⟨RX12, "withPrice", "(III)I"⟩
abbrev cX12_likeSays : ByteArray := prog_14_method_55_code
def yX12_likeSays : MethodName := ⟨RX12, "likeSays", "(III)Z"⟩
abbrev cX12_likeTakes : ByteArray := prog_14_method_56_code
def yX12_likeTakes : MethodName := ⟨RX12, "likeTakes", "(IIII)V"⟩
abbrev cX12_alike : ByteArray := prog_14_method_57_code
def yX12_alike : MethodName := ⟨RX12, "alike", "(IIIZ)I"⟩
abbrev cX12_fewest : ByteArray := prog_14_method_58_code
def yX12_fewest : MethodName := ⟨RX12, "fewest", "()I"⟩
abbrev cX12_byLaw : ByteArray := prog_14_method_59_code
def yX12_byLaw : MethodName := ⟨RX12, "byLaw", "(III)I"⟩
abbrev cX12_gains : ByteArray := prog_14_method_60_code
def yX12_gains : MethodName := ⟨RX12, "gains", "()I"⟩
abbrev cX12_moves : ByteArray := prog_14_method_61_code
def yX12_moves : MethodName := ⟨RX12, "moves", "(II)V"⟩
abbrev cX12_swaps : ByteArray := prog_14_method_62_code
def yX12_swaps : MethodName := ⟨RX12, "swaps", "(II)V"⟩
abbrev cX12_swap : ByteArray := prog_14_method_63_code
def yX12_swap : MethodName := ⟨RX12, "swap", "(II)I"⟩
abbrev cX12_bestAge : ByteArray := prog_14_method_64_code
def yX12_bestAge : MethodName := ⟨RX12, "bestAge", "(I)I"⟩
abbrev cX12_isFree : ByteArray := prog_14_method_65_code
def yX12_isFree : MethodName := ⟨RX12, "isFree", "(I)Z"⟩
abbrev cX12_bits : ByteArray := prog_14_method_66_code
def yX12_bits : MethodName := ⟨RX12, "bits", "(I)I"⟩
abbrev cX12_league : ByteArray := prog_14_method_67_code
def yX12_league : MethodName := ⟨RX12, "league", "(I)I"⟩
abbrev cX12_divisor : ByteArray := prog_14_method_68_code
def yX12_divisor : MethodName := ⟨RX12, "divisor", "(JJ)J"⟩
abbrev cX12_shaken : ByteArray := prog_14_method_69_code
def yX12_shaken : MethodName := ⟨RX12, "shaken", "(I)J"⟩
abbrev cX12_seeds : ByteArray := prog_14_method_70_code
def yX12_seeds : MethodName := ⟨RX12, "seeds", "(III)I"⟩
abbrev cX12_count : ByteArray := prog_14_method_71_code
def yX12_count : MethodName := ⟨RX12, "count", "(I)I"⟩
def RJ6 : String := "java/lang/Integer"
def TJ6 : u_T := fun k => match k with
  | _ => ("", "", "", false)
def tyJ6 : Nat → FieldType := fun k => match k with
  | _ => .int
abbrev wsJ60 : List Cond := u_ws RJ6 TJ6 0
theorem nmJ6 : ∀ a, a < 0 → ∀ b, b < 0 → a ≠ b → (TJ6 a).2.1 ≠ (TJ6 b).2.1 := by decide +kernel
theorem tyJ6_ok : ∀ k, k < 0 → parseFieldDescriptor (TJ6 k).2.2.1 = some (tyJ6 k) := by decide +kernel
abbrev cJ6_bitCount_0f7a4 : ByteArray := prog_15_method_49_code
def yJ6_bitCount_0f7a4 : MethodName := ⟨RJ6, "bitCount", "(I)I"⟩
def RJ9 : String := "java/lang/Math"
def TJ9 : u_T := fun k => match k with
  | _ => ("", "", "", false)
def tyJ9 : Nat → FieldType := fun k => match k with
  | _ => .int
abbrev wsJ90 : List Cond := u_ws RJ9 TJ9 0
theorem nmJ9 : ∀ a, a < 0 → ∀ b, b < 0 → a ≠ b → (TJ9 a).2.1 ≠ (TJ9 b).2.1 := by decide +kernel
theorem tyJ9_ok : ∀ k, k < 0 → parseFieldDescriptor (TJ9 k).2.2.1 = some (tyJ9 k) := by decide +kernel
abbrev cJ9_max_7cf53 : ByteArray := prog_16_method_65_code
def yJ9_max_7cf53 : MethodName := ⟨RJ9, "max", "(II)I"⟩
abbrev cJ9_min_7cf53 : ByteArray := prog_16_method_69_code
def yJ9_min_7cf53 : MethodName := ⟨RJ9, "min", "(II)I"⟩
def RJ10 : String := "java/lang/System"
def TJ10 : u_T := fun k => match k with
  | _ => ("", "", "", false)
def tyJ10 : Nat → FieldType := fun k => match k with
  | _ => .int
abbrev wsJ100 : List Cond := u_ws RJ10 TJ10 0
theorem nmJ10 : ∀ a, a < 0 → ∀ b, b < 0 → a ≠ b → (TJ10 a).2.1 ≠ (TJ10 b).2.1 := by decide +kernel
theorem tyJ10_ok : ∀ k, k < 0 → parseFieldDescriptor (TJ10 k).2.2.1 = some (tyJ10 k) := by decide +kernel
def RJ7 : String := "java/util/Arrays"
def TJ7 : u_T := fun k => match k with
  | _ => ("", "", "", false)
def tyJ7 : Nat → FieldType := fun k => match k with
  | _ => .int
abbrev wsJ70 : List Cond := u_ws RJ7 TJ7 0
theorem nmJ7 : ∀ a, a < 0 → ∀ b, b < 0 → a ≠ b → (TJ7 a).2.1 ≠ (TJ7 b).2.1 := by decide +kernel
theorem tyJ7_ok : ∀ k, k < 0 → parseFieldDescriptor (TJ7 k).2.2.1 = some (tyJ7 k) := by decide +kernel
abbrev cJ7_fill_d0a16 : ByteArray := prog_18_method_101_code
def yJ7_fill_d0a16 : MethodName := ⟨RJ7, "fill", "([JJ)V"⟩
abbrev cJ7_fill_53178 : ByteArray := prog_18_method_103_code
def yJ7_fill_53178 : MethodName := ⟨RJ7, "fill", "([II)V"⟩
def RL : String := "EldestSaysLaw"
abbrev cL_law : ByteArray := code
def yL_law : MethodName := ⟨RL, "law", "([I)Z"⟩
end
section
theorem lw_mem {c : Cond} (i : Nat) (h : tables_1[i]? = some c) : c ∈ lw_tbl := List.mem_append_right _ (List.mem_of_getElem? h)
theorem kw_0 : (Jvm.Cond.initialized "EldestSaysLaw") ∈ lw_tbl := lw_mem 0 (by decide +kernel)
theorem kw_1 : (Jvm.Cond.initialized "EldestSays") ∈ lw_tbl := lw_mem 1 (by decide +kernel)
theorem kw_2 : (Jvm.Cond.initialized "EldestSays$Evening") ∈ lw_tbl := lw_mem 2 (by decide +kernel)
theorem kw_3 : (Jvm.Cond.initialized "EldestSays$Letters") ∈ lw_tbl := lw_mem 3 (by decide +kernel)
theorem kw_4 : (Jvm.Cond.initialized "EldestSays$Clever") ∈ lw_tbl := lw_mem 4 (by decide +kernel)
theorem kw_5 : (Jvm.Cond.initialized "EldestSays$Company") ∈ lw_tbl := lw_mem 5 (by decide +kernel)
theorem kw_6 : (Jvm.Cond.initialized "EldestSays$Envious") ∈ lw_tbl := lw_mem 6 (by decide +kernel)
theorem kw_7 : (Jvm.Cond.initialized "EldestSays$Fair") ∈ lw_tbl := lw_mem 7 (by decide +kernel)
theorem kw_8 : (Jvm.Cond.initialized "EldestSays$Fool") ∈ lw_tbl := lw_mem 8 (by decide +kernel)
theorem kw_9 : (Jvm.Cond.initialized "EldestSays$Spiteful") ∈ lw_tbl := lw_mem 9 (by decide +kernel)
theorem kw_10 : (Jvm.Cond.initialized "EldestSays$Meek") ∈ lw_tbl := lw_mem 10 (by decide +kernel)
theorem kw_11 : (Jvm.Cond.initialized "EldestSays$Plans") ∈ lw_tbl := lw_mem 11 (by decide +kernel)
theorem kw_12 : (Jvm.Cond.initialized "EldestSays$Crowd") ∈ lw_tbl := lw_mem 12 (by decide +kernel)
theorem kw_13 : (Jvm.Cond.initialized "EldestSaysModel") ∈ lw_tbl := lw_mem 13 (by decide +kernel)
theorem kw_14 : (Jvm.Cond.initialized "java/lang/Math") ∈ lw_tbl := lw_mem 14 (by decide +kernel)
theorem kw_15 : (Jvm.Cond.initialized "java/util/Arrays") ∈ lw_tbl := lw_mem 15 (by decide +kernel)
theorem kw_16 : (Jvm.Cond.initialized "java/lang/System") ∈ lw_tbl := lw_mem 16 (by decide +kernel)
theorem kw_17 : (Jvm.Cond.initialized "java/lang/Integer") ∈ lw_tbl := lw_mem 17 (by decide +kernel)
theorem kw_18 : (Jvm.Cond.classLink "EldestSaysLaw" (7 : Nat) "EldestSays") ∈ lw_tbl := lw_mem 18 (by decide +kernel)
theorem kw_19 : (Jvm.Cond.instantiable "EldestSays" (14 : Nat)) ∈ lw_tbl := lw_mem 19 (by decide +kernel)
theorem kw_20 : (Jvm.Cond.methodLink "EldestSaysLaw" (9 : Nat) ({ cls := "EldestSays", name := "<init>", desc := "()V" } : Jvm.MethodName)) ∈ lw_tbl := lw_mem 20 (by decide +kernel)
theorem kw_21 : (Jvm.Cond.instanceMethod ({ cls := "EldestSays", name := "<init>", desc := "()V" } : Jvm.MethodName)) ∈ lw_tbl := lw_mem 21 (by decide +kernel)
theorem kw_22 : (Jvm.Cond.code ({ cls := "EldestSays", name := "<init>", desc := "()V" } : Jvm.MethodName) prog_1_method_1_code (3 : Nat) (Option.none : Option Jvm.ClassFile.FieldType)) ∈ lw_tbl := lw_mem 22 (by decide +kernel)
theorem kw_23 : (Jvm.Cond.methodLink "EldestSays" (1 : Nat) ({ cls := "java/lang/Object", name := "<init>", desc := "()V" } : Jvm.MethodName)) ∈ lw_tbl := lw_mem 23 (by decide +kernel)
theorem kw_24 : (Jvm.Cond.instanceMethod ({ cls := "java/lang/Object", name := "<init>", desc := "()V" } : Jvm.MethodName)) ∈ lw_tbl := lw_mem 24 (by decide +kernel)
theorem kw_25 : (Jvm.Cond.code ({ cls := "java/lang/Object", name := "<init>", desc := "()V" } : Jvm.MethodName) object_method_1_code (1 : Nat) (Option.none : Option Jvm.ClassFile.FieldType)) ∈ lw_tbl := lw_mem 25 (by decide +kernel)
theorem kw_26 : (Jvm.Cond.classLink "EldestSays" (7 : Nat) "EldestSays$Evening") ∈ lw_tbl := lw_mem 26 (by decide +kernel)
theorem kw_27 : (Jvm.Cond.instantiable "EldestSays$Evening" (8 : Nat)) ∈ lw_tbl := lw_mem 27 (by decide +kernel)
theorem kw_28 : (Jvm.Cond.methodLinkNest "EldestSays" (9 : Nat) ({ cls := "EldestSays$Evening", name := "<init>", desc := "()V" } : Jvm.MethodName) "EldestSays") ∈ lw_tbl := lw_mem 28 (by decide +kernel)
theorem kw_29 : (Jvm.Cond.instanceMethod ({ cls := "EldestSays$Evening", name := "<init>", desc := "()V" } : Jvm.MethodName)) ∈ lw_tbl := lw_mem 29 (by decide +kernel)
theorem kw_30 : (Jvm.Cond.code ({ cls := "EldestSays$Evening", name := "<init>", desc := "()V" } : Jvm.MethodName) prog_6_method_1_code (1 : Nat) (Option.none : Option Jvm.ClassFile.FieldType)) ∈ lw_tbl := lw_mem 30 (by decide +kernel)
theorem kw_31 : (Jvm.Cond.methodLink "EldestSays$Evening" (3 : Nat) ({ cls := "java/lang/Object", name := "<init>", desc := "()V" } : Jvm.MethodName)) ∈ lw_tbl := lw_mem 31 (by decide +kernel)
theorem kw_32 : (Jvm.Cond.fieldLink "EldestSays$Evening" (9 : Nat) "EldestSays$Evening" "kinds" "[I") ∈ lw_tbl := lw_mem 32 (by decide +kernel)
theorem kw_33 : (Jvm.Cond.fieldLink "EldestSays$Plans" (82 : Nat) "EldestSays$Evening" "kinds" "[I") ∈ lw_tbl := lw_mem 33 (by decide +kernel)
theorem kw_34 : (Jvm.Cond.fieldLink "EldestSays" (118 : Nat) "EldestSays$Evening" "kinds" "[I") ∈ lw_tbl := lw_mem 34 (by decide +kernel)
theorem kw_35 : (Jvm.Cond.fieldLink "EldestSays$Evening" (15 : Nat) "EldestSays$Evening" "figures" "[I") ∈ lw_tbl := lw_mem 35 (by decide +kernel)
theorem kw_36 : (Jvm.Cond.fieldLink "EldestSays$Plans" (84 : Nat) "EldestSays$Evening" "figures" "[I") ∈ lw_tbl := lw_mem 36 (by decide +kernel)
theorem kw_37 : (Jvm.Cond.fieldLink "EldestSays" (121 : Nat) "EldestSays$Evening" "figures" "[I") ∈ lw_tbl := lw_mem 37 (by decide +kernel)
theorem kw_38 : (Jvm.Cond.fieldLink "EldestSays$Evening" (18 : Nat) "EldestSays$Evening" "weights" "[I") ∈ lw_tbl := lw_mem 38 (by decide +kernel)
theorem kw_39 : (Jvm.Cond.fieldLink "EldestSays" (124 : Nat) "EldestSays$Evening" "weights" "[I") ∈ lw_tbl := lw_mem 39 (by decide +kernel)
theorem kw_40 : (Jvm.Cond.fieldLink "EldestSays$Plans" (117 : Nat) "EldestSays$Evening" "weights" "[I") ∈ lw_tbl := lw_mem 40 (by decide +kernel)
theorem kw_41 : (Jvm.Cond.fieldLink "EldestSays$Evening" (21 : Nat) "EldestSays$Evening" "purses" "[I") ∈ lw_tbl := lw_mem 41 (by decide +kernel)
theorem kw_42 : (Jvm.Cond.fieldLink "EldestSays" (177 : Nat) "EldestSays$Evening" "purses" "[I") ∈ lw_tbl := lw_mem 42 (by decide +kernel)
theorem kw_43 : (Jvm.Cond.fieldLink "EldestSays$Evening" (24 : Nat) "EldestSays$Evening" "settings" "[I") ∈ lw_tbl := lw_mem 43 (by decide +kernel)
theorem kw_44 : (Jvm.Cond.fieldLink "EldestSays$Plans" (87 : Nat) "EldestSays$Evening" "settings" "[I") ∈ lw_tbl := lw_mem 44 (by decide +kernel)
theorem kw_45 : (Jvm.Cond.fieldLink "EldestSays" (130 : Nat) "EldestSays$Evening" "settings" "[I") ∈ lw_tbl := lw_mem 45 (by decide +kernel)
theorem kw_46 : (Jvm.Cond.fieldLink "EldestSays$Letters" (62 : Nat) "EldestSays$Evening" "settings" "[I") ∈ lw_tbl := lw_mem 46 (by decide +kernel)
theorem kw_47 : (Jvm.Cond.fieldLink "EldestSays$Plans" (55 : Nat) "EldestSays$Evening" "size" "I") ∈ lw_tbl := lw_mem 47 (by decide +kernel)
theorem kw_48 : (Jvm.Cond.fieldLink "EldestSays$Evening" (36 : Nat) "EldestSays$Evening" "size" "I") ∈ lw_tbl := lw_mem 48 (by decide +kernel)
theorem kw_49 : (Jvm.Cond.fieldLink "EldestSays$Letters" (39 : Nat) "EldestSays$Evening" "size" "I") ∈ lw_tbl := lw_mem 49 (by decide +kernel)
theorem kw_50 : (Jvm.Cond.fieldLink "EldestSays" (193 : Nat) "EldestSays$Evening" "size" "I") ∈ lw_tbl := lw_mem 50 (by decide +kernel)
theorem kw_51 : (Jvm.Cond.fieldLink "EldestSays$Evening" (40 : Nat) "EldestSays$Evening" "sayer" "I") ∈ lw_tbl := lw_mem 51 (by decide +kernel)
theorem kw_52 : (Jvm.Cond.fieldLink "EldestSays" (170 : Nat) "EldestSays$Evening" "sayer" "I") ∈ lw_tbl := lw_mem 52 (by decide +kernel)
theorem kw_53 : (Jvm.Cond.fieldLink "EldestSays$Evening" (43 : Nat) "EldestSays$Evening" "isDone" "Z") ∈ lw_tbl := lw_mem 53 (by decide +kernel)
theorem kw_54 : (Jvm.Cond.fieldLink "EldestSays$Letters" (42 : Nat) "EldestSays$Evening" "isDone" "Z") ∈ lw_tbl := lw_mem 54 (by decide +kernel)
theorem kw_55 : (Jvm.Cond.fieldLink "EldestSays" (247 : Nat) "EldestSays$Evening" "isDone" "Z") ∈ lw_tbl := lw_mem 55 (by decide +kernel)
theorem kw_56 : (Jvm.Cond.laysFinal "EldestSays$Evening" "EldestSays$Evening" "kinds" "[I") ∈ lw_tbl := lw_mem 56 (by decide +kernel)
theorem kw_57 : (Jvm.Cond.soleField "EldestSays$Evening" "kinds") ∈ lw_tbl := lw_mem 57 (by decide +kernel)
theorem kw_58 : (Jvm.Cond.laysFinal "EldestSays$Evening" "EldestSays$Evening" "figures" "[I") ∈ lw_tbl := lw_mem 58 (by decide +kernel)
theorem kw_59 : (Jvm.Cond.soleField "EldestSays$Evening" "figures") ∈ lw_tbl := lw_mem 59 (by decide +kernel)
theorem kw_60 : (Jvm.Cond.laysFinal "EldestSays$Evening" "EldestSays$Evening" "weights" "[I") ∈ lw_tbl := lw_mem 60 (by decide +kernel)
theorem kw_61 : (Jvm.Cond.soleField "EldestSays$Evening" "weights") ∈ lw_tbl := lw_mem 61 (by decide +kernel)
theorem kw_62 : (Jvm.Cond.laysFinal "EldestSays$Evening" "EldestSays$Evening" "purses" "[I") ∈ lw_tbl := lw_mem 62 (by decide +kernel)
theorem kw_63 : (Jvm.Cond.soleField "EldestSays$Evening" "purses") ∈ lw_tbl := lw_mem 63 (by decide +kernel)
theorem kw_64 : (Jvm.Cond.laysFinal "EldestSays$Evening" "EldestSays$Evening" "settings" "[I") ∈ lw_tbl := lw_mem 64 (by decide +kernel)
theorem kw_65 : (Jvm.Cond.soleField "EldestSays$Evening" "settings") ∈ lw_tbl := lw_mem 65 (by decide +kernel)
theorem kw_66 : (Jvm.Cond.lays "EldestSays$Evening" "EldestSays$Evening" "size" "I") ∈ lw_tbl := lw_mem 66 (by decide +kernel)
theorem kw_67 : (Jvm.Cond.soleField "EldestSays$Evening" "size") ∈ lw_tbl := lw_mem 67 (by decide +kernel)
theorem kw_68 : (Jvm.Cond.lays "EldestSays$Evening" "EldestSays$Evening" "sayer" "I") ∈ lw_tbl := lw_mem 68 (by decide +kernel)
theorem kw_69 : (Jvm.Cond.soleField "EldestSays$Evening" "sayer") ∈ lw_tbl := lw_mem 69 (by decide +kernel)
theorem kw_70 : (Jvm.Cond.lays "EldestSays$Evening" "EldestSays$Evening" "isDone" "Z") ∈ lw_tbl := lw_mem 70 (by decide +kernel)
theorem kw_71 : (Jvm.Cond.soleField "EldestSays$Evening" "isDone") ∈ lw_tbl := lw_mem 71 (by decide +kernel)
theorem kw_72 : (Jvm.Cond.superclass "EldestSays$Evening" "java/lang/Object") ∈ lw_tbl := lw_mem 72 (by decide +kernel)
theorem kw_73 : (Jvm.Cond.arrayClass Jvm.ClassFile.FieldType.int) ∈ lw_tbl := lw_mem 73 (by decide +kernel)
theorem kw_74 : (Jvm.Cond.classLink "EldestSays" (16 : Nat) "EldestSays$Letters") ∈ lw_tbl := lw_mem 74 (by decide +kernel)
theorem kw_75 : (Jvm.Cond.instantiable "EldestSays$Letters" (2 : Nat)) ∈ lw_tbl := lw_mem 75 (by decide +kernel)
theorem kw_76 : (Jvm.Cond.methodLinkNest "EldestSays" (18 : Nat) ({ cls := "EldestSays$Letters", name := "<init>", desc := "()V" } : Jvm.MethodName) "EldestSays") ∈ lw_tbl := lw_mem 76 (by decide +kernel)
theorem kw_77 : (Jvm.Cond.instanceMethod ({ cls := "EldestSays$Letters", name := "<init>", desc := "()V" } : Jvm.MethodName)) ∈ lw_tbl := lw_mem 77 (by decide +kernel)
theorem kw_78 : (Jvm.Cond.code ({ cls := "EldestSays$Letters", name := "<init>", desc := "()V" } : Jvm.MethodName) prog_9_method_1_code (1 : Nat) (Option.none : Option Jvm.ClassFile.FieldType)) ∈ lw_tbl := lw_mem 78 (by decide +kernel)
theorem kw_79 : (Jvm.Cond.methodLink "EldestSays$Letters" (3 : Nat) ({ cls := "java/lang/Object", name := "<init>", desc := "()V" } : Jvm.MethodName)) ∈ lw_tbl := lw_mem 79 (by decide +kernel)
theorem kw_80 : (Jvm.Cond.fieldLink "EldestSays$Letters" (15 : Nat) "EldestSays$Letters" "size" "I") ∈ lw_tbl := lw_mem 80 (by decide +kernel)
theorem kw_81 : (Jvm.Cond.fieldLink "EldestSays" (254 : Nat) "EldestSays$Letters" "size" "I") ∈ lw_tbl := lw_mem 81 (by decide +kernel)
theorem kw_82 : (Jvm.Cond.fieldLink "EldestSays$Letters" (9 : Nat) "EldestSays$Letters" "signs" "[C") ∈ lw_tbl := lw_mem 82 (by decide +kernel)
theorem kw_83 : (Jvm.Cond.lays "EldestSays$Letters" "EldestSays$Letters" "size" "I") ∈ lw_tbl := lw_mem 83 (by decide +kernel)
theorem kw_84 : (Jvm.Cond.soleField "EldestSays$Letters" "size") ∈ lw_tbl := lw_mem 84 (by decide +kernel)
theorem kw_85 : (Jvm.Cond.laysFinal "EldestSays$Letters" "EldestSays$Letters" "signs" "[C") ∈ lw_tbl := lw_mem 85 (by decide +kernel)
theorem kw_86 : (Jvm.Cond.soleField "EldestSays$Letters" "signs") ∈ lw_tbl := lw_mem 86 (by decide +kernel)
theorem kw_87 : (Jvm.Cond.superclass "EldestSays$Letters" "java/lang/Object") ∈ lw_tbl := lw_mem 87 (by decide +kernel)
theorem kw_88 : (Jvm.Cond.arrayClass Jvm.ClassFile.FieldType.char) ∈ lw_tbl := lw_mem 88 (by decide +kernel)
theorem kw_89 : (Jvm.Cond.classLink "EldestSays" (41 : Nat) "EldestSays$Clever") ∈ lw_tbl := lw_mem 89 (by decide +kernel)
theorem kw_90 : (Jvm.Cond.instantiable "EldestSays$Clever" (0 : Nat)) ∈ lw_tbl := lw_mem 90 (by decide +kernel)
theorem kw_91 : (Jvm.Cond.methodLinkNest "EldestSays" (43 : Nat) ({ cls := "EldestSays$Clever", name := "<init>", desc := "()V" } : Jvm.MethodName) "EldestSays") ∈ lw_tbl := lw_mem 91 (by decide +kernel)
theorem kw_92 : (Jvm.Cond.instanceMethod ({ cls := "EldestSays$Clever", name := "<init>", desc := "()V" } : Jvm.MethodName)) ∈ lw_tbl := lw_mem 92 (by decide +kernel)
theorem kw_93 : (Jvm.Cond.code ({ cls := "EldestSays$Clever", name := "<init>", desc := "()V" } : Jvm.MethodName) prog_2_method_1_code (1 : Nat) (Option.none : Option Jvm.ClassFile.FieldType)) ∈ lw_tbl := lw_mem 93 (by decide +kernel)
theorem kw_94 : (Jvm.Cond.methodLink "EldestSays$Clever" (1 : Nat) ({ cls := "java/lang/Object", name := "<init>", desc := "()V" } : Jvm.MethodName)) ∈ lw_tbl := lw_mem 94 (by decide +kernel)
theorem kw_95 : (Jvm.Cond.superclass "EldestSays$Clever" "java/lang/Object") ∈ lw_tbl := lw_mem 95 (by decide +kernel)
theorem kw_96 : (Jvm.Cond.arrayClass Jvm.ClassFile.FieldType.long) ∈ lw_tbl := lw_mem 96 (by decide +kernel)
theorem kw_97 : (Jvm.Cond.arrayOver (Jvm.ClassFile.FieldType.object "EldestSays$Clever")) ∈ lw_tbl := lw_mem 97 (by decide +kernel)
theorem kw_98 : (Jvm.Cond.classLink "EldestSays" (44 : Nat) "EldestSays$Company") ∈ lw_tbl := lw_mem 98 (by decide +kernel)
theorem kw_99 : (Jvm.Cond.instantiable "EldestSays$Company" (0 : Nat)) ∈ lw_tbl := lw_mem 99 (by decide +kernel)
theorem kw_100 : (Jvm.Cond.methodLinkNest "EldestSays" (46 : Nat) ({ cls := "EldestSays$Company", name := "<init>", desc := "()V" } : Jvm.MethodName) "EldestSays") ∈ lw_tbl := lw_mem 100 (by decide +kernel)
theorem kw_101 : (Jvm.Cond.instanceMethod ({ cls := "EldestSays$Company", name := "<init>", desc := "()V" } : Jvm.MethodName)) ∈ lw_tbl := lw_mem 101 (by decide +kernel)
theorem kw_102 : (Jvm.Cond.code ({ cls := "EldestSays$Company", name := "<init>", desc := "()V" } : Jvm.MethodName) prog_3_method_1_code (1 : Nat) (Option.none : Option Jvm.ClassFile.FieldType)) ∈ lw_tbl := lw_mem 102 (by decide +kernel)
theorem kw_103 : (Jvm.Cond.methodLinkNest "EldestSays$Company" (1 : Nat) ({ cls := "EldestSays$Clever", name := "<init>", desc := "()V" } : Jvm.MethodName) "EldestSays") ∈ lw_tbl := lw_mem 103 (by decide +kernel)
theorem kw_104 : (Jvm.Cond.superclass "EldestSays$Company" "EldestSays$Clever") ∈ lw_tbl := lw_mem 104 (by decide +kernel)
theorem kw_105 : (Jvm.Cond.classLink "EldestSays" (47 : Nat) "EldestSays$Envious") ∈ lw_tbl := lw_mem 105 (by decide +kernel)
theorem kw_106 : (Jvm.Cond.instantiable "EldestSays$Envious" (0 : Nat)) ∈ lw_tbl := lw_mem 106 (by decide +kernel)
theorem kw_107 : (Jvm.Cond.methodLinkNest "EldestSays" (49 : Nat) ({ cls := "EldestSays$Envious", name := "<init>", desc := "()V" } : Jvm.MethodName) "EldestSays") ∈ lw_tbl := lw_mem 107 (by decide +kernel)
theorem kw_108 : (Jvm.Cond.instanceMethod ({ cls := "EldestSays$Envious", name := "<init>", desc := "()V" } : Jvm.MethodName)) ∈ lw_tbl := lw_mem 108 (by decide +kernel)
theorem kw_109 : (Jvm.Cond.code ({ cls := "EldestSays$Envious", name := "<init>", desc := "()V" } : Jvm.MethodName) prog_5_method_1_code (1 : Nat) (Option.none : Option Jvm.ClassFile.FieldType)) ∈ lw_tbl := lw_mem 109 (by decide +kernel)
theorem kw_110 : (Jvm.Cond.methodLinkNest "EldestSays$Envious" (1 : Nat) ({ cls := "EldestSays$Clever", name := "<init>", desc := "()V" } : Jvm.MethodName) "EldestSays") ∈ lw_tbl := lw_mem 110 (by decide +kernel)
theorem kw_111 : (Jvm.Cond.superclass "EldestSays$Envious" "EldestSays$Clever") ∈ lw_tbl := lw_mem 111 (by decide +kernel)
theorem kw_112 : (Jvm.Cond.classLink "EldestSays" (50 : Nat) "EldestSays$Fair") ∈ lw_tbl := lw_mem 112 (by decide +kernel)
theorem kw_113 : (Jvm.Cond.instantiable "EldestSays$Fair" (0 : Nat)) ∈ lw_tbl := lw_mem 113 (by decide +kernel)
theorem kw_114 : (Jvm.Cond.methodLinkNest "EldestSays" (52 : Nat) ({ cls := "EldestSays$Fair", name := "<init>", desc := "()V" } : Jvm.MethodName) "EldestSays") ∈ lw_tbl := lw_mem 114 (by decide +kernel)
theorem kw_115 : (Jvm.Cond.instanceMethod ({ cls := "EldestSays$Fair", name := "<init>", desc := "()V" } : Jvm.MethodName)) ∈ lw_tbl := lw_mem 115 (by decide +kernel)
theorem kw_116 : (Jvm.Cond.code ({ cls := "EldestSays$Fair", name := "<init>", desc := "()V" } : Jvm.MethodName) prog_7_method_1_code (1 : Nat) (Option.none : Option Jvm.ClassFile.FieldType)) ∈ lw_tbl := lw_mem 116 (by decide +kernel)
theorem kw_117 : (Jvm.Cond.methodLinkNest "EldestSays$Fair" (1 : Nat) ({ cls := "EldestSays$Company", name := "<init>", desc := "()V" } : Jvm.MethodName) "EldestSays") ∈ lw_tbl := lw_mem 117 (by decide +kernel)
theorem kw_118 : (Jvm.Cond.superclass "EldestSays$Fair" "EldestSays$Company") ∈ lw_tbl := lw_mem 118 (by decide +kernel)
theorem kw_119 : (Jvm.Cond.classLink "EldestSays" (53 : Nat) "EldestSays$Fool") ∈ lw_tbl := lw_mem 119 (by decide +kernel)
theorem kw_120 : (Jvm.Cond.instantiable "EldestSays$Fool" (0 : Nat)) ∈ lw_tbl := lw_mem 120 (by decide +kernel)
theorem kw_121 : (Jvm.Cond.methodLinkNest "EldestSays" (55 : Nat) ({ cls := "EldestSays$Fool", name := "<init>", desc := "()V" } : Jvm.MethodName) "EldestSays") ∈ lw_tbl := lw_mem 121 (by decide +kernel)
theorem kw_122 : (Jvm.Cond.instanceMethod ({ cls := "EldestSays$Fool", name := "<init>", desc := "()V" } : Jvm.MethodName)) ∈ lw_tbl := lw_mem 122 (by decide +kernel)
theorem kw_123 : (Jvm.Cond.code ({ cls := "EldestSays$Fool", name := "<init>", desc := "()V" } : Jvm.MethodName) prog_8_method_1_code (1 : Nat) (Option.none : Option Jvm.ClassFile.FieldType)) ∈ lw_tbl := lw_mem 123 (by decide +kernel)
theorem kw_124 : (Jvm.Cond.methodLinkNest "EldestSays$Fool" (1 : Nat) ({ cls := "EldestSays$Clever", name := "<init>", desc := "()V" } : Jvm.MethodName) "EldestSays") ∈ lw_tbl := lw_mem 124 (by decide +kernel)
theorem kw_125 : (Jvm.Cond.superclass "EldestSays$Fool" "EldestSays$Clever") ∈ lw_tbl := lw_mem 125 (by decide +kernel)
theorem kw_126 : (Jvm.Cond.classLink "EldestSays" (56 : Nat) "EldestSays$Spiteful") ∈ lw_tbl := lw_mem 126 (by decide +kernel)
theorem kw_127 : (Jvm.Cond.instantiable "EldestSays$Spiteful" (0 : Nat)) ∈ lw_tbl := lw_mem 127 (by decide +kernel)
theorem kw_128 : (Jvm.Cond.methodLinkNest "EldestSays" (58 : Nat) ({ cls := "EldestSays$Spiteful", name := "<init>", desc := "()V" } : Jvm.MethodName) "EldestSays") ∈ lw_tbl := lw_mem 128 (by decide +kernel)
theorem kw_129 : (Jvm.Cond.instanceMethod ({ cls := "EldestSays$Spiteful", name := "<init>", desc := "()V" } : Jvm.MethodName)) ∈ lw_tbl := lw_mem 129 (by decide +kernel)
theorem kw_130 : (Jvm.Cond.code ({ cls := "EldestSays$Spiteful", name := "<init>", desc := "()V" } : Jvm.MethodName) prog_12_method_1_code (1 : Nat) (Option.none : Option Jvm.ClassFile.FieldType)) ∈ lw_tbl := lw_mem 130 (by decide +kernel)
theorem kw_131 : (Jvm.Cond.methodLinkNest "EldestSays$Spiteful" (1 : Nat) ({ cls := "EldestSays$Envious", name := "<init>", desc := "()V" } : Jvm.MethodName) "EldestSays") ∈ lw_tbl := lw_mem 131 (by decide +kernel)
theorem kw_132 : (Jvm.Cond.superclass "EldestSays$Spiteful" "EldestSays$Envious") ∈ lw_tbl := lw_mem 132 (by decide +kernel)
theorem kw_133 : (Jvm.Cond.classLink "EldestSays" (59 : Nat) "EldestSays$Meek") ∈ lw_tbl := lw_mem 133 (by decide +kernel)
theorem kw_134 : (Jvm.Cond.instantiable "EldestSays$Meek" (0 : Nat)) ∈ lw_tbl := lw_mem 134 (by decide +kernel)
theorem kw_135 : (Jvm.Cond.methodLinkNest "EldestSays" (61 : Nat) ({ cls := "EldestSays$Meek", name := "<init>", desc := "()V" } : Jvm.MethodName) "EldestSays") ∈ lw_tbl := lw_mem 135 (by decide +kernel)
theorem kw_136 : (Jvm.Cond.instanceMethod ({ cls := "EldestSays$Meek", name := "<init>", desc := "()V" } : Jvm.MethodName)) ∈ lw_tbl := lw_mem 136 (by decide +kernel)
theorem kw_137 : (Jvm.Cond.code ({ cls := "EldestSays$Meek", name := "<init>", desc := "()V" } : Jvm.MethodName) prog_10_method_1_code (1 : Nat) (Option.none : Option Jvm.ClassFile.FieldType)) ∈ lw_tbl := lw_mem 137 (by decide +kernel)
theorem kw_138 : (Jvm.Cond.methodLinkNest "EldestSays$Meek" (1 : Nat) ({ cls := "EldestSays$Fool", name := "<init>", desc := "()V" } : Jvm.MethodName) "EldestSays") ∈ lw_tbl := lw_mem 138 (by decide +kernel)
theorem kw_139 : (Jvm.Cond.superclass "EldestSays$Meek" "EldestSays$Fool") ∈ lw_tbl := lw_mem 139 (by decide +kernel)
theorem kw_140 : (Jvm.Cond.classLink "EldestSays" (62 : Nat) "EldestSays$Plans") ∈ lw_tbl := lw_mem 140 (by decide +kernel)
theorem kw_141 : (Jvm.Cond.instantiable "EldestSays$Plans" (14 : Nat)) ∈ lw_tbl := lw_mem 141 (by decide +kernel)
theorem kw_142 : (Jvm.Cond.methodLink "EldestSays" (64 : Nat) ({ cls := "EldestSays$Plans", name := "<init>", desc := "([LEldestSays$Clever;)V" } : Jvm.MethodName)) ∈ lw_tbl := lw_mem 142 (by decide +kernel)
theorem kw_143 : (Jvm.Cond.instanceMethod ({ cls := "EldestSays$Plans", name := "<init>", desc := "([LEldestSays$Clever;)V" } : Jvm.MethodName)) ∈ lw_tbl := lw_mem 143 (by decide +kernel)
theorem kw_144 : (Jvm.Cond.code ({ cls := "EldestSays$Plans", name := "<init>", desc := "([LEldestSays$Clever;)V" } : Jvm.MethodName) prog_11_method_1_code (2 : Nat) (Option.none : Option Jvm.ClassFile.FieldType)) ∈ lw_tbl := lw_mem 144 (by decide +kernel)
theorem kw_145 : (Jvm.Cond.methodLink "EldestSays$Plans" (3 : Nat) ({ cls := "java/lang/Object", name := "<init>", desc := "()V" } : Jvm.MethodName)) ∈ lw_tbl := lw_mem 145 (by decide +kernel)
theorem kw_146 : (Jvm.Cond.classLink "EldestSays$Plans" (9 : Nat) "[[I") ∈ lw_tbl := lw_mem 146 (by decide +kernel)
theorem kw_147 : (Jvm.Cond.arrayOver (Jvm.ClassFile.FieldType.array Jvm.ClassFile.FieldType.int)) ∈ lw_tbl := lw_mem 147 (by decide +kernel)
theorem kw_148 : (Jvm.Cond.classLink "EldestSays$Plans" (32 : Nat) "EldestSays$Evening") ∈ lw_tbl := lw_mem 148 (by decide +kernel)
theorem kw_149 : (Jvm.Cond.methodLinkNest "EldestSays$Plans" (34 : Nat) ({ cls := "EldestSays$Evening", name := "<init>", desc := "()V" } : Jvm.MethodName) "EldestSays") ∈ lw_tbl := lw_mem 149 (by decide +kernel)
theorem kw_150 : (Jvm.Cond.fieldLink "EldestSays$Plans" (11 : Nat) "EldestSays$Plans" "offers" "[[I") ∈ lw_tbl := lw_mem 150 (by decide +kernel)
theorem kw_151 : (Jvm.Cond.fieldLink "EldestSays" (137 : Nat) "EldestSays$Plans" "offers" "[[I") ∈ lw_tbl := lw_mem 151 (by decide +kernel)
theorem kw_152 : (Jvm.Cond.fieldLink "EldestSays$Plans" (16 : Nat) "EldestSays$Plans" "prices" "[[I") ∈ lw_tbl := lw_mem 152 (by decide +kernel)
theorem kw_153 : (Jvm.Cond.fieldLink "EldestSays" (141 : Nat) "EldestSays$Plans" "prices" "[[I") ∈ lw_tbl := lw_mem 153 (by decide +kernel)
theorem kw_154 : (Jvm.Cond.fieldLink "EldestSays$Plans" (19 : Nat) "EldestSays$Plans" "shares" "[[I") ∈ lw_tbl := lw_mem 154 (by decide +kernel)
theorem kw_155 : (Jvm.Cond.fieldLink "EldestSays" (151 : Nat) "EldestSays$Plans" "shares" "[[I") ∈ lw_tbl := lw_mem 155 (by decide +kernel)
theorem kw_156 : (Jvm.Cond.fieldLink "EldestSays$Plans" (22 : Nat) "EldestSays$Plans" "ayes" "[I") ∈ lw_tbl := lw_mem 156 (by decide +kernel)
theorem kw_157 : (Jvm.Cond.fieldLink "EldestSays" (144 : Nat) "EldestSays$Plans" "ayes" "[I") ∈ lw_tbl := lw_mem 157 (by decide +kernel)
theorem kw_158 : (Jvm.Cond.fieldLink "EldestSays$Plans" (26 : Nat) "EldestSays$Plans" "enders" "[I") ∈ lw_tbl := lw_mem 158 (by decide +kernel)
theorem kw_159 : (Jvm.Cond.fieldLink "EldestSays" (147 : Nat) "EldestSays$Plans" "enders" "[I") ∈ lw_tbl := lw_mem 159 (by decide +kernel)
theorem kw_160 : (Jvm.Cond.fieldLink "EldestSays$Plans" (29 : Nat) "EldestSays$Plans" "buys" "[I") ∈ lw_tbl := lw_mem 160 (by decide +kernel)
theorem kw_161 : (Jvm.Cond.fieldLink "EldestSays" (154 : Nat) "EldestSays$Plans" "buys" "[I") ∈ lw_tbl := lw_mem 161 (by decide +kernel)
theorem kw_162 : (Jvm.Cond.fieldLink "EldestSays$Plans" (35 : Nat) "EldestSays$Plans" "evening" "LEldestSays$Evening;") ∈ lw_tbl := lw_mem 162 (by decide +kernel)
theorem kw_163 : (Jvm.Cond.fieldLink "EldestSays" (74 : Nat) "EldestSays$Plans" "evening" "LEldestSays$Evening;") ∈ lw_tbl := lw_mem 163 (by decide +kernel)
theorem kw_164 : (Jvm.Cond.fieldLink "EldestSays$Plans" (51 : Nat) "EldestSays$Plans" "kinds" "[LEldestSays$Clever;") ∈ lw_tbl := lw_mem 164 (by decide +kernel)
theorem kw_165 : (Jvm.Cond.fieldLink "EldestSays$Plans" (39 : Nat) "EldestSays$Plans" "unitPrices" "[I") ∈ lw_tbl := lw_mem 165 (by decide +kernel)
theorem kw_166 : (Jvm.Cond.fieldLink "EldestSays$Plans" (42 : Nat) "EldestSays$Plans" "unitWeights" "[I") ∈ lw_tbl := lw_mem 166 (by decide +kernel)
theorem kw_167 : (Jvm.Cond.fieldLink "EldestSays$Plans" (45 : Nat) "EldestSays$Plans" "setPrices" "[I") ∈ lw_tbl := lw_mem 167 (by decide +kernel)
theorem kw_168 : (Jvm.Cond.fieldLink "EldestSays$Plans" (48 : Nat) "EldestSays$Plans" "setWeights" "[I") ∈ lw_tbl := lw_mem 168 (by decide +kernel)
theorem kw_169 : (Jvm.Cond.fieldLink "EldestSays$Plans" (128 : Nat) "EldestSays$Plans" "units" "I") ∈ lw_tbl := lw_mem 169 (by decide +kernel)
theorem kw_170 : (Jvm.Cond.fieldLink "EldestSays$Plans" (131 : Nat) "EldestSays$Plans" "freeWeight" "I") ∈ lw_tbl := lw_mem 170 (by decide +kernel)
theorem kw_171 : (Jvm.Cond.laysFinal "EldestSays$Plans" "EldestSays$Plans" "offers" "[[I") ∈ lw_tbl := lw_mem 171 (by decide +kernel)
theorem kw_172 : (Jvm.Cond.soleField "EldestSays$Plans" "offers") ∈ lw_tbl := lw_mem 172 (by decide +kernel)
theorem kw_173 : (Jvm.Cond.laysFinal "EldestSays$Plans" "EldestSays$Plans" "prices" "[[I") ∈ lw_tbl := lw_mem 173 (by decide +kernel)
theorem kw_174 : (Jvm.Cond.soleField "EldestSays$Plans" "prices") ∈ lw_tbl := lw_mem 174 (by decide +kernel)
theorem kw_175 : (Jvm.Cond.laysFinal "EldestSays$Plans" "EldestSays$Plans" "shares" "[[I") ∈ lw_tbl := lw_mem 175 (by decide +kernel)
theorem kw_176 : (Jvm.Cond.soleField "EldestSays$Plans" "shares") ∈ lw_tbl := lw_mem 176 (by decide +kernel)
theorem kw_177 : (Jvm.Cond.laysFinal "EldestSays$Plans" "EldestSays$Plans" "ayes" "[I") ∈ lw_tbl := lw_mem 177 (by decide +kernel)
theorem kw_178 : (Jvm.Cond.soleField "EldestSays$Plans" "ayes") ∈ lw_tbl := lw_mem 178 (by decide +kernel)
theorem kw_179 : (Jvm.Cond.laysFinal "EldestSays$Plans" "EldestSays$Plans" "enders" "[I") ∈ lw_tbl := lw_mem 179 (by decide +kernel)
theorem kw_180 : (Jvm.Cond.soleField "EldestSays$Plans" "enders") ∈ lw_tbl := lw_mem 180 (by decide +kernel)
theorem kw_181 : (Jvm.Cond.laysFinal "EldestSays$Plans" "EldestSays$Plans" "buys" "[I") ∈ lw_tbl := lw_mem 181 (by decide +kernel)
theorem kw_182 : (Jvm.Cond.soleField "EldestSays$Plans" "buys") ∈ lw_tbl := lw_mem 182 (by decide +kernel)
theorem kw_183 : (Jvm.Cond.laysFinal "EldestSays$Plans" "EldestSays$Plans" "evening" "LEldestSays$Evening;") ∈ lw_tbl := lw_mem 183 (by decide +kernel)
theorem kw_184 : (Jvm.Cond.soleField "EldestSays$Plans" "evening") ∈ lw_tbl := lw_mem 184 (by decide +kernel)
theorem kw_185 : (Jvm.Cond.laysFinal "EldestSays$Plans" "EldestSays$Plans" "kinds" "[LEldestSays$Clever;") ∈ lw_tbl := lw_mem 185 (by decide +kernel)
theorem kw_186 : (Jvm.Cond.soleField "EldestSays$Plans" "kinds") ∈ lw_tbl := lw_mem 186 (by decide +kernel)
theorem kw_187 : (Jvm.Cond.laysFinal "EldestSays$Plans" "EldestSays$Plans" "unitPrices" "[I") ∈ lw_tbl := lw_mem 187 (by decide +kernel)
theorem kw_188 : (Jvm.Cond.soleField "EldestSays$Plans" "unitPrices") ∈ lw_tbl := lw_mem 188 (by decide +kernel)
theorem kw_189 : (Jvm.Cond.laysFinal "EldestSays$Plans" "EldestSays$Plans" "unitWeights" "[I") ∈ lw_tbl := lw_mem 189 (by decide +kernel)
theorem kw_190 : (Jvm.Cond.soleField "EldestSays$Plans" "unitWeights") ∈ lw_tbl := lw_mem 190 (by decide +kernel)
theorem kw_191 : (Jvm.Cond.laysFinal "EldestSays$Plans" "EldestSays$Plans" "setPrices" "[I") ∈ lw_tbl := lw_mem 191 (by decide +kernel)
theorem kw_192 : (Jvm.Cond.soleField "EldestSays$Plans" "setPrices") ∈ lw_tbl := lw_mem 192 (by decide +kernel)
theorem kw_193 : (Jvm.Cond.laysFinal "EldestSays$Plans" "EldestSays$Plans" "setWeights" "[I") ∈ lw_tbl := lw_mem 193 (by decide +kernel)
theorem kw_194 : (Jvm.Cond.soleField "EldestSays$Plans" "setWeights") ∈ lw_tbl := lw_mem 194 (by decide +kernel)
theorem kw_195 : (Jvm.Cond.lays "EldestSays$Plans" "EldestSays$Plans" "units" "I") ∈ lw_tbl := lw_mem 195 (by decide +kernel)
theorem kw_196 : (Jvm.Cond.soleField "EldestSays$Plans" "units") ∈ lw_tbl := lw_mem 196 (by decide +kernel)
theorem kw_197 : (Jvm.Cond.lays "EldestSays$Plans" "EldestSays$Plans" "freeWeight" "I") ∈ lw_tbl := lw_mem 197 (by decide +kernel)
theorem kw_198 : (Jvm.Cond.soleField "EldestSays$Plans" "freeWeight") ∈ lw_tbl := lw_mem 198 (by decide +kernel)
theorem kw_199 : (Jvm.Cond.superclass "EldestSays$Plans" "java/lang/Object") ∈ lw_tbl := lw_mem 199 (by decide +kernel)
theorem kw_200 : (Jvm.Cond.classLink "EldestSays" (83 : Nat) "EldestSays$Crowd") ∈ lw_tbl := lw_mem 200 (by decide +kernel)
theorem kw_201 : (Jvm.Cond.instantiable "EldestSays$Crowd" (6 : Nat)) ∈ lw_tbl := lw_mem 201 (by decide +kernel)
theorem kw_202 : (Jvm.Cond.methodLink "EldestSays" (85 : Nat) ({ cls := "EldestSays$Crowd", name := "<init>", desc := "(LEldestSays$Clever;)V" } : Jvm.MethodName)) ∈ lw_tbl := lw_mem 202 (by decide +kernel)
theorem kw_203 : (Jvm.Cond.instanceMethod ({ cls := "EldestSays$Crowd", name := "<init>", desc := "(LEldestSays$Clever;)V" } : Jvm.MethodName)) ∈ lw_tbl := lw_mem 203 (by decide +kernel)
theorem kw_204 : (Jvm.Cond.code ({ cls := "EldestSays$Crowd", name := "<init>", desc := "(LEldestSays$Clever;)V" } : Jvm.MethodName) prog_4_method_1_code (2 : Nat) (Option.none : Option Jvm.ClassFile.FieldType)) ∈ lw_tbl := lw_mem 204 (by decide +kernel)
theorem kw_205 : (Jvm.Cond.methodLink "EldestSays$Crowd" (3 : Nat) ({ cls := "java/lang/Object", name := "<init>", desc := "()V" } : Jvm.MethodName)) ∈ lw_tbl := lw_mem 205 (by decide +kernel)
theorem kw_206 : (Jvm.Cond.fieldLink "EldestSays$Crowd" (9 : Nat) "EldestSays$Crowd" "shares" "[I") ∈ lw_tbl := lw_mem 206 (by decide +kernel)
theorem kw_207 : (Jvm.Cond.fieldLink "EldestSays" (184 : Nat) "EldestSays$Crowd" "shares" "[I") ∈ lw_tbl := lw_mem 207 (by decide +kernel)
theorem kw_208 : (Jvm.Cond.fieldLink "EldestSays$Crowd" (15 : Nat) "EldestSays$Crowd" "asked" "[I") ∈ lw_tbl := lw_mem 208 (by decide +kernel)
theorem kw_209 : (Jvm.Cond.fieldLink "EldestSays$Crowd" (18 : Nat) "EldestSays$Crowd" "offer" "[I") ∈ lw_tbl := lw_mem 209 (by decide +kernel)
theorem kw_210 : (Jvm.Cond.fieldLink "EldestSays$Crowd" (21 : Nat) "EldestSays$Crowd" "clever" "LEldestSays$Clever;") ∈ lw_tbl := lw_mem 210 (by decide +kernel)
theorem kw_211 : (Jvm.Cond.fieldLink "EldestSays$Crowd" (31 : Nat) "EldestSays$Crowd" "size" "I") ∈ lw_tbl := lw_mem 211 (by decide +kernel)
theorem kw_212 : (Jvm.Cond.fieldLink "EldestSays$Crowd" (35 : Nat) "EldestSays$Crowd" "coins" "I") ∈ lw_tbl := lw_mem 212 (by decide +kernel)
theorem kw_213 : (Jvm.Cond.laysFinal "EldestSays$Crowd" "EldestSays$Crowd" "shares" "[I") ∈ lw_tbl := lw_mem 213 (by decide +kernel)
theorem kw_214 : (Jvm.Cond.soleField "EldestSays$Crowd" "shares") ∈ lw_tbl := lw_mem 214 (by decide +kernel)
theorem kw_215 : (Jvm.Cond.laysFinal "EldestSays$Crowd" "EldestSays$Crowd" "asked" "[I") ∈ lw_tbl := lw_mem 215 (by decide +kernel)
theorem kw_216 : (Jvm.Cond.soleField "EldestSays$Crowd" "asked") ∈ lw_tbl := lw_mem 216 (by decide +kernel)
theorem kw_217 : (Jvm.Cond.laysFinal "EldestSays$Crowd" "EldestSays$Crowd" "offer" "[I") ∈ lw_tbl := lw_mem 217 (by decide +kernel)
theorem kw_218 : (Jvm.Cond.soleField "EldestSays$Crowd" "offer") ∈ lw_tbl := lw_mem 218 (by decide +kernel)
theorem kw_219 : (Jvm.Cond.laysFinal "EldestSays$Crowd" "EldestSays$Crowd" "clever" "LEldestSays$Clever;") ∈ lw_tbl := lw_mem 219 (by decide +kernel)
theorem kw_220 : (Jvm.Cond.soleField "EldestSays$Crowd" "clever") ∈ lw_tbl := lw_mem 220 (by decide +kernel)
theorem kw_221 : (Jvm.Cond.lays "EldestSays$Crowd" "EldestSays$Crowd" "size" "I") ∈ lw_tbl := lw_mem 221 (by decide +kernel)
theorem kw_222 : (Jvm.Cond.soleField "EldestSays$Crowd" "size") ∈ lw_tbl := lw_mem 222 (by decide +kernel)
theorem kw_223 : (Jvm.Cond.lays "EldestSays$Crowd" "EldestSays$Crowd" "coins" "I") ∈ lw_tbl := lw_mem 223 (by decide +kernel)
theorem kw_224 : (Jvm.Cond.soleField "EldestSays$Crowd" "coins") ∈ lw_tbl := lw_mem 224 (by decide +kernel)
theorem kw_225 : (Jvm.Cond.superclass "EldestSays$Crowd" "java/lang/Object") ∈ lw_tbl := lw_mem 225 (by decide +kernel)
theorem kw_226 : (Jvm.Cond.fieldLink "EldestSays" (67 : Nat) "EldestSays" "plans" "LEldestSays$Plans;") ∈ lw_tbl := lw_mem 226 (by decide +kernel)
theorem kw_227 : (Jvm.Cond.fieldLink "EldestSays" (71 : Nat) "EldestSays" "trialPlans" "LEldestSays$Plans;") ∈ lw_tbl := lw_mem 227 (by decide +kernel)
theorem kw_228 : (Jvm.Cond.fieldLink "EldestSays" (77 : Nat) "EldestSays" "now" "LEldestSays$Evening;") ∈ lw_tbl := lw_mem 228 (by decide +kernel)
theorem kw_229 : (Jvm.Cond.fieldLink "EldestSays" (80 : Nat) "EldestSays" "trial" "LEldestSays$Evening;") ∈ lw_tbl := lw_mem 229 (by decide +kernel)
theorem kw_230 : (Jvm.Cond.fieldLink "EldestSays" (10 : Nat) "EldestSays" "kept" "LEldestSays$Evening;") ∈ lw_tbl := lw_mem 230 (by decide +kernel)
theorem kw_231 : (Jvm.Cond.fieldLink "EldestSays" (19 : Nat) "EldestSays" "letters" "LEldestSays$Letters;") ∈ lw_tbl := lw_mem 231 (by decide +kernel)
theorem kw_232 : (Jvm.Cond.fieldLink "EldestSays" (88 : Nat) "EldestSays" "crowd" "LEldestSays$Crowd;") ∈ lw_tbl := lw_mem 232 (by decide +kernel)
theorem kw_233 : (Jvm.Cond.fieldLink "EldestSays" (23 : Nat) "EldestSays" "order" "[I") ∈ lw_tbl := lw_mem 233 (by decide +kernel)
theorem kw_234 : (Jvm.Cond.fieldLink "EldestSays" (27 : Nat) "EldestSays" "told" "[I") ∈ lw_tbl := lw_mem 234 (by decide +kernel)
theorem kw_235 : (Jvm.Cond.fieldLink "EldestSays" (30 : Nat) "EldestSays" "refusals" "[I") ∈ lw_tbl := lw_mem 235 (by decide +kernel)
theorem kw_236 : (Jvm.Cond.fieldLink "EldestSays" (33 : Nat) "EldestSays" "chances" "[J") ∈ lw_tbl := lw_mem 236 (by decide +kernel)
theorem kw_237 : (Jvm.Cond.fieldLink "EldestSays" (157 : Nat) "EldestSays" "toldSize" "I") ∈ lw_tbl := lw_mem 237 (by decide +kernel)
theorem kw_238 : (Jvm.Cond.fieldLink "EldestSays" (244 : Nat) "EldestSays" "isKept" "Z") ∈ lw_tbl := lw_mem 238 (by decide +kernel)
theorem kw_239 : (Jvm.Cond.fieldLink "EldestSays" (37 : Nat) "EldestSays" "isStale" "Z") ∈ lw_tbl := lw_mem 239 (by decide +kernel)
theorem kw_240 : (Jvm.Cond.laysFinal "EldestSays" "EldestSays" "plans" "LEldestSays$Plans;") ∈ lw_tbl := lw_mem 240 (by decide +kernel)
theorem kw_241 : (Jvm.Cond.soleField "EldestSays" "plans") ∈ lw_tbl := lw_mem 241 (by decide +kernel)
theorem kw_242 : (Jvm.Cond.laysFinal "EldestSays" "EldestSays" "trialPlans" "LEldestSays$Plans;") ∈ lw_tbl := lw_mem 242 (by decide +kernel)
theorem kw_243 : (Jvm.Cond.soleField "EldestSays" "trialPlans") ∈ lw_tbl := lw_mem 243 (by decide +kernel)
theorem kw_244 : (Jvm.Cond.laysFinal "EldestSays" "EldestSays" "now" "LEldestSays$Evening;") ∈ lw_tbl := lw_mem 244 (by decide +kernel)
theorem kw_245 : (Jvm.Cond.soleField "EldestSays" "now") ∈ lw_tbl := lw_mem 245 (by decide +kernel)
theorem kw_246 : (Jvm.Cond.laysFinal "EldestSays" "EldestSays" "trial" "LEldestSays$Evening;") ∈ lw_tbl := lw_mem 246 (by decide +kernel)
theorem kw_247 : (Jvm.Cond.soleField "EldestSays" "trial") ∈ lw_tbl := lw_mem 247 (by decide +kernel)
theorem kw_248 : (Jvm.Cond.laysFinal "EldestSays" "EldestSays" "kept" "LEldestSays$Evening;") ∈ lw_tbl := lw_mem 248 (by decide +kernel)
theorem kw_249 : (Jvm.Cond.soleField "EldestSays" "kept") ∈ lw_tbl := lw_mem 249 (by decide +kernel)
theorem kw_250 : (Jvm.Cond.laysFinal "EldestSays" "EldestSays" "letters" "LEldestSays$Letters;") ∈ lw_tbl := lw_mem 250 (by decide +kernel)
theorem kw_251 : (Jvm.Cond.soleField "EldestSays" "letters") ∈ lw_tbl := lw_mem 251 (by decide +kernel)
theorem kw_252 : (Jvm.Cond.laysFinal "EldestSays" "EldestSays" "crowd" "LEldestSays$Crowd;") ∈ lw_tbl := lw_mem 252 (by decide +kernel)
theorem kw_253 : (Jvm.Cond.soleField "EldestSays" "crowd") ∈ lw_tbl := lw_mem 253 (by decide +kernel)
theorem kw_254 : (Jvm.Cond.laysFinal "EldestSays" "EldestSays" "order" "[I") ∈ lw_tbl := lw_mem 254 (by decide +kernel)
theorem kw_255 : (Jvm.Cond.soleField "EldestSays" "order") ∈ lw_tbl := lw_mem 255 (by decide +kernel)
theorem kw_256 : (Jvm.Cond.laysFinal "EldestSays" "EldestSays" "told" "[I") ∈ lw_tbl := lw_mem 256 (by decide +kernel)
theorem kw_257 : (Jvm.Cond.soleField "EldestSays" "told") ∈ lw_tbl := lw_mem 257 (by decide +kernel)
theorem kw_258 : (Jvm.Cond.laysFinal "EldestSays" "EldestSays" "refusals" "[I") ∈ lw_tbl := lw_mem 258 (by decide +kernel)
theorem kw_259 : (Jvm.Cond.soleField "EldestSays" "refusals") ∈ lw_tbl := lw_mem 259 (by decide +kernel)
theorem kw_260 : (Jvm.Cond.laysFinal "EldestSays" "EldestSays" "chances" "[J") ∈ lw_tbl := lw_mem 260 (by decide +kernel)
theorem kw_261 : (Jvm.Cond.soleField "EldestSays" "chances") ∈ lw_tbl := lw_mem 261 (by decide +kernel)
theorem kw_262 : (Jvm.Cond.lays "EldestSays" "EldestSays" "toldSize" "I") ∈ lw_tbl := lw_mem 262 (by decide +kernel)
theorem kw_263 : (Jvm.Cond.soleField "EldestSays" "toldSize") ∈ lw_tbl := lw_mem 263 (by decide +kernel)
theorem kw_264 : (Jvm.Cond.lays "EldestSays" "EldestSays" "isKept" "Z") ∈ lw_tbl := lw_mem 264 (by decide +kernel)
theorem kw_265 : (Jvm.Cond.soleField "EldestSays" "isKept") ∈ lw_tbl := lw_mem 265 (by decide +kernel)
theorem kw_266 : (Jvm.Cond.lays "EldestSays" "EldestSays" "isStale" "Z") ∈ lw_tbl := lw_mem 266 (by decide +kernel)
theorem kw_267 : (Jvm.Cond.soleField "EldestSays" "isStale") ∈ lw_tbl := lw_mem 267 (by decide +kernel)
theorem kw_268 : (Jvm.Cond.superclass "EldestSays" "java/lang/Object") ∈ lw_tbl := lw_mem 268 (by decide +kernel)
theorem kw_269 : (Jvm.Cond.methodLink "EldestSaysLaw" (13 : Nat) ({ cls := "EldestSays", name := "feed", desc := "(I)I" } : Jvm.MethodName)) ∈ lw_tbl := lw_mem 269 (by decide +kernel)
theorem kw_270 : (Jvm.Cond.instanceMethod ({ cls := "EldestSays", name := "feed", desc := "(I)I" } : Jvm.MethodName)) ∈ lw_tbl := lw_mem 270 (by decide +kernel)
theorem kw_271 : (Jvm.Cond.selects "EldestSays" ({ cls := "EldestSays", name := "feed", desc := "(I)I" } : Jvm.MethodName) ({ cls := "EldestSays", name := "feed", desc := "(I)I" } : Jvm.MethodName)) ∈ lw_tbl := lw_mem 271 (by decide +kernel)
theorem kw_272 : (Jvm.Cond.code ({ cls := "EldestSays", name := "feed", desc := "(I)I" } : Jvm.MethodName) prog_1_method_2_code (2 : Nat) (Option.some Jvm.ClassFile.FieldType.int)) ∈ lw_tbl := lw_mem 272 (by decide +kernel)
theorem kw_273 : (Jvm.Cond.methodLink "EldestSays" (92 : Nat) ({ cls := "EldestSays", name := "refuse", desc := "(I)I" } : Jvm.MethodName)) ∈ lw_tbl := lw_mem 273 (by decide +kernel)
theorem kw_274 : (Jvm.Cond.privateMethod ({ cls := "EldestSays", name := "refuse", desc := "(I)I" } : Jvm.MethodName)) ∈ lw_tbl := lw_mem 274 (by decide +kernel)
theorem kw_275 : (Jvm.Cond.instanceMethod ({ cls := "EldestSays", name := "refuse", desc := "(I)I" } : Jvm.MethodName)) ∈ lw_tbl := lw_mem 275 (by decide +kernel)
theorem kw_276 : (Jvm.Cond.code ({ cls := "EldestSays", name := "refuse", desc := "(I)I" } : Jvm.MethodName) prog_1_method_32_code (2 : Nat) (Option.some Jvm.ClassFile.FieldType.int)) ∈ lw_tbl := lw_mem 276 (by decide +kernel)
theorem kw_277 : (Jvm.Cond.methodLink "EldestSays" (96 : Nat) ({ cls := "EldestSays$Letters", name := "isFull", desc := "()Z" } : Jvm.MethodName)) ∈ lw_tbl := lw_mem 277 (by decide +kernel)
theorem kw_278 : (Jvm.Cond.instanceMethod ({ cls := "EldestSays$Letters", name := "isFull", desc := "()Z" } : Jvm.MethodName)) ∈ lw_tbl := lw_mem 278 (by decide +kernel)
theorem kw_279 : (Jvm.Cond.selects "EldestSays$Letters" ({ cls := "EldestSays$Letters", name := "isFull", desc := "()Z" } : Jvm.MethodName) ({ cls := "EldestSays$Letters", name := "isFull", desc := "()Z" } : Jvm.MethodName)) ∈ lw_tbl := lw_mem 279 (by decide +kernel)
theorem kw_280 : (Jvm.Cond.code ({ cls := "EldestSays$Letters", name := "isFull", desc := "()Z" } : Jvm.MethodName) prog_9_method_2_code (1 : Nat) (Option.some Jvm.ClassFile.FieldType.boolean)) ∈ lw_tbl := lw_mem 280 (by decide +kernel)
theorem kw_281 : (Jvm.Cond.methodLink "EldestSays" (100 : Nat) ({ cls := "EldestSays$Letters", name := "add", desc := "(C)I" } : Jvm.MethodName)) ∈ lw_tbl := lw_mem 281 (by decide +kernel)
theorem kw_282 : (Jvm.Cond.instanceMethod ({ cls := "EldestSays$Letters", name := "add", desc := "(C)I" } : Jvm.MethodName)) ∈ lw_tbl := lw_mem 282 (by decide +kernel)
theorem kw_283 : (Jvm.Cond.selects "EldestSays$Letters" ({ cls := "EldestSays$Letters", name := "add", desc := "(C)I" } : Jvm.MethodName) ({ cls := "EldestSays$Letters", name := "add", desc := "(C)I" } : Jvm.MethodName)) ∈ lw_tbl := lw_mem 283 (by decide +kernel)
theorem kw_284 : (Jvm.Cond.code ({ cls := "EldestSays$Letters", name := "add", desc := "(C)I" } : Jvm.MethodName) prog_9_method_3_code (2 : Nat) (Option.some Jvm.ClassFile.FieldType.int)) ∈ lw_tbl := lw_mem 284 (by decide +kernel)
theorem kw_285 : (Jvm.Cond.methodLink "EldestSaysLaw" (18 : Nat) ({ cls := "EldestSays", name := "beach", desc := "()I" } : Jvm.MethodName)) ∈ lw_tbl := lw_mem 285 (by decide +kernel)
theorem kw_286 : (Jvm.Cond.instanceMethod ({ cls := "EldestSays", name := "beach", desc := "()I" } : Jvm.MethodName)) ∈ lw_tbl := lw_mem 286 (by decide +kernel)
theorem kw_287 : (Jvm.Cond.selects "EldestSays" ({ cls := "EldestSays", name := "beach", desc := "()I" } : Jvm.MethodName) ({ cls := "EldestSays", name := "beach", desc := "()I" } : Jvm.MethodName)) ∈ lw_tbl := lw_mem 287 (by decide +kernel)
theorem kw_288 : (Jvm.Cond.code ({ cls := "EldestSays", name := "beach", desc := "()I" } : Jvm.MethodName) prog_1_method_3_code (2 : Nat) (Option.some Jvm.ClassFile.FieldType.int)) ∈ lw_tbl := lw_mem 288 (by decide +kernel)
theorem kw_289 : (Jvm.Cond.methodLink "EldestSays" (104 : Nat) ({ cls := "EldestSays$Letters", name := "fault", desc := "(LEldestSays$Evening;)I" } : Jvm.MethodName)) ∈ lw_tbl := lw_mem 289 (by decide +kernel)
theorem kw_290 : (Jvm.Cond.instanceMethod ({ cls := "EldestSays$Letters", name := "fault", desc := "(LEldestSays$Evening;)I" } : Jvm.MethodName)) ∈ lw_tbl := lw_mem 290 (by decide +kernel)
theorem kw_291 : (Jvm.Cond.selects "EldestSays$Letters" ({ cls := "EldestSays$Letters", name := "fault", desc := "(LEldestSays$Evening;)I" } : Jvm.MethodName) ({ cls := "EldestSays$Letters", name := "fault", desc := "(LEldestSays$Evening;)I" } : Jvm.MethodName)) ∈ lw_tbl := lw_mem 291 (by decide +kernel)
theorem kw_292 : (Jvm.Cond.code ({ cls := "EldestSays$Letters", name := "fault", desc := "(LEldestSays$Evening;)I" } : Jvm.MethodName) prog_9_method_5_code (4 : Nat) (Option.some Jvm.ClassFile.FieldType.int)) ∈ lw_tbl := lw_mem 292 (by decide +kernel)
theorem kw_293 : (Jvm.Cond.methodLink "EldestSays$Letters" (19 : Nat) ({ cls := "EldestSays$Letters", name := "brokenAt", desc := "()I" } : Jvm.MethodName)) ∈ lw_tbl := lw_mem 293 (by decide +kernel)
theorem kw_294 : (Jvm.Cond.privateMethod ({ cls := "EldestSays$Letters", name := "brokenAt", desc := "()I" } : Jvm.MethodName)) ∈ lw_tbl := lw_mem 294 (by decide +kernel)
theorem kw_295 : (Jvm.Cond.instanceMethod ({ cls := "EldestSays$Letters", name := "brokenAt", desc := "()I" } : Jvm.MethodName)) ∈ lw_tbl := lw_mem 295 (by decide +kernel)
theorem kw_296 : (Jvm.Cond.code ({ cls := "EldestSays$Letters", name := "brokenAt", desc := "()I" } : Jvm.MethodName) prog_9_method_7_code (6 : Nat) (Option.some Jvm.ClassFile.FieldType.int)) ∈ lw_tbl := lw_mem 296 (by decide +kernel)
theorem kw_297 : (Jvm.Cond.methodLink "EldestSays$Letters" (31 : Nat) ({ cls := "EldestSays$Letters", name := "digitsOf", desc := "(C)I" } : Jvm.MethodName)) ∈ lw_tbl := lw_mem 297 (by decide +kernel)
theorem kw_298 : (Jvm.Cond.static ({ cls := "EldestSays$Letters", name := "digitsOf", desc := "(C)I" } : Jvm.MethodName)) ∈ lw_tbl := lw_mem 298 (by decide +kernel)
end
section
theorem kw_299 : (Jvm.Cond.code ({ cls := "EldestSays$Letters", name := "digitsOf", desc := "(C)I" } : Jvm.MethodName) prog_9_method_8_code (1 : Nat) (Option.some Jvm.ClassFile.FieldType.int)) ∈ lw_tbl := lw_mem 299 (by decide +kernel)
theorem kw_300 : (Jvm.Cond.methodLink "EldestSays$Letters" (35 : Nat) ({ cls := "EldestSays$Letters", name := "isDigit", desc := "(C)Z" } : Jvm.MethodName)) ∈ lw_tbl := lw_mem 300 (by decide +kernel)
theorem kw_301 : (Jvm.Cond.static ({ cls := "EldestSays$Letters", name := "isDigit", desc := "(C)Z" } : Jvm.MethodName)) ∈ lw_tbl := lw_mem 301 (by decide +kernel)
theorem kw_302 : (Jvm.Cond.code ({ cls := "EldestSays$Letters", name := "isDigit", desc := "(C)Z" } : Jvm.MethodName) prog_9_method_9_code (1 : Nat) (Option.some Jvm.ClassFile.FieldType.boolean)) ∈ lw_tbl := lw_mem 302 (by decide +kernel)
theorem kw_303 : (Jvm.Cond.methodLink "EldestSays$Letters" (23 : Nat) ({ cls := "EldestSays$Letters", name := "wrongAt", desc := "(LEldestSays$Evening;)I" } : Jvm.MethodName)) ∈ lw_tbl := lw_mem 303 (by decide +kernel)
theorem kw_304 : (Jvm.Cond.privateMethod ({ cls := "EldestSays$Letters", name := "wrongAt", desc := "(LEldestSays$Evening;)I" } : Jvm.MethodName)) ∈ lw_tbl := lw_mem 304 (by decide +kernel)
theorem kw_305 : (Jvm.Cond.instanceMethod ({ cls := "EldestSays$Letters", name := "wrongAt", desc := "(LEldestSays$Evening;)I" } : Jvm.MethodName)) ∈ lw_tbl := lw_mem 305 (by decide +kernel)
theorem kw_306 : (Jvm.Cond.code ({ cls := "EldestSays$Letters", name := "wrongAt", desc := "(LEldestSays$Evening;)I" } : Jvm.MethodName) prog_9_method_10_code (5 : Nat) (Option.some Jvm.ClassFile.FieldType.int)) ∈ lw_tbl := lw_mem 306 (by decide +kernel)
theorem kw_307 : (Jvm.Cond.methodLink "EldestSays$Letters" (46 : Nat) ({ cls := "EldestSays$Letters", name := "isRight", desc := "(IIZ)Z" } : Jvm.MethodName)) ∈ lw_tbl := lw_mem 307 (by decide +kernel)
theorem kw_308 : (Jvm.Cond.privateMethod ({ cls := "EldestSays$Letters", name := "isRight", desc := "(IIZ)Z" } : Jvm.MethodName)) ∈ lw_tbl := lw_mem 308 (by decide +kernel)
theorem kw_309 : (Jvm.Cond.instanceMethod ({ cls := "EldestSays$Letters", name := "isRight", desc := "(IIZ)Z" } : Jvm.MethodName)) ∈ lw_tbl := lw_mem 309 (by decide +kernel)
theorem kw_310 : (Jvm.Cond.code ({ cls := "EldestSays$Letters", name := "isRight", desc := "(IIZ)Z" } : Jvm.MethodName) prog_9_method_11_code (7 : Nat) (Option.some Jvm.ClassFile.FieldType.boolean)) ∈ lw_tbl := lw_mem 310 (by decide +kernel)
theorem kw_311 : (Jvm.Cond.methodLink "EldestSays$Letters" (50 : Nat) ({ cls := "EldestSays$Letters", name := "digit", desc := "(I)I" } : Jvm.MethodName)) ∈ lw_tbl := lw_mem 311 (by decide +kernel)
theorem kw_312 : (Jvm.Cond.privateMethod ({ cls := "EldestSays$Letters", name := "digit", desc := "(I)I" } : Jvm.MethodName)) ∈ lw_tbl := lw_mem 312 (by decide +kernel)
theorem kw_313 : (Jvm.Cond.instanceMethod ({ cls := "EldestSays$Letters", name := "digit", desc := "(I)I" } : Jvm.MethodName)) ∈ lw_tbl := lw_mem 313 (by decide +kernel)
theorem kw_314 : (Jvm.Cond.code ({ cls := "EldestSays$Letters", name := "digit", desc := "(I)I" } : Jvm.MethodName) prog_9_method_13_code (2 : Nat) (Option.some Jvm.ClassFile.FieldType.int)) ∈ lw_tbl := lw_mem 314 (by decide +kernel)
theorem kw_315 : (Jvm.Cond.fieldLinkNest "EldestSays$Letters" (54 : Nat) "EldestSays" "GREATEST" "[I" "EldestSays") ∈ lw_tbl := lw_mem 315 (by decide +kernel)
theorem kw_316 : (Jvm.Cond.laysStatic "EldestSays" "GREATEST" "[I") ∈ lw_tbl := lw_mem 316 (by decide +kernel)
theorem kw_317 : (Jvm.Cond.methodLink "EldestSays" (108 : Nat) ({ cls := "EldestSays$Letters", name := "tell", desc := "(LEldestSays$Evening;)I" } : Jvm.MethodName)) ∈ lw_tbl := lw_mem 317 (by decide +kernel)
theorem kw_318 : (Jvm.Cond.instanceMethod ({ cls := "EldestSays$Letters", name := "tell", desc := "(LEldestSays$Evening;)I" } : Jvm.MethodName)) ∈ lw_tbl := lw_mem 318 (by decide +kernel)
theorem kw_319 : (Jvm.Cond.selects "EldestSays$Letters" ({ cls := "EldestSays$Letters", name := "tell", desc := "(LEldestSays$Evening;)I" } : Jvm.MethodName) ({ cls := "EldestSays$Letters", name := "tell", desc := "(LEldestSays$Evening;)I" } : Jvm.MethodName)) ∈ lw_tbl := lw_mem 319 (by decide +kernel)
theorem kw_320 : (Jvm.Cond.code ({ cls := "EldestSays$Letters", name := "tell", desc := "(LEldestSays$Evening;)I" } : Jvm.MethodName) prog_9_method_6_code (5 : Nat) (Option.some Jvm.ClassFile.FieldType.int)) ∈ lw_tbl := lw_mem 320 (by decide +kernel)
theorem kw_321 : (Jvm.Cond.methodLink "EldestSays$Letters" (27 : Nat) ({ cls := "EldestSays$Letters", name := "tellOne", desc := "(LEldestSays$Evening;II)V" } : Jvm.MethodName)) ∈ lw_tbl := lw_mem 321 (by decide +kernel)
theorem kw_322 : (Jvm.Cond.privateMethod ({ cls := "EldestSays$Letters", name := "tellOne", desc := "(LEldestSays$Evening;II)V" } : Jvm.MethodName)) ∈ lw_tbl := lw_mem 322 (by decide +kernel)
theorem kw_323 : (Jvm.Cond.instanceMethod ({ cls := "EldestSays$Letters", name := "tellOne", desc := "(LEldestSays$Evening;II)V" } : Jvm.MethodName)) ∈ lw_tbl := lw_mem 323 (by decide +kernel)
theorem kw_324 : (Jvm.Cond.code ({ cls := "EldestSays$Letters", name := "tellOne", desc := "(LEldestSays$Evening;II)V" } : Jvm.MethodName) prog_9_method_12_code (7 : Nat) (Option.none : Option Jvm.ClassFile.FieldType)) ∈ lw_tbl := lw_mem 324 (by decide +kernel)
theorem kw_325 : (Jvm.Cond.methodLink "EldestSays$Letters" (58 : Nat) ({ cls := "EldestSays$Evening", name := "add", desc := "(III)V" } : Jvm.MethodName)) ∈ lw_tbl := lw_mem 325 (by decide +kernel)
theorem kw_326 : (Jvm.Cond.instanceMethod ({ cls := "EldestSays$Evening", name := "add", desc := "(III)V" } : Jvm.MethodName)) ∈ lw_tbl := lw_mem 326 (by decide +kernel)
theorem kw_327 : (Jvm.Cond.selects "EldestSays$Evening" ({ cls := "EldestSays$Evening", name := "add", desc := "(III)V" } : Jvm.MethodName) ({ cls := "EldestSays$Evening", name := "add", desc := "(III)V" } : Jvm.MethodName)) ∈ lw_tbl := lw_mem 327 (by decide +kernel)
theorem kw_328 : (Jvm.Cond.code ({ cls := "EldestSays$Evening", name := "add", desc := "(III)V" } : Jvm.MethodName) prog_6_method_5_code (4 : Nat) (Option.none : Option Jvm.ClassFile.FieldType)) ∈ lw_tbl := lw_mem 328 (by decide +kernel)
theorem kw_329 : (Jvm.Cond.methodLink "EldestSays" (111 : Nat) ({ cls := "EldestSays$Letters", name := "forget", desc := "()V" } : Jvm.MethodName)) ∈ lw_tbl := lw_mem 329 (by decide +kernel)
theorem kw_330 : (Jvm.Cond.instanceMethod ({ cls := "EldestSays$Letters", name := "forget", desc := "()V" } : Jvm.MethodName)) ∈ lw_tbl := lw_mem 330 (by decide +kernel)
theorem kw_331 : (Jvm.Cond.selects "EldestSays$Letters" ({ cls := "EldestSays$Letters", name := "forget", desc := "()V" } : Jvm.MethodName) ({ cls := "EldestSays$Letters", name := "forget", desc := "()V" } : Jvm.MethodName)) ∈ lw_tbl := lw_mem 331 (by decide +kernel)
theorem kw_332 : (Jvm.Cond.code ({ cls := "EldestSays$Letters", name := "forget", desc := "()V" } : Jvm.MethodName) prog_9_method_4_code (1 : Nat) (Option.none : Option Jvm.ClassFile.FieldType)) ∈ lw_tbl := lw_mem 332 (by decide +kernel)
theorem kw_333 : (Jvm.Cond.methodLink "EldestSaysLaw" (23 : Nat) ({ cls := "EldestSays", name := "man", desc := "(II)I" } : Jvm.MethodName)) ∈ lw_tbl := lw_mem 333 (by decide +kernel)
theorem kw_334 : (Jvm.Cond.instanceMethod ({ cls := "EldestSays", name := "man", desc := "(II)I" } : Jvm.MethodName)) ∈ lw_tbl := lw_mem 334 (by decide +kernel)
theorem kw_335 : (Jvm.Cond.selects "EldestSays" ({ cls := "EldestSays", name := "man", desc := "(II)I" } : Jvm.MethodName) ({ cls := "EldestSays", name := "man", desc := "(II)I" } : Jvm.MethodName)) ∈ lw_tbl := lw_mem 335 (by decide +kernel)
theorem kw_336 : (Jvm.Cond.code ({ cls := "EldestSays", name := "man", desc := "(II)I" } : Jvm.MethodName) prog_1_method_4_code (3 : Nat) (Option.some Jvm.ClassFile.FieldType.int)) ∈ lw_tbl := lw_mem 336 (by decide +kernel)
theorem kw_337 : (Jvm.Cond.methodLink "EldestSays" (114 : Nat) ({ cls := "EldestSays$Evening", name := "has", desc := "(I)Z" } : Jvm.MethodName)) ∈ lw_tbl := lw_mem 337 (by decide +kernel)
theorem kw_338 : (Jvm.Cond.instanceMethod ({ cls := "EldestSays$Evening", name := "has", desc := "(I)Z" } : Jvm.MethodName)) ∈ lw_tbl := lw_mem 338 (by decide +kernel)
theorem kw_339 : (Jvm.Cond.selects "EldestSays$Evening" ({ cls := "EldestSays$Evening", name := "has", desc := "(I)Z" } : Jvm.MethodName) ({ cls := "EldestSays$Evening", name := "has", desc := "(I)Z" } : Jvm.MethodName)) ∈ lw_tbl := lw_mem 339 (by decide +kernel)
theorem kw_340 : (Jvm.Cond.code ({ cls := "EldestSays$Evening", name := "has", desc := "(I)Z" } : Jvm.MethodName) prog_6_method_3_code (2 : Nat) (Option.some Jvm.ClassFile.FieldType.boolean)) ∈ lw_tbl := lw_mem 340 (by decide +kernel)
theorem kw_341 : (Jvm.Cond.methodLink "EldestSaysLaw" (28 : Nat) ({ cls := "EldestSays", name := "set", desc := "(II)I" } : Jvm.MethodName)) ∈ lw_tbl := lw_mem 341 (by decide +kernel)
theorem kw_342 : (Jvm.Cond.instanceMethod ({ cls := "EldestSays", name := "set", desc := "(II)I" } : Jvm.MethodName)) ∈ lw_tbl := lw_mem 342 (by decide +kernel)
theorem kw_343 : (Jvm.Cond.selects "EldestSays" ({ cls := "EldestSays", name := "set", desc := "(II)I" } : Jvm.MethodName) ({ cls := "EldestSays", name := "set", desc := "(II)I" } : Jvm.MethodName)) ∈ lw_tbl := lw_mem 343 (by decide +kernel)
theorem kw_344 : (Jvm.Cond.code ({ cls := "EldestSays", name := "set", desc := "(II)I" } : Jvm.MethodName) prog_1_method_5_code (4 : Nat) (Option.some Jvm.ClassFile.FieldType.int)) ∈ lw_tbl := lw_mem 344 (by decide +kernel)
theorem kw_345 : (Jvm.Cond.fieldLink "EldestSays" (127 : Nat) "EldestSays" "GREATEST" "[I") ∈ lw_tbl := lw_mem 345 (by decide +kernel)
theorem kw_346 : (Jvm.Cond.methodLink "EldestSaysLaw" (32 : Nat) ({ cls := "EldestSays", name := "offered", desc := "(II)I" } : Jvm.MethodName)) ∈ lw_tbl := lw_mem 346 (by decide +kernel)
theorem kw_347 : (Jvm.Cond.instanceMethod ({ cls := "EldestSays", name := "offered", desc := "(II)I" } : Jvm.MethodName)) ∈ lw_tbl := lw_mem 347 (by decide +kernel)
theorem kw_348 : (Jvm.Cond.selects "EldestSays" ({ cls := "EldestSays", name := "offered", desc := "(II)I" } : Jvm.MethodName) ({ cls := "EldestSays", name := "offered", desc := "(II)I" } : Jvm.MethodName)) ∈ lw_tbl := lw_mem 348 (by decide +kernel)
theorem kw_349 : (Jvm.Cond.code ({ cls := "EldestSays", name := "offered", desc := "(II)I" } : Jvm.MethodName) prog_1_method_6_code (3 : Nat) (Option.some Jvm.ClassFile.FieldType.int)) ∈ lw_tbl := lw_mem 349 (by decide +kernel)
theorem kw_350 : (Jvm.Cond.methodLink "EldestSays" (133 : Nat) ({ cls := "EldestSays", name := "solved", desc := "()LEldestSays$Plans;" } : Jvm.MethodName)) ∈ lw_tbl := lw_mem 350 (by decide +kernel)
theorem kw_351 : (Jvm.Cond.privateMethod ({ cls := "EldestSays", name := "solved", desc := "()LEldestSays$Plans;" } : Jvm.MethodName)) ∈ lw_tbl := lw_mem 351 (by decide +kernel)
theorem kw_352 : (Jvm.Cond.instanceMethod ({ cls := "EldestSays", name := "solved", desc := "()LEldestSays$Plans;" } : Jvm.MethodName)) ∈ lw_tbl := lw_mem 352 (by decide +kernel)
theorem kw_353 : (Jvm.Cond.code ({ cls := "EldestSays", name := "solved", desc := "()LEldestSays$Plans;" } : Jvm.MethodName) prog_1_method_33_code (1 : Nat) (Option.some (Jvm.ClassFile.FieldType.object "EldestSays$Plans"))) ∈ lw_tbl := lw_mem 353 (by decide +kernel)
theorem kw_354 : (Jvm.Cond.methodLink "EldestSays" (190 : Nat) ({ cls := "EldestSays$Plans", name := "solve", desc := "(I)V" } : Jvm.MethodName)) ∈ lw_tbl := lw_mem 354 (by decide +kernel)
theorem kw_355 : (Jvm.Cond.instanceMethod ({ cls := "EldestSays$Plans", name := "solve", desc := "(I)V" } : Jvm.MethodName)) ∈ lw_tbl := lw_mem 355 (by decide +kernel)
theorem kw_356 : (Jvm.Cond.selects "EldestSays$Plans" ({ cls := "EldestSays$Plans", name := "solve", desc := "(I)V" } : Jvm.MethodName) ({ cls := "EldestSays$Plans", name := "solve", desc := "(I)V" } : Jvm.MethodName)) ∈ lw_tbl := lw_mem 356 (by decide +kernel)
theorem kw_357 : (Jvm.Cond.code ({ cls := "EldestSays$Plans", name := "solve", desc := "(I)V" } : Jvm.MethodName) prog_11_method_2_code (3 : Nat) (Option.none : Option Jvm.ClassFile.FieldType)) ∈ lw_tbl := lw_mem 357 (by decide +kernel)
theorem kw_358 : (Jvm.Cond.methodLink "EldestSays$Plans" (59 : Nat) ({ cls := "EldestSays$Plans", name := "askYounger", desc := "(I)V" } : Jvm.MethodName)) ∈ lw_tbl := lw_mem 358 (by decide +kernel)
theorem kw_359 : (Jvm.Cond.privateMethod ({ cls := "EldestSays$Plans", name := "askYounger", desc := "(I)V" } : Jvm.MethodName)) ∈ lw_tbl := lw_mem 359 (by decide +kernel)
theorem kw_360 : (Jvm.Cond.instanceMethod ({ cls := "EldestSays$Plans", name := "askYounger", desc := "(I)V" } : Jvm.MethodName)) ∈ lw_tbl := lw_mem 360 (by decide +kernel)
theorem kw_361 : (Jvm.Cond.code ({ cls := "EldestSays$Plans", name := "askYounger", desc := "(I)V" } : Jvm.MethodName) prog_11_method_4_code (4 : Nat) (Option.none : Option Jvm.ClassFile.FieldType)) ∈ lw_tbl := lw_mem 361 (by decide +kernel)
theorem kw_362 : (Jvm.Cond.methodLink "EldestSays$Plans" (66 : Nat) ({ cls := "EldestSays$Plans", name := "kindOf", desc := "(I)LEldestSays$Clever;" } : Jvm.MethodName)) ∈ lw_tbl := lw_mem 362 (by decide +kernel)
theorem kw_363 : (Jvm.Cond.privateMethod ({ cls := "EldestSays$Plans", name := "kindOf", desc := "(I)LEldestSays$Clever;" } : Jvm.MethodName)) ∈ lw_tbl := lw_mem 363 (by decide +kernel)
theorem kw_364 : (Jvm.Cond.instanceMethod ({ cls := "EldestSays$Plans", name := "kindOf", desc := "(I)LEldestSays$Clever;" } : Jvm.MethodName)) ∈ lw_tbl := lw_mem 364 (by decide +kernel)
theorem kw_365 : (Jvm.Cond.code ({ cls := "EldestSays$Plans", name := "kindOf", desc := "(I)LEldestSays$Clever;" } : Jvm.MethodName) prog_11_method_3_code (3 : Nat) (Option.some (Jvm.ClassFile.FieldType.object "EldestSays$Clever"))) ∈ lw_tbl := lw_mem 365 (by decide +kernel)
theorem kw_366 : (Jvm.Cond.methodLink "EldestSays$Plans" (90 : Nat) ({ cls := "EldestSays$Clever", name := "ask", desc := "(III)I" } : Jvm.MethodName)) ∈ lw_tbl := lw_mem 366 (by decide +kernel)
theorem kw_367 : (Jvm.Cond.instanceMethod ({ cls := "EldestSays$Clever", name := "ask", desc := "(III)I" } : Jvm.MethodName)) ∈ lw_tbl := lw_mem 367 (by decide +kernel)
theorem kw_368 : (Jvm.Cond.selects "EldestSays$Clever" ({ cls := "EldestSays$Clever", name := "ask", desc := "(III)I" } : Jvm.MethodName) ({ cls := "EldestSays$Clever", name := "ask", desc := "(III)I" } : Jvm.MethodName)) ∈ lw_tbl := lw_mem 368 (by decide +kernel)
theorem kw_369 : (Jvm.Cond.sameMethod "EldestSays$Clever" "EldestSays$Clever" "ask" "(III)I") ∈ lw_tbl := lw_mem 369 (by decide +kernel)
theorem kw_370 : (Jvm.Cond.selects "EldestSays$Company" ({ cls := "EldestSays$Clever", name := "ask", desc := "(III)I" } : Jvm.MethodName) ({ cls := "EldestSays$Company", name := "ask", desc := "(III)I" } : Jvm.MethodName)) ∈ lw_tbl := lw_mem 370 (by decide +kernel)
theorem kw_371 : (Jvm.Cond.instanceMethod ({ cls := "EldestSays$Company", name := "ask", desc := "(III)I" } : Jvm.MethodName)) ∈ lw_tbl := lw_mem 371 (by decide +kernel)
theorem kw_372 : (Jvm.Cond.code ({ cls := "EldestSays$Company", name := "ask", desc := "(III)I" } : Jvm.MethodName) prog_3_method_2_code (4 : Nat) (Option.some Jvm.ClassFile.FieldType.int)) ∈ lw_tbl := lw_mem 372 (by decide +kernel)
theorem kw_373 : (Jvm.Cond.methodLink "EldestSays$Company" (7 : Nat) ({ cls := "java/lang/Math", name := "max", desc := "(II)I" } : Jvm.MethodName)) ∈ lw_tbl := lw_mem 373 (by decide +kernel)
theorem kw_374 : (Jvm.Cond.static ({ cls := "java/lang/Math", name := "max", desc := "(II)I" } : Jvm.MethodName)) ∈ lw_tbl := lw_mem 374 (by decide +kernel)
theorem kw_375 : (Jvm.Cond.code ({ cls := "java/lang/Math", name := "max", desc := "(II)I" } : Jvm.MethodName) prog_16_method_65_code (2 : Nat) (Option.some Jvm.ClassFile.FieldType.int)) ∈ lw_tbl := lw_mem 375 (by decide +kernel)
theorem kw_376 : (Jvm.Cond.selects "EldestSays$Envious" ({ cls := "EldestSays$Clever", name := "ask", desc := "(III)I" } : Jvm.MethodName) ({ cls := "EldestSays$Envious", name := "ask", desc := "(III)I" } : Jvm.MethodName)) ∈ lw_tbl := lw_mem 376 (by decide +kernel)
theorem kw_377 : (Jvm.Cond.instanceMethod ({ cls := "EldestSays$Envious", name := "ask", desc := "(III)I" } : Jvm.MethodName)) ∈ lw_tbl := lw_mem 377 (by decide +kernel)
theorem kw_378 : (Jvm.Cond.code ({ cls := "EldestSays$Envious", name := "ask", desc := "(III)I" } : Jvm.MethodName) prog_5_method_2_code (5 : Nat) (Option.some Jvm.ClassFile.FieldType.int)) ∈ lw_tbl := lw_mem 378 (by decide +kernel)
theorem kw_379 : (Jvm.Cond.methodLink "EldestSays$Envious" (7 : Nat) ({ cls := "EldestSays$Clever", name := "ask", desc := "(III)I" } : Jvm.MethodName)) ∈ lw_tbl := lw_mem 379 (by decide +kernel)
theorem kw_380 : (Jvm.Cond.selects "EldestSays$Fair" ({ cls := "EldestSays$Clever", name := "ask", desc := "(III)I" } : Jvm.MethodName) ({ cls := "EldestSays$Company", name := "ask", desc := "(III)I" } : Jvm.MethodName)) ∈ lw_tbl := lw_mem 380 (by decide +kernel)
theorem kw_381 : (Jvm.Cond.selects "EldestSays$Fool" ({ cls := "EldestSays$Clever", name := "ask", desc := "(III)I" } : Jvm.MethodName) ({ cls := "EldestSays$Fool", name := "ask", desc := "(III)I" } : Jvm.MethodName)) ∈ lw_tbl := lw_mem 381 (by decide +kernel)
theorem kw_382 : (Jvm.Cond.instanceMethod ({ cls := "EldestSays$Fool", name := "ask", desc := "(III)I" } : Jvm.MethodName)) ∈ lw_tbl := lw_mem 382 (by decide +kernel)
theorem kw_383 : (Jvm.Cond.code ({ cls := "EldestSays$Fool", name := "ask", desc := "(III)I" } : Jvm.MethodName) prog_8_method_2_code (4 : Nat) (Option.some Jvm.ClassFile.FieldType.int)) ∈ lw_tbl := lw_mem 383 (by decide +kernel)
theorem kw_384 : (Jvm.Cond.selects "EldestSays$Meek" ({ cls := "EldestSays$Clever", name := "ask", desc := "(III)I" } : Jvm.MethodName) ({ cls := "EldestSays$Meek", name := "ask", desc := "(III)I" } : Jvm.MethodName)) ∈ lw_tbl := lw_mem 384 (by decide +kernel)
theorem kw_385 : (Jvm.Cond.instanceMethod ({ cls := "EldestSays$Meek", name := "ask", desc := "(III)I" } : Jvm.MethodName)) ∈ lw_tbl := lw_mem 385 (by decide +kernel)
theorem kw_386 : (Jvm.Cond.code ({ cls := "EldestSays$Meek", name := "ask", desc := "(III)I" } : Jvm.MethodName) prog_10_method_2_code (4 : Nat) (Option.some Jvm.ClassFile.FieldType.int)) ∈ lw_tbl := lw_mem 386 (by decide +kernel)
theorem kw_387 : (Jvm.Cond.methodLink "EldestSays$Meek" (7 : Nat) ({ cls := "EldestSays$Fool", name := "ask", desc := "(III)I" } : Jvm.MethodName)) ∈ lw_tbl := lw_mem 387 (by decide +kernel)
theorem kw_388 : (Jvm.Cond.selects "EldestSays$Spiteful" ({ cls := "EldestSays$Clever", name := "ask", desc := "(III)I" } : Jvm.MethodName) ({ cls := "EldestSays$Spiteful", name := "ask", desc := "(III)I" } : Jvm.MethodName)) ∈ lw_tbl := lw_mem 388 (by decide +kernel)
theorem kw_389 : (Jvm.Cond.instanceMethod ({ cls := "EldestSays$Spiteful", name := "ask", desc := "(III)I" } : Jvm.MethodName)) ∈ lw_tbl := lw_mem 389 (by decide +kernel)
theorem kw_390 : (Jvm.Cond.code ({ cls := "EldestSays$Spiteful", name := "ask", desc := "(III)I" } : Jvm.MethodName) prog_12_method_2_code (4 : Nat) (Option.some Jvm.ClassFile.FieldType.int)) ∈ lw_tbl := lw_mem 390 (by decide +kernel)
theorem kw_391 : (Jvm.Cond.methodLink "EldestSays$Spiteful" (7 : Nat) ({ cls := "EldestSays$Envious", name := "ask", desc := "(III)I" } : Jvm.MethodName)) ∈ lw_tbl := lw_mem 391 (by decide +kernel)
theorem kw_392 : (Jvm.Cond.code ({ cls := "EldestSays$Clever", name := "ask", desc := "(III)I" } : Jvm.MethodName) prog_2_method_2_code (5 : Nat) (Option.some Jvm.ClassFile.FieldType.int)) ∈ lw_tbl := lw_mem 392 (by decide +kernel)
theorem kw_393 : (Jvm.Cond.methodLink "EldestSays$Plans" (63 : Nat) ({ cls := "EldestSays$Plans", name := "keepAll", desc := "(I)V" } : Jvm.MethodName)) ∈ lw_tbl := lw_mem 393 (by decide +kernel)
theorem kw_394 : (Jvm.Cond.privateMethod ({ cls := "EldestSays$Plans", name := "keepAll", desc := "(I)V" } : Jvm.MethodName)) ∈ lw_tbl := lw_mem 394 (by decide +kernel)
theorem kw_395 : (Jvm.Cond.instanceMethod ({ cls := "EldestSays$Plans", name := "keepAll", desc := "(I)V" } : Jvm.MethodName)) ∈ lw_tbl := lw_mem 395 (by decide +kernel)
theorem kw_396 : (Jvm.Cond.code ({ cls := "EldestSays$Plans", name := "keepAll", desc := "(I)V" } : Jvm.MethodName) prog_11_method_5_code (2 : Nat) (Option.none : Option Jvm.ClassFile.FieldType)) ∈ lw_tbl := lw_mem 396 (by decide +kernel)
theorem kw_397 : (Jvm.Cond.methodLink "EldestSays$Plans" (94 : Nat) ({ cls := "java/util/Arrays", name := "fill", desc := "([II)V" } : Jvm.MethodName)) ∈ lw_tbl := lw_mem 397 (by decide +kernel)
theorem kw_398 : (Jvm.Cond.static ({ cls := "java/util/Arrays", name := "fill", desc := "([II)V" } : Jvm.MethodName)) ∈ lw_tbl := lw_mem 398 (by decide +kernel)
theorem kw_399 : (Jvm.Cond.code ({ cls := "java/util/Arrays", name := "fill", desc := "([II)V" } : Jvm.MethodName) prog_18_method_103_code (4 : Nat) (Option.none : Option Jvm.ClassFile.FieldType)) ∈ lw_tbl := lw_mem 399 (by decide +kernel)
theorem kw_400 : (Jvm.Cond.methodLink "EldestSays$Plans" (70 : Nat) ({ cls := "EldestSays$Clever", name := "tell", desc := "(LEldestSays$Plans;I)V" } : Jvm.MethodName)) ∈ lw_tbl := lw_mem 400 (by decide +kernel)
theorem kw_401 : (Jvm.Cond.instanceMethod ({ cls := "EldestSays$Clever", name := "tell", desc := "(LEldestSays$Plans;I)V" } : Jvm.MethodName)) ∈ lw_tbl := lw_mem 401 (by decide +kernel)
theorem kw_402 : (Jvm.Cond.selects "EldestSays$Clever" ({ cls := "EldestSays$Clever", name := "tell", desc := "(LEldestSays$Plans;I)V" } : Jvm.MethodName) ({ cls := "EldestSays$Clever", name := "tell", desc := "(LEldestSays$Plans;I)V" } : Jvm.MethodName)) ∈ lw_tbl := lw_mem 402 (by decide +kernel)
theorem kw_403 : (Jvm.Cond.sameMethod "EldestSays$Clever" "EldestSays$Clever" "tell" "(LEldestSays$Plans;I)V") ∈ lw_tbl := lw_mem 403 (by decide +kernel)
theorem kw_404 : (Jvm.Cond.selects "EldestSays$Company" ({ cls := "EldestSays$Clever", name := "tell", desc := "(LEldestSays$Plans;I)V" } : Jvm.MethodName) ({ cls := "EldestSays$Clever", name := "tell", desc := "(LEldestSays$Plans;I)V" } : Jvm.MethodName)) ∈ lw_tbl := lw_mem 404 (by decide +kernel)
theorem kw_405 : (Jvm.Cond.selects "EldestSays$Envious" ({ cls := "EldestSays$Clever", name := "tell", desc := "(LEldestSays$Plans;I)V" } : Jvm.MethodName) ({ cls := "EldestSays$Clever", name := "tell", desc := "(LEldestSays$Plans;I)V" } : Jvm.MethodName)) ∈ lw_tbl := lw_mem 405 (by decide +kernel)
theorem kw_406 : (Jvm.Cond.selects "EldestSays$Fair" ({ cls := "EldestSays$Clever", name := "tell", desc := "(LEldestSays$Plans;I)V" } : Jvm.MethodName) ({ cls := "EldestSays$Fair", name := "tell", desc := "(LEldestSays$Plans;I)V" } : Jvm.MethodName)) ∈ lw_tbl := lw_mem 406 (by decide +kernel)
theorem kw_407 : (Jvm.Cond.instanceMethod ({ cls := "EldestSays$Fair", name := "tell", desc := "(LEldestSays$Plans;I)V" } : Jvm.MethodName)) ∈ lw_tbl := lw_mem 407 (by decide +kernel)
theorem kw_408 : (Jvm.Cond.code ({ cls := "EldestSays$Fair", name := "tell", desc := "(LEldestSays$Plans;I)V" } : Jvm.MethodName) prog_7_method_2_code (3 : Nat) (Option.none : Option Jvm.ClassFile.FieldType)) ∈ lw_tbl := lw_mem 408 (by decide +kernel)
theorem kw_409 : (Jvm.Cond.methodLink "EldestSays$Fair" (7 : Nat) ({ cls := "EldestSays$Plans", name := "shareFairly", desc := "(I)V" } : Jvm.MethodName)) ∈ lw_tbl := lw_mem 409 (by decide +kernel)
theorem kw_410 : (Jvm.Cond.instanceMethod ({ cls := "EldestSays$Plans", name := "shareFairly", desc := "(I)V" } : Jvm.MethodName)) ∈ lw_tbl := lw_mem 410 (by decide +kernel)
theorem kw_411 : (Jvm.Cond.selects "EldestSays$Plans" ({ cls := "EldestSays$Plans", name := "shareFairly", desc := "(I)V" } : Jvm.MethodName) ({ cls := "EldestSays$Plans", name := "shareFairly", desc := "(I)V" } : Jvm.MethodName)) ∈ lw_tbl := lw_mem 411 (by decide +kernel)
theorem kw_412 : (Jvm.Cond.code ({ cls := "EldestSays$Plans", name := "shareFairly", desc := "(I)V" } : Jvm.MethodName) prog_11_method_15_code (5 : Nat) (Option.none : Option Jvm.ClassFile.FieldType)) ∈ lw_tbl := lw_mem 412 (by decide +kernel)
theorem kw_413 : (Jvm.Cond.methodLink "EldestSays$Plans" (144 : Nat) ({ cls := "EldestSays$Plans", name := "give", desc := "(III)V" } : Jvm.MethodName)) ∈ lw_tbl := lw_mem 413 (by decide +kernel)
theorem kw_414 : (Jvm.Cond.privateMethod ({ cls := "EldestSays$Plans", name := "give", desc := "(III)V" } : Jvm.MethodName)) ∈ lw_tbl := lw_mem 414 (by decide +kernel)
theorem kw_415 : (Jvm.Cond.instanceMethod ({ cls := "EldestSays$Plans", name := "give", desc := "(III)V" } : Jvm.MethodName)) ∈ lw_tbl := lw_mem 415 (by decide +kernel)
theorem kw_416 : (Jvm.Cond.code ({ cls := "EldestSays$Plans", name := "give", desc := "(III)V" } : Jvm.MethodName) prog_11_method_19_code (4 : Nat) (Option.none : Option Jvm.ClassFile.FieldType)) ∈ lw_tbl := lw_mem 416 (by decide +kernel)
theorem kw_417 : (Jvm.Cond.selects "EldestSays$Fool" ({ cls := "EldestSays$Clever", name := "tell", desc := "(LEldestSays$Plans;I)V" } : Jvm.MethodName) ({ cls := "EldestSays$Fool", name := "tell", desc := "(LEldestSays$Plans;I)V" } : Jvm.MethodName)) ∈ lw_tbl := lw_mem 417 (by decide +kernel)
theorem kw_418 : (Jvm.Cond.instanceMethod ({ cls := "EldestSays$Fool", name := "tell", desc := "(LEldestSays$Plans;I)V" } : Jvm.MethodName)) ∈ lw_tbl := lw_mem 418 (by decide +kernel)
theorem kw_419 : (Jvm.Cond.code ({ cls := "EldestSays$Fool", name := "tell", desc := "(LEldestSays$Plans;I)V" } : Jvm.MethodName) prog_8_method_3_code (3 : Nat) (Option.none : Option Jvm.ClassFile.FieldType)) ∈ lw_tbl := lw_mem 419 (by decide +kernel)
theorem kw_420 : (Jvm.Cond.methodLink "EldestSays$Fool" (7 : Nat) ({ cls := "EldestSays$Plans", name := "figureOf", desc := "(I)I" } : Jvm.MethodName)) ∈ lw_tbl := lw_mem 420 (by decide +kernel)
theorem kw_421 : (Jvm.Cond.instanceMethod ({ cls := "EldestSays$Plans", name := "figureOf", desc := "(I)I" } : Jvm.MethodName)) ∈ lw_tbl := lw_mem 421 (by decide +kernel)
theorem kw_422 : (Jvm.Cond.selects "EldestSays$Plans" ({ cls := "EldestSays$Plans", name := "figureOf", desc := "(I)I" } : Jvm.MethodName) ({ cls := "EldestSays$Plans", name := "figureOf", desc := "(I)I" } : Jvm.MethodName)) ∈ lw_tbl := lw_mem 422 (by decide +kernel)
theorem kw_423 : (Jvm.Cond.code ({ cls := "EldestSays$Plans", name := "figureOf", desc := "(I)I" } : Jvm.MethodName) prog_11_method_18_code (2 : Nat) (Option.some Jvm.ClassFile.FieldType.int)) ∈ lw_tbl := lw_mem 423 (by decide +kernel)
theorem kw_424 : (Jvm.Cond.methodLink "EldestSays$Fool" (13 : Nat) ({ cls := "EldestSays$Plans", name := "spreadFromEldest", desc := "(II)V" } : Jvm.MethodName)) ∈ lw_tbl := lw_mem 424 (by decide +kernel)
theorem kw_425 : (Jvm.Cond.instanceMethod ({ cls := "EldestSays$Plans", name := "spreadFromEldest", desc := "(II)V" } : Jvm.MethodName)) ∈ lw_tbl := lw_mem 425 (by decide +kernel)
theorem kw_426 : (Jvm.Cond.selects "EldestSays$Plans" ({ cls := "EldestSays$Plans", name := "spreadFromEldest", desc := "(II)V" } : Jvm.MethodName) ({ cls := "EldestSays$Plans", name := "spreadFromEldest", desc := "(II)V" } : Jvm.MethodName)) ∈ lw_tbl := lw_mem 426 (by decide +kernel)
theorem kw_427 : (Jvm.Cond.code ({ cls := "EldestSays$Plans", name := "spreadFromEldest", desc := "(II)V" } : Jvm.MethodName) prog_11_method_16_code (4 : Nat) (Option.none : Option Jvm.ClassFile.FieldType)) ∈ lw_tbl := lw_mem 427 (by decide +kernel)
theorem kw_428 : (Jvm.Cond.selects "EldestSays$Meek" ({ cls := "EldestSays$Clever", name := "tell", desc := "(LEldestSays$Plans;I)V" } : Jvm.MethodName) ({ cls := "EldestSays$Meek", name := "tell", desc := "(LEldestSays$Plans;I)V" } : Jvm.MethodName)) ∈ lw_tbl := lw_mem 428 (by decide +kernel)
theorem kw_429 : (Jvm.Cond.instanceMethod ({ cls := "EldestSays$Meek", name := "tell", desc := "(LEldestSays$Plans;I)V" } : Jvm.MethodName)) ∈ lw_tbl := lw_mem 429 (by decide +kernel)
theorem kw_430 : (Jvm.Cond.code ({ cls := "EldestSays$Meek", name := "tell", desc := "(LEldestSays$Plans;I)V" } : Jvm.MethodName) prog_10_method_3_code (3 : Nat) (Option.none : Option Jvm.ClassFile.FieldType)) ∈ lw_tbl := lw_mem 430 (by decide +kernel)
theorem kw_431 : (Jvm.Cond.methodLink "EldestSays$Meek" (11 : Nat) ({ cls := "EldestSays$Plans", name := "figureOf", desc := "(I)I" } : Jvm.MethodName)) ∈ lw_tbl := lw_mem 431 (by decide +kernel)
theorem kw_432 : (Jvm.Cond.methodLink "EldestSays$Meek" (17 : Nat) ({ cls := "EldestSays$Plans", name := "spreadFromYoungest", desc := "(II)V" } : Jvm.MethodName)) ∈ lw_tbl := lw_mem 432 (by decide +kernel)
theorem kw_433 : (Jvm.Cond.instanceMethod ({ cls := "EldestSays$Plans", name := "spreadFromYoungest", desc := "(II)V" } : Jvm.MethodName)) ∈ lw_tbl := lw_mem 433 (by decide +kernel)
theorem kw_434 : (Jvm.Cond.selects "EldestSays$Plans" ({ cls := "EldestSays$Plans", name := "spreadFromYoungest", desc := "(II)V" } : Jvm.MethodName) ({ cls := "EldestSays$Plans", name := "spreadFromYoungest", desc := "(II)V" } : Jvm.MethodName)) ∈ lw_tbl := lw_mem 434 (by decide +kernel)
theorem kw_435 : (Jvm.Cond.code ({ cls := "EldestSays$Plans", name := "spreadFromYoungest", desc := "(II)V" } : Jvm.MethodName) prog_11_method_17_code (4 : Nat) (Option.none : Option Jvm.ClassFile.FieldType)) ∈ lw_tbl := lw_mem 435 (by decide +kernel)
theorem kw_436 : (Jvm.Cond.selects "EldestSays$Spiteful" ({ cls := "EldestSays$Clever", name := "tell", desc := "(LEldestSays$Plans;I)V" } : Jvm.MethodName) ({ cls := "EldestSays$Clever", name := "tell", desc := "(LEldestSays$Plans;I)V" } : Jvm.MethodName)) ∈ lw_tbl := lw_mem 436 (by decide +kernel)
theorem kw_437 : (Jvm.Cond.code ({ cls := "EldestSays$Clever", name := "tell", desc := "(LEldestSays$Plans;I)V" } : Jvm.MethodName) prog_2_method_3_code (3 : Nat) (Option.none : Option Jvm.ClassFile.FieldType)) ∈ lw_tbl := lw_mem 437 (by decide +kernel)
theorem kw_438 : (Jvm.Cond.methodLink "EldestSays$Clever" (7 : Nat) ({ cls := "EldestSays$Plans", name := "buyCheapest", desc := "(I)V" } : Jvm.MethodName)) ∈ lw_tbl := lw_mem 438 (by decide +kernel)
theorem kw_439 : (Jvm.Cond.instanceMethod ({ cls := "EldestSays$Plans", name := "buyCheapest", desc := "(I)V" } : Jvm.MethodName)) ∈ lw_tbl := lw_mem 439 (by decide +kernel)
theorem kw_440 : (Jvm.Cond.selects "EldestSays$Plans" ({ cls := "EldestSays$Plans", name := "buyCheapest", desc := "(I)V" } : Jvm.MethodName) ({ cls := "EldestSays$Plans", name := "buyCheapest", desc := "(I)V" } : Jvm.MethodName)) ∈ lw_tbl := lw_mem 440 (by decide +kernel)
theorem kw_441 : (Jvm.Cond.code ({ cls := "EldestSays$Plans", name := "buyCheapest", desc := "(I)V" } : Jvm.MethodName) prog_11_method_8_code (6 : Nat) (Option.none : Option Jvm.ClassFile.FieldType)) ∈ lw_tbl := lw_mem 441 (by decide +kernel)
theorem kw_442 : (Jvm.Cond.methodLink "EldestSays$Plans" (110 : Nat) ({ cls := "EldestSays$Plans", name := "forgetUnits", desc := "()V" } : Jvm.MethodName)) ∈ lw_tbl := lw_mem 442 (by decide +kernel)
theorem kw_443 : (Jvm.Cond.privateMethod ({ cls := "EldestSays$Plans", name := "forgetUnits", desc := "()V" } : Jvm.MethodName)) ∈ lw_tbl := lw_mem 443 (by decide +kernel)
theorem kw_444 : (Jvm.Cond.instanceMethod ({ cls := "EldestSays$Plans", name := "forgetUnits", desc := "()V" } : Jvm.MethodName)) ∈ lw_tbl := lw_mem 444 (by decide +kernel)
theorem kw_445 : (Jvm.Cond.code ({ cls := "EldestSays$Plans", name := "forgetUnits", desc := "()V" } : Jvm.MethodName) prog_11_method_10_code (1 : Nat) (Option.none : Option Jvm.ClassFile.FieldType)) ∈ lw_tbl := lw_mem 445 (by decide +kernel)
theorem kw_446 : (Jvm.Cond.methodLink "EldestSays$Plans" (113 : Nat) ({ cls := "EldestSays$Plans", name := "manOfUnit", desc := "(II)I" } : Jvm.MethodName)) ∈ lw_tbl := lw_mem 446 (by decide +kernel)
theorem kw_447 : (Jvm.Cond.privateMethod ({ cls := "EldestSays$Plans", name := "manOfUnit", desc := "(II)I" } : Jvm.MethodName)) ∈ lw_tbl := lw_mem 447 (by decide +kernel)
theorem kw_448 : (Jvm.Cond.instanceMethod ({ cls := "EldestSays$Plans", name := "manOfUnit", desc := "(II)I" } : Jvm.MethodName)) ∈ lw_tbl := lw_mem 448 (by decide +kernel)
theorem kw_449 : (Jvm.Cond.code ({ cls := "EldestSays$Plans", name := "manOfUnit", desc := "(II)I" } : Jvm.MethodName) prog_11_method_9_code (3 : Nat) (Option.some Jvm.ClassFile.FieldType.int)) ∈ lw_tbl := lw_mem 449 (by decide +kernel)
theorem kw_450 : (Jvm.Cond.methodLink "EldestSays$Plans" (120 : Nat) ({ cls := "EldestSays$Plans", name := "addUnit", desc := "(II)V" } : Jvm.MethodName)) ∈ lw_tbl := lw_mem 450 (by decide +kernel)
theorem kw_451 : (Jvm.Cond.privateMethod ({ cls := "EldestSays$Plans", name := "addUnit", desc := "(II)V" } : Jvm.MethodName)) ∈ lw_tbl := lw_mem 451 (by decide +kernel)
theorem kw_452 : (Jvm.Cond.instanceMethod ({ cls := "EldestSays$Plans", name := "addUnit", desc := "(II)V" } : Jvm.MethodName)) ∈ lw_tbl := lw_mem 452 (by decide +kernel)
theorem kw_453 : (Jvm.Cond.code ({ cls := "EldestSays$Plans", name := "addUnit", desc := "(II)V" } : Jvm.MethodName) prog_11_method_11_code (3 : Nat) (Option.none : Option Jvm.ClassFile.FieldType)) ∈ lw_tbl := lw_mem 453 (by decide +kernel)
theorem kw_454 : (Jvm.Cond.methodLink "EldestSays$Plans" (124 : Nat) ({ cls := "EldestSays$Plans", name := "cheapestSet", desc := "(I)I" } : Jvm.MethodName)) ∈ lw_tbl := lw_mem 454 (by decide +kernel)
theorem kw_455 : (Jvm.Cond.privateMethod ({ cls := "EldestSays$Plans", name := "cheapestSet", desc := "(I)I" } : Jvm.MethodName)) ∈ lw_tbl := lw_mem 455 (by decide +kernel)
theorem kw_456 : (Jvm.Cond.instanceMethod ({ cls := "EldestSays$Plans", name := "cheapestSet", desc := "(I)I" } : Jvm.MethodName)) ∈ lw_tbl := lw_mem 456 (by decide +kernel)
theorem kw_457 : (Jvm.Cond.code ({ cls := "EldestSays$Plans", name := "cheapestSet", desc := "(I)I" } : Jvm.MethodName) prog_11_method_12_code (7 : Nat) (Option.some Jvm.ClassFile.FieldType.int)) ∈ lw_tbl := lw_mem 457 (by decide +kernel)
theorem kw_458 : (Jvm.Cond.methodLink "EldestSays$Plans" (134 : Nat) ({ cls := "EldestSays$Plans", name := "listSets", desc := "(I)I" } : Jvm.MethodName)) ∈ lw_tbl := lw_mem 458 (by decide +kernel)
theorem kw_459 : (Jvm.Cond.privateMethod ({ cls := "EldestSays$Plans", name := "listSets", desc := "(I)I" } : Jvm.MethodName)) ∈ lw_tbl := lw_mem 459 (by decide +kernel)
theorem kw_460 : (Jvm.Cond.instanceMethod ({ cls := "EldestSays$Plans", name := "listSets", desc := "(I)I" } : Jvm.MethodName)) ∈ lw_tbl := lw_mem 460 (by decide +kernel)
theorem kw_461 : (Jvm.Cond.code ({ cls := "EldestSays$Plans", name := "listSets", desc := "(I)I" } : Jvm.MethodName) prog_11_method_13_code (5 : Nat) (Option.some Jvm.ClassFile.FieldType.int)) ∈ lw_tbl := lw_mem 461 (by decide +kernel)
theorem kw_462 : (Jvm.Cond.methodLink "EldestSays$Plans" (137 : Nat) ({ cls := "EldestSays$Evening", name := "weightFrom", desc := "(I)I" } : Jvm.MethodName)) ∈ lw_tbl := lw_mem 462 (by decide +kernel)
theorem kw_463 : (Jvm.Cond.instanceMethod ({ cls := "EldestSays$Evening", name := "weightFrom", desc := "(I)I" } : Jvm.MethodName)) ∈ lw_tbl := lw_mem 463 (by decide +kernel)
theorem kw_464 : (Jvm.Cond.selects "EldestSays$Evening" ({ cls := "EldestSays$Evening", name := "weightFrom", desc := "(I)I" } : Jvm.MethodName) ({ cls := "EldestSays$Evening", name := "weightFrom", desc := "(I)I" } : Jvm.MethodName)) ∈ lw_tbl := lw_mem 464 (by decide +kernel)
theorem kw_465 : (Jvm.Cond.code ({ cls := "EldestSays$Evening", name := "weightFrom", desc := "(I)I" } : Jvm.MethodName) prog_6_method_6_code (4 : Nat) (Option.some Jvm.ClassFile.FieldType.int)) ∈ lw_tbl := lw_mem 465 (by decide +kernel)
theorem kw_466 : (Jvm.Cond.methodLink "EldestSays$Evening" (47 : Nat) ({ cls := "java/lang/Math", name := "max", desc := "(II)I" } : Jvm.MethodName)) ∈ lw_tbl := lw_mem 466 (by decide +kernel)
theorem kw_467 : (Jvm.Cond.methodLinkNest "EldestSays$Plans" (140 : Nat) ({ cls := "EldestSays", name := "isEnough", desc := "(III)Z" } : Jvm.MethodName) "EldestSays") ∈ lw_tbl := lw_mem 467 (by decide +kernel)
theorem kw_468 : (Jvm.Cond.static ({ cls := "EldestSays", name := "isEnough", desc := "(III)Z" } : Jvm.MethodName)) ∈ lw_tbl := lw_mem 468 (by decide +kernel)
theorem kw_469 : (Jvm.Cond.code ({ cls := "EldestSays", name := "isEnough", desc := "(III)Z" } : Jvm.MethodName) prog_1_method_45_code (3 : Nat) (Option.some Jvm.ClassFile.FieldType.boolean)) ∈ lw_tbl := lw_mem 469 (by decide +kernel)
theorem kw_470 : (Jvm.Cond.methodLink "EldestSays$Plans" (76 : Nat) ({ cls := "EldestSays$Plans", name := "vote", desc := "(I)V" } : Jvm.MethodName)) ∈ lw_tbl := lw_mem 470 (by decide +kernel)
theorem kw_471 : (Jvm.Cond.privateMethod ({ cls := "EldestSays$Plans", name := "vote", desc := "(I)V" } : Jvm.MethodName)) ∈ lw_tbl := lw_mem 471 (by decide +kernel)
theorem kw_472 : (Jvm.Cond.instanceMethod ({ cls := "EldestSays$Plans", name := "vote", desc := "(I)V" } : Jvm.MethodName)) ∈ lw_tbl := lw_mem 472 (by decide +kernel)
theorem kw_473 : (Jvm.Cond.code ({ cls := "EldestSays$Plans", name := "vote", desc := "(I)V" } : Jvm.MethodName) prog_11_method_6_code (3 : Nat) (Option.none : Option Jvm.ClassFile.FieldType)) ∈ lw_tbl := lw_mem 473 (by decide +kernel)
theorem kw_474 : (Jvm.Cond.methodLink "EldestSays$Plans" (79 : Nat) ({ cls := "EldestSays$Plans", name := "end", desc := "(I)V" } : Jvm.MethodName)) ∈ lw_tbl := lw_mem 474 (by decide +kernel)
theorem kw_475 : (Jvm.Cond.privateMethod ({ cls := "EldestSays$Plans", name := "end", desc := "(I)V" } : Jvm.MethodName)) ∈ lw_tbl := lw_mem 475 (by decide +kernel)
theorem kw_476 : (Jvm.Cond.instanceMethod ({ cls := "EldestSays$Plans", name := "end", desc := "(I)V" } : Jvm.MethodName)) ∈ lw_tbl := lw_mem 476 (by decide +kernel)
theorem kw_477 : (Jvm.Cond.code ({ cls := "EldestSays$Plans", name := "end", desc := "(I)V" } : Jvm.MethodName) prog_11_method_7_code (3 : Nat) (Option.none : Option Jvm.ClassFile.FieldType)) ∈ lw_tbl := lw_mem 477 (by decide +kernel)
theorem kw_478 : (Jvm.Cond.methodLink "EldestSays$Plans" (100 : Nat) ({ cls := "EldestSays$Evening", name := "isCarried", desc := "(II)Z" } : Jvm.MethodName)) ∈ lw_tbl := lw_mem 478 (by decide +kernel)
theorem kw_479 : (Jvm.Cond.instanceMethod ({ cls := "EldestSays$Evening", name := "isCarried", desc := "(II)Z" } : Jvm.MethodName)) ∈ lw_tbl := lw_mem 479 (by decide +kernel)
theorem kw_480 : (Jvm.Cond.selects "EldestSays$Evening" ({ cls := "EldestSays$Evening", name := "isCarried", desc := "(II)Z" } : Jvm.MethodName) ({ cls := "EldestSays$Evening", name := "isCarried", desc := "(II)Z" } : Jvm.MethodName)) ∈ lw_tbl := lw_mem 480 (by decide +kernel)
theorem kw_481 : (Jvm.Cond.code ({ cls := "EldestSays$Evening", name := "isCarried", desc := "(II)Z" } : Jvm.MethodName) prog_6_method_8_code (5 : Nat) (Option.some Jvm.ClassFile.FieldType.boolean)) ∈ lw_tbl := lw_mem 481 (by decide +kernel)
theorem kw_482 : (Jvm.Cond.methodLink "EldestSays$Evening" (57 : Nat) ({ cls := "EldestSays$Evening", name := "weightFrom", desc := "(I)I" } : Jvm.MethodName)) ∈ lw_tbl := lw_mem 482 (by decide +kernel)
theorem kw_483 : (Jvm.Cond.methodLinkNest "EldestSays$Evening" (61 : Nat) ({ cls := "EldestSays", name := "isEnough", desc := "(III)Z" } : Jvm.MethodName) "EldestSays") ∈ lw_tbl := lw_mem 483 (by decide +kernel)
theorem kw_484 : (Jvm.Cond.methodLink "EldestSays$Plans" (104 : Nat) ({ cls := "java/lang/System", name := "arraycopy", desc := "(Ljava/lang/Object;ILjava/lang/Object;II)V" } : Jvm.MethodName)) ∈ lw_tbl := lw_mem 484 (by decide +kernel)
theorem kw_485 : (Jvm.Cond.static ({ cls := "java/lang/System", name := "arraycopy", desc := "(Ljava/lang/Object;ILjava/lang/Object;II)V" } : Jvm.MethodName)) ∈ lw_tbl := lw_mem 485 (by decide +kernel)
theorem kw_486 : (Jvm.Cond.native ({ cls := "java/lang/System", name := "arraycopy", desc := "(Ljava/lang/Object;ILjava/lang/Object;II)V" } : Jvm.MethodName)) ∈ lw_tbl := lw_mem 486 (by decide +kernel)
theorem kw_487 : (Jvm.Cond.methodLink "EldestSaysLaw" (36 : Nat) ({ cls := "EldestSays", name := "price", desc := "(II)I" } : Jvm.MethodName)) ∈ lw_tbl := lw_mem 487 (by decide +kernel)
theorem kw_488 : (Jvm.Cond.instanceMethod ({ cls := "EldestSays", name := "price", desc := "(II)I" } : Jvm.MethodName)) ∈ lw_tbl := lw_mem 488 (by decide +kernel)
theorem kw_489 : (Jvm.Cond.selects "EldestSays" ({ cls := "EldestSays", name := "price", desc := "(II)I" } : Jvm.MethodName) ({ cls := "EldestSays", name := "price", desc := "(II)I" } : Jvm.MethodName)) ∈ lw_tbl := lw_mem 489 (by decide +kernel)
theorem kw_490 : (Jvm.Cond.code ({ cls := "EldestSays", name := "price", desc := "(II)I" } : Jvm.MethodName) prog_1_method_7_code (3 : Nat) (Option.some Jvm.ClassFile.FieldType.int)) ∈ lw_tbl := lw_mem 490 (by decide +kernel)
theorem kw_491 : (Jvm.Cond.methodLink "EldestSaysLaw" (40 : Nat) ({ cls := "EldestSays", name := "votes", desc := "(I)I" } : Jvm.MethodName)) ∈ lw_tbl := lw_mem 491 (by decide +kernel)
theorem kw_492 : (Jvm.Cond.instanceMethod ({ cls := "EldestSays", name := "votes", desc := "(I)I" } : Jvm.MethodName)) ∈ lw_tbl := lw_mem 492 (by decide +kernel)
theorem kw_493 : (Jvm.Cond.selects "EldestSays" ({ cls := "EldestSays", name := "votes", desc := "(I)I" } : Jvm.MethodName) ({ cls := "EldestSays", name := "votes", desc := "(I)I" } : Jvm.MethodName)) ∈ lw_tbl := lw_mem 493 (by decide +kernel)
theorem kw_494 : (Jvm.Cond.code ({ cls := "EldestSays", name := "votes", desc := "(I)I" } : Jvm.MethodName) prog_1_method_8_code (2 : Nat) (Option.some Jvm.ClassFile.FieldType.int)) ∈ lw_tbl := lw_mem 494 (by decide +kernel)
theorem kw_495 : (Jvm.Cond.methodLink "EldestSaysLaw" (44 : Nat) ({ cls := "EldestSays", name := "carries", desc := "(I)I" } : Jvm.MethodName)) ∈ lw_tbl := lw_mem 495 (by decide +kernel)
theorem kw_496 : (Jvm.Cond.instanceMethod ({ cls := "EldestSays", name := "carries", desc := "(I)I" } : Jvm.MethodName)) ∈ lw_tbl := lw_mem 496 (by decide +kernel)
theorem kw_497 : (Jvm.Cond.selects "EldestSays" ({ cls := "EldestSays", name := "carries", desc := "(I)I" } : Jvm.MethodName) ({ cls := "EldestSays", name := "carries", desc := "(I)I" } : Jvm.MethodName)) ∈ lw_tbl := lw_mem 497 (by decide +kernel)
theorem kw_498 : (Jvm.Cond.code ({ cls := "EldestSays", name := "carries", desc := "(I)I" } : Jvm.MethodName) prog_1_method_9_code (2 : Nat) (Option.some Jvm.ClassFile.FieldType.int)) ∈ lw_tbl := lw_mem 498 (by decide +kernel)
theorem kw_499 : (Jvm.Cond.methodLink "EldestSaysLaw" (48 : Nat) ({ cls := "EldestSays", name := "ends", desc := "(I)I" } : Jvm.MethodName)) ∈ lw_tbl := lw_mem 499 (by decide +kernel)
theorem kw_500 : (Jvm.Cond.instanceMethod ({ cls := "EldestSays", name := "ends", desc := "(I)I" } : Jvm.MethodName)) ∈ lw_tbl := lw_mem 500 (by decide +kernel)
theorem kw_501 : (Jvm.Cond.selects "EldestSays" ({ cls := "EldestSays", name := "ends", desc := "(I)I" } : Jvm.MethodName) ({ cls := "EldestSays", name := "ends", desc := "(I)I" } : Jvm.MethodName)) ∈ lw_tbl := lw_mem 501 (by decide +kernel)
theorem kw_502 : (Jvm.Cond.code ({ cls := "EldestSays", name := "ends", desc := "(I)I" } : Jvm.MethodName) prog_1_method_10_code (2 : Nat) (Option.some Jvm.ClassFile.FieldType.int)) ∈ lw_tbl := lw_mem 502 (by decide +kernel)
theorem kw_503 : (Jvm.Cond.methodLink "EldestSaysLaw" (52 : Nat) ({ cls := "EldestSays", name := "gets", desc := "(II)I" } : Jvm.MethodName)) ∈ lw_tbl := lw_mem 503 (by decide +kernel)
theorem kw_504 : (Jvm.Cond.instanceMethod ({ cls := "EldestSays", name := "gets", desc := "(II)I" } : Jvm.MethodName)) ∈ lw_tbl := lw_mem 504 (by decide +kernel)
theorem kw_505 : (Jvm.Cond.selects "EldestSays" ({ cls := "EldestSays", name := "gets", desc := "(II)I" } : Jvm.MethodName) ({ cls := "EldestSays", name := "gets", desc := "(II)I" } : Jvm.MethodName)) ∈ lw_tbl := lw_mem 505 (by decide +kernel)
theorem kw_506 : (Jvm.Cond.code ({ cls := "EldestSays", name := "gets", desc := "(II)I" } : Jvm.MethodName) prog_1_method_11_code (3 : Nat) (Option.some Jvm.ClassFile.FieldType.int)) ∈ lw_tbl := lw_mem 506 (by decide +kernel)
theorem kw_507 : (Jvm.Cond.constant "EldestSays" (150 : Nat) (1000000000 : Int32)) ∈ lw_tbl := lw_mem 507 (by decide +kernel)
theorem kw_508 : (Jvm.Cond.methodLink "EldestSaysLaw" (56 : Nat) ({ cls := "EldestSays", name := "bought", desc := "(I)I" } : Jvm.MethodName)) ∈ lw_tbl := lw_mem 508 (by decide +kernel)
theorem kw_509 : (Jvm.Cond.instanceMethod ({ cls := "EldestSays", name := "bought", desc := "(I)I" } : Jvm.MethodName)) ∈ lw_tbl := lw_mem 509 (by decide +kernel)
theorem kw_510 : (Jvm.Cond.selects "EldestSays" ({ cls := "EldestSays", name := "bought", desc := "(I)I" } : Jvm.MethodName) ({ cls := "EldestSays", name := "bought", desc := "(I)I" } : Jvm.MethodName)) ∈ lw_tbl := lw_mem 510 (by decide +kernel)
theorem kw_511 : (Jvm.Cond.code ({ cls := "EldestSays", name := "bought", desc := "(I)I" } : Jvm.MethodName) prog_1_method_12_code (2 : Nat) (Option.some Jvm.ClassFile.FieldType.int)) ∈ lw_tbl := lw_mem 511 (by decide +kernel)
theorem kw_512 : (Jvm.Cond.methodLink "EldestSaysLaw" (60 : Nat) ({ cls := "EldestSays", name := "row", desc := "(I)I" } : Jvm.MethodName)) ∈ lw_tbl := lw_mem 512 (by decide +kernel)
theorem kw_513 : (Jvm.Cond.instanceMethod ({ cls := "EldestSays", name := "row", desc := "(I)I" } : Jvm.MethodName)) ∈ lw_tbl := lw_mem 513 (by decide +kernel)
theorem kw_514 : (Jvm.Cond.selects "EldestSays" ({ cls := "EldestSays", name := "row", desc := "(I)I" } : Jvm.MethodName) ({ cls := "EldestSays", name := "row", desc := "(I)I" } : Jvm.MethodName)) ∈ lw_tbl := lw_mem 514 (by decide +kernel)
theorem kw_515 : (Jvm.Cond.code ({ cls := "EldestSays", name := "row", desc := "(I)I" } : Jvm.MethodName) prog_1_method_13_code (2 : Nat) (Option.some Jvm.ClassFile.FieldType.int)) ∈ lw_tbl := lw_mem 515 (by decide +kernel)
theorem kw_516 : (Jvm.Cond.methodLink "EldestSaysLaw" (64 : Nat) ({ cls := "EldestSays", name := "judge", desc := "(I)I" } : Jvm.MethodName)) ∈ lw_tbl := lw_mem 516 (by decide +kernel)
theorem kw_517 : (Jvm.Cond.instanceMethod ({ cls := "EldestSays", name := "judge", desc := "(I)I" } : Jvm.MethodName)) ∈ lw_tbl := lw_mem 517 (by decide +kernel)
theorem kw_518 : (Jvm.Cond.selects "EldestSays" ({ cls := "EldestSays", name := "judge", desc := "(I)I" } : Jvm.MethodName) ({ cls := "EldestSays", name := "judge", desc := "(I)I" } : Jvm.MethodName)) ∈ lw_tbl := lw_mem 518 (by decide +kernel)
theorem kw_519 : (Jvm.Cond.code ({ cls := "EldestSays", name := "judge", desc := "(I)I" } : Jvm.MethodName) prog_1_method_14_code (2 : Nat) (Option.some Jvm.ClassFile.FieldType.int)) ∈ lw_tbl := lw_mem 519 (by decide +kernel)
theorem kw_520 : (Jvm.Cond.methodLink "EldestSays" (161 : Nat) ({ cls := "EldestSays$Evening", name := "isOver", desc := "()Z" } : Jvm.MethodName)) ∈ lw_tbl := lw_mem 520 (by decide +kernel)
theorem kw_521 : (Jvm.Cond.instanceMethod ({ cls := "EldestSays$Evening", name := "isOver", desc := "()Z" } : Jvm.MethodName)) ∈ lw_tbl := lw_mem 521 (by decide +kernel)
theorem kw_522 : (Jvm.Cond.selects "EldestSays$Evening" ({ cls := "EldestSays$Evening", name := "isOver", desc := "()Z" } : Jvm.MethodName) ({ cls := "EldestSays$Evening", name := "isOver", desc := "()Z" } : Jvm.MethodName)) ∈ lw_tbl := lw_mem 522 (by decide +kernel)
theorem kw_523 : (Jvm.Cond.code ({ cls := "EldestSays$Evening", name := "isOver", desc := "()Z" } : Jvm.MethodName) prog_6_method_4_code (1 : Nat) (Option.some Jvm.ClassFile.FieldType.boolean)) ∈ lw_tbl := lw_mem 523 (by decide +kernel)
theorem kw_524 : (Jvm.Cond.methodLink "EldestSays" (164 : Nat) ({ cls := "EldestSays", name := "isRowRight", desc := "()Z" } : Jvm.MethodName)) ∈ lw_tbl := lw_mem 524 (by decide +kernel)
theorem kw_525 : (Jvm.Cond.privateMethod ({ cls := "EldestSays", name := "isRowRight", desc := "()Z" } : Jvm.MethodName)) ∈ lw_tbl := lw_mem 525 (by decide +kernel)
theorem kw_526 : (Jvm.Cond.instanceMethod ({ cls := "EldestSays", name := "isRowRight", desc := "()Z" } : Jvm.MethodName)) ∈ lw_tbl := lw_mem 526 (by decide +kernel)
theorem kw_527 : (Jvm.Cond.code ({ cls := "EldestSays", name := "isRowRight", desc := "()Z" } : Jvm.MethodName) prog_1_method_34_code (3 : Nat) (Option.some Jvm.ClassFile.FieldType.boolean)) ∈ lw_tbl := lw_mem 527 (by decide +kernel)
theorem kw_528 : (Jvm.Cond.methodLink "EldestSays" (167 : Nat) ({ cls := "EldestSays", name := "firstOddVote", desc := "(I)I" } : Jvm.MethodName)) ∈ lw_tbl := lw_mem 528 (by decide +kernel)
theorem kw_529 : (Jvm.Cond.privateMethod ({ cls := "EldestSays", name := "firstOddVote", desc := "(I)I" } : Jvm.MethodName)) ∈ lw_tbl := lw_mem 529 (by decide +kernel)
theorem kw_530 : (Jvm.Cond.instanceMethod ({ cls := "EldestSays", name := "firstOddVote", desc := "(I)I" } : Jvm.MethodName)) ∈ lw_tbl := lw_mem 530 (by decide +kernel)
theorem kw_531 : (Jvm.Cond.code ({ cls := "EldestSays", name := "firstOddVote", desc := "(I)I" } : Jvm.MethodName) prog_1_method_35_code (7 : Nat) (Option.some Jvm.ClassFile.FieldType.int)) ∈ lw_tbl := lw_mem 531 (by decide +kernel)
theorem kw_532 : (Jvm.Cond.methodLink "EldestSaysLaw" (68 : Nat) ({ cls := "EldestSays", name := "goes", desc := "(I)I" } : Jvm.MethodName)) ∈ lw_tbl := lw_mem 532 (by decide +kernel)
theorem kw_533 : (Jvm.Cond.instanceMethod ({ cls := "EldestSays", name := "goes", desc := "(I)I" } : Jvm.MethodName)) ∈ lw_tbl := lw_mem 533 (by decide +kernel)
theorem kw_534 : (Jvm.Cond.selects "EldestSays" ({ cls := "EldestSays", name := "goes", desc := "(I)I" } : Jvm.MethodName) ({ cls := "EldestSays", name := "goes", desc := "(I)I" } : Jvm.MethodName)) ∈ lw_tbl := lw_mem 534 (by decide +kernel)
theorem kw_535 : (Jvm.Cond.code ({ cls := "EldestSays", name := "goes", desc := "(I)I" } : Jvm.MethodName) prog_1_method_15_code (3 : Nat) (Option.some Jvm.ClassFile.FieldType.int)) ∈ lw_tbl := lw_mem 535 (by decide +kernel)
theorem kw_536 : (Jvm.Cond.methodLink "EldestSays" (173 : Nat) ({ cls := "EldestSays$Evening", name := "decide", desc := "(I[II)I" } : Jvm.MethodName)) ∈ lw_tbl := lw_mem 536 (by decide +kernel)
theorem kw_537 : (Jvm.Cond.instanceMethod ({ cls := "EldestSays$Evening", name := "decide", desc := "(I[II)I" } : Jvm.MethodName)) ∈ lw_tbl := lw_mem 537 (by decide +kernel)
theorem kw_538 : (Jvm.Cond.selects "EldestSays$Evening" ({ cls := "EldestSays$Evening", name := "decide", desc := "(I[II)I" } : Jvm.MethodName) ({ cls := "EldestSays$Evening", name := "decide", desc := "(I[II)I" } : Jvm.MethodName)) ∈ lw_tbl := lw_mem 538 (by decide +kernel)
theorem kw_539 : (Jvm.Cond.code ({ cls := "EldestSays$Evening", name := "decide", desc := "(I[II)I" } : Jvm.MethodName) prog_6_method_9_code (5 : Nat) (Option.some Jvm.ClassFile.FieldType.int)) ∈ lw_tbl := lw_mem 539 (by decide +kernel)
theorem kw_540 : (Jvm.Cond.methodLink "EldestSays$Evening" (65 : Nat) ({ cls := "EldestSays$Evening", name := "isCarried", desc := "(II)Z" } : Jvm.MethodName)) ∈ lw_tbl := lw_mem 540 (by decide +kernel)
theorem kw_541 : (Jvm.Cond.methodLink "EldestSays$Evening" (69 : Nat) ({ cls := "EldestSays$Evening", name := "part", desc := "([II)V" } : Jvm.MethodName)) ∈ lw_tbl := lw_mem 541 (by decide +kernel)
theorem kw_542 : (Jvm.Cond.privateMethod ({ cls := "EldestSays$Evening", name := "part", desc := "([II)V" } : Jvm.MethodName)) ∈ lw_tbl := lw_mem 542 (by decide +kernel)
theorem kw_543 : (Jvm.Cond.instanceMethod ({ cls := "EldestSays$Evening", name := "part", desc := "([II)V" } : Jvm.MethodName)) ∈ lw_tbl := lw_mem 543 (by decide +kernel)
theorem kw_544 : (Jvm.Cond.code ({ cls := "EldestSays$Evening", name := "part", desc := "([II)V" } : Jvm.MethodName) prog_6_method_10_code (5 : Nat) (Option.none : Option Jvm.ClassFile.FieldType)) ∈ lw_tbl := lw_mem 544 (by decide +kernel)
theorem kw_545 : (Jvm.Cond.methodLink "EldestSays$Evening" (73 : Nat) ({ cls := "EldestSays$Evening", name := "putAshore", desc := "()V" } : Jvm.MethodName)) ∈ lw_tbl := lw_mem 545 (by decide +kernel)
theorem kw_546 : (Jvm.Cond.privateMethod ({ cls := "EldestSays$Evening", name := "putAshore", desc := "()V" } : Jvm.MethodName)) ∈ lw_tbl := lw_mem 546 (by decide +kernel)
theorem kw_547 : (Jvm.Cond.instanceMethod ({ cls := "EldestSays$Evening", name := "putAshore", desc := "()V" } : Jvm.MethodName)) ∈ lw_tbl := lw_mem 547 (by decide +kernel)
theorem kw_548 : (Jvm.Cond.code ({ cls := "EldestSays$Evening", name := "putAshore", desc := "()V" } : Jvm.MethodName) prog_6_method_11_code (1 : Nat) (Option.none : Option Jvm.ClassFile.FieldType)) ∈ lw_tbl := lw_mem 548 (by decide +kernel)
theorem kw_549 : (Jvm.Cond.methodLink "EldestSaysLaw" (72 : Nat) ({ cls := "EldestSays", name := "says", desc := "()I" } : Jvm.MethodName)) ∈ lw_tbl := lw_mem 549 (by decide +kernel)
theorem kw_550 : (Jvm.Cond.instanceMethod ({ cls := "EldestSays", name := "says", desc := "()I" } : Jvm.MethodName)) ∈ lw_tbl := lw_mem 550 (by decide +kernel)
theorem kw_551 : (Jvm.Cond.selects "EldestSays" ({ cls := "EldestSays", name := "says", desc := "()I" } : Jvm.MethodName) ({ cls := "EldestSays", name := "says", desc := "()I" } : Jvm.MethodName)) ∈ lw_tbl := lw_mem 551 (by decide +kernel)
theorem kw_552 : (Jvm.Cond.code ({ cls := "EldestSays", name := "says", desc := "()I" } : Jvm.MethodName) prog_1_method_16_code (2 : Nat) (Option.some Jvm.ClassFile.FieldType.int)) ∈ lw_tbl := lw_mem 552 (by decide +kernel)
theorem kw_553 : (Jvm.Cond.methodLink "EldestSaysLaw" (76 : Nat) ({ cls := "EldestSays", name := "got", desc := "(I)I" } : Jvm.MethodName)) ∈ lw_tbl := lw_mem 553 (by decide +kernel)
theorem kw_554 : (Jvm.Cond.instanceMethod ({ cls := "EldestSays", name := "got", desc := "(I)I" } : Jvm.MethodName)) ∈ lw_tbl := lw_mem 554 (by decide +kernel)
theorem kw_555 : (Jvm.Cond.selects "EldestSays" ({ cls := "EldestSays", name := "got", desc := "(I)I" } : Jvm.MethodName) ({ cls := "EldestSays", name := "got", desc := "(I)I" } : Jvm.MethodName)) ∈ lw_tbl := lw_mem 555 (by decide +kernel)
theorem kw_556 : (Jvm.Cond.code ({ cls := "EldestSays", name := "got", desc := "(I)I" } : Jvm.MethodName) prog_1_method_17_code (2 : Nat) (Option.some Jvm.ClassFile.FieldType.int)) ∈ lw_tbl := lw_mem 556 (by decide +kernel)
theorem kw_557 : (Jvm.Cond.methodLink "EldestSaysLaw" (80 : Nat) ({ cls := "EldestSays", name := "alike", desc := "(IIIZ)I" } : Jvm.MethodName)) ∈ lw_tbl := lw_mem 557 (by decide +kernel)
theorem kw_558 : (Jvm.Cond.instanceMethod ({ cls := "EldestSays", name := "alike", desc := "(IIIZ)I" } : Jvm.MethodName)) ∈ lw_tbl := lw_mem 558 (by decide +kernel)
theorem kw_559 : (Jvm.Cond.selects "EldestSays" ({ cls := "EldestSays", name := "alike", desc := "(IIIZ)I" } : Jvm.MethodName) ({ cls := "EldestSays", name := "alike", desc := "(IIIZ)I" } : Jvm.MethodName)) ∈ lw_tbl := lw_mem 559 (by decide +kernel)
theorem kw_560 : (Jvm.Cond.code ({ cls := "EldestSays", name := "alike", desc := "(IIIZ)I" } : Jvm.MethodName) prog_1_method_18_code (5 : Nat) (Option.some Jvm.ClassFile.FieldType.int)) ∈ lw_tbl := lw_mem 560 (by decide +kernel)
theorem kw_561 : (Jvm.Cond.methodLink "EldestSays" (180 : Nat) ({ cls := "EldestSays$Crowd", name := "solve", desc := "(II[I)V" } : Jvm.MethodName)) ∈ lw_tbl := lw_mem 561 (by decide +kernel)
theorem kw_562 : (Jvm.Cond.instanceMethod ({ cls := "EldestSays$Crowd", name := "solve", desc := "(II[I)V" } : Jvm.MethodName)) ∈ lw_tbl := lw_mem 562 (by decide +kernel)
theorem kw_563 : (Jvm.Cond.selects "EldestSays$Crowd" ({ cls := "EldestSays$Crowd", name := "solve", desc := "(II[I)V" } : Jvm.MethodName) ({ cls := "EldestSays$Crowd", name := "solve", desc := "(II[I)V" } : Jvm.MethodName)) ∈ lw_tbl := lw_mem 563 (by decide +kernel)
theorem kw_564 : (Jvm.Cond.code ({ cls := "EldestSays$Crowd", name := "solve", desc := "(II[I)V" } : Jvm.MethodName) prog_4_method_2_code (8 : Nat) (Option.none : Option Jvm.ClassFile.FieldType)) ∈ lw_tbl := lw_mem 564 (by decide +kernel)
theorem kw_565 : (Jvm.Cond.methodLink "EldestSays$Crowd" (25 : Nat) ({ cls := "java/lang/Math", name := "min", desc := "(II)I" } : Jvm.MethodName)) ∈ lw_tbl := lw_mem 565 (by decide +kernel)
theorem kw_566 : (Jvm.Cond.static ({ cls := "java/lang/Math", name := "min", desc := "(II)I" } : Jvm.MethodName)) ∈ lw_tbl := lw_mem 566 (by decide +kernel)
theorem kw_567 : (Jvm.Cond.code ({ cls := "java/lang/Math", name := "min", desc := "(II)I" } : Jvm.MethodName) prog_16_method_69_code (2 : Nat) (Option.some Jvm.ClassFile.FieldType.int)) ∈ lw_tbl := lw_mem 567 (by decide +kernel)
theorem kw_568 : (Jvm.Cond.methodLink "EldestSays$Crowd" (38 : Nat) ({ cls := "EldestSays$Crowd", name := "askYounger", desc := "(II)I" } : Jvm.MethodName)) ∈ lw_tbl := lw_mem 568 (by decide +kernel)
theorem kw_569 : (Jvm.Cond.privateMethod ({ cls := "EldestSays$Crowd", name := "askYounger", desc := "(II)I" } : Jvm.MethodName)) ∈ lw_tbl := lw_mem 569 (by decide +kernel)
theorem kw_570 : (Jvm.Cond.instanceMethod ({ cls := "EldestSays$Crowd", name := "askYounger", desc := "(II)I" } : Jvm.MethodName)) ∈ lw_tbl := lw_mem 570 (by decide +kernel)
theorem kw_571 : (Jvm.Cond.code ({ cls := "EldestSays$Crowd", name := "askYounger", desc := "(II)I" } : Jvm.MethodName) prog_4_method_3_code (5 : Nat) (Option.some Jvm.ClassFile.FieldType.int)) ∈ lw_tbl := lw_mem 571 (by decide +kernel)
theorem kw_572 : (Jvm.Cond.methodLink "EldestSays$Crowd" (54 : Nat) ({ cls := "EldestSays$Clever", name := "ask", desc := "(III)I" } : Jvm.MethodName)) ∈ lw_tbl := lw_mem 572 (by decide +kernel)
theorem kw_573 : (Jvm.Cond.methodLink "EldestSays$Crowd" (41 : Nat) ({ cls := "EldestSays$Crowd", name := "votesLacking", desc := "(III)I" } : Jvm.MethodName)) ∈ lw_tbl := lw_mem 573 (by decide +kernel)
theorem kw_574 : (Jvm.Cond.static ({ cls := "EldestSays$Crowd", name := "votesLacking", desc := "(III)I" } : Jvm.MethodName)) ∈ lw_tbl := lw_mem 574 (by decide +kernel)
theorem kw_575 : (Jvm.Cond.code ({ cls := "EldestSays$Crowd", name := "votesLacking", desc := "(III)I" } : Jvm.MethodName) prog_4_method_4_code (4 : Nat) (Option.some Jvm.ClassFile.FieldType.int)) ∈ lw_tbl := lw_mem 575 (by decide +kernel)
theorem kw_576 : (Jvm.Cond.methodLinkNest "EldestSays$Crowd" (59 : Nat) ({ cls := "EldestSays", name := "isEnough", desc := "(III)Z" } : Jvm.MethodName) "EldestSays") ∈ lw_tbl := lw_mem 576 (by decide +kernel)
theorem kw_577 : (Jvm.Cond.methodLink "EldestSays$Crowd" (45 : Nat) ({ cls := "EldestSays$Crowd", name := "buyYounger", desc := "(III)I" } : Jvm.MethodName)) ∈ lw_tbl := lw_mem 577 (by decide +kernel)
theorem kw_578 : (Jvm.Cond.privateMethod ({ cls := "EldestSays$Crowd", name := "buyYounger", desc := "(III)I" } : Jvm.MethodName)) ∈ lw_tbl := lw_mem 578 (by decide +kernel)
theorem kw_579 : (Jvm.Cond.instanceMethod ({ cls := "EldestSays$Crowd", name := "buyYounger", desc := "(III)I" } : Jvm.MethodName)) ∈ lw_tbl := lw_mem 579 (by decide +kernel)
theorem kw_580 : (Jvm.Cond.code ({ cls := "EldestSays$Crowd", name := "buyYounger", desc := "(III)I" } : Jvm.MethodName) prog_4_method_5_code (9 : Nat) (Option.some Jvm.ClassFile.FieldType.int)) ∈ lw_tbl := lw_mem 580 (by decide +kernel)
theorem kw_581 : (Jvm.Cond.methodLink "EldestSays$Crowd" (63 : Nat) ({ cls := "java/util/Arrays", name := "fill", desc := "([II)V" } : Jvm.MethodName)) ∈ lw_tbl := lw_mem 581 (by decide +kernel)
theorem kw_582 : (Jvm.Cond.methodLink "EldestSays$Crowd" (69 : Nat) ({ cls := "EldestSays$Crowd", name := "nextLevel", desc := "(II)I" } : Jvm.MethodName)) ∈ lw_tbl := lw_mem 582 (by decide +kernel)
theorem kw_583 : (Jvm.Cond.privateMethod ({ cls := "EldestSays$Crowd", name := "nextLevel", desc := "(II)I" } : Jvm.MethodName)) ∈ lw_tbl := lw_mem 583 (by decide +kernel)
theorem kw_584 : (Jvm.Cond.instanceMethod ({ cls := "EldestSays$Crowd", name := "nextLevel", desc := "(II)I" } : Jvm.MethodName)) ∈ lw_tbl := lw_mem 584 (by decide +kernel)
theorem kw_585 : (Jvm.Cond.code ({ cls := "EldestSays$Crowd", name := "nextLevel", desc := "(II)I" } : Jvm.MethodName) prog_4_method_6_code (5 : Nat) (Option.some Jvm.ClassFile.FieldType.int)) ∈ lw_tbl := lw_mem 585 (by decide +kernel)
theorem kw_586 : (Jvm.Cond.methodLink "EldestSays$Crowd" (72 : Nat) ({ cls := "EldestSays$Crowd", name := "buyAtLevel", desc := "(IIII)I" } : Jvm.MethodName)) ∈ lw_tbl := lw_mem 586 (by decide +kernel)
theorem kw_587 : (Jvm.Cond.privateMethod ({ cls := "EldestSays$Crowd", name := "buyAtLevel", desc := "(IIII)I" } : Jvm.MethodName)) ∈ lw_tbl := lw_mem 587 (by decide +kernel)
theorem kw_588 : (Jvm.Cond.instanceMethod ({ cls := "EldestSays$Crowd", name := "buyAtLevel", desc := "(IIII)I" } : Jvm.MethodName)) ∈ lw_tbl := lw_mem 588 (by decide +kernel)
theorem kw_589 : (Jvm.Cond.code ({ cls := "EldestSays$Crowd", name := "buyAtLevel", desc := "(IIII)I" } : Jvm.MethodName) prog_4_method_7_code (9 : Nat) (Option.some Jvm.ClassFile.FieldType.int)) ∈ lw_tbl := lw_mem 589 (by decide +kernel)
theorem kw_590 : (Jvm.Cond.methodLink "EldestSays$Crowd" (48 : Nat) ({ cls := "java/lang/System", name := "arraycopy", desc := "(Ljava/lang/Object;ILjava/lang/Object;II)V" } : Jvm.MethodName)) ∈ lw_tbl := lw_mem 590 (by decide +kernel)
theorem kw_591 : (Jvm.Cond.methodLink "EldestSaysLaw" (85 : Nat) ({ cls := "EldestSays", name := "fewest", desc := "()I" } : Jvm.MethodName)) ∈ lw_tbl := lw_mem 591 (by decide +kernel)
theorem kw_592 : (Jvm.Cond.instanceMethod ({ cls := "EldestSays", name := "fewest", desc := "()I" } : Jvm.MethodName)) ∈ lw_tbl := lw_mem 592 (by decide +kernel)
theorem kw_593 : (Jvm.Cond.selects "EldestSays" ({ cls := "EldestSays", name := "fewest", desc := "()I" } : Jvm.MethodName) ({ cls := "EldestSays", name := "fewest", desc := "()I" } : Jvm.MethodName)) ∈ lw_tbl := lw_mem 593 (by decide +kernel)
theorem kw_594 : (Jvm.Cond.code ({ cls := "EldestSays", name := "fewest", desc := "()I" } : Jvm.MethodName) prog_1_method_19_code (2 : Nat) (Option.some Jvm.ClassFile.FieldType.int)) ∈ lw_tbl := lw_mem 594 (by decide +kernel)
theorem kw_595 : (Jvm.Cond.methodLink "EldestSays" (186 : Nat) ({ cls := "EldestSays$Evening", name := "copy", desc := "(LEldestSays$Evening;)V" } : Jvm.MethodName)) ∈ lw_tbl := lw_mem 595 (by decide +kernel)
theorem kw_596 : (Jvm.Cond.instanceMethod ({ cls := "EldestSays$Evening", name := "copy", desc := "(LEldestSays$Evening;)V" } : Jvm.MethodName)) ∈ lw_tbl := lw_mem 596 (by decide +kernel)
theorem kw_597 : (Jvm.Cond.selects "EldestSays$Evening" ({ cls := "EldestSays$Evening", name := "copy", desc := "(LEldestSays$Evening;)V" } : Jvm.MethodName) ({ cls := "EldestSays$Evening", name := "copy", desc := "(LEldestSays$Evening;)V" } : Jvm.MethodName)) ∈ lw_tbl := lw_mem 597 (by decide +kernel)
theorem kw_598 : (Jvm.Cond.code ({ cls := "EldestSays$Evening", name := "copy", desc := "(LEldestSays$Evening;)V" } : Jvm.MethodName) prog_6_method_2_code (2 : Nat) (Option.none : Option Jvm.ClassFile.FieldType)) ∈ lw_tbl := lw_mem 598 (by decide +kernel)
end
section
theorem kw_599 : (Jvm.Cond.methodLink "EldestSays$Evening" (27 : Nat) ({ cls := "java/lang/System", name := "arraycopy", desc := "(Ljava/lang/Object;ILjava/lang/Object;II)V" } : Jvm.MethodName)) ∈ lw_tbl := lw_mem 599 (by decide +kernel)
theorem kw_600 : (Jvm.Cond.fieldLinkNest "EldestSays$Evening" (33 : Nat) "EldestSays" "GREATEST" "[I" "EldestSays") ∈ lw_tbl := lw_mem 600 (by decide +kernel)
theorem kw_601 : (Jvm.Cond.methodLink "EldestSaysLaw" (89 : Nat) ({ cls := "EldestSays", name := "byLaw", desc := "(III)I" } : Jvm.MethodName)) ∈ lw_tbl := lw_mem 601 (by decide +kernel)
theorem kw_602 : (Jvm.Cond.instanceMethod ({ cls := "EldestSays", name := "byLaw", desc := "(III)I" } : Jvm.MethodName)) ∈ lw_tbl := lw_mem 602 (by decide +kernel)
theorem kw_603 : (Jvm.Cond.selects "EldestSays" ({ cls := "EldestSays", name := "byLaw", desc := "(III)I" } : Jvm.MethodName) ({ cls := "EldestSays", name := "byLaw", desc := "(III)I" } : Jvm.MethodName)) ∈ lw_tbl := lw_mem 603 (by decide +kernel)
theorem kw_604 : (Jvm.Cond.code ({ cls := "EldestSays", name := "byLaw", desc := "(III)I" } : Jvm.MethodName) prog_1_method_20_code (4 : Nat) (Option.some Jvm.ClassFile.FieldType.int)) ∈ lw_tbl := lw_mem 604 (by decide +kernel)
theorem kw_605 : (Jvm.Cond.methodLink "EldestSaysLaw" (94 : Nat) ({ cls := "EldestSays", name := "gains", desc := "()I" } : Jvm.MethodName)) ∈ lw_tbl := lw_mem 605 (by decide +kernel)
theorem kw_606 : (Jvm.Cond.instanceMethod ({ cls := "EldestSays", name := "gains", desc := "()I" } : Jvm.MethodName)) ∈ lw_tbl := lw_mem 606 (by decide +kernel)
theorem kw_607 : (Jvm.Cond.selects "EldestSays" ({ cls := "EldestSays", name := "gains", desc := "()I" } : Jvm.MethodName) ({ cls := "EldestSays", name := "gains", desc := "()I" } : Jvm.MethodName)) ∈ lw_tbl := lw_mem 607 (by decide +kernel)
theorem kw_608 : (Jvm.Cond.code ({ cls := "EldestSays", name := "gains", desc := "()I" } : Jvm.MethodName) prog_1_method_21_code (4 : Nat) (Option.some Jvm.ClassFile.FieldType.int)) ∈ lw_tbl := lw_mem 608 (by decide +kernel)
theorem kw_609 : (Jvm.Cond.methodLink "EldestSays" (196 : Nat) ({ cls := "EldestSays$Evening", name := "add", desc := "(III)V" } : Jvm.MethodName)) ∈ lw_tbl := lw_mem 609 (by decide +kernel)
theorem kw_610 : (Jvm.Cond.methodLink "EldestSaysLaw" (98 : Nat) ({ cls := "EldestSays", name := "swap", desc := "(II)I" } : Jvm.MethodName)) ∈ lw_tbl := lw_mem 610 (by decide +kernel)
theorem kw_611 : (Jvm.Cond.instanceMethod ({ cls := "EldestSays", name := "swap", desc := "(II)I" } : Jvm.MethodName)) ∈ lw_tbl := lw_mem 611 (by decide +kernel)
theorem kw_612 : (Jvm.Cond.selects "EldestSays" ({ cls := "EldestSays", name := "swap", desc := "(II)I" } : Jvm.MethodName) ({ cls := "EldestSays", name := "swap", desc := "(II)I" } : Jvm.MethodName)) ∈ lw_tbl := lw_mem 612 (by decide +kernel)
theorem kw_613 : (Jvm.Cond.code ({ cls := "EldestSays", name := "swap", desc := "(II)I" } : Jvm.MethodName) prog_1_method_22_code (3 : Nat) (Option.some Jvm.ClassFile.FieldType.int)) ∈ lw_tbl := lw_mem 613 (by decide +kernel)
theorem kw_614 : (Jvm.Cond.methodLink "EldestSays" (199 : Nat) ({ cls := "EldestSays", name := "orderAsIs", desc := "()V" } : Jvm.MethodName)) ∈ lw_tbl := lw_mem 614 (by decide +kernel)
theorem kw_615 : (Jvm.Cond.privateMethod ({ cls := "EldestSays", name := "orderAsIs", desc := "()V" } : Jvm.MethodName)) ∈ lw_tbl := lw_mem 615 (by decide +kernel)
theorem kw_616 : (Jvm.Cond.instanceMethod ({ cls := "EldestSays", name := "orderAsIs", desc := "()V" } : Jvm.MethodName)) ∈ lw_tbl := lw_mem 616 (by decide +kernel)
theorem kw_617 : (Jvm.Cond.code ({ cls := "EldestSays", name := "orderAsIs", desc := "()V" } : Jvm.MethodName) prog_1_method_36_code (2 : Nat) (Option.none : Option Jvm.ClassFile.FieldType)) ∈ lw_tbl := lw_mem 617 (by decide +kernel)
theorem kw_618 : (Jvm.Cond.methodLink "EldestSays" (202 : Nat) ({ cls := "EldestSays", name := "seat", desc := "()V" } : Jvm.MethodName)) ∈ lw_tbl := lw_mem 618 (by decide +kernel)
theorem kw_619 : (Jvm.Cond.privateMethod ({ cls := "EldestSays", name := "seat", desc := "()V" } : Jvm.MethodName)) ∈ lw_tbl := lw_mem 619 (by decide +kernel)
theorem kw_620 : (Jvm.Cond.instanceMethod ({ cls := "EldestSays", name := "seat", desc := "()V" } : Jvm.MethodName)) ∈ lw_tbl := lw_mem 620 (by decide +kernel)
theorem kw_621 : (Jvm.Cond.code ({ cls := "EldestSays", name := "seat", desc := "()V" } : Jvm.MethodName) prog_1_method_40_code (3 : Nat) (Option.none : Option Jvm.ClassFile.FieldType)) ∈ lw_tbl := lw_mem 621 (by decide +kernel)
theorem kw_622 : (Jvm.Cond.methodLink "EldestSaysLaw" (102 : Nat) ({ cls := "EldestSays", name := "bestAge", desc := "(I)I" } : Jvm.MethodName)) ∈ lw_tbl := lw_mem 622 (by decide +kernel)
theorem kw_623 : (Jvm.Cond.instanceMethod ({ cls := "EldestSays", name := "bestAge", desc := "(I)I" } : Jvm.MethodName)) ∈ lw_tbl := lw_mem 623 (by decide +kernel)
theorem kw_624 : (Jvm.Cond.selects "EldestSays" ({ cls := "EldestSays", name := "bestAge", desc := "(I)I" } : Jvm.MethodName) ({ cls := "EldestSays", name := "bestAge", desc := "(I)I" } : Jvm.MethodName)) ∈ lw_tbl := lw_mem 624 (by decide +kernel)
theorem kw_625 : (Jvm.Cond.code ({ cls := "EldestSays", name := "bestAge", desc := "(I)I" } : Jvm.MethodName) prog_1_method_23_code (5 : Nat) (Option.some Jvm.ClassFile.FieldType.int)) ∈ lw_tbl := lw_mem 625 (by decide +kernel)
theorem kw_626 : (Jvm.Cond.methodLink "EldestSays" (205 : Nat) ({ cls := "EldestSays", name := "orderWith", desc := "(II)V" } : Jvm.MethodName)) ∈ lw_tbl := lw_mem 626 (by decide +kernel)
theorem kw_627 : (Jvm.Cond.privateMethod ({ cls := "EldestSays", name := "orderWith", desc := "(II)V" } : Jvm.MethodName)) ∈ lw_tbl := lw_mem 627 (by decide +kernel)
theorem kw_628 : (Jvm.Cond.instanceMethod ({ cls := "EldestSays", name := "orderWith", desc := "(II)V" } : Jvm.MethodName)) ∈ lw_tbl := lw_mem 628 (by decide +kernel)
theorem kw_629 : (Jvm.Cond.code ({ cls := "EldestSays", name := "orderWith", desc := "(II)V" } : Jvm.MethodName) prog_1_method_37_code (5 : Nat) (Option.none : Option Jvm.ClassFile.FieldType)) ∈ lw_tbl := lw_mem 629 (by decide +kernel)
theorem kw_630 : (Jvm.Cond.methodLink "EldestSaysLaw" (106 : Nat) ({ cls := "EldestSays", name := "league", desc := "(I)I" } : Jvm.MethodName)) ∈ lw_tbl := lw_mem 630 (by decide +kernel)
theorem kw_631 : (Jvm.Cond.instanceMethod ({ cls := "EldestSays", name := "league", desc := "(I)I" } : Jvm.MethodName)) ∈ lw_tbl := lw_mem 631 (by decide +kernel)
theorem kw_632 : (Jvm.Cond.selects "EldestSays" ({ cls := "EldestSays", name := "league", desc := "(I)I" } : Jvm.MethodName) ({ cls := "EldestSays", name := "league", desc := "(I)I" } : Jvm.MethodName)) ∈ lw_tbl := lw_mem 632 (by decide +kernel)
theorem kw_633 : (Jvm.Cond.code ({ cls := "EldestSays", name := "league", desc := "(I)I" } : Jvm.MethodName) prog_1_method_24_code (3 : Nat) (Option.some Jvm.ClassFile.FieldType.int)) ∈ lw_tbl := lw_mem 633 (by decide +kernel)
theorem kw_634 : (Jvm.Cond.methodLink "EldestSays" (209 : Nat) ({ cls := "java/lang/Integer", name := "bitCount", desc := "(I)I" } : Jvm.MethodName)) ∈ lw_tbl := lw_mem 634 (by decide +kernel)
theorem kw_635 : (Jvm.Cond.static ({ cls := "java/lang/Integer", name := "bitCount", desc := "(I)I" } : Jvm.MethodName)) ∈ lw_tbl := lw_mem 635 (by decide +kernel)
theorem kw_636 : (Jvm.Cond.code ({ cls := "java/lang/Integer", name := "bitCount", desc := "(I)I" } : Jvm.MethodName) prog_15_method_49_code (1 : Nat) (Option.some Jvm.ClassFile.FieldType.int)) ∈ lw_tbl := lw_mem 636 (by decide +kernel)
theorem kw_637 : (Jvm.Cond.constant "java/lang/Integer" (265 : Nat) (1431655765 : Int32)) ∈ lw_tbl := lw_mem 637 (by decide +kernel)
theorem kw_638 : (Jvm.Cond.constant "java/lang/Integer" (266 : Nat) (858993459 : Int32)) ∈ lw_tbl := lw_mem 638 (by decide +kernel)
theorem kw_639 : (Jvm.Cond.constant "java/lang/Integer" (267 : Nat) (252645135 : Int32)) ∈ lw_tbl := lw_mem 639 (by decide +kernel)
theorem kw_640 : (Jvm.Cond.methodLink "EldestSays" (214 : Nat) ({ cls := "EldestSays$Plans", name := "canBuy", desc := "(II)Z" } : Jvm.MethodName)) ∈ lw_tbl := lw_mem 640 (by decide +kernel)
theorem kw_641 : (Jvm.Cond.instanceMethod ({ cls := "EldestSays$Plans", name := "canBuy", desc := "(II)Z" } : Jvm.MethodName)) ∈ lw_tbl := lw_mem 641 (by decide +kernel)
theorem kw_642 : (Jvm.Cond.selects "EldestSays$Plans" ({ cls := "EldestSays$Plans", name := "canBuy", desc := "(II)Z" } : Jvm.MethodName) ({ cls := "EldestSays$Plans", name := "canBuy", desc := "(II)Z" } : Jvm.MethodName)) ∈ lw_tbl := lw_mem 642 (by decide +kernel)
theorem kw_643 : (Jvm.Cond.code ({ cls := "EldestSays$Plans", name := "canBuy", desc := "(II)Z" } : Jvm.MethodName) prog_11_method_14_code (6 : Nat) (Option.some Jvm.ClassFile.FieldType.boolean)) ∈ lw_tbl := lw_mem 643 (by decide +kernel)
theorem kw_644 : (Jvm.Cond.methodLink "EldestSaysLaw" (110 : Nat) ({ cls := "EldestSays", name := "shaken", desc := "(I)J" } : Jvm.MethodName)) ∈ lw_tbl := lw_mem 644 (by decide +kernel)
theorem kw_645 : (Jvm.Cond.instanceMethod ({ cls := "EldestSays", name := "shaken", desc := "(I)J" } : Jvm.MethodName)) ∈ lw_tbl := lw_mem 645 (by decide +kernel)
theorem kw_646 : (Jvm.Cond.selects "EldestSays" ({ cls := "EldestSays", name := "shaken", desc := "(I)J" } : Jvm.MethodName) ({ cls := "EldestSays", name := "shaken", desc := "(I)J" } : Jvm.MethodName)) ∈ lw_tbl := lw_mem 646 (by decide +kernel)
theorem kw_647 : (Jvm.Cond.code ({ cls := "EldestSays", name := "shaken", desc := "(I)J" } : Jvm.MethodName) prog_1_method_25_code (8 : Nat) (Option.some Jvm.ClassFile.FieldType.long)) ∈ lw_tbl := lw_mem 647 (by decide +kernel)
theorem kw_648 : (Jvm.Cond.constantLong "EldestSays" (218 : Nat) (4000000000000000000 : Int64)) ∈ lw_tbl := lw_mem 648 (by decide +kernel)
theorem kw_649 : (Jvm.Cond.methodLink "EldestSays" (220 : Nat) ({ cls := "EldestSays", name := "shakeVotes", desc := "(I)J" } : Jvm.MethodName)) ∈ lw_tbl := lw_mem 649 (by decide +kernel)
theorem kw_650 : (Jvm.Cond.privateMethod ({ cls := "EldestSays", name := "shakeVotes", desc := "(I)J" } : Jvm.MethodName)) ∈ lw_tbl := lw_mem 650 (by decide +kernel)
theorem kw_651 : (Jvm.Cond.instanceMethod ({ cls := "EldestSays", name := "shakeVotes", desc := "(I)J" } : Jvm.MethodName)) ∈ lw_tbl := lw_mem 651 (by decide +kernel)
theorem kw_652 : (Jvm.Cond.code ({ cls := "EldestSays", name := "shakeVotes", desc := "(I)J" } : Jvm.MethodName) prog_1_method_41_code (7 : Nat) (Option.some Jvm.ClassFile.FieldType.long)) ∈ lw_tbl := lw_mem 652 (by decide +kernel)
theorem kw_653 : (Jvm.Cond.methodLink "EldestSays" (261 : Nat) ({ cls := "java/util/Arrays", name := "fill", desc := "([JJ)V" } : Jvm.MethodName)) ∈ lw_tbl := lw_mem 653 (by decide +kernel)
theorem kw_654 : (Jvm.Cond.static ({ cls := "java/util/Arrays", name := "fill", desc := "([JJ)V" } : Jvm.MethodName)) ∈ lw_tbl := lw_mem 654 (by decide +kernel)
theorem kw_655 : (Jvm.Cond.code ({ cls := "java/util/Arrays", name := "fill", desc := "([JJ)V" } : Jvm.MethodName) prog_18_method_101_code (5 : Nat) (Option.none : Option Jvm.ClassFile.FieldType)) ∈ lw_tbl := lw_mem 655 (by decide +kernel)
theorem kw_656 : (Jvm.Cond.methodLink "EldestSays" (267 : Nat) ({ cls := "EldestSays", name := "addVoter", desc := "(II)V" } : Jvm.MethodName)) ∈ lw_tbl := lw_mem 656 (by decide +kernel)
theorem kw_657 : (Jvm.Cond.privateMethod ({ cls := "EldestSays", name := "addVoter", desc := "(II)V" } : Jvm.MethodName)) ∈ lw_tbl := lw_mem 657 (by decide +kernel)
theorem kw_658 : (Jvm.Cond.instanceMethod ({ cls := "EldestSays", name := "addVoter", desc := "(II)V" } : Jvm.MethodName)) ∈ lw_tbl := lw_mem 658 (by decide +kernel)
theorem kw_659 : (Jvm.Cond.code ({ cls := "EldestSays", name := "addVoter", desc := "(II)V" } : Jvm.MethodName) prog_1_method_42_code (6 : Nat) (Option.none : Option Jvm.ClassFile.FieldType)) ∈ lw_tbl := lw_mem 659 (by decide +kernel)
theorem kw_660 : (Jvm.Cond.constantLong "EldestSays" (270 : Nat) (100 : Int64)) ∈ lw_tbl := lw_mem 660 (by decide +kernel)
theorem kw_661 : (Jvm.Cond.methodLink "EldestSays" (224 : Nat) ({ cls := "EldestSays", name := "chanceCarried", desc := "()J" } : Jvm.MethodName)) ∈ lw_tbl := lw_mem 661 (by decide +kernel)
theorem kw_662 : (Jvm.Cond.privateMethod ({ cls := "EldestSays", name := "chanceCarried", desc := "()J" } : Jvm.MethodName)) ∈ lw_tbl := lw_mem 662 (by decide +kernel)
theorem kw_663 : (Jvm.Cond.instanceMethod ({ cls := "EldestSays", name := "chanceCarried", desc := "()J" } : Jvm.MethodName)) ∈ lw_tbl := lw_mem 663 (by decide +kernel)
theorem kw_664 : (Jvm.Cond.code ({ cls := "EldestSays", name := "chanceCarried", desc := "()J" } : Jvm.MethodName) prog_1_method_43_code (5 : Nat) (Option.some Jvm.ClassFile.FieldType.long)) ∈ lw_tbl := lw_mem 664 (by decide +kernel)
theorem kw_665 : (Jvm.Cond.methodLink "EldestSays" (272 : Nat) ({ cls := "EldestSays$Evening", name := "weightFrom", desc := "(I)I" } : Jvm.MethodName)) ∈ lw_tbl := lw_mem 665 (by decide +kernel)
theorem kw_666 : (Jvm.Cond.methodLink "EldestSays" (275 : Nat) ({ cls := "EldestSays", name := "isEnough", desc := "(III)Z" } : Jvm.MethodName)) ∈ lw_tbl := lw_mem 666 (by decide +kernel)
theorem kw_667 : (Jvm.Cond.methodLink "EldestSays" (228 : Nat) ({ cls := "EldestSays", name := "commonDivisor", desc := "(JJ)J" } : Jvm.MethodName)) ∈ lw_tbl := lw_mem 667 (by decide +kernel)
theorem kw_668 : (Jvm.Cond.static ({ cls := "EldestSays", name := "commonDivisor", desc := "(JJ)J" } : Jvm.MethodName)) ∈ lw_tbl := lw_mem 668 (by decide +kernel)
theorem kw_669 : (Jvm.Cond.code ({ cls := "EldestSays", name := "commonDivisor", desc := "(JJ)J" } : Jvm.MethodName) prog_1_method_44_code (11 : Nat) (Option.some Jvm.ClassFile.FieldType.long)) ∈ lw_tbl := lw_mem 669 (by decide +kernel)
theorem kw_670 : (Jvm.Cond.methodLink "EldestSaysLaw" (115 : Nat) ({ cls := "EldestSays", name := "seeds", desc := "(III)I" } : Jvm.MethodName)) ∈ lw_tbl := lw_mem 670 (by decide +kernel)
theorem kw_671 : (Jvm.Cond.instanceMethod ({ cls := "EldestSays", name := "seeds", desc := "(III)I" } : Jvm.MethodName)) ∈ lw_tbl := lw_mem 671 (by decide +kernel)
theorem kw_672 : (Jvm.Cond.selects "EldestSays" ({ cls := "EldestSays", name := "seeds", desc := "(III)I" } : Jvm.MethodName) ({ cls := "EldestSays", name := "seeds", desc := "(III)I" } : Jvm.MethodName)) ∈ lw_tbl := lw_mem 672 (by decide +kernel)
theorem kw_673 : (Jvm.Cond.code ({ cls := "EldestSays", name := "seeds", desc := "(III)I" } : Jvm.MethodName) prog_1_method_26_code (7 : Nat) (Option.some Jvm.ClassFile.FieldType.int)) ∈ lw_tbl := lw_mem 673 (by decide +kernel)
theorem kw_674 : (Jvm.Cond.methodLink "EldestSays" (232 : Nat) ({ cls := "EldestSays", name := "drawOrder", desc := "(I)I" } : Jvm.MethodName)) ∈ lw_tbl := lw_mem 674 (by decide +kernel)
theorem kw_675 : (Jvm.Cond.privateMethod ({ cls := "EldestSays", name := "drawOrder", desc := "(I)I" } : Jvm.MethodName)) ∈ lw_tbl := lw_mem 675 (by decide +kernel)
theorem kw_676 : (Jvm.Cond.instanceMethod ({ cls := "EldestSays", name := "drawOrder", desc := "(I)I" } : Jvm.MethodName)) ∈ lw_tbl := lw_mem 676 (by decide +kernel)
theorem kw_677 : (Jvm.Cond.code ({ cls := "EldestSays", name := "drawOrder", desc := "(I)I" } : Jvm.MethodName) prog_1_method_38_code (6 : Nat) (Option.some Jvm.ClassFile.FieldType.int)) ∈ lw_tbl := lw_mem 677 (by decide +kernel)
theorem kw_678 : (Jvm.Cond.constant "EldestSays" (258 : Nat) (1103515245 : Int32)) ∈ lw_tbl := lw_mem 678 (by decide +kernel)
theorem kw_679 : (Jvm.Cond.constant "EldestSays" (259 : Nat) (2147483647 : Int32)) ∈ lw_tbl := lw_mem 679 (by decide +kernel)
theorem kw_680 : (Jvm.Cond.constant "EldestSays" (260 : Nat) (65536 : Int32)) ∈ lw_tbl := lw_mem 680 (by decide +kernel)
theorem kw_681 : (Jvm.Cond.methodLink "EldestSays" (235 : Nat) ({ cls := "EldestSays", name := "placeOf", desc := "(I)I" } : Jvm.MethodName)) ∈ lw_tbl := lw_mem 681 (by decide +kernel)
theorem kw_682 : (Jvm.Cond.privateMethod ({ cls := "EldestSays", name := "placeOf", desc := "(I)I" } : Jvm.MethodName)) ∈ lw_tbl := lw_mem 682 (by decide +kernel)
theorem kw_683 : (Jvm.Cond.instanceMethod ({ cls := "EldestSays", name := "placeOf", desc := "(I)I" } : Jvm.MethodName)) ∈ lw_tbl := lw_mem 683 (by decide +kernel)
theorem kw_684 : (Jvm.Cond.code ({ cls := "EldestSays", name := "placeOf", desc := "(I)I" } : Jvm.MethodName) prog_1_method_39_code (4 : Nat) (Option.some Jvm.ClassFile.FieldType.int)) ∈ lw_tbl := lw_mem 684 (by decide +kernel)
theorem kw_685 : (Jvm.Cond.methodLink "EldestSays" (238 : Nat) ({ cls := "java/lang/Math", name := "max", desc := "(II)I" } : Jvm.MethodName)) ∈ lw_tbl := lw_mem 685 (by decide +kernel)
theorem kw_686 : (Jvm.Cond.methodLink "EldestSaysLaw" (119 : Nat) ({ cls := "EldestSays", name := "clear", desc := "()I" } : Jvm.MethodName)) ∈ lw_tbl := lw_mem 686 (by decide +kernel)
theorem kw_687 : (Jvm.Cond.instanceMethod ({ cls := "EldestSays", name := "clear", desc := "()I" } : Jvm.MethodName)) ∈ lw_tbl := lw_mem 687 (by decide +kernel)
theorem kw_688 : (Jvm.Cond.selects "EldestSays" ({ cls := "EldestSays", name := "clear", desc := "()I" } : Jvm.MethodName) ({ cls := "EldestSays", name := "clear", desc := "()I" } : Jvm.MethodName)) ∈ lw_tbl := lw_mem 688 (by decide +kernel)
theorem kw_689 : (Jvm.Cond.code ({ cls := "EldestSays", name := "clear", desc := "()I" } : Jvm.MethodName) prog_1_method_27_code (2 : Nat) (Option.some Jvm.ClassFile.FieldType.int)) ∈ lw_tbl := lw_mem 689 (by decide +kernel)
theorem kw_690 : (Jvm.Cond.methodLink "EldestSaysLaw" (123 : Nat) ({ cls := "EldestSays", name := "image", desc := "()I" } : Jvm.MethodName)) ∈ lw_tbl := lw_mem 690 (by decide +kernel)
theorem kw_691 : (Jvm.Cond.instanceMethod ({ cls := "EldestSays", name := "image", desc := "()I" } : Jvm.MethodName)) ∈ lw_tbl := lw_mem 691 (by decide +kernel)
theorem kw_692 : (Jvm.Cond.selects "EldestSays" ({ cls := "EldestSays", name := "image", desc := "()I" } : Jvm.MethodName) ({ cls := "EldestSays", name := "image", desc := "()I" } : Jvm.MethodName)) ∈ lw_tbl := lw_mem 692 (by decide +kernel)
theorem kw_693 : (Jvm.Cond.code ({ cls := "EldestSays", name := "image", desc := "()I" } : Jvm.MethodName) prog_1_method_28_code (1 : Nat) (Option.some Jvm.ClassFile.FieldType.int)) ∈ lw_tbl := lw_mem 693 (by decide +kernel)
theorem kw_694 : (Jvm.Cond.methodLink "EldestSaysLaw" (127 : Nat) ({ cls := "EldestSays", name := "restore", desc := "()I" } : Jvm.MethodName)) ∈ lw_tbl := lw_mem 694 (by decide +kernel)
theorem kw_695 : (Jvm.Cond.instanceMethod ({ cls := "EldestSays", name := "restore", desc := "()I" } : Jvm.MethodName)) ∈ lw_tbl := lw_mem 695 (by decide +kernel)
theorem kw_696 : (Jvm.Cond.selects "EldestSays" ({ cls := "EldestSays", name := "restore", desc := "()I" } : Jvm.MethodName) ({ cls := "EldestSays", name := "restore", desc := "()I" } : Jvm.MethodName)) ∈ lw_tbl := lw_mem 696 (by decide +kernel)
theorem kw_697 : (Jvm.Cond.code ({ cls := "EldestSays", name := "restore", desc := "()I" } : Jvm.MethodName) prog_1_method_29_code (1 : Nat) (Option.some Jvm.ClassFile.FieldType.int)) ∈ lw_tbl := lw_mem 697 (by decide +kernel)
theorem kw_698 : (Jvm.Cond.methodLink "EldestSaysLaw" (131 : Nat) ({ cls := "EldestSays", name := "count", desc := "(I)I" } : Jvm.MethodName)) ∈ lw_tbl := lw_mem 698 (by decide +kernel)
theorem kw_699 : (Jvm.Cond.instanceMethod ({ cls := "EldestSays", name := "count", desc := "(I)I" } : Jvm.MethodName)) ∈ lw_tbl := lw_mem 699 (by decide +kernel)
theorem kw_700 : (Jvm.Cond.selects "EldestSays" ({ cls := "EldestSays", name := "count", desc := "(I)I" } : Jvm.MethodName) ({ cls := "EldestSays", name := "count", desc := "(I)I" } : Jvm.MethodName)) ∈ lw_tbl := lw_mem 700 (by decide +kernel)
theorem kw_701 : (Jvm.Cond.code ({ cls := "EldestSays", name := "count", desc := "(I)I" } : Jvm.MethodName) prog_1_method_30_code (2 : Nat) (Option.some Jvm.ClassFile.FieldType.int)) ∈ lw_tbl := lw_mem 701 (by decide +kernel)
theorem kw_702 : (Jvm.Cond.methodLink "EldestSays" (250 : Nat) ({ cls := "EldestSays$Evening", name := "weightLeft", desc := "()I" } : Jvm.MethodName)) ∈ lw_tbl := lw_mem 702 (by decide +kernel)
theorem kw_703 : (Jvm.Cond.instanceMethod ({ cls := "EldestSays$Evening", name := "weightLeft", desc := "()I" } : Jvm.MethodName)) ∈ lw_tbl := lw_mem 703 (by decide +kernel)
theorem kw_704 : (Jvm.Cond.selects "EldestSays$Evening" ({ cls := "EldestSays$Evening", name := "weightLeft", desc := "()I" } : Jvm.MethodName) ({ cls := "EldestSays$Evening", name := "weightLeft", desc := "()I" } : Jvm.MethodName)) ∈ lw_tbl := lw_mem 704 (by decide +kernel)
theorem kw_705 : (Jvm.Cond.code ({ cls := "EldestSays$Evening", name := "weightLeft", desc := "()I" } : Jvm.MethodName) prog_6_method_7_code (1 : Nat) (Option.some Jvm.ClassFile.FieldType.int)) ∈ lw_tbl := lw_mem 705 (by decide +kernel)
theorem kw_706 : (Jvm.Cond.methodLink "EldestSays$Evening" (53 : Nat) ({ cls := "EldestSays$Evening", name := "has", desc := "(I)Z" } : Jvm.MethodName)) ∈ lw_tbl := lw_mem 706 (by decide +kernel)
theorem kw_707 : (Jvm.Cond.methodLink "EldestSays" (255 : Nat) ({ cls := "EldestSays", name := "countRefusals", desc := "(I)I" } : Jvm.MethodName)) ∈ lw_tbl := lw_mem 707 (by decide +kernel)
theorem kw_708 : (Jvm.Cond.privateMethod ({ cls := "EldestSays", name := "countRefusals", desc := "(I)I" } : Jvm.MethodName)) ∈ lw_tbl := lw_mem 708 (by decide +kernel)
theorem kw_709 : (Jvm.Cond.instanceMethod ({ cls := "EldestSays", name := "countRefusals", desc := "(I)I" } : Jvm.MethodName)) ∈ lw_tbl := lw_mem 709 (by decide +kernel)
theorem kw_710 : (Jvm.Cond.code ({ cls := "EldestSays", name := "countRefusals", desc := "(I)I" } : Jvm.MethodName) prog_1_method_31_code (2 : Nat) (Option.some Jvm.ClassFile.FieldType.int)) ∈ lw_tbl := lw_mem 710 (by decide +kernel)
theorem kw_711 : (Jvm.Cond.classLink "EldestSaysLaw" (10 : Nat) "EldestSaysModel") ∈ lw_tbl := lw_mem 711 (by decide +kernel)
theorem kw_712 : (Jvm.Cond.instantiable "EldestSaysModel" (33 : Nat)) ∈ lw_tbl := lw_mem 712 (by decide +kernel)
theorem kw_713 : (Jvm.Cond.methodLink "EldestSaysLaw" (12 : Nat) ({ cls := "EldestSaysModel", name := "<init>", desc := "()V" } : Jvm.MethodName)) ∈ lw_tbl := lw_mem 713 (by decide +kernel)
theorem kw_714 : (Jvm.Cond.instanceMethod ({ cls := "EldestSaysModel", name := "<init>", desc := "()V" } : Jvm.MethodName)) ∈ lw_tbl := lw_mem 714 (by decide +kernel)
theorem kw_715 : (Jvm.Cond.code ({ cls := "EldestSaysModel", name := "<init>", desc := "()V" } : Jvm.MethodName) prog_14_method_1_code (1 : Nat) (Option.none : Option Jvm.ClassFile.FieldType)) ∈ lw_tbl := lw_mem 715 (by decide +kernel)
theorem kw_716 : (Jvm.Cond.methodLink "EldestSaysModel" (1 : Nat) ({ cls := "java/lang/Object", name := "<init>", desc := "()V" } : Jvm.MethodName)) ∈ lw_tbl := lw_mem 716 (by decide +kernel)
theorem kw_717 : (Jvm.Cond.fieldLink "EldestSaysModel" (7 : Nat) "EldestSaysModel" "refused" "[I") ∈ lw_tbl := lw_mem 717 (by decide +kernel)
theorem kw_718 : (Jvm.Cond.fieldLink "EldestSaysModel" (13 : Nat) "EldestSaysModel" "kind" "[I") ∈ lw_tbl := lw_mem 718 (by decide +kernel)
theorem kw_719 : (Jvm.Cond.fieldLink "EldestSaysModel" (16 : Nat) "EldestSaysModel" "figure" "[I") ∈ lw_tbl := lw_mem 719 (by decide +kernel)
theorem kw_720 : (Jvm.Cond.fieldLink "EldestSaysModel" (19 : Nat) "EldestSaysModel" "weight" "[I") ∈ lw_tbl := lw_mem 720 (by decide +kernel)
theorem kw_721 : (Jvm.Cond.fieldLink "EldestSaysModel" (22 : Nat) "EldestSaysModel" "got" "[I") ∈ lw_tbl := lw_mem 721 (by decide +kernel)
theorem kw_722 : (Jvm.Cond.fieldLink "EldestSaysModel" (25 : Nat) "EldestSaysModel" "setting" "[I") ∈ lw_tbl := lw_mem 722 (by decide +kernel)
theorem kw_723 : (Jvm.Cond.fieldLink "EldestSaysModel" (82 : Nat) "EldestSaysModel" "men" "I") ∈ lw_tbl := lw_mem 723 (by decide +kernel)
theorem kw_724 : (Jvm.Cond.fieldLink "EldestSaysModel" (144 : Nat) "EldestSaysModel" "sayer" "I") ∈ lw_tbl := lw_mem 724 (by decide +kernel)
theorem kw_725 : (Jvm.Cond.fieldLink "EldestSaysModel" (115 : Nat) "EldestSaysModel" "done" "I") ∈ lw_tbl := lw_mem 725 (by decide +kernel)
theorem kw_726 : (Jvm.Cond.fieldLink "EldestSaysModel" (28 : Nat) "EldestSaysModel" "tape" "[I") ∈ lw_tbl := lw_mem 726 (by decide +kernel)
theorem kw_727 : (Jvm.Cond.fieldLink "EldestSaysModel" (31 : Nat) "EldestSaysModel" "letter" "[I") ∈ lw_tbl := lw_mem 727 (by decide +kernel)
theorem kw_728 : (Jvm.Cond.fieldLink "EldestSaysModel" (34 : Nat) "EldestSaysModel" "letterAt" "[I") ∈ lw_tbl := lw_mem 728 (by decide +kernel)
theorem kw_729 : (Jvm.Cond.fieldLink "EldestSaysModel" (37 : Nat) "EldestSaysModel" "told" "[I") ∈ lw_tbl := lw_mem 729 (by decide +kernel)
theorem kw_730 : (Jvm.Cond.fieldLink "EldestSaysModel" (90 : Nat) "EldestSaysModel" "taped" "I") ∈ lw_tbl := lw_mem 730 (by decide +kernel)
theorem kw_731 : (Jvm.Cond.fieldLink "EldestSaysModel" (97 : Nat) "EldestSaysModel" "at" "I") ∈ lw_tbl := lw_mem 731 (by decide +kernel)
theorem kw_732 : (Jvm.Cond.fieldLink "EldestSaysModel" (108 : Nat) "EldestSaysModel" "statements" "I") ∈ lw_tbl := lw_mem 732 (by decide +kernel)
theorem kw_733 : (Jvm.Cond.fieldLink "EldestSaysModel" (40 : Nat) "EldestSaysModel" "kept" "[I") ∈ lw_tbl := lw_mem 733 (by decide +kernel)
theorem kw_734 : (Jvm.Cond.fieldLink "EldestSaysModel" (147 : Nat) "EldestSaysModel" "hasImage" "Z") ∈ lw_tbl := lw_mem 734 (by decide +kernel)
theorem kw_735 : (Jvm.Cond.fieldLink "EldestSaysModel" (130 : Nat) "EldestSaysModel" "isKeeping" "Z") ∈ lw_tbl := lw_mem 735 (by decide +kernel)
theorem kw_736 : (Jvm.Cond.fieldLink "EldestSaysModel" (134 : Nat) "EldestSaysModel" "cursor" "I") ∈ lw_tbl := lw_mem 736 (by decide +kernel)
theorem kw_737 : (Jvm.Cond.fieldLink "EldestSaysModel" (43 : Nat) "EldestSaysModel" "price" "[I") ∈ lw_tbl := lw_mem 737 (by decide +kernel)
theorem kw_738 : (Jvm.Cond.fieldLink "EldestSaysModel" (46 : Nat) "EldestSaysModel" "offer" "[I") ∈ lw_tbl := lw_mem 738 (by decide +kernel)
theorem kw_739 : (Jvm.Cond.fieldLink "EldestSaysModel" (49 : Nat) "EldestSaysModel" "gets" "[I") ∈ lw_tbl := lw_mem 739 (by decide +kernel)
theorem kw_740 : (Jvm.Cond.fieldLink "EldestSaysModel" (52 : Nat) "EldestSaysModel" "yes" "[I") ∈ lw_tbl := lw_mem 740 (by decide +kernel)
theorem kw_741 : (Jvm.Cond.fieldLink "EldestSaysModel" (55 : Nat) "EldestSaysModel" "buys" "[I") ∈ lw_tbl := lw_mem 741 (by decide +kernel)
theorem kw_742 : (Jvm.Cond.fieldLink "EldestSaysModel" (58 : Nat) "EldestSaysModel" "ends" "[I") ∈ lw_tbl := lw_mem 742 (by decide +kernel)
theorem kw_743 : (Jvm.Cond.fieldLink "EldestSaysModel" (61 : Nat) "EldestSaysModel" "carried" "[I") ∈ lw_tbl := lw_mem 743 (by decide +kernel)
theorem kw_744 : (Jvm.Cond.fieldLink "EldestSaysModel" (64 : Nat) "EldestSaysModel" "row" "[I") ∈ lw_tbl := lw_mem 744 (by decide +kernel)
theorem kw_745 : (Jvm.Cond.fieldLink "EldestSaysModel" (210 : Nat) "EldestSaysModel" "rowMany" "I") ∈ lw_tbl := lw_mem 745 (by decide +kernel)
theorem kw_746 : (Jvm.Cond.fieldLink "EldestSaysModel" (67 : Nat) "EldestSaysModel" "keptRow" "[I") ∈ lw_tbl := lw_mem 746 (by decide +kernel)
theorem kw_747 : (Jvm.Cond.fieldLink "EldestSaysModel" (70 : Nat) "EldestSaysModel" "likeGets" "[I") ∈ lw_tbl := lw_mem 747 (by decide +kernel)
theorem kw_748 : (Jvm.Cond.fieldLink "EldestSaysModel" (73 : Nat) "EldestSaysModel" "likePrice" "[I") ∈ lw_tbl := lw_mem 748 (by decide +kernel)
theorem kw_749 : (Jvm.Cond.fieldLink "EldestSaysModel" (76 : Nat) "EldestSaysModel" "ahead" "[I") ∈ lw_tbl := lw_mem 749 (by decide +kernel)
theorem kw_750 : (Jvm.Cond.laysFinal "EldestSaysModel" "EldestSaysModel" "refused" "[I") ∈ lw_tbl := lw_mem 750 (by decide +kernel)
theorem kw_751 : (Jvm.Cond.soleField "EldestSaysModel" "refused") ∈ lw_tbl := lw_mem 751 (by decide +kernel)
theorem kw_752 : (Jvm.Cond.laysFinal "EldestSaysModel" "EldestSaysModel" "kind" "[I") ∈ lw_tbl := lw_mem 752 (by decide +kernel)
theorem kw_753 : (Jvm.Cond.soleField "EldestSaysModel" "kind") ∈ lw_tbl := lw_mem 753 (by decide +kernel)
theorem kw_754 : (Jvm.Cond.laysFinal "EldestSaysModel" "EldestSaysModel" "figure" "[I") ∈ lw_tbl := lw_mem 754 (by decide +kernel)
theorem kw_755 : (Jvm.Cond.soleField "EldestSaysModel" "figure") ∈ lw_tbl := lw_mem 755 (by decide +kernel)
theorem kw_756 : (Jvm.Cond.laysFinal "EldestSaysModel" "EldestSaysModel" "weight" "[I") ∈ lw_tbl := lw_mem 756 (by decide +kernel)
theorem kw_757 : (Jvm.Cond.soleField "EldestSaysModel" "weight") ∈ lw_tbl := lw_mem 757 (by decide +kernel)
theorem kw_758 : (Jvm.Cond.laysFinal "EldestSaysModel" "EldestSaysModel" "got" "[I") ∈ lw_tbl := lw_mem 758 (by decide +kernel)
theorem kw_759 : (Jvm.Cond.soleField "EldestSaysModel" "got") ∈ lw_tbl := lw_mem 759 (by decide +kernel)
theorem kw_760 : (Jvm.Cond.laysFinal "EldestSaysModel" "EldestSaysModel" "setting" "[I") ∈ lw_tbl := lw_mem 760 (by decide +kernel)
theorem kw_761 : (Jvm.Cond.soleField "EldestSaysModel" "setting") ∈ lw_tbl := lw_mem 761 (by decide +kernel)
theorem kw_762 : (Jvm.Cond.lays "EldestSaysModel" "EldestSaysModel" "men" "I") ∈ lw_tbl := lw_mem 762 (by decide +kernel)
theorem kw_763 : (Jvm.Cond.soleField "EldestSaysModel" "men") ∈ lw_tbl := lw_mem 763 (by decide +kernel)
theorem kw_764 : (Jvm.Cond.lays "EldestSaysModel" "EldestSaysModel" "sayer" "I") ∈ lw_tbl := lw_mem 764 (by decide +kernel)
theorem kw_765 : (Jvm.Cond.soleField "EldestSaysModel" "sayer") ∈ lw_tbl := lw_mem 765 (by decide +kernel)
theorem kw_766 : (Jvm.Cond.lays "EldestSaysModel" "EldestSaysModel" "done" "I") ∈ lw_tbl := lw_mem 766 (by decide +kernel)
theorem kw_767 : (Jvm.Cond.soleField "EldestSaysModel" "done") ∈ lw_tbl := lw_mem 767 (by decide +kernel)
theorem kw_768 : (Jvm.Cond.laysFinal "EldestSaysModel" "EldestSaysModel" "tape" "[I") ∈ lw_tbl := lw_mem 768 (by decide +kernel)
theorem kw_769 : (Jvm.Cond.soleField "EldestSaysModel" "tape") ∈ lw_tbl := lw_mem 769 (by decide +kernel)
theorem kw_770 : (Jvm.Cond.laysFinal "EldestSaysModel" "EldestSaysModel" "letter" "[I") ∈ lw_tbl := lw_mem 770 (by decide +kernel)
theorem kw_771 : (Jvm.Cond.soleField "EldestSaysModel" "letter") ∈ lw_tbl := lw_mem 771 (by decide +kernel)
theorem kw_772 : (Jvm.Cond.laysFinal "EldestSaysModel" "EldestSaysModel" "letterAt" "[I") ∈ lw_tbl := lw_mem 772 (by decide +kernel)
theorem kw_773 : (Jvm.Cond.soleField "EldestSaysModel" "letterAt") ∈ lw_tbl := lw_mem 773 (by decide +kernel)
theorem kw_774 : (Jvm.Cond.laysFinal "EldestSaysModel" "EldestSaysModel" "told" "[I") ∈ lw_tbl := lw_mem 774 (by decide +kernel)
theorem kw_775 : (Jvm.Cond.soleField "EldestSaysModel" "told") ∈ lw_tbl := lw_mem 775 (by decide +kernel)
theorem kw_776 : (Jvm.Cond.lays "EldestSaysModel" "EldestSaysModel" "taped" "I") ∈ lw_tbl := lw_mem 776 (by decide +kernel)
theorem kw_777 : (Jvm.Cond.soleField "EldestSaysModel" "taped") ∈ lw_tbl := lw_mem 777 (by decide +kernel)
theorem kw_778 : (Jvm.Cond.lays "EldestSaysModel" "EldestSaysModel" "at" "I") ∈ lw_tbl := lw_mem 778 (by decide +kernel)
theorem kw_779 : (Jvm.Cond.soleField "EldestSaysModel" "at") ∈ lw_tbl := lw_mem 779 (by decide +kernel)
theorem kw_780 : (Jvm.Cond.lays "EldestSaysModel" "EldestSaysModel" "statements" "I") ∈ lw_tbl := lw_mem 780 (by decide +kernel)
theorem kw_781 : (Jvm.Cond.soleField "EldestSaysModel" "statements") ∈ lw_tbl := lw_mem 781 (by decide +kernel)
theorem kw_782 : (Jvm.Cond.laysFinal "EldestSaysModel" "EldestSaysModel" "kept" "[I") ∈ lw_tbl := lw_mem 782 (by decide +kernel)
theorem kw_783 : (Jvm.Cond.soleField "EldestSaysModel" "kept") ∈ lw_tbl := lw_mem 783 (by decide +kernel)
theorem kw_784 : (Jvm.Cond.lays "EldestSaysModel" "EldestSaysModel" "hasImage" "Z") ∈ lw_tbl := lw_mem 784 (by decide +kernel)
theorem kw_785 : (Jvm.Cond.soleField "EldestSaysModel" "hasImage") ∈ lw_tbl := lw_mem 785 (by decide +kernel)
theorem kw_786 : (Jvm.Cond.lays "EldestSaysModel" "EldestSaysModel" "isKeeping" "Z") ∈ lw_tbl := lw_mem 786 (by decide +kernel)
theorem kw_787 : (Jvm.Cond.soleField "EldestSaysModel" "isKeeping") ∈ lw_tbl := lw_mem 787 (by decide +kernel)
theorem kw_788 : (Jvm.Cond.lays "EldestSaysModel" "EldestSaysModel" "cursor" "I") ∈ lw_tbl := lw_mem 788 (by decide +kernel)
theorem kw_789 : (Jvm.Cond.soleField "EldestSaysModel" "cursor") ∈ lw_tbl := lw_mem 789 (by decide +kernel)
theorem kw_790 : (Jvm.Cond.laysFinal "EldestSaysModel" "EldestSaysModel" "price" "[I") ∈ lw_tbl := lw_mem 790 (by decide +kernel)
theorem kw_791 : (Jvm.Cond.soleField "EldestSaysModel" "price") ∈ lw_tbl := lw_mem 791 (by decide +kernel)
theorem kw_792 : (Jvm.Cond.laysFinal "EldestSaysModel" "EldestSaysModel" "offer" "[I") ∈ lw_tbl := lw_mem 792 (by decide +kernel)
theorem kw_793 : (Jvm.Cond.soleField "EldestSaysModel" "offer") ∈ lw_tbl := lw_mem 793 (by decide +kernel)
theorem kw_794 : (Jvm.Cond.laysFinal "EldestSaysModel" "EldestSaysModel" "gets" "[I") ∈ lw_tbl := lw_mem 794 (by decide +kernel)
theorem kw_795 : (Jvm.Cond.soleField "EldestSaysModel" "gets") ∈ lw_tbl := lw_mem 795 (by decide +kernel)
theorem kw_796 : (Jvm.Cond.laysFinal "EldestSaysModel" "EldestSaysModel" "yes" "[I") ∈ lw_tbl := lw_mem 796 (by decide +kernel)
theorem kw_797 : (Jvm.Cond.soleField "EldestSaysModel" "yes") ∈ lw_tbl := lw_mem 797 (by decide +kernel)
theorem kw_798 : (Jvm.Cond.laysFinal "EldestSaysModel" "EldestSaysModel" "buys" "[I") ∈ lw_tbl := lw_mem 798 (by decide +kernel)
theorem kw_799 : (Jvm.Cond.soleField "EldestSaysModel" "buys") ∈ lw_tbl := lw_mem 799 (by decide +kernel)
theorem kw_800 : (Jvm.Cond.laysFinal "EldestSaysModel" "EldestSaysModel" "ends" "[I") ∈ lw_tbl := lw_mem 800 (by decide +kernel)
theorem kw_801 : (Jvm.Cond.soleField "EldestSaysModel" "ends") ∈ lw_tbl := lw_mem 801 (by decide +kernel)
theorem kw_802 : (Jvm.Cond.laysFinal "EldestSaysModel" "EldestSaysModel" "carried" "[I") ∈ lw_tbl := lw_mem 802 (by decide +kernel)
theorem kw_803 : (Jvm.Cond.soleField "EldestSaysModel" "carried") ∈ lw_tbl := lw_mem 803 (by decide +kernel)
theorem kw_804 : (Jvm.Cond.laysFinal "EldestSaysModel" "EldestSaysModel" "row" "[I") ∈ lw_tbl := lw_mem 804 (by decide +kernel)
theorem kw_805 : (Jvm.Cond.soleField "EldestSaysModel" "row") ∈ lw_tbl := lw_mem 805 (by decide +kernel)
theorem kw_806 : (Jvm.Cond.lays "EldestSaysModel" "EldestSaysModel" "rowMany" "I") ∈ lw_tbl := lw_mem 806 (by decide +kernel)
theorem kw_807 : (Jvm.Cond.soleField "EldestSaysModel" "rowMany") ∈ lw_tbl := lw_mem 807 (by decide +kernel)
theorem kw_808 : (Jvm.Cond.laysFinal "EldestSaysModel" "EldestSaysModel" "keptRow" "[I") ∈ lw_tbl := lw_mem 808 (by decide +kernel)
theorem kw_809 : (Jvm.Cond.soleField "EldestSaysModel" "keptRow") ∈ lw_tbl := lw_mem 809 (by decide +kernel)
theorem kw_810 : (Jvm.Cond.laysFinal "EldestSaysModel" "EldestSaysModel" "likeGets" "[I") ∈ lw_tbl := lw_mem 810 (by decide +kernel)
theorem kw_811 : (Jvm.Cond.soleField "EldestSaysModel" "likeGets") ∈ lw_tbl := lw_mem 811 (by decide +kernel)
theorem kw_812 : (Jvm.Cond.laysFinal "EldestSaysModel" "EldestSaysModel" "likePrice" "[I") ∈ lw_tbl := lw_mem 812 (by decide +kernel)
theorem kw_813 : (Jvm.Cond.soleField "EldestSaysModel" "likePrice") ∈ lw_tbl := lw_mem 813 (by decide +kernel)
theorem kw_814 : (Jvm.Cond.laysFinal "EldestSaysModel" "EldestSaysModel" "ahead" "[I") ∈ lw_tbl := lw_mem 814 (by decide +kernel)
theorem kw_815 : (Jvm.Cond.soleField "EldestSaysModel" "ahead") ∈ lw_tbl := lw_mem 815 (by decide +kernel)
theorem kw_816 : (Jvm.Cond.superclass "EldestSaysModel" "java/lang/Object") ∈ lw_tbl := lw_mem 816 (by decide +kernel)
theorem kw_817 : (Jvm.Cond.methodLink "EldestSaysLaw" (17 : Nat) ({ cls := "EldestSaysModel", name := "feed", desc := "(I)I" } : Jvm.MethodName)) ∈ lw_tbl := lw_mem 817 (by decide +kernel)
theorem kw_818 : (Jvm.Cond.instanceMethod ({ cls := "EldestSaysModel", name := "feed", desc := "(I)I" } : Jvm.MethodName)) ∈ lw_tbl := lw_mem 818 (by decide +kernel)
theorem kw_819 : (Jvm.Cond.selects "EldestSaysModel" ({ cls := "EldestSaysModel", name := "feed", desc := "(I)I" } : Jvm.MethodName) ({ cls := "EldestSaysModel", name := "feed", desc := "(I)I" } : Jvm.MethodName)) ∈ lw_tbl := lw_mem 819 (by decide +kernel)
theorem kw_820 : (Jvm.Cond.code ({ cls := "EldestSaysModel", name := "feed", desc := "(I)I" } : Jvm.MethodName) prog_14_method_8_code (3 : Nat) (Option.some Jvm.ClassFile.FieldType.int)) ∈ lw_tbl := lw_mem 820 (by decide +kernel)
theorem kw_821 : (Jvm.Cond.methodLink "EldestSaysModel" (86 : Nat) ({ cls := "EldestSaysModel", name := "bound", desc := "(III)I" } : Jvm.MethodName)) ∈ lw_tbl := lw_mem 821 (by decide +kernel)
theorem kw_822 : (Jvm.Cond.static ({ cls := "EldestSaysModel", name := "bound", desc := "(III)I" } : Jvm.MethodName)) ∈ lw_tbl := lw_mem 822 (by decide +kernel)
theorem kw_823 : (Jvm.Cond.code ({ cls := "EldestSaysModel", name := "bound", desc := "(III)I" } : Jvm.MethodName) prog_14_method_6_code (3 : Nat) (Option.some Jvm.ClassFile.FieldType.int)) ∈ lw_tbl := lw_mem 823 (by decide +kernel)
theorem kw_824 : (Jvm.Cond.methodLink "EldestSaysModel" (93 : Nat) ({ cls := "EldestSaysModel", name := "no", desc := "(I)I" } : Jvm.MethodName)) ∈ lw_tbl := lw_mem 824 (by decide +kernel)
theorem kw_825 : (Jvm.Cond.privateMethod ({ cls := "EldestSaysModel", name := "no", desc := "(I)I" } : Jvm.MethodName)) ∈ lw_tbl := lw_mem 825 (by decide +kernel)
theorem kw_826 : (Jvm.Cond.instanceMethod ({ cls := "EldestSaysModel", name := "no", desc := "(I)I" } : Jvm.MethodName)) ∈ lw_tbl := lw_mem 826 (by decide +kernel)
theorem kw_827 : (Jvm.Cond.code ({ cls := "EldestSaysModel", name := "no", desc := "(I)I" } : Jvm.MethodName) prog_14_method_2_code (2 : Nat) (Option.some Jvm.ClassFile.FieldType.int)) ∈ lw_tbl := lw_mem 827 (by decide +kernel)
theorem kw_828 : (Jvm.Cond.methodLink "EldestSaysLaw" (22 : Nat) ({ cls := "EldestSaysModel", name := "beach", desc := "()I" } : Jvm.MethodName)) ∈ lw_tbl := lw_mem 828 (by decide +kernel)
theorem kw_829 : (Jvm.Cond.instanceMethod ({ cls := "EldestSaysModel", name := "beach", desc := "()I" } : Jvm.MethodName)) ∈ lw_tbl := lw_mem 829 (by decide +kernel)
theorem kw_830 : (Jvm.Cond.selects "EldestSaysModel" ({ cls := "EldestSaysModel", name := "beach", desc := "()I" } : Jvm.MethodName) ({ cls := "EldestSaysModel", name := "beach", desc := "()I" } : Jvm.MethodName)) ∈ lw_tbl := lw_mem 830 (by decide +kernel)
theorem kw_831 : (Jvm.Cond.code ({ cls := "EldestSaysModel", name := "beach", desc := "()I" } : Jvm.MethodName) prog_14_method_13_code (3 : Nat) (Option.some Jvm.ClassFile.FieldType.int)) ∈ lw_tbl := lw_mem 831 (by decide +kernel)
theorem kw_832 : (Jvm.Cond.methodLink "EldestSaysModel" (118 : Nat) ({ cls := "EldestSaysModel", name := "statement", desc := "()Z" } : Jvm.MethodName)) ∈ lw_tbl := lw_mem 832 (by decide +kernel)
theorem kw_833 : (Jvm.Cond.privateMethod ({ cls := "EldestSaysModel", name := "statement", desc := "()Z" } : Jvm.MethodName)) ∈ lw_tbl := lw_mem 833 (by decide +kernel)
theorem kw_834 : (Jvm.Cond.instanceMethod ({ cls := "EldestSaysModel", name := "statement", desc := "()Z" } : Jvm.MethodName)) ∈ lw_tbl := lw_mem 834 (by decide +kernel)
theorem kw_835 : (Jvm.Cond.code ({ cls := "EldestSaysModel", name := "statement", desc := "()Z" } : Jvm.MethodName) prog_14_method_11_code (4 : Nat) (Option.some Jvm.ClassFile.FieldType.boolean)) ∈ lw_tbl := lw_mem 835 (by decide +kernel)
theorem kw_836 : (Jvm.Cond.methodLink "EldestSaysModel" (100 : Nat) ({ cls := "EldestSaysModel", name := "next", desc := "()I" } : Jvm.MethodName)) ∈ lw_tbl := lw_mem 836 (by decide +kernel)
theorem kw_837 : (Jvm.Cond.privateMethod ({ cls := "EldestSaysModel", name := "next", desc := "()I" } : Jvm.MethodName)) ∈ lw_tbl := lw_mem 837 (by decide +kernel)
theorem kw_838 : (Jvm.Cond.instanceMethod ({ cls := "EldestSaysModel", name := "next", desc := "()I" } : Jvm.MethodName)) ∈ lw_tbl := lw_mem 838 (by decide +kernel)
theorem kw_839 : (Jvm.Cond.code ({ cls := "EldestSaysModel", name := "next", desc := "()I" } : Jvm.MethodName) prog_14_method_9_code (1 : Nat) (Option.some Jvm.ClassFile.FieldType.int)) ∈ lw_tbl := lw_mem 839 (by decide +kernel)
theorem kw_840 : (Jvm.Cond.methodLink "EldestSaysModel" (111 : Nat) ({ cls := "EldestSaysModel", name := "reads", desc := "(II)Z" } : Jvm.MethodName)) ∈ lw_tbl := lw_mem 840 (by decide +kernel)
theorem kw_841 : (Jvm.Cond.privateMethod ({ cls := "EldestSaysModel", name := "reads", desc := "(II)Z" } : Jvm.MethodName)) ∈ lw_tbl := lw_mem 841 (by decide +kernel)
theorem kw_842 : (Jvm.Cond.instanceMethod ({ cls := "EldestSaysModel", name := "reads", desc := "(II)Z" } : Jvm.MethodName)) ∈ lw_tbl := lw_mem 842 (by decide +kernel)
theorem kw_843 : (Jvm.Cond.code ({ cls := "EldestSaysModel", name := "reads", desc := "(II)Z" } : Jvm.MethodName) prog_14_method_10_code (5 : Nat) (Option.some Jvm.ClassFile.FieldType.boolean)) ∈ lw_tbl := lw_mem 843 (by decide +kernel)
theorem kw_844 : (Jvm.Cond.methodLink "EldestSaysModel" (104 : Nat) ({ cls := "EldestSaysModel", name := "isIn", desc := "(III)Z" } : Jvm.MethodName)) ∈ lw_tbl := lw_mem 844 (by decide +kernel)
theorem kw_845 : (Jvm.Cond.static ({ cls := "EldestSaysModel", name := "isIn", desc := "(III)Z" } : Jvm.MethodName)) ∈ lw_tbl := lw_mem 845 (by decide +kernel)
theorem kw_846 : (Jvm.Cond.code ({ cls := "EldestSaysModel", name := "isIn", desc := "(III)Z" } : Jvm.MethodName) prog_14_method_5_code (3 : Nat) (Option.some Jvm.ClassFile.FieldType.boolean)) ∈ lw_tbl := lw_mem 846 (by decide +kernel)
theorem kw_847 : (Jvm.Cond.methodLink "EldestSaysModel" (122 : Nat) ({ cls := "EldestSaysModel", name := "passesAll", desc := "(IZ)V" } : Jvm.MethodName)) ∈ lw_tbl := lw_mem 847 (by decide +kernel)
theorem kw_848 : (Jvm.Cond.privateMethod ({ cls := "EldestSaysModel", name := "passesAll", desc := "(IZ)V" } : Jvm.MethodName)) ∈ lw_tbl := lw_mem 848 (by decide +kernel)
theorem kw_849 : (Jvm.Cond.instanceMethod ({ cls := "EldestSaysModel", name := "passesAll", desc := "(IZ)V" } : Jvm.MethodName)) ∈ lw_tbl := lw_mem 849 (by decide +kernel)
theorem kw_850 : (Jvm.Cond.code ({ cls := "EldestSaysModel", name := "passesAll", desc := "(IZ)V" } : Jvm.MethodName) prog_14_method_16_code (3 : Nat) (Option.none : Option Jvm.ClassFile.FieldType)) ∈ lw_tbl := lw_mem 850 (by decide +kernel)
theorem kw_851 : (Jvm.Cond.methodLink "EldestSaysModel" (137 : Nat) ({ cls := "EldestSaysModel", name := "passes", desc := "([I)V" } : Jvm.MethodName)) ∈ lw_tbl := lw_mem 851 (by decide +kernel)
theorem kw_852 : (Jvm.Cond.privateMethod ({ cls := "EldestSaysModel", name := "passes", desc := "([I)V" } : Jvm.MethodName)) ∈ lw_tbl := lw_mem 852 (by decide +kernel)
theorem kw_853 : (Jvm.Cond.instanceMethod ({ cls := "EldestSaysModel", name := "passes", desc := "([I)V" } : Jvm.MethodName)) ∈ lw_tbl := lw_mem 853 (by decide +kernel)
theorem kw_854 : (Jvm.Cond.code ({ cls := "EldestSaysModel", name := "passes", desc := "([I)V" } : Jvm.MethodName) prog_14_method_14_code (3 : Nat) (Option.none : Option Jvm.ClassFile.FieldType)) ∈ lw_tbl := lw_mem 854 (by decide +kernel)
theorem kw_855 : (Jvm.Cond.methodLink "EldestSaysModel" (141 : Nat) ({ cls := "EldestSaysModel", name := "passOne", desc := "(I)I" } : Jvm.MethodName)) ∈ lw_tbl := lw_mem 855 (by decide +kernel)
theorem kw_856 : (Jvm.Cond.privateMethod ({ cls := "EldestSaysModel", name := "passOne", desc := "(I)I" } : Jvm.MethodName)) ∈ lw_tbl := lw_mem 856 (by decide +kernel)
theorem kw_857 : (Jvm.Cond.instanceMethod ({ cls := "EldestSaysModel", name := "passOne", desc := "(I)I" } : Jvm.MethodName)) ∈ lw_tbl := lw_mem 857 (by decide +kernel)
theorem kw_858 : (Jvm.Cond.code ({ cls := "EldestSaysModel", name := "passOne", desc := "(I)I" } : Jvm.MethodName) prog_14_method_15_code (3 : Nat) (Option.some Jvm.ClassFile.FieldType.int)) ∈ lw_tbl := lw_mem 858 (by decide +kernel)
theorem kw_859 : (Jvm.Cond.methodLink "EldestSaysModel" (126 : Nat) ({ cls := "EldestSaysModel", name := "comes", desc := "(I)Z" } : Jvm.MethodName)) ∈ lw_tbl := lw_mem 859 (by decide +kernel)
theorem kw_860 : (Jvm.Cond.privateMethod ({ cls := "EldestSaysModel", name := "comes", desc := "(I)Z" } : Jvm.MethodName)) ∈ lw_tbl := lw_mem 860 (by decide +kernel)
theorem kw_861 : (Jvm.Cond.instanceMethod ({ cls := "EldestSaysModel", name := "comes", desc := "(I)Z" } : Jvm.MethodName)) ∈ lw_tbl := lw_mem 861 (by decide +kernel)
theorem kw_862 : (Jvm.Cond.code ({ cls := "EldestSaysModel", name := "comes", desc := "(I)Z" } : Jvm.MethodName) prog_14_method_12_code (4 : Nat) (Option.some Jvm.ClassFile.FieldType.boolean)) ∈ lw_tbl := lw_mem 862 (by decide +kernel)
theorem kw_863 : (Jvm.Cond.methodLink "EldestSaysLaw" (126 : Nat) ({ cls := "EldestSaysModel", name := "image", desc := "()I" } : Jvm.MethodName)) ∈ lw_tbl := lw_mem 863 (by decide +kernel)
theorem kw_864 : (Jvm.Cond.instanceMethod ({ cls := "EldestSaysModel", name := "image", desc := "()I" } : Jvm.MethodName)) ∈ lw_tbl := lw_mem 864 (by decide +kernel)
theorem kw_865 : (Jvm.Cond.selects "EldestSaysModel" ({ cls := "EldestSaysModel", name := "image", desc := "()I" } : Jvm.MethodName) ({ cls := "EldestSaysModel", name := "image", desc := "()I" } : Jvm.MethodName)) ∈ lw_tbl := lw_mem 865 (by decide +kernel)
theorem kw_866 : (Jvm.Cond.code ({ cls := "EldestSaysModel", name := "image", desc := "()I" } : Jvm.MethodName) prog_14_method_17_code (1 : Nat) (Option.some Jvm.ClassFile.FieldType.int)) ∈ lw_tbl := lw_mem 866 (by decide +kernel)
theorem kw_867 : (Jvm.Cond.methodLink "EldestSaysLaw" (130 : Nat) ({ cls := "EldestSaysModel", name := "restore", desc := "()I" } : Jvm.MethodName)) ∈ lw_tbl := lw_mem 867 (by decide +kernel)
theorem kw_868 : (Jvm.Cond.instanceMethod ({ cls := "EldestSaysModel", name := "restore", desc := "()I" } : Jvm.MethodName)) ∈ lw_tbl := lw_mem 868 (by decide +kernel)
theorem kw_869 : (Jvm.Cond.selects "EldestSaysModel" ({ cls := "EldestSaysModel", name := "restore", desc := "()I" } : Jvm.MethodName) ({ cls := "EldestSaysModel", name := "restore", desc := "()I" } : Jvm.MethodName)) ∈ lw_tbl := lw_mem 869 (by decide +kernel)
theorem kw_870 : (Jvm.Cond.code ({ cls := "EldestSaysModel", name := "restore", desc := "()I" } : Jvm.MethodName) prog_14_method_18_code (1 : Nat) (Option.some Jvm.ClassFile.FieldType.int)) ∈ lw_tbl := lw_mem 870 (by decide +kernel)
theorem kw_871 : (Jvm.Cond.methodLink "EldestSaysLaw" (27 : Nat) ({ cls := "EldestSaysModel", name := "man", desc := "(II)I" } : Jvm.MethodName)) ∈ lw_tbl := lw_mem 871 (by decide +kernel)
theorem kw_872 : (Jvm.Cond.instanceMethod ({ cls := "EldestSaysModel", name := "man", desc := "(II)I" } : Jvm.MethodName)) ∈ lw_tbl := lw_mem 872 (by decide +kernel)
theorem kw_873 : (Jvm.Cond.selects "EldestSaysModel" ({ cls := "EldestSaysModel", name := "man", desc := "(II)I" } : Jvm.MethodName) ({ cls := "EldestSaysModel", name := "man", desc := "(II)I" } : Jvm.MethodName)) ∈ lw_tbl := lw_mem 873 (by decide +kernel)
theorem kw_874 : (Jvm.Cond.code ({ cls := "EldestSaysModel", name := "man", desc := "(II)I" } : Jvm.MethodName) prog_14_method_19_code (3 : Nat) (Option.some Jvm.ClassFile.FieldType.int)) ∈ lw_tbl := lw_mem 874 (by decide +kernel)
theorem kw_875 : (Jvm.Cond.methodLink "EldestSaysModel" (150 : Nat) ({ cls := "EldestSaysModel", name := "isMan", desc := "(I)Z" } : Jvm.MethodName)) ∈ lw_tbl := lw_mem 875 (by decide +kernel)
theorem kw_876 : (Jvm.Cond.privateMethod ({ cls := "EldestSaysModel", name := "isMan", desc := "(I)Z" } : Jvm.MethodName)) ∈ lw_tbl := lw_mem 876 (by decide +kernel)
theorem kw_877 : (Jvm.Cond.instanceMethod ({ cls := "EldestSaysModel", name := "isMan", desc := "(I)Z" } : Jvm.MethodName)) ∈ lw_tbl := lw_mem 877 (by decide +kernel)
theorem kw_878 : (Jvm.Cond.code ({ cls := "EldestSaysModel", name := "isMan", desc := "(I)Z" } : Jvm.MethodName) prog_14_method_7_code (2 : Nat) (Option.some Jvm.ClassFile.FieldType.boolean)) ∈ lw_tbl := lw_mem 878 (by decide +kernel)
theorem kw_879 : (Jvm.Cond.methodLink "EldestSaysLaw" (31 : Nat) ({ cls := "EldestSaysModel", name := "set", desc := "(II)I" } : Jvm.MethodName)) ∈ lw_tbl := lw_mem 879 (by decide +kernel)
theorem kw_880 : (Jvm.Cond.instanceMethod ({ cls := "EldestSaysModel", name := "set", desc := "(II)I" } : Jvm.MethodName)) ∈ lw_tbl := lw_mem 880 (by decide +kernel)
theorem kw_881 : (Jvm.Cond.selects "EldestSaysModel" ({ cls := "EldestSaysModel", name := "set", desc := "(II)I" } : Jvm.MethodName) ({ cls := "EldestSaysModel", name := "set", desc := "(II)I" } : Jvm.MethodName)) ∈ lw_tbl := lw_mem 881 (by decide +kernel)
theorem kw_882 : (Jvm.Cond.code ({ cls := "EldestSaysModel", name := "set", desc := "(II)I" } : Jvm.MethodName) prog_14_method_20_code (5 : Nat) (Option.some Jvm.ClassFile.FieldType.int)) ∈ lw_tbl := lw_mem 882 (by decide +kernel)
theorem kw_883 : (Jvm.Cond.fieldLink "EldestSaysModel" (153 : Nat) "EldestSaysModel" "MOST_SET" "[I") ∈ lw_tbl := lw_mem 883 (by decide +kernel)
theorem kw_884 : (Jvm.Cond.laysStatic "EldestSaysModel" "MOST_SET" "[I") ∈ lw_tbl := lw_mem 884 (by decide +kernel)
theorem kw_885 : (Jvm.Cond.methodLink "EldestSaysLaw" (35 : Nat) ({ cls := "EldestSaysModel", name := "offered", desc := "(II)I" } : Jvm.MethodName)) ∈ lw_tbl := lw_mem 885 (by decide +kernel)
theorem kw_886 : (Jvm.Cond.instanceMethod ({ cls := "EldestSaysModel", name := "offered", desc := "(II)I" } : Jvm.MethodName)) ∈ lw_tbl := lw_mem 886 (by decide +kernel)
theorem kw_887 : (Jvm.Cond.selects "EldestSaysModel" ({ cls := "EldestSaysModel", name := "offered", desc := "(II)I" } : Jvm.MethodName) ({ cls := "EldestSaysModel", name := "offered", desc := "(II)I" } : Jvm.MethodName)) ∈ lw_tbl := lw_mem 887 (by decide +kernel)
theorem kw_888 : (Jvm.Cond.code ({ cls := "EldestSaysModel", name := "offered", desc := "(II)I" } : Jvm.MethodName) prog_14_method_37_code (3 : Nat) (Option.some Jvm.ClassFile.FieldType.int)) ∈ lw_tbl := lw_mem 888 (by decide +kernel)
theorem kw_889 : (Jvm.Cond.methodLink "EldestSaysModel" (201 : Nat) ({ cls := "EldestSaysModel", name := "areInOrder", desc := "(II)Z" } : Jvm.MethodName)) ∈ lw_tbl := lw_mem 889 (by decide +kernel)
theorem kw_890 : (Jvm.Cond.privateMethod ({ cls := "EldestSaysModel", name := "areInOrder", desc := "(II)Z" } : Jvm.MethodName)) ∈ lw_tbl := lw_mem 890 (by decide +kernel)
theorem kw_891 : (Jvm.Cond.instanceMethod ({ cls := "EldestSaysModel", name := "areInOrder", desc := "(II)Z" } : Jvm.MethodName)) ∈ lw_tbl := lw_mem 891 (by decide +kernel)
theorem kw_892 : (Jvm.Cond.code ({ cls := "EldestSaysModel", name := "areInOrder", desc := "(II)Z" } : Jvm.MethodName) prog_14_method_36_code (3 : Nat) (Option.some Jvm.ClassFile.FieldType.boolean)) ∈ lw_tbl := lw_mem 892 (by decide +kernel)
theorem kw_893 : (Jvm.Cond.methodLink "EldestSaysModel" (204 : Nat) ({ cls := "EldestSaysModel", name := "solvesAll", desc := "()V" } : Jvm.MethodName)) ∈ lw_tbl := lw_mem 893 (by decide +kernel)
theorem kw_894 : (Jvm.Cond.privateMethod ({ cls := "EldestSaysModel", name := "solvesAll", desc := "()V" } : Jvm.MethodName)) ∈ lw_tbl := lw_mem 894 (by decide +kernel)
theorem kw_895 : (Jvm.Cond.instanceMethod ({ cls := "EldestSaysModel", name := "solvesAll", desc := "()V" } : Jvm.MethodName)) ∈ lw_tbl := lw_mem 895 (by decide +kernel)
theorem kw_896 : (Jvm.Cond.code ({ cls := "EldestSaysModel", name := "solvesAll", desc := "()V" } : Jvm.MethodName) prog_14_method_35_code (2 : Nat) (Option.none : Option Jvm.ClassFile.FieldType)) ∈ lw_tbl := lw_mem 896 (by decide +kernel)
theorem kw_897 : (Jvm.Cond.methodLink "EldestSaysModel" (198 : Nat) ({ cls := "EldestSaysModel", name := "solves", desc := "(I)V" } : Jvm.MethodName)) ∈ lw_tbl := lw_mem 897 (by decide +kernel)
theorem kw_898 : (Jvm.Cond.privateMethod ({ cls := "EldestSaysModel", name := "solves", desc := "(I)V" } : Jvm.MethodName)) ∈ lw_tbl := lw_mem 898 (by decide +kernel)
end
section
theorem kw_899 : (Jvm.Cond.instanceMethod ({ cls := "EldestSaysModel", name := "solves", desc := "(I)V" } : Jvm.MethodName)) ∈ lw_tbl := lw_mem 899 (by decide +kernel)
theorem kw_900 : (Jvm.Cond.code ({ cls := "EldestSaysModel", name := "solves", desc := "(I)V" } : Jvm.MethodName) prog_14_method_34_code (3 : Nat) (Option.none : Option Jvm.ClassFile.FieldType)) ∈ lw_tbl := lw_mem 900 (by decide +kernel)
theorem kw_901 : (Jvm.Cond.methodLink "EldestSaysModel" (191 : Nat) ({ cls := "EldestSaysModel", name := "priceOf", desc := "(II)I" } : Jvm.MethodName)) ∈ lw_tbl := lw_mem 901 (by decide +kernel)
theorem kw_902 : (Jvm.Cond.privateMethod ({ cls := "EldestSaysModel", name := "priceOf", desc := "(II)I" } : Jvm.MethodName)) ∈ lw_tbl := lw_mem 902 (by decide +kernel)
theorem kw_903 : (Jvm.Cond.instanceMethod ({ cls := "EldestSaysModel", name := "priceOf", desc := "(II)I" } : Jvm.MethodName)) ∈ lw_tbl := lw_mem 903 (by decide +kernel)
theorem kw_904 : (Jvm.Cond.code ({ cls := "EldestSaysModel", name := "priceOf", desc := "(II)I" } : Jvm.MethodName) prog_14_method_25_code (5 : Nat) (Option.some Jvm.ClassFile.FieldType.int)) ∈ lw_tbl := lw_mem 904 (by decide +kernel)
theorem kw_905 : (Jvm.Cond.methodLink "EldestSaysModel" (156 : Nat) ({ cls := "EldestSaysModel", name := "above", desc := "(I)I" } : Jvm.MethodName)) ∈ lw_tbl := lw_mem 905 (by decide +kernel)
theorem kw_906 : (Jvm.Cond.static ({ cls := "EldestSaysModel", name := "above", desc := "(I)I" } : Jvm.MethodName)) ∈ lw_tbl := lw_mem 906 (by decide +kernel)
theorem kw_907 : (Jvm.Cond.code ({ cls := "EldestSaysModel", name := "above", desc := "(I)I" } : Jvm.MethodName) prog_14_method_24_code (1 : Nat) (Option.some Jvm.ClassFile.FieldType.int)) ∈ lw_tbl := lw_mem 907 (by decide +kernel)
theorem kw_908 : (Jvm.Cond.methodLink "EldestSaysModel" (194 : Nat) ({ cls := "EldestSaysModel", name := "findOffer", desc := "(I)V" } : Jvm.MethodName)) ∈ lw_tbl := lw_mem 908 (by decide +kernel)
theorem kw_909 : (Jvm.Cond.privateMethod ({ cls := "EldestSaysModel", name := "findOffer", desc := "(I)V" } : Jvm.MethodName)) ∈ lw_tbl := lw_mem 909 (by decide +kernel)
theorem kw_910 : (Jvm.Cond.instanceMethod ({ cls := "EldestSaysModel", name := "findOffer", desc := "(I)V" } : Jvm.MethodName)) ∈ lw_tbl := lw_mem 910 (by decide +kernel)
theorem kw_911 : (Jvm.Cond.code ({ cls := "EldestSaysModel", name := "findOffer", desc := "(I)V" } : Jvm.MethodName) prog_14_method_33_code (3 : Nat) (Option.none : Option Jvm.ClassFile.FieldType)) ∈ lw_tbl := lw_mem 911 (by decide +kernel)
theorem kw_912 : (Jvm.Cond.methodLink "EldestSaysModel" (182 : Nat) ({ cls := "EldestSaysModel", name := "doesBuy", desc := "(I)Z" } : Jvm.MethodName)) ∈ lw_tbl := lw_mem 912 (by decide +kernel)
theorem kw_913 : (Jvm.Cond.static ({ cls := "EldestSaysModel", name := "doesBuy", desc := "(I)Z" } : Jvm.MethodName)) ∈ lw_tbl := lw_mem 913 (by decide +kernel)
theorem kw_914 : (Jvm.Cond.code ({ cls := "EldestSaysModel", name := "doesBuy", desc := "(I)Z" } : Jvm.MethodName) prog_14_method_32_code (1 : Nat) (Option.some Jvm.ClassFile.FieldType.boolean)) ∈ lw_tbl := lw_mem 914 (by decide +kernel)
theorem kw_915 : (Jvm.Cond.methodLink "EldestSaysModel" (185 : Nat) ({ cls := "EldestSaysModel", name := "buysBy", desc := "(I)I" } : Jvm.MethodName)) ∈ lw_tbl := lw_mem 915 (by decide +kernel)
theorem kw_916 : (Jvm.Cond.privateMethod ({ cls := "EldestSaysModel", name := "buysBy", desc := "(I)I" } : Jvm.MethodName)) ∈ lw_tbl := lw_mem 916 (by decide +kernel)
theorem kw_917 : (Jvm.Cond.instanceMethod ({ cls := "EldestSaysModel", name := "buysBy", desc := "(I)I" } : Jvm.MethodName)) ∈ lw_tbl := lw_mem 917 (by decide +kernel)
theorem kw_918 : (Jvm.Cond.code ({ cls := "EldestSaysModel", name := "buysBy", desc := "(I)I" } : Jvm.MethodName) prog_14_method_29_code (6 : Nat) (Option.some Jvm.ClassFile.FieldType.int)) ∈ lw_tbl := lw_mem 918 (by decide +kernel)
theorem kw_919 : (Jvm.Cond.methodLink "EldestSaysModel" (159 : Nat) ({ cls := "EldestSaysModel", name := "leftFrom", desc := "(I)I" } : Jvm.MethodName)) ∈ lw_tbl := lw_mem 919 (by decide +kernel)
theorem kw_920 : (Jvm.Cond.privateMethod ({ cls := "EldestSaysModel", name := "leftFrom", desc := "(I)I" } : Jvm.MethodName)) ∈ lw_tbl := lw_mem 920 (by decide +kernel)
theorem kw_921 : (Jvm.Cond.instanceMethod ({ cls := "EldestSaysModel", name := "leftFrom", desc := "(I)I" } : Jvm.MethodName)) ∈ lw_tbl := lw_mem 921 (by decide +kernel)
theorem kw_922 : (Jvm.Cond.code ({ cls := "EldestSaysModel", name := "leftFrom", desc := "(I)I" } : Jvm.MethodName) prog_14_method_23_code (2 : Nat) (Option.some Jvm.ClassFile.FieldType.int)) ∈ lw_tbl := lw_mem 922 (by decide +kernel)
theorem kw_923 : (Jvm.Cond.methodLink "EldestSaysModel" (162 : Nat) ({ cls := "EldestSaysModel", name := "unbought", desc := "(I)I" } : Jvm.MethodName)) ∈ lw_tbl := lw_mem 923 (by decide +kernel)
theorem kw_924 : (Jvm.Cond.privateMethod ({ cls := "EldestSaysModel", name := "unbought", desc := "(I)I" } : Jvm.MethodName)) ∈ lw_tbl := lw_mem 924 (by decide +kernel)
theorem kw_925 : (Jvm.Cond.instanceMethod ({ cls := "EldestSaysModel", name := "unbought", desc := "(I)I" } : Jvm.MethodName)) ∈ lw_tbl := lw_mem 925 (by decide +kernel)
theorem kw_926 : (Jvm.Cond.code ({ cls := "EldestSaysModel", name := "unbought", desc := "(I)I" } : Jvm.MethodName) prog_14_method_27_code (4 : Nat) (Option.some Jvm.ClassFile.FieldType.int)) ∈ lw_tbl := lw_mem 926 (by decide +kernel)
theorem kw_927 : (Jvm.Cond.methodLink "EldestSaysModel" (165 : Nat) ({ cls := "EldestSaysModel", name := "weightOf", desc := "(I)I" } : Jvm.MethodName)) ∈ lw_tbl := lw_mem 927 (by decide +kernel)
theorem kw_928 : (Jvm.Cond.privateMethod ({ cls := "EldestSaysModel", name := "weightOf", desc := "(I)I" } : Jvm.MethodName)) ∈ lw_tbl := lw_mem 928 (by decide +kernel)
theorem kw_929 : (Jvm.Cond.instanceMethod ({ cls := "EldestSaysModel", name := "weightOf", desc := "(I)I" } : Jvm.MethodName)) ∈ lw_tbl := lw_mem 929 (by decide +kernel)
theorem kw_930 : (Jvm.Cond.code ({ cls := "EldestSaysModel", name := "weightOf", desc := "(I)I" } : Jvm.MethodName) prog_14_method_22_code (4 : Nat) (Option.some Jvm.ClassFile.FieldType.int)) ∈ lw_tbl := lw_mem 930 (by decide +kernel)
theorem kw_931 : (Jvm.Cond.methodLink "EldestSaysModel" (168 : Nat) ({ cls := "EldestSaysModel", name := "isCarried", desc := "(III)Z" } : Jvm.MethodName)) ∈ lw_tbl := lw_mem 931 (by decide +kernel)
theorem kw_932 : (Jvm.Cond.static ({ cls := "EldestSaysModel", name := "isCarried", desc := "(III)Z" } : Jvm.MethodName)) ∈ lw_tbl := lw_mem 932 (by decide +kernel)
theorem kw_933 : (Jvm.Cond.code ({ cls := "EldestSaysModel", name := "isCarried", desc := "(III)Z" } : Jvm.MethodName) prog_14_method_21_code (3 : Nat) (Option.some Jvm.ClassFile.FieldType.boolean)) ∈ lw_tbl := lw_mem 933 (by decide +kernel)
theorem kw_934 : (Jvm.Cond.methodLink "EldestSaysModel" (171 : Nat) ({ cls := "EldestSaysModel", name := "costOf", desc := "(II)I" } : Jvm.MethodName)) ∈ lw_tbl := lw_mem 934 (by decide +kernel)
theorem kw_935 : (Jvm.Cond.privateMethod ({ cls := "EldestSaysModel", name := "costOf", desc := "(II)I" } : Jvm.MethodName)) ∈ lw_tbl := lw_mem 935 (by decide +kernel)
theorem kw_936 : (Jvm.Cond.instanceMethod ({ cls := "EldestSaysModel", name := "costOf", desc := "(II)I" } : Jvm.MethodName)) ∈ lw_tbl := lw_mem 936 (by decide +kernel)
theorem kw_937 : (Jvm.Cond.code ({ cls := "EldestSaysModel", name := "costOf", desc := "(II)I" } : Jvm.MethodName) prog_14_method_26_code (5 : Nat) (Option.some Jvm.ClassFile.FieldType.int)) ∈ lw_tbl := lw_mem 937 (by decide +kernel)
theorem kw_938 : (Jvm.Cond.methodLink "EldestSaysModel" (175 : Nat) ({ cls := "EldestSaysModel", name := "isAhead", desc := "(II)Z" } : Jvm.MethodName)) ∈ lw_tbl := lw_mem 938 (by decide +kernel)
theorem kw_939 : (Jvm.Cond.privateMethod ({ cls := "EldestSaysModel", name := "isAhead", desc := "(II)Z" } : Jvm.MethodName)) ∈ lw_tbl := lw_mem 939 (by decide +kernel)
theorem kw_940 : (Jvm.Cond.instanceMethod ({ cls := "EldestSaysModel", name := "isAhead", desc := "(II)Z" } : Jvm.MethodName)) ∈ lw_tbl := lw_mem 940 (by decide +kernel)
theorem kw_941 : (Jvm.Cond.code ({ cls := "EldestSaysModel", name := "isAhead", desc := "(II)Z" } : Jvm.MethodName) prog_14_method_28_code (6 : Nat) (Option.some Jvm.ClassFile.FieldType.boolean)) ∈ lw_tbl := lw_mem 941 (by decide +kernel)
theorem kw_942 : (Jvm.Cond.methodLink "EldestSaysModel" (178 : Nat) ({ cls := "EldestSaysModel", name := "offersEach", desc := "(III)V" } : Jvm.MethodName)) ∈ lw_tbl := lw_mem 942 (by decide +kernel)
theorem kw_943 : (Jvm.Cond.privateMethod ({ cls := "EldestSaysModel", name := "offersEach", desc := "(III)V" } : Jvm.MethodName)) ∈ lw_tbl := lw_mem 943 (by decide +kernel)
theorem kw_944 : (Jvm.Cond.instanceMethod ({ cls := "EldestSaysModel", name := "offersEach", desc := "(III)V" } : Jvm.MethodName)) ∈ lw_tbl := lw_mem 944 (by decide +kernel)
theorem kw_945 : (Jvm.Cond.code ({ cls := "EldestSaysModel", name := "offersEach", desc := "(III)V" } : Jvm.MethodName) prog_14_method_30_code (4 : Nat) (Option.none : Option Jvm.ClassFile.FieldType)) ∈ lw_tbl := lw_mem 945 (by decide +kernel)
theorem kw_946 : (Jvm.Cond.methodLink "EldestSaysModel" (188 : Nat) ({ cls := "EldestSaysModel", name := "offersFools", desc := "(IZ)V" } : Jvm.MethodName)) ∈ lw_tbl := lw_mem 946 (by decide +kernel)
theorem kw_947 : (Jvm.Cond.privateMethod ({ cls := "EldestSaysModel", name := "offersFools", desc := "(IZ)V" } : Jvm.MethodName)) ∈ lw_tbl := lw_mem 947 (by decide +kernel)
theorem kw_948 : (Jvm.Cond.instanceMethod ({ cls := "EldestSaysModel", name := "offersFools", desc := "(IZ)V" } : Jvm.MethodName)) ∈ lw_tbl := lw_mem 948 (by decide +kernel)
theorem kw_949 : (Jvm.Cond.code ({ cls := "EldestSaysModel", name := "offersFools", desc := "(IZ)V" } : Jvm.MethodName) prog_14_method_31_code (4 : Nat) (Option.none : Option Jvm.ClassFile.FieldType)) ∈ lw_tbl := lw_mem 949 (by decide +kernel)
theorem kw_950 : (Jvm.Cond.methodLink "EldestSaysLaw" (39 : Nat) ({ cls := "EldestSaysModel", name := "price", desc := "(II)I" } : Jvm.MethodName)) ∈ lw_tbl := lw_mem 950 (by decide +kernel)
theorem kw_951 : (Jvm.Cond.instanceMethod ({ cls := "EldestSaysModel", name := "price", desc := "(II)I" } : Jvm.MethodName)) ∈ lw_tbl := lw_mem 951 (by decide +kernel)
theorem kw_952 : (Jvm.Cond.selects "EldestSaysModel" ({ cls := "EldestSaysModel", name := "price", desc := "(II)I" } : Jvm.MethodName) ({ cls := "EldestSaysModel", name := "price", desc := "(II)I" } : Jvm.MethodName)) ∈ lw_tbl := lw_mem 952 (by decide +kernel)
theorem kw_953 : (Jvm.Cond.code ({ cls := "EldestSaysModel", name := "price", desc := "(II)I" } : Jvm.MethodName) prog_14_method_38_code (3 : Nat) (Option.some Jvm.ClassFile.FieldType.int)) ∈ lw_tbl := lw_mem 953 (by decide +kernel)
theorem kw_954 : (Jvm.Cond.methodLink "EldestSaysLaw" (43 : Nat) ({ cls := "EldestSaysModel", name := "votes", desc := "(I)I" } : Jvm.MethodName)) ∈ lw_tbl := lw_mem 954 (by decide +kernel)
theorem kw_955 : (Jvm.Cond.instanceMethod ({ cls := "EldestSaysModel", name := "votes", desc := "(I)I" } : Jvm.MethodName)) ∈ lw_tbl := lw_mem 955 (by decide +kernel)
theorem kw_956 : (Jvm.Cond.selects "EldestSaysModel" ({ cls := "EldestSaysModel", name := "votes", desc := "(I)I" } : Jvm.MethodName) ({ cls := "EldestSaysModel", name := "votes", desc := "(I)I" } : Jvm.MethodName)) ∈ lw_tbl := lw_mem 956 (by decide +kernel)
theorem kw_957 : (Jvm.Cond.code ({ cls := "EldestSaysModel", name := "votes", desc := "(I)I" } : Jvm.MethodName) prog_14_method_39_code (2 : Nat) (Option.some Jvm.ClassFile.FieldType.int)) ∈ lw_tbl := lw_mem 957 (by decide +kernel)
theorem kw_958 : (Jvm.Cond.methodLink "EldestSaysLaw" (47 : Nat) ({ cls := "EldestSaysModel", name := "carries", desc := "(I)I" } : Jvm.MethodName)) ∈ lw_tbl := lw_mem 958 (by decide +kernel)
theorem kw_959 : (Jvm.Cond.instanceMethod ({ cls := "EldestSaysModel", name := "carries", desc := "(I)I" } : Jvm.MethodName)) ∈ lw_tbl := lw_mem 959 (by decide +kernel)
theorem kw_960 : (Jvm.Cond.selects "EldestSaysModel" ({ cls := "EldestSaysModel", name := "carries", desc := "(I)I" } : Jvm.MethodName) ({ cls := "EldestSaysModel", name := "carries", desc := "(I)I" } : Jvm.MethodName)) ∈ lw_tbl := lw_mem 960 (by decide +kernel)
theorem kw_961 : (Jvm.Cond.code ({ cls := "EldestSaysModel", name := "carries", desc := "(I)I" } : Jvm.MethodName) prog_14_method_40_code (2 : Nat) (Option.some Jvm.ClassFile.FieldType.int)) ∈ lw_tbl := lw_mem 961 (by decide +kernel)
theorem kw_962 : (Jvm.Cond.methodLink "EldestSaysLaw" (51 : Nat) ({ cls := "EldestSaysModel", name := "ends", desc := "(I)I" } : Jvm.MethodName)) ∈ lw_tbl := lw_mem 962 (by decide +kernel)
theorem kw_963 : (Jvm.Cond.instanceMethod ({ cls := "EldestSaysModel", name := "ends", desc := "(I)I" } : Jvm.MethodName)) ∈ lw_tbl := lw_mem 963 (by decide +kernel)
theorem kw_964 : (Jvm.Cond.selects "EldestSaysModel" ({ cls := "EldestSaysModel", name := "ends", desc := "(I)I" } : Jvm.MethodName) ({ cls := "EldestSaysModel", name := "ends", desc := "(I)I" } : Jvm.MethodName)) ∈ lw_tbl := lw_mem 964 (by decide +kernel)
theorem kw_965 : (Jvm.Cond.code ({ cls := "EldestSaysModel", name := "ends", desc := "(I)I" } : Jvm.MethodName) prog_14_method_41_code (2 : Nat) (Option.some Jvm.ClassFile.FieldType.int)) ∈ lw_tbl := lw_mem 965 (by decide +kernel)
theorem kw_966 : (Jvm.Cond.methodLink "EldestSaysLaw" (55 : Nat) ({ cls := "EldestSaysModel", name := "gets", desc := "(II)I" } : Jvm.MethodName)) ∈ lw_tbl := lw_mem 966 (by decide +kernel)
theorem kw_967 : (Jvm.Cond.instanceMethod ({ cls := "EldestSaysModel", name := "gets", desc := "(II)I" } : Jvm.MethodName)) ∈ lw_tbl := lw_mem 967 (by decide +kernel)
theorem kw_968 : (Jvm.Cond.selects "EldestSaysModel" ({ cls := "EldestSaysModel", name := "gets", desc := "(II)I" } : Jvm.MethodName) ({ cls := "EldestSaysModel", name := "gets", desc := "(II)I" } : Jvm.MethodName)) ∈ lw_tbl := lw_mem 968 (by decide +kernel)
theorem kw_969 : (Jvm.Cond.code ({ cls := "EldestSaysModel", name := "gets", desc := "(II)I" } : Jvm.MethodName) prog_14_method_42_code (3 : Nat) (Option.some Jvm.ClassFile.FieldType.int)) ∈ lw_tbl := lw_mem 969 (by decide +kernel)
theorem kw_970 : (Jvm.Cond.methodLink "EldestSaysModel" (207 : Nat) ({ cls := "EldestSaysModel", name := "lower", desc := "(I)I" } : Jvm.MethodName)) ∈ lw_tbl := lw_mem 970 (by decide +kernel)
theorem kw_971 : (Jvm.Cond.privateMethod ({ cls := "EldestSaysModel", name := "lower", desc := "(I)I" } : Jvm.MethodName)) ∈ lw_tbl := lw_mem 971 (by decide +kernel)
theorem kw_972 : (Jvm.Cond.instanceMethod ({ cls := "EldestSaysModel", name := "lower", desc := "(I)I" } : Jvm.MethodName)) ∈ lw_tbl := lw_mem 972 (by decide +kernel)
theorem kw_973 : (Jvm.Cond.code ({ cls := "EldestSaysModel", name := "lower", desc := "(I)I" } : Jvm.MethodName) prog_14_method_3_code (2 : Nat) (Option.some Jvm.ClassFile.FieldType.int)) ∈ lw_tbl := lw_mem 973 (by decide +kernel)
theorem kw_974 : (Jvm.Cond.constant "EldestSaysModel" (79 : Nat) (1000000000 : Int32)) ∈ lw_tbl := lw_mem 974 (by decide +kernel)
theorem kw_975 : (Jvm.Cond.methodLink "EldestSaysLaw" (59 : Nat) ({ cls := "EldestSaysModel", name := "bought", desc := "(I)I" } : Jvm.MethodName)) ∈ lw_tbl := lw_mem 975 (by decide +kernel)
theorem kw_976 : (Jvm.Cond.instanceMethod ({ cls := "EldestSaysModel", name := "bought", desc := "(I)I" } : Jvm.MethodName)) ∈ lw_tbl := lw_mem 976 (by decide +kernel)
theorem kw_977 : (Jvm.Cond.selects "EldestSaysModel" ({ cls := "EldestSaysModel", name := "bought", desc := "(I)I" } : Jvm.MethodName) ({ cls := "EldestSaysModel", name := "bought", desc := "(I)I" } : Jvm.MethodName)) ∈ lw_tbl := lw_mem 977 (by decide +kernel)
theorem kw_978 : (Jvm.Cond.code ({ cls := "EldestSaysModel", name := "bought", desc := "(I)I" } : Jvm.MethodName) prog_14_method_43_code (2 : Nat) (Option.some Jvm.ClassFile.FieldType.int)) ∈ lw_tbl := lw_mem 978 (by decide +kernel)
theorem kw_979 : (Jvm.Cond.methodLink "EldestSaysLaw" (63 : Nat) ({ cls := "EldestSaysModel", name := "row", desc := "(I)I" } : Jvm.MethodName)) ∈ lw_tbl := lw_mem 979 (by decide +kernel)
theorem kw_980 : (Jvm.Cond.instanceMethod ({ cls := "EldestSaysModel", name := "row", desc := "(I)I" } : Jvm.MethodName)) ∈ lw_tbl := lw_mem 980 (by decide +kernel)
theorem kw_981 : (Jvm.Cond.selects "EldestSaysModel" ({ cls := "EldestSaysModel", name := "row", desc := "(I)I" } : Jvm.MethodName) ({ cls := "EldestSaysModel", name := "row", desc := "(I)I" } : Jvm.MethodName)) ∈ lw_tbl := lw_mem 981 (by decide +kernel)
theorem kw_982 : (Jvm.Cond.code ({ cls := "EldestSaysModel", name := "row", desc := "(I)I" } : Jvm.MethodName) prog_14_method_44_code (3 : Nat) (Option.some Jvm.ClassFile.FieldType.int)) ∈ lw_tbl := lw_mem 982 (by decide +kernel)
theorem kw_983 : (Jvm.Cond.methodLink "EldestSaysLaw" (122 : Nat) ({ cls := "EldestSaysModel", name := "clear", desc := "()I" } : Jvm.MethodName)) ∈ lw_tbl := lw_mem 983 (by decide +kernel)
theorem kw_984 : (Jvm.Cond.instanceMethod ({ cls := "EldestSaysModel", name := "clear", desc := "()I" } : Jvm.MethodName)) ∈ lw_tbl := lw_mem 984 (by decide +kernel)
theorem kw_985 : (Jvm.Cond.selects "EldestSaysModel" ({ cls := "EldestSaysModel", name := "clear", desc := "()I" } : Jvm.MethodName) ({ cls := "EldestSaysModel", name := "clear", desc := "()I" } : Jvm.MethodName)) ∈ lw_tbl := lw_mem 985 (by decide +kernel)
theorem kw_986 : (Jvm.Cond.code ({ cls := "EldestSaysModel", name := "clear", desc := "()I" } : Jvm.MethodName) prog_14_method_45_code (2 : Nat) (Option.some Jvm.ClassFile.FieldType.int)) ∈ lw_tbl := lw_mem 986 (by decide +kernel)
theorem kw_987 : (Jvm.Cond.methodLink "EldestSaysLaw" (67 : Nat) ({ cls := "EldestSaysModel", name := "judge", desc := "(I)I" } : Jvm.MethodName)) ∈ lw_tbl := lw_mem 987 (by decide +kernel)
theorem kw_988 : (Jvm.Cond.instanceMethod ({ cls := "EldestSaysModel", name := "judge", desc := "(I)I" } : Jvm.MethodName)) ∈ lw_tbl := lw_mem 988 (by decide +kernel)
theorem kw_989 : (Jvm.Cond.selects "EldestSaysModel" ({ cls := "EldestSaysModel", name := "judge", desc := "(I)I" } : Jvm.MethodName) ({ cls := "EldestSaysModel", name := "judge", desc := "(I)I" } : Jvm.MethodName)) ∈ lw_tbl := lw_mem 989 (by decide +kernel)
theorem kw_990 : (Jvm.Cond.code ({ cls := "EldestSaysModel", name := "judge", desc := "(I)I" } : Jvm.MethodName) prog_14_method_48_code (5 : Nat) (Option.some Jvm.ClassFile.FieldType.int)) ∈ lw_tbl := lw_mem 990 (by decide +kernel)
theorem kw_991 : (Jvm.Cond.methodLink "EldestSaysModel" (213 : Nat) ({ cls := "EldestSaysModel", name := "isOver", desc := "()Z" } : Jvm.MethodName)) ∈ lw_tbl := lw_mem 991 (by decide +kernel)
theorem kw_992 : (Jvm.Cond.privateMethod ({ cls := "EldestSaysModel", name := "isOver", desc := "()Z" } : Jvm.MethodName)) ∈ lw_tbl := lw_mem 992 (by decide +kernel)
theorem kw_993 : (Jvm.Cond.instanceMethod ({ cls := "EldestSaysModel", name := "isOver", desc := "()Z" } : Jvm.MethodName)) ∈ lw_tbl := lw_mem 993 (by decide +kernel)
theorem kw_994 : (Jvm.Cond.code ({ cls := "EldestSaysModel", name := "isOver", desc := "()Z" } : Jvm.MethodName) prog_14_method_46_code (1 : Nat) (Option.some Jvm.ClassFile.FieldType.boolean)) ∈ lw_tbl := lw_mem 994 (by decide +kernel)
theorem kw_995 : (Jvm.Cond.methodLink "EldestSaysModel" (216 : Nat) ({ cls := "EldestSaysModel", name := "isOffer", desc := "()Z" } : Jvm.MethodName)) ∈ lw_tbl := lw_mem 995 (by decide +kernel)
theorem kw_996 : (Jvm.Cond.privateMethod ({ cls := "EldestSaysModel", name := "isOffer", desc := "()Z" } : Jvm.MethodName)) ∈ lw_tbl := lw_mem 996 (by decide +kernel)
theorem kw_997 : (Jvm.Cond.instanceMethod ({ cls := "EldestSaysModel", name := "isOffer", desc := "()Z" } : Jvm.MethodName)) ∈ lw_tbl := lw_mem 997 (by decide +kernel)
theorem kw_998 : (Jvm.Cond.code ({ cls := "EldestSaysModel", name := "isOffer", desc := "()Z" } : Jvm.MethodName) prog_14_method_47_code (3 : Nat) (Option.some Jvm.ClassFile.FieldType.boolean)) ∈ lw_tbl := lw_mem 998 (by decide +kernel)
theorem kw_999 : (Jvm.Cond.methodLink "EldestSaysLaw" (71 : Nat) ({ cls := "EldestSaysModel", name := "goes", desc := "(I)I" } : Jvm.MethodName)) ∈ lw_tbl := lw_mem 999 (by decide +kernel)
theorem kw_1000 : (Jvm.Cond.instanceMethod ({ cls := "EldestSaysModel", name := "goes", desc := "(I)I" } : Jvm.MethodName)) ∈ lw_tbl := lw_mem 1000 (by decide +kernel)
theorem kw_1001 : (Jvm.Cond.selects "EldestSaysModel" ({ cls := "EldestSaysModel", name := "goes", desc := "(I)I" } : Jvm.MethodName) ({ cls := "EldestSaysModel", name := "goes", desc := "(I)I" } : Jvm.MethodName)) ∈ lw_tbl := lw_mem 1001 (by decide +kernel)
theorem kw_1002 : (Jvm.Cond.code ({ cls := "EldestSaysModel", name := "goes", desc := "(I)I" } : Jvm.MethodName) prog_14_method_50_code (2 : Nat) (Option.some Jvm.ClassFile.FieldType.int)) ∈ lw_tbl := lw_mem 1002 (by decide +kernel)
theorem kw_1003 : (Jvm.Cond.methodLink "EldestSaysModel" (219 : Nat) ({ cls := "EldestSaysModel", name := "decides", desc := "(I)I" } : Jvm.MethodName)) ∈ lw_tbl := lw_mem 1003 (by decide +kernel)
theorem kw_1004 : (Jvm.Cond.privateMethod ({ cls := "EldestSaysModel", name := "decides", desc := "(I)I" } : Jvm.MethodName)) ∈ lw_tbl := lw_mem 1004 (by decide +kernel)
theorem kw_1005 : (Jvm.Cond.instanceMethod ({ cls := "EldestSaysModel", name := "decides", desc := "(I)I" } : Jvm.MethodName)) ∈ lw_tbl := lw_mem 1005 (by decide +kernel)
theorem kw_1006 : (Jvm.Cond.code ({ cls := "EldestSaysModel", name := "decides", desc := "(I)I" } : Jvm.MethodName) prog_14_method_49_code (5 : Nat) (Option.some Jvm.ClassFile.FieldType.int)) ∈ lw_tbl := lw_mem 1006 (by decide +kernel)
theorem kw_1007 : (Jvm.Cond.methodLink "EldestSaysLaw" (75 : Nat) ({ cls := "EldestSaysModel", name := "says", desc := "()I" } : Jvm.MethodName)) ∈ lw_tbl := lw_mem 1007 (by decide +kernel)
theorem kw_1008 : (Jvm.Cond.instanceMethod ({ cls := "EldestSaysModel", name := "says", desc := "()I" } : Jvm.MethodName)) ∈ lw_tbl := lw_mem 1008 (by decide +kernel)
theorem kw_1009 : (Jvm.Cond.selects "EldestSaysModel" ({ cls := "EldestSaysModel", name := "says", desc := "()I" } : Jvm.MethodName) ({ cls := "EldestSaysModel", name := "says", desc := "()I" } : Jvm.MethodName)) ∈ lw_tbl := lw_mem 1009 (by decide +kernel)
theorem kw_1010 : (Jvm.Cond.code ({ cls := "EldestSaysModel", name := "says", desc := "()I" } : Jvm.MethodName) prog_14_method_51_code (4 : Nat) (Option.some Jvm.ClassFile.FieldType.int)) ∈ lw_tbl := lw_mem 1010 (by decide +kernel)
theorem kw_1011 : (Jvm.Cond.methodLink "EldestSaysLaw" (79 : Nat) ({ cls := "EldestSaysModel", name := "got", desc := "(I)I" } : Jvm.MethodName)) ∈ lw_tbl := lw_mem 1011 (by decide +kernel)
theorem kw_1012 : (Jvm.Cond.instanceMethod ({ cls := "EldestSaysModel", name := "got", desc := "(I)I" } : Jvm.MethodName)) ∈ lw_tbl := lw_mem 1012 (by decide +kernel)
theorem kw_1013 : (Jvm.Cond.selects "EldestSaysModel" ({ cls := "EldestSaysModel", name := "got", desc := "(I)I" } : Jvm.MethodName) ({ cls := "EldestSaysModel", name := "got", desc := "(I)I" } : Jvm.MethodName)) ∈ lw_tbl := lw_mem 1013 (by decide +kernel)
theorem kw_1014 : (Jvm.Cond.code ({ cls := "EldestSaysModel", name := "got", desc := "(I)I" } : Jvm.MethodName) prog_14_method_52_code (2 : Nat) (Option.some Jvm.ClassFile.FieldType.int)) ∈ lw_tbl := lw_mem 1014 (by decide +kernel)
theorem kw_1015 : (Jvm.Cond.methodLink "EldestSaysLaw" (84 : Nat) ({ cls := "EldestSaysModel", name := "alike", desc := "(IIIZ)I" } : Jvm.MethodName)) ∈ lw_tbl := lw_mem 1015 (by decide +kernel)
theorem kw_1016 : (Jvm.Cond.instanceMethod ({ cls := "EldestSaysModel", name := "alike", desc := "(IIIZ)I" } : Jvm.MethodName)) ∈ lw_tbl := lw_mem 1016 (by decide +kernel)
theorem kw_1017 : (Jvm.Cond.selects "EldestSaysModel" ({ cls := "EldestSaysModel", name := "alike", desc := "(IIIZ)I" } : Jvm.MethodName) ({ cls := "EldestSaysModel", name := "alike", desc := "(IIIZ)I" } : Jvm.MethodName)) ∈ lw_tbl := lw_mem 1017 (by decide +kernel)
theorem kw_1018 : (Jvm.Cond.code ({ cls := "EldestSaysModel", name := "alike", desc := "(IIIZ)I" } : Jvm.MethodName) prog_14_method_57_code (8 : Nat) (Option.some Jvm.ClassFile.FieldType.int)) ∈ lw_tbl := lw_mem 1018 (by decide +kernel)
theorem kw_1019 : (Jvm.Cond.methodLink "EldestSaysModel" (232 : Nat) ({ cls := "EldestSaysModel", name := "likeSays", desc := "(III)Z" } : Jvm.MethodName)) ∈ lw_tbl := lw_mem 1019 (by decide +kernel)
theorem kw_1020 : (Jvm.Cond.privateMethod ({ cls := "EldestSaysModel", name := "likeSays", desc := "(III)Z" } : Jvm.MethodName)) ∈ lw_tbl := lw_mem 1020 (by decide +kernel)
theorem kw_1021 : (Jvm.Cond.instanceMethod ({ cls := "EldestSaysModel", name := "likeSays", desc := "(III)Z" } : Jvm.MethodName)) ∈ lw_tbl := lw_mem 1021 (by decide +kernel)
theorem kw_1022 : (Jvm.Cond.code ({ cls := "EldestSaysModel", name := "likeSays", desc := "(III)Z" } : Jvm.MethodName) prog_14_method_55_code (10 : Nat) (Option.some Jvm.ClassFile.FieldType.boolean)) ∈ lw_tbl := lw_mem 1022 (by decide +kernel)
theorem kw_1023 : (Jvm.Cond.methodLink "EldestSaysModel" (222 : Nat) ({ cls := "EldestSaysModel", name := "enough", desc := "(I)I" } : Jvm.MethodName)) ∈ lw_tbl := lw_mem 1023 (by decide +kernel)
theorem kw_1024 : (Jvm.Cond.privateMethod ({ cls := "EldestSaysModel", name := "enough", desc := "(I)I" } : Jvm.MethodName)) ∈ lw_tbl := lw_mem 1024 (by decide +kernel)
theorem kw_1025 : (Jvm.Cond.instanceMethod ({ cls := "EldestSaysModel", name := "enough", desc := "(I)I" } : Jvm.MethodName)) ∈ lw_tbl := lw_mem 1025 (by decide +kernel)
theorem kw_1026 : (Jvm.Cond.code ({ cls := "EldestSaysModel", name := "enough", desc := "(I)I" } : Jvm.MethodName) prog_14_method_53_code (3 : Nat) (Option.some Jvm.ClassFile.FieldType.int)) ∈ lw_tbl := lw_mem 1026 (by decide +kernel)
theorem kw_1027 : (Jvm.Cond.methodLink "EldestSaysModel" (225 : Nat) ({ cls := "EldestSaysModel", name := "withPrice", desc := "(III)I" } : Jvm.MethodName)) ∈ lw_tbl := lw_mem 1027 (by decide +kernel)
theorem kw_1028 : (Jvm.Cond.privateMethod ({ cls := "EldestSaysModel", name := "withPrice", desc := "(III)I" } : Jvm.MethodName)) ∈ lw_tbl := lw_mem 1028 (by decide +kernel)
theorem kw_1029 : (Jvm.Cond.instanceMethod ({ cls := "EldestSaysModel", name := "withPrice", desc := "(III)I" } : Jvm.MethodName)) ∈ lw_tbl := lw_mem 1029 (by decide +kernel)
theorem kw_1030 : (Jvm.Cond.code ({ cls := "EldestSaysModel", name := "withPrice", desc := "(III)I" } : Jvm.MethodName) prog_14_method_54_code (6 : Nat) (Option.some Jvm.ClassFile.FieldType.int)) ∈ lw_tbl := lw_mem 1030 (by decide +kernel)
theorem kw_1031 : (Jvm.Cond.methodLink "EldestSaysModel" (228 : Nat) ({ cls := "EldestSaysModel", name := "likeTakes", desc := "(IIII)V" } : Jvm.MethodName)) ∈ lw_tbl := lw_mem 1031 (by decide +kernel)
theorem kw_1032 : (Jvm.Cond.privateMethod ({ cls := "EldestSaysModel", name := "likeTakes", desc := "(IIII)V" } : Jvm.MethodName)) ∈ lw_tbl := lw_mem 1032 (by decide +kernel)
theorem kw_1033 : (Jvm.Cond.instanceMethod ({ cls := "EldestSaysModel", name := "likeTakes", desc := "(IIII)V" } : Jvm.MethodName)) ∈ lw_tbl := lw_mem 1033 (by decide +kernel)
theorem kw_1034 : (Jvm.Cond.code ({ cls := "EldestSaysModel", name := "likeTakes", desc := "(IIII)V" } : Jvm.MethodName) prog_14_method_56_code (9 : Nat) (Option.none : Option Jvm.ClassFile.FieldType)) ∈ lw_tbl := lw_mem 1034 (by decide +kernel)
theorem kw_1035 : (Jvm.Cond.methodLink "EldestSaysLaw" (88 : Nat) ({ cls := "EldestSaysModel", name := "fewest", desc := "()I" } : Jvm.MethodName)) ∈ lw_tbl := lw_mem 1035 (by decide +kernel)
theorem kw_1036 : (Jvm.Cond.instanceMethod ({ cls := "EldestSaysModel", name := "fewest", desc := "()I" } : Jvm.MethodName)) ∈ lw_tbl := lw_mem 1036 (by decide +kernel)
theorem kw_1037 : (Jvm.Cond.selects "EldestSaysModel" ({ cls := "EldestSaysModel", name := "fewest", desc := "()I" } : Jvm.MethodName) ({ cls := "EldestSaysModel", name := "fewest", desc := "()I" } : Jvm.MethodName)) ∈ lw_tbl := lw_mem 1037 (by decide +kernel)
theorem kw_1038 : (Jvm.Cond.code ({ cls := "EldestSaysModel", name := "fewest", desc := "()I" } : Jvm.MethodName) prog_14_method_58_code (4 : Nat) (Option.some Jvm.ClassFile.FieldType.int)) ∈ lw_tbl := lw_mem 1038 (by decide +kernel)
theorem kw_1039 : (Jvm.Cond.methodLink "EldestSaysLaw" (93 : Nat) ({ cls := "EldestSaysModel", name := "byLaw", desc := "(III)I" } : Jvm.MethodName)) ∈ lw_tbl := lw_mem 1039 (by decide +kernel)
theorem kw_1040 : (Jvm.Cond.instanceMethod ({ cls := "EldestSaysModel", name := "byLaw", desc := "(III)I" } : Jvm.MethodName)) ∈ lw_tbl := lw_mem 1040 (by decide +kernel)
theorem kw_1041 : (Jvm.Cond.selects "EldestSaysModel" ({ cls := "EldestSaysModel", name := "byLaw", desc := "(III)I" } : Jvm.MethodName) ({ cls := "EldestSaysModel", name := "byLaw", desc := "(III)I" } : Jvm.MethodName)) ∈ lw_tbl := lw_mem 1041 (by decide +kernel)
theorem kw_1042 : (Jvm.Cond.code ({ cls := "EldestSaysModel", name := "byLaw", desc := "(III)I" } : Jvm.MethodName) prog_14_method_59_code (6 : Nat) (Option.some Jvm.ClassFile.FieldType.int)) ∈ lw_tbl := lw_mem 1042 (by decide +kernel)
theorem kw_1043 : (Jvm.Cond.methodLink "EldestSaysLaw" (97 : Nat) ({ cls := "EldestSaysModel", name := "gains", desc := "()I" } : Jvm.MethodName)) ∈ lw_tbl := lw_mem 1043 (by decide +kernel)
theorem kw_1044 : (Jvm.Cond.instanceMethod ({ cls := "EldestSaysModel", name := "gains", desc := "()I" } : Jvm.MethodName)) ∈ lw_tbl := lw_mem 1044 (by decide +kernel)
theorem kw_1045 : (Jvm.Cond.selects "EldestSaysModel" ({ cls := "EldestSaysModel", name := "gains", desc := "()I" } : Jvm.MethodName) ({ cls := "EldestSaysModel", name := "gains", desc := "()I" } : Jvm.MethodName)) ∈ lw_tbl := lw_mem 1045 (by decide +kernel)
theorem kw_1046 : (Jvm.Cond.code ({ cls := "EldestSaysModel", name := "gains", desc := "()I" } : Jvm.MethodName) prog_14_method_60_code (3 : Nat) (Option.some Jvm.ClassFile.FieldType.int)) ∈ lw_tbl := lw_mem 1046 (by decide +kernel)
theorem kw_1047 : (Jvm.Cond.methodLink "EldestSaysModel" (235 : Nat) ({ cls := "EldestSaysModel", name := "moves", desc := "(II)V" } : Jvm.MethodName)) ∈ lw_tbl := lw_mem 1047 (by decide +kernel)
theorem kw_1048 : (Jvm.Cond.privateMethod ({ cls := "EldestSaysModel", name := "moves", desc := "(II)V" } : Jvm.MethodName)) ∈ lw_tbl := lw_mem 1048 (by decide +kernel)
theorem kw_1049 : (Jvm.Cond.instanceMethod ({ cls := "EldestSaysModel", name := "moves", desc := "(II)V" } : Jvm.MethodName)) ∈ lw_tbl := lw_mem 1049 (by decide +kernel)
theorem kw_1050 : (Jvm.Cond.code ({ cls := "EldestSaysModel", name := "moves", desc := "(II)V" } : Jvm.MethodName) prog_14_method_61_code (3 : Nat) (Option.none : Option Jvm.ClassFile.FieldType)) ∈ lw_tbl := lw_mem 1050 (by decide +kernel)
theorem kw_1051 : (Jvm.Cond.methodLink "EldestSaysLaw" (101 : Nat) ({ cls := "EldestSaysModel", name := "swap", desc := "(II)I" } : Jvm.MethodName)) ∈ lw_tbl := lw_mem 1051 (by decide +kernel)
theorem kw_1052 : (Jvm.Cond.instanceMethod ({ cls := "EldestSaysModel", name := "swap", desc := "(II)I" } : Jvm.MethodName)) ∈ lw_tbl := lw_mem 1052 (by decide +kernel)
theorem kw_1053 : (Jvm.Cond.selects "EldestSaysModel" ({ cls := "EldestSaysModel", name := "swap", desc := "(II)I" } : Jvm.MethodName) ({ cls := "EldestSaysModel", name := "swap", desc := "(II)I" } : Jvm.MethodName)) ∈ lw_tbl := lw_mem 1053 (by decide +kernel)
theorem kw_1054 : (Jvm.Cond.code ({ cls := "EldestSaysModel", name := "swap", desc := "(II)I" } : Jvm.MethodName) prog_14_method_63_code (3 : Nat) (Option.some Jvm.ClassFile.FieldType.int)) ∈ lw_tbl := lw_mem 1054 (by decide +kernel)
theorem kw_1055 : (Jvm.Cond.methodLink "EldestSaysModel" (239 : Nat) ({ cls := "EldestSaysModel", name := "swaps", desc := "(II)V" } : Jvm.MethodName)) ∈ lw_tbl := lw_mem 1055 (by decide +kernel)
theorem kw_1056 : (Jvm.Cond.privateMethod ({ cls := "EldestSaysModel", name := "swaps", desc := "(II)V" } : Jvm.MethodName)) ∈ lw_tbl := lw_mem 1056 (by decide +kernel)
theorem kw_1057 : (Jvm.Cond.instanceMethod ({ cls := "EldestSaysModel", name := "swaps", desc := "(II)V" } : Jvm.MethodName)) ∈ lw_tbl := lw_mem 1057 (by decide +kernel)
theorem kw_1058 : (Jvm.Cond.code ({ cls := "EldestSaysModel", name := "swaps", desc := "(II)V" } : Jvm.MethodName) prog_14_method_62_code (3 : Nat) (Option.none : Option Jvm.ClassFile.FieldType)) ∈ lw_tbl := lw_mem 1058 (by decide +kernel)
theorem kw_1059 : (Jvm.Cond.methodLink "EldestSaysLaw" (105 : Nat) ({ cls := "EldestSaysModel", name := "bestAge", desc := "(I)I" } : Jvm.MethodName)) ∈ lw_tbl := lw_mem 1059 (by decide +kernel)
theorem kw_1060 : (Jvm.Cond.instanceMethod ({ cls := "EldestSaysModel", name := "bestAge", desc := "(I)I" } : Jvm.MethodName)) ∈ lw_tbl := lw_mem 1060 (by decide +kernel)
theorem kw_1061 : (Jvm.Cond.selects "EldestSaysModel" ({ cls := "EldestSaysModel", name := "bestAge", desc := "(I)I" } : Jvm.MethodName) ({ cls := "EldestSaysModel", name := "bestAge", desc := "(I)I" } : Jvm.MethodName)) ∈ lw_tbl := lw_mem 1061 (by decide +kernel)
theorem kw_1062 : (Jvm.Cond.code ({ cls := "EldestSaysModel", name := "bestAge", desc := "(I)I" } : Jvm.MethodName) prog_14_method_64_code (6 : Nat) (Option.some Jvm.ClassFile.FieldType.int)) ∈ lw_tbl := lw_mem 1062 (by decide +kernel)
theorem kw_1063 : (Jvm.Cond.methodLink "EldestSaysLaw" (109 : Nat) ({ cls := "EldestSaysModel", name := "league", desc := "(I)I" } : Jvm.MethodName)) ∈ lw_tbl := lw_mem 1063 (by decide +kernel)
theorem kw_1064 : (Jvm.Cond.instanceMethod ({ cls := "EldestSaysModel", name := "league", desc := "(I)I" } : Jvm.MethodName)) ∈ lw_tbl := lw_mem 1064 (by decide +kernel)
theorem kw_1065 : (Jvm.Cond.selects "EldestSaysModel" ({ cls := "EldestSaysModel", name := "league", desc := "(I)I" } : Jvm.MethodName) ({ cls := "EldestSaysModel", name := "league", desc := "(I)I" } : Jvm.MethodName)) ∈ lw_tbl := lw_mem 1065 (by decide +kernel)
theorem kw_1066 : (Jvm.Cond.code ({ cls := "EldestSaysModel", name := "league", desc := "(I)I" } : Jvm.MethodName) prog_14_method_67_code (6 : Nat) (Option.some Jvm.ClassFile.FieldType.int)) ∈ lw_tbl := lw_mem 1066 (by decide +kernel)
theorem kw_1067 : (Jvm.Cond.methodLink "EldestSaysModel" (242 : Nat) ({ cls := "EldestSaysModel", name := "bits", desc := "(I)I" } : Jvm.MethodName)) ∈ lw_tbl := lw_mem 1067 (by decide +kernel)
theorem kw_1068 : (Jvm.Cond.static ({ cls := "EldestSaysModel", name := "bits", desc := "(I)I" } : Jvm.MethodName)) ∈ lw_tbl := lw_mem 1068 (by decide +kernel)
theorem kw_1069 : (Jvm.Cond.code ({ cls := "EldestSaysModel", name := "bits", desc := "(I)I" } : Jvm.MethodName) prog_14_method_66_code (3 : Nat) (Option.some Jvm.ClassFile.FieldType.int)) ∈ lw_tbl := lw_mem 1069 (by decide +kernel)
theorem kw_1070 : (Jvm.Cond.methodLink "EldestSaysModel" (245 : Nat) ({ cls := "EldestSaysModel", name := "isFree", desc := "(I)Z" } : Jvm.MethodName)) ∈ lw_tbl := lw_mem 1070 (by decide +kernel)
theorem kw_1071 : (Jvm.Cond.privateMethod ({ cls := "EldestSaysModel", name := "isFree", desc := "(I)Z" } : Jvm.MethodName)) ∈ lw_tbl := lw_mem 1071 (by decide +kernel)
theorem kw_1072 : (Jvm.Cond.instanceMethod ({ cls := "EldestSaysModel", name := "isFree", desc := "(I)Z" } : Jvm.MethodName)) ∈ lw_tbl := lw_mem 1072 (by decide +kernel)
theorem kw_1073 : (Jvm.Cond.code ({ cls := "EldestSaysModel", name := "isFree", desc := "(I)Z" } : Jvm.MethodName) prog_14_method_65_code (3 : Nat) (Option.some Jvm.ClassFile.FieldType.boolean)) ∈ lw_tbl := lw_mem 1073 (by decide +kernel)
theorem kw_1074 : (Jvm.Cond.methodLink "EldestSaysLaw" (114 : Nat) ({ cls := "EldestSaysModel", name := "shaken", desc := "(I)J" } : Jvm.MethodName)) ∈ lw_tbl := lw_mem 1074 (by decide +kernel)
theorem kw_1075 : (Jvm.Cond.instanceMethod ({ cls := "EldestSaysModel", name := "shaken", desc := "(I)J" } : Jvm.MethodName)) ∈ lw_tbl := lw_mem 1075 (by decide +kernel)
theorem kw_1076 : (Jvm.Cond.selects "EldestSaysModel" ({ cls := "EldestSaysModel", name := "shaken", desc := "(I)J" } : Jvm.MethodName) ({ cls := "EldestSaysModel", name := "shaken", desc := "(I)J" } : Jvm.MethodName)) ∈ lw_tbl := lw_mem 1076 (by decide +kernel)
theorem kw_1077 : (Jvm.Cond.code ({ cls := "EldestSaysModel", name := "shaken", desc := "(I)J" } : Jvm.MethodName) prog_14_method_69_code (11 : Nat) (Option.some Jvm.ClassFile.FieldType.long)) ∈ lw_tbl := lw_mem 1077 (by decide +kernel)
theorem kw_1078 : (Jvm.Cond.methodLink "EldestSaysModel" (248 : Nat) ({ cls := "EldestSaysModel", name := "lowest", desc := "(I)J" } : Jvm.MethodName)) ∈ lw_tbl := lw_mem 1078 (by decide +kernel)
theorem kw_1079 : (Jvm.Cond.privateMethod ({ cls := "EldestSaysModel", name := "lowest", desc := "(I)J" } : Jvm.MethodName)) ∈ lw_tbl := lw_mem 1079 (by decide +kernel)
theorem kw_1080 : (Jvm.Cond.instanceMethod ({ cls := "EldestSaysModel", name := "lowest", desc := "(I)J" } : Jvm.MethodName)) ∈ lw_tbl := lw_mem 1080 (by decide +kernel)
theorem kw_1081 : (Jvm.Cond.code ({ cls := "EldestSaysModel", name := "lowest", desc := "(I)J" } : Jvm.MethodName) prog_14_method_4_code (2 : Nat) (Option.some Jvm.ClassFile.FieldType.long)) ∈ lw_tbl := lw_mem 1081 (by decide +kernel)
theorem kw_1082 : (Jvm.Cond.constantLong "EldestSaysModel" (80 : Nat) (4000000000000000000 : Int64)) ∈ lw_tbl := lw_mem 1082 (by decide +kernel)
theorem kw_1083 : (Jvm.Cond.constantLong "EldestSaysModel" (252 : Nat) (100 : Int64)) ∈ lw_tbl := lw_mem 1083 (by decide +kernel)
theorem kw_1084 : (Jvm.Cond.methodLink "EldestSaysModel" (254 : Nat) ({ cls := "EldestSaysModel", name := "divisor", desc := "(JJ)J" } : Jvm.MethodName)) ∈ lw_tbl := lw_mem 1084 (by decide +kernel)
theorem kw_1085 : (Jvm.Cond.static ({ cls := "EldestSaysModel", name := "divisor", desc := "(JJ)J" } : Jvm.MethodName)) ∈ lw_tbl := lw_mem 1085 (by decide +kernel)
theorem kw_1086 : (Jvm.Cond.code ({ cls := "EldestSaysModel", name := "divisor", desc := "(JJ)J" } : Jvm.MethodName) prog_14_method_68_code (10 : Nat) (Option.some Jvm.ClassFile.FieldType.long)) ∈ lw_tbl := lw_mem 1086 (by decide +kernel)
theorem kw_1087 : (Jvm.Cond.methodLink "EldestSaysLaw" (118 : Nat) ({ cls := "EldestSaysModel", name := "seeds", desc := "(III)I" } : Jvm.MethodName)) ∈ lw_tbl := lw_mem 1087 (by decide +kernel)
theorem kw_1088 : (Jvm.Cond.instanceMethod ({ cls := "EldestSaysModel", name := "seeds", desc := "(III)I" } : Jvm.MethodName)) ∈ lw_tbl := lw_mem 1088 (by decide +kernel)
theorem kw_1089 : (Jvm.Cond.selects "EldestSaysModel" ({ cls := "EldestSaysModel", name := "seeds", desc := "(III)I" } : Jvm.MethodName) ({ cls := "EldestSaysModel", name := "seeds", desc := "(III)I" } : Jvm.MethodName)) ∈ lw_tbl := lw_mem 1089 (by decide +kernel)
theorem kw_1090 : (Jvm.Cond.code ({ cls := "EldestSaysModel", name := "seeds", desc := "(III)I" } : Jvm.MethodName) prog_14_method_70_code (11 : Nat) (Option.some Jvm.ClassFile.FieldType.int)) ∈ lw_tbl := lw_mem 1090 (by decide +kernel)
theorem kw_1091 : (Jvm.Cond.constant "EldestSaysModel" (258 : Nat) (1103515245 : Int32)) ∈ lw_tbl := lw_mem 1091 (by decide +kernel)
theorem kw_1092 : (Jvm.Cond.constant "EldestSaysModel" (259 : Nat) (2147483647 : Int32)) ∈ lw_tbl := lw_mem 1092 (by decide +kernel)
theorem kw_1093 : (Jvm.Cond.constant "EldestSaysModel" (260 : Nat) (65536 : Int32)) ∈ lw_tbl := lw_mem 1093 (by decide +kernel)
theorem kw_1094 : (Jvm.Cond.methodLink "EldestSaysLaw" (134 : Nat) ({ cls := "EldestSaysModel", name := "count", desc := "(I)I" } : Jvm.MethodName)) ∈ lw_tbl := lw_mem 1094 (by decide +kernel)
theorem kw_1095 : (Jvm.Cond.instanceMethod ({ cls := "EldestSaysModel", name := "count", desc := "(I)I" } : Jvm.MethodName)) ∈ lw_tbl := lw_mem 1095 (by decide +kernel)
theorem kw_1096 : (Jvm.Cond.selects "EldestSaysModel" ({ cls := "EldestSaysModel", name := "count", desc := "(I)I" } : Jvm.MethodName) ({ cls := "EldestSaysModel", name := "count", desc := "(I)I" } : Jvm.MethodName)) ∈ lw_tbl := lw_mem 1096 (by decide +kernel)
theorem kw_1097 : (Jvm.Cond.code ({ cls := "EldestSaysModel", name := "count", desc := "(I)I" } : Jvm.MethodName) prog_14_method_71_code (2 : Nat) (Option.some Jvm.ClassFile.FieldType.int)) ∈ lw_tbl := lw_mem 1097 (by decide +kernel)
theorem kw_1098 : (Jvm.Cond.sameMethod "EldestSays$Fool" "EldestSays$Fool" "ask" "(III)I") ∈ lw_tbl := lw_mem 1098 (by decide +kernel)
theorem kw_1099 : (Jvm.Cond.sameMethod "EldestSays$Envious" "EldestSays$Envious" "ask" "(III)I") ∈ lw_tbl := lw_mem 1099 (by decide +kernel)
theorem kw_1100 : (Jvm.Cond.castable "EldestSays$Company" "EldestSays$Clever") ∈ lw_tbl := lw_mem 1100 (by decide +kernel)
theorem kw_1101 : (Jvm.Cond.castable "EldestSays$Envious" "EldestSays$Clever") ∈ lw_tbl := lw_mem 1101 (by decide +kernel)
theorem kw_1102 : (Jvm.Cond.castable "EldestSays$Fair" "EldestSays$Clever") ∈ lw_tbl := lw_mem 1102 (by decide +kernel)
theorem kw_1103 : (Jvm.Cond.castable "EldestSays$Fool" "EldestSays$Clever") ∈ lw_tbl := lw_mem 1103 (by decide +kernel)
theorem kw_1104 : (Jvm.Cond.castable "EldestSays$Spiteful" "EldestSays$Clever") ∈ lw_tbl := lw_mem 1104 (by decide +kernel)
theorem kw_1105 : (Jvm.Cond.castable "EldestSays$Meek" "EldestSays$Clever") ∈ lw_tbl := lw_mem 1105 (by decide +kernel)
theorem ks_0 : Cond.selects "EldestSays" ⟨"EldestSays", "refuse", "(I)I"⟩ ⟨"EldestSays", "refuse", "(I)I"⟩ ∈ lw_tbl := List.mem_append_left _ (List.mem_of_getElem? (i := 0) (by decide +kernel))
theorem ks_1 : Cond.selects "EldestSays$Letters" ⟨"EldestSays$Letters", "brokenAt", "()I"⟩ ⟨"EldestSays$Letters", "brokenAt", "()I"⟩ ∈ lw_tbl := List.mem_append_left _ (List.mem_of_getElem? (i := 1) (by decide +kernel))
theorem ks_2 : Cond.selects "EldestSays$Letters" ⟨"EldestSays$Letters", "wrongAt", "(LEldestSays$Evening;)I"⟩ ⟨"EldestSays$Letters", "wrongAt", "(LEldestSays$Evening;)I"⟩ ∈ lw_tbl := List.mem_append_left _ (List.mem_of_getElem? (i := 2) (by decide +kernel))
theorem ks_3 : Cond.selects "EldestSays$Letters" ⟨"EldestSays$Letters", "isRight", "(IIZ)Z"⟩ ⟨"EldestSays$Letters", "isRight", "(IIZ)Z"⟩ ∈ lw_tbl := List.mem_append_left _ (List.mem_of_getElem? (i := 3) (by decide +kernel))
theorem ks_4 : Cond.selects "EldestSays$Letters" ⟨"EldestSays$Letters", "digit", "(I)I"⟩ ⟨"EldestSays$Letters", "digit", "(I)I"⟩ ∈ lw_tbl := List.mem_append_left _ (List.mem_of_getElem? (i := 4) (by decide +kernel))
theorem ks_5 : Cond.selects "EldestSays$Letters" ⟨"EldestSays$Letters", "tellOne", "(LEldestSays$Evening;II)V"⟩ ⟨"EldestSays$Letters", "tellOne", "(LEldestSays$Evening;II)V"⟩ ∈ lw_tbl := List.mem_append_left _ (List.mem_of_getElem? (i := 5) (by decide +kernel))
theorem ks_6 : Cond.selects "EldestSays" ⟨"EldestSays", "solved", "()LEldestSays$Plans;"⟩ ⟨"EldestSays", "solved", "()LEldestSays$Plans;"⟩ ∈ lw_tbl := List.mem_append_left _ (List.mem_of_getElem? (i := 6) (by decide +kernel))
theorem ks_7 : Cond.selects "EldestSays$Plans" ⟨"EldestSays$Plans", "askYounger", "(I)V"⟩ ⟨"EldestSays$Plans", "askYounger", "(I)V"⟩ ∈ lw_tbl := List.mem_append_left _ (List.mem_of_getElem? (i := 7) (by decide +kernel))
theorem ks_8 : Cond.selects "EldestSays$Plans" ⟨"EldestSays$Plans", "kindOf", "(I)LEldestSays$Clever;"⟩ ⟨"EldestSays$Plans", "kindOf", "(I)LEldestSays$Clever;"⟩ ∈ lw_tbl := List.mem_append_left _ (List.mem_of_getElem? (i := 8) (by decide +kernel))
theorem ks_9 : Cond.selects "EldestSays$Plans" ⟨"EldestSays$Plans", "keepAll", "(I)V"⟩ ⟨"EldestSays$Plans", "keepAll", "(I)V"⟩ ∈ lw_tbl := List.mem_append_left _ (List.mem_of_getElem? (i := 9) (by decide +kernel))
theorem ks_10 : Cond.selects "EldestSays$Plans" ⟨"EldestSays$Plans", "give", "(III)V"⟩ ⟨"EldestSays$Plans", "give", "(III)V"⟩ ∈ lw_tbl := List.mem_append_left _ (List.mem_of_getElem? (i := 10) (by decide +kernel))
theorem ks_11 : Cond.selects "EldestSays$Plans" ⟨"EldestSays$Plans", "forgetUnits", "()V"⟩ ⟨"EldestSays$Plans", "forgetUnits", "()V"⟩ ∈ lw_tbl := List.mem_append_left _ (List.mem_of_getElem? (i := 11) (by decide +kernel))
theorem ks_12 : Cond.selects "EldestSays$Plans" ⟨"EldestSays$Plans", "manOfUnit", "(II)I"⟩ ⟨"EldestSays$Plans", "manOfUnit", "(II)I"⟩ ∈ lw_tbl := List.mem_append_left _ (List.mem_of_getElem? (i := 12) (by decide +kernel))
theorem ks_13 : Cond.selects "EldestSays$Plans" ⟨"EldestSays$Plans", "addUnit", "(II)V"⟩ ⟨"EldestSays$Plans", "addUnit", "(II)V"⟩ ∈ lw_tbl := List.mem_append_left _ (List.mem_of_getElem? (i := 13) (by decide +kernel))
theorem ks_14 : Cond.selects "EldestSays$Plans" ⟨"EldestSays$Plans", "cheapestSet", "(I)I"⟩ ⟨"EldestSays$Plans", "cheapestSet", "(I)I"⟩ ∈ lw_tbl := List.mem_append_left _ (List.mem_of_getElem? (i := 14) (by decide +kernel))
theorem ks_15 : Cond.selects "EldestSays$Plans" ⟨"EldestSays$Plans", "listSets", "(I)I"⟩ ⟨"EldestSays$Plans", "listSets", "(I)I"⟩ ∈ lw_tbl := List.mem_append_left _ (List.mem_of_getElem? (i := 15) (by decide +kernel))
theorem ks_16 : Cond.selects "EldestSays$Plans" ⟨"EldestSays$Plans", "vote", "(I)V"⟩ ⟨"EldestSays$Plans", "vote", "(I)V"⟩ ∈ lw_tbl := List.mem_append_left _ (List.mem_of_getElem? (i := 16) (by decide +kernel))
theorem ks_17 : Cond.selects "EldestSays$Plans" ⟨"EldestSays$Plans", "end", "(I)V"⟩ ⟨"EldestSays$Plans", "end", "(I)V"⟩ ∈ lw_tbl := List.mem_append_left _ (List.mem_of_getElem? (i := 17) (by decide +kernel))
theorem ks_18 : Cond.selects "EldestSays" ⟨"EldestSays", "isRowRight", "()Z"⟩ ⟨"EldestSays", "isRowRight", "()Z"⟩ ∈ lw_tbl := List.mem_append_left _ (List.mem_of_getElem? (i := 18) (by decide +kernel))
theorem ks_19 : Cond.selects "EldestSays" ⟨"EldestSays", "firstOddVote", "(I)I"⟩ ⟨"EldestSays", "firstOddVote", "(I)I"⟩ ∈ lw_tbl := List.mem_append_left _ (List.mem_of_getElem? (i := 19) (by decide +kernel))
theorem ks_20 : Cond.selects "EldestSays$Evening" ⟨"EldestSays$Evening", "part", "([II)V"⟩ ⟨"EldestSays$Evening", "part", "([II)V"⟩ ∈ lw_tbl := List.mem_append_left _ (List.mem_of_getElem? (i := 20) (by decide +kernel))
theorem ks_21 : Cond.selects "EldestSays$Evening" ⟨"EldestSays$Evening", "putAshore", "()V"⟩ ⟨"EldestSays$Evening", "putAshore", "()V"⟩ ∈ lw_tbl := List.mem_append_left _ (List.mem_of_getElem? (i := 21) (by decide +kernel))
theorem ks_22 : Cond.selects "EldestSays$Crowd" ⟨"EldestSays$Crowd", "askYounger", "(II)I"⟩ ⟨"EldestSays$Crowd", "askYounger", "(II)I"⟩ ∈ lw_tbl := List.mem_append_left _ (List.mem_of_getElem? (i := 22) (by decide +kernel))
theorem ks_23 : Cond.selects "EldestSays$Crowd" ⟨"EldestSays$Crowd", "buyYounger", "(III)I"⟩ ⟨"EldestSays$Crowd", "buyYounger", "(III)I"⟩ ∈ lw_tbl := List.mem_append_left _ (List.mem_of_getElem? (i := 23) (by decide +kernel))
theorem ks_24 : Cond.selects "EldestSays$Crowd" ⟨"EldestSays$Crowd", "nextLevel", "(II)I"⟩ ⟨"EldestSays$Crowd", "nextLevel", "(II)I"⟩ ∈ lw_tbl := List.mem_append_left _ (List.mem_of_getElem? (i := 24) (by decide +kernel))
theorem ks_25 : Cond.selects "EldestSays$Crowd" ⟨"EldestSays$Crowd", "buyAtLevel", "(IIII)I"⟩ ⟨"EldestSays$Crowd", "buyAtLevel", "(IIII)I"⟩ ∈ lw_tbl := List.mem_append_left _ (List.mem_of_getElem? (i := 25) (by decide +kernel))
theorem ks_26 : Cond.selects "EldestSays" ⟨"EldestSays", "orderAsIs", "()V"⟩ ⟨"EldestSays", "orderAsIs", "()V"⟩ ∈ lw_tbl := List.mem_append_left _ (List.mem_of_getElem? (i := 26) (by decide +kernel))
theorem ks_27 : Cond.selects "EldestSays" ⟨"EldestSays", "seat", "()V"⟩ ⟨"EldestSays", "seat", "()V"⟩ ∈ lw_tbl := List.mem_append_left _ (List.mem_of_getElem? (i := 27) (by decide +kernel))
theorem ks_28 : Cond.selects "EldestSays" ⟨"EldestSays", "orderWith", "(II)V"⟩ ⟨"EldestSays", "orderWith", "(II)V"⟩ ∈ lw_tbl := List.mem_append_left _ (List.mem_of_getElem? (i := 28) (by decide +kernel))
theorem ks_29 : Cond.selects "EldestSays" ⟨"EldestSays", "shakeVotes", "(I)J"⟩ ⟨"EldestSays", "shakeVotes", "(I)J"⟩ ∈ lw_tbl := List.mem_append_left _ (List.mem_of_getElem? (i := 29) (by decide +kernel))
theorem ks_30 : Cond.selects "EldestSays" ⟨"EldestSays", "addVoter", "(II)V"⟩ ⟨"EldestSays", "addVoter", "(II)V"⟩ ∈ lw_tbl := List.mem_append_left _ (List.mem_of_getElem? (i := 30) (by decide +kernel))
theorem ks_31 : Cond.selects "EldestSays" ⟨"EldestSays", "chanceCarried", "()J"⟩ ⟨"EldestSays", "chanceCarried", "()J"⟩ ∈ lw_tbl := List.mem_append_left _ (List.mem_of_getElem? (i := 31) (by decide +kernel))
theorem ks_32 : Cond.selects "EldestSays" ⟨"EldestSays", "drawOrder", "(I)I"⟩ ⟨"EldestSays", "drawOrder", "(I)I"⟩ ∈ lw_tbl := List.mem_append_left _ (List.mem_of_getElem? (i := 32) (by decide +kernel))
theorem ks_33 : Cond.selects "EldestSays" ⟨"EldestSays", "placeOf", "(I)I"⟩ ⟨"EldestSays", "placeOf", "(I)I"⟩ ∈ lw_tbl := List.mem_append_left _ (List.mem_of_getElem? (i := 33) (by decide +kernel))
theorem ks_34 : Cond.selects "EldestSays" ⟨"EldestSays", "countRefusals", "(I)I"⟩ ⟨"EldestSays", "countRefusals", "(I)I"⟩ ∈ lw_tbl := List.mem_append_left _ (List.mem_of_getElem? (i := 34) (by decide +kernel))
theorem ks_35 : Cond.selects "EldestSaysModel" ⟨"EldestSaysModel", "no", "(I)I"⟩ ⟨"EldestSaysModel", "no", "(I)I"⟩ ∈ lw_tbl := List.mem_append_left _ (List.mem_of_getElem? (i := 35) (by decide +kernel))
theorem ks_36 : Cond.selects "EldestSaysModel" ⟨"EldestSaysModel", "statement", "()Z"⟩ ⟨"EldestSaysModel", "statement", "()Z"⟩ ∈ lw_tbl := List.mem_append_left _ (List.mem_of_getElem? (i := 36) (by decide +kernel))
theorem ks_37 : Cond.selects "EldestSaysModel" ⟨"EldestSaysModel", "next", "()I"⟩ ⟨"EldestSaysModel", "next", "()I"⟩ ∈ lw_tbl := List.mem_append_left _ (List.mem_of_getElem? (i := 37) (by decide +kernel))
theorem ks_38 : Cond.selects "EldestSaysModel" ⟨"EldestSaysModel", "reads", "(II)Z"⟩ ⟨"EldestSaysModel", "reads", "(II)Z"⟩ ∈ lw_tbl := List.mem_append_left _ (List.mem_of_getElem? (i := 38) (by decide +kernel))
theorem ks_39 : Cond.selects "EldestSaysModel" ⟨"EldestSaysModel", "passesAll", "(IZ)V"⟩ ⟨"EldestSaysModel", "passesAll", "(IZ)V"⟩ ∈ lw_tbl := List.mem_append_left _ (List.mem_of_getElem? (i := 39) (by decide +kernel))
theorem ks_40 : Cond.selects "EldestSaysModel" ⟨"EldestSaysModel", "passes", "([I)V"⟩ ⟨"EldestSaysModel", "passes", "([I)V"⟩ ∈ lw_tbl := List.mem_append_left _ (List.mem_of_getElem? (i := 40) (by decide +kernel))
theorem ks_41 : Cond.selects "EldestSaysModel" ⟨"EldestSaysModel", "passOne", "(I)I"⟩ ⟨"EldestSaysModel", "passOne", "(I)I"⟩ ∈ lw_tbl := List.mem_append_left _ (List.mem_of_getElem? (i := 41) (by decide +kernel))
theorem ks_42 : Cond.selects "EldestSaysModel" ⟨"EldestSaysModel", "comes", "(I)Z"⟩ ⟨"EldestSaysModel", "comes", "(I)Z"⟩ ∈ lw_tbl := List.mem_append_left _ (List.mem_of_getElem? (i := 42) (by decide +kernel))
theorem ks_43 : Cond.selects "EldestSaysModel" ⟨"EldestSaysModel", "isMan", "(I)Z"⟩ ⟨"EldestSaysModel", "isMan", "(I)Z"⟩ ∈ lw_tbl := List.mem_append_left _ (List.mem_of_getElem? (i := 43) (by decide +kernel))
theorem ks_44 : Cond.selects "EldestSaysModel" ⟨"EldestSaysModel", "areInOrder", "(II)Z"⟩ ⟨"EldestSaysModel", "areInOrder", "(II)Z"⟩ ∈ lw_tbl := List.mem_append_left _ (List.mem_of_getElem? (i := 44) (by decide +kernel))
theorem ks_45 : Cond.selects "EldestSaysModel" ⟨"EldestSaysModel", "solvesAll", "()V"⟩ ⟨"EldestSaysModel", "solvesAll", "()V"⟩ ∈ lw_tbl := List.mem_append_left _ (List.mem_of_getElem? (i := 45) (by decide +kernel))
theorem ks_46 : Cond.selects "EldestSaysModel" ⟨"EldestSaysModel", "solves", "(I)V"⟩ ⟨"EldestSaysModel", "solves", "(I)V"⟩ ∈ lw_tbl := List.mem_append_left _ (List.mem_of_getElem? (i := 46) (by decide +kernel))
theorem ks_47 : Cond.selects "EldestSaysModel" ⟨"EldestSaysModel", "priceOf", "(II)I"⟩ ⟨"EldestSaysModel", "priceOf", "(II)I"⟩ ∈ lw_tbl := List.mem_append_left _ (List.mem_of_getElem? (i := 47) (by decide +kernel))
theorem ks_48 : Cond.selects "EldestSaysModel" ⟨"EldestSaysModel", "findOffer", "(I)V"⟩ ⟨"EldestSaysModel", "findOffer", "(I)V"⟩ ∈ lw_tbl := List.mem_append_left _ (List.mem_of_getElem? (i := 48) (by decide +kernel))
theorem ks_49 : Cond.selects "EldestSaysModel" ⟨"EldestSaysModel", "buysBy", "(I)I"⟩ ⟨"EldestSaysModel", "buysBy", "(I)I"⟩ ∈ lw_tbl := List.mem_append_left _ (List.mem_of_getElem? (i := 49) (by decide +kernel))
theorem ks_50 : Cond.selects "EldestSaysModel" ⟨"EldestSaysModel", "leftFrom", "(I)I"⟩ ⟨"EldestSaysModel", "leftFrom", "(I)I"⟩ ∈ lw_tbl := List.mem_append_left _ (List.mem_of_getElem? (i := 50) (by decide +kernel))
theorem ks_51 : Cond.selects "EldestSaysModel" ⟨"EldestSaysModel", "unbought", "(I)I"⟩ ⟨"EldestSaysModel", "unbought", "(I)I"⟩ ∈ lw_tbl := List.mem_append_left _ (List.mem_of_getElem? (i := 51) (by decide +kernel))
theorem ks_52 : Cond.selects "EldestSaysModel" ⟨"EldestSaysModel", "weightOf", "(I)I"⟩ ⟨"EldestSaysModel", "weightOf", "(I)I"⟩ ∈ lw_tbl := List.mem_append_left _ (List.mem_of_getElem? (i := 52) (by decide +kernel))
theorem ks_53 : Cond.selects "EldestSaysModel" ⟨"EldestSaysModel", "costOf", "(II)I"⟩ ⟨"EldestSaysModel", "costOf", "(II)I"⟩ ∈ lw_tbl := List.mem_append_left _ (List.mem_of_getElem? (i := 53) (by decide +kernel))
theorem ks_54 : Cond.selects "EldestSaysModel" ⟨"EldestSaysModel", "isAhead", "(II)Z"⟩ ⟨"EldestSaysModel", "isAhead", "(II)Z"⟩ ∈ lw_tbl := List.mem_append_left _ (List.mem_of_getElem? (i := 54) (by decide +kernel))
theorem ks_55 : Cond.selects "EldestSaysModel" ⟨"EldestSaysModel", "offersEach", "(III)V"⟩ ⟨"EldestSaysModel", "offersEach", "(III)V"⟩ ∈ lw_tbl := List.mem_append_left _ (List.mem_of_getElem? (i := 55) (by decide +kernel))
theorem ks_56 : Cond.selects "EldestSaysModel" ⟨"EldestSaysModel", "offersFools", "(IZ)V"⟩ ⟨"EldestSaysModel", "offersFools", "(IZ)V"⟩ ∈ lw_tbl := List.mem_append_left _ (List.mem_of_getElem? (i := 56) (by decide +kernel))
theorem ks_57 : Cond.selects "EldestSaysModel" ⟨"EldestSaysModel", "lower", "(I)I"⟩ ⟨"EldestSaysModel", "lower", "(I)I"⟩ ∈ lw_tbl := List.mem_append_left _ (List.mem_of_getElem? (i := 57) (by decide +kernel))
theorem ks_58 : Cond.selects "EldestSaysModel" ⟨"EldestSaysModel", "isOver", "()Z"⟩ ⟨"EldestSaysModel", "isOver", "()Z"⟩ ∈ lw_tbl := List.mem_append_left _ (List.mem_of_getElem? (i := 58) (by decide +kernel))
theorem ks_59 : Cond.selects "EldestSaysModel" ⟨"EldestSaysModel", "isOffer", "()Z"⟩ ⟨"EldestSaysModel", "isOffer", "()Z"⟩ ∈ lw_tbl := List.mem_append_left _ (List.mem_of_getElem? (i := 59) (by decide +kernel))
theorem ks_60 : Cond.selects "EldestSaysModel" ⟨"EldestSaysModel", "decides", "(I)I"⟩ ⟨"EldestSaysModel", "decides", "(I)I"⟩ ∈ lw_tbl := List.mem_append_left _ (List.mem_of_getElem? (i := 60) (by decide +kernel))
theorem ks_61 : Cond.selects "EldestSaysModel" ⟨"EldestSaysModel", "likeSays", "(III)Z"⟩ ⟨"EldestSaysModel", "likeSays", "(III)Z"⟩ ∈ lw_tbl := List.mem_append_left _ (List.mem_of_getElem? (i := 61) (by decide +kernel))
theorem ks_62 : Cond.selects "EldestSaysModel" ⟨"EldestSaysModel", "enough", "(I)I"⟩ ⟨"EldestSaysModel", "enough", "(I)I"⟩ ∈ lw_tbl := List.mem_append_left _ (List.mem_of_getElem? (i := 62) (by decide +kernel))
theorem ks_63 : Cond.selects "EldestSaysModel" ⟨"EldestSaysModel", "withPrice", "(III)I"⟩ ⟨"EldestSaysModel", "withPrice", "(III)I"⟩ ∈ lw_tbl := List.mem_append_left _ (List.mem_of_getElem? (i := 63) (by decide +kernel))
theorem ks_64 : Cond.selects "EldestSaysModel" ⟨"EldestSaysModel", "likeTakes", "(IIII)V"⟩ ⟨"EldestSaysModel", "likeTakes", "(IIII)V"⟩ ∈ lw_tbl := List.mem_append_left _ (List.mem_of_getElem? (i := 64) (by decide +kernel))
theorem ks_65 : Cond.selects "EldestSaysModel" ⟨"EldestSaysModel", "moves", "(II)V"⟩ ⟨"EldestSaysModel", "moves", "(II)V"⟩ ∈ lw_tbl := List.mem_append_left _ (List.mem_of_getElem? (i := 65) (by decide +kernel))
theorem ks_66 : Cond.selects "EldestSaysModel" ⟨"EldestSaysModel", "swaps", "(II)V"⟩ ⟨"EldestSaysModel", "swaps", "(II)V"⟩ ∈ lw_tbl := List.mem_append_left _ (List.mem_of_getElem? (i := 66) (by decide +kernel))
theorem ks_67 : Cond.selects "EldestSaysModel" ⟨"EldestSaysModel", "isFree", "(I)Z"⟩ ⟨"EldestSaysModel", "isFree", "(I)Z"⟩ ∈ lw_tbl := List.mem_append_left _ (List.mem_of_getElem? (i := 67) (by decide +kernel))
theorem ks_68 : Cond.selects "EldestSaysModel" ⟨"EldestSaysModel", "lowest", "(I)J"⟩ ⟨"EldestSaysModel", "lowest", "(I)J"⟩ ∈ lw_tbl := List.mem_append_left _ (List.mem_of_getElem? (i := 68) (by decide +kernel))
end
section
/-- the words of the tables that every state keeps -/
def lw_G : List Cond := lw_tbl.filter goodWord
theorem gw {w : Cond} (h : w ∈ lw_tbl) (hg : goodWord w = true) : w ∈ lw_G := List.mem_filter.mpr ⟨h, hg⟩
/-- a method's words: its own code, and all words of the tables that are kept -/
abbrev wW (y : MethodName) (c : ByteArray) (n : Nat) (r : Option FieldType) : List Cond := Cond.code y c n r :: lw_G
theorem gG {y : MethodName} {c : ByteArray} {n : Nat} {r : Option FieldType} (h : Cond.code y c n r ∈ lw_tbl) : GoodIn lw_G (wW y c n r) := by
  intro w hw
  rcases List.mem_cons.mp hw with rfl | hw
  · exact ⟨gw h rfl, good_of_word rfl⟩
  · exact ⟨hw, good_of_word (List.mem_filter.mp hw).2⟩
theorem va_AOA.moved {t : FieldType} {u U : State} (hvm : u.vm.Alike U.vm) (h : va_AOA t u) : va_AOA t U := by
  have h0 : (Cond.arrayOver (.array t)).holds #[] u none u [] = true := h
  simp only [Cond.holds, Cond.value, beq_iff_eq] at h0
  cases hc : u.vm.findClass (FieldType.array t).toString with
  | none => simp [hc] at h0
  | some comp =>
    simp only [hc, Option.bind_some, Option.bind_eq_some_iff, Option.map_eq_some_iff] at h0
    obtain ⟨c, h2, k, hk, hb⟩ := h0
    obtain ⟨k', hk', he⟩ := hvm.2.2 _ _ hk
    have hi : (U.vm.classes.findIdx? fun (x : Class) => match x.kind with | .array component _ => component == comp | _ => false) = some c := by
      refine (va_idx_bare U.vm comp).symm.trans ?_
      first | rw [hvm.bare_eq] | rw [← hvm.bare_eq]
      exact (va_idx_bare u.vm comp).trans h2
    have hkind : k'.kind = k.kind := by rw [he]
    have f1 : U.vm.findClass (FieldType.array t).toString = some comp := by rw [hvm.findClass]; exact hc
    unfold va_AOA Cond.before Cond.holds
    simp only [Cond.value]
    rw [f1, Option.bind_some]
    refine (congrArg (fun o : Option Nat => (o.bind (fun c => (U.vm.classes[c]?).map fun (k : Class) => match k.kind with | .array _ ty => decide (ty = FieldType.array t) && decide (U.vm.findClass ("[" ++ (FieldType.array t).toString) = some c) | _ => false) == some true)) hi).trans ?_
    have hb2 : (match k.kind with | .array _ ty => decide (ty = FieldType.array t) && decide (U.vm.findClass ("[" ++ (FieldType.array t).toString) = some c) | _ => false) = true := by rw [hvm.findClass]; exact hb
    simp only [Option.bind_some, hk', Option.map_some, hkind]
    rw [hb2]
    rfl
def bx_nest : Cond → Bool
  | .methodLinkNest .. => true
  | .fieldLinkNest .. => true
  | .castable .. => true
  | _ => false
/-- the words that a state keeps as long as it is only warmed -/
def NX (U : State) : Prop := (∀ w ∈ lw_tbl, bx_nest w = true → va_Nw w U) ∧ va_AO "EldestSays$Clever" U ∧ va_AOA .int U
theorem NX.same {u U : State} (h : u.vm = U.vm) (hZ : NX u) : NX U := ⟨fun w hw hb => by
    have h1 := hZ.1 w hw hb
    cases w <;> first | exact absurd hb Bool.false_ne_true | exact va_Nw.same rfl h h1, va_AO.moved (h ▸ Vm.Alike.refl u.vm) hZ.2.1, va_AOA.moved (h ▸ Vm.Alike.refl u.vm) hZ.2.2⟩
theorem NX.warm {s U : State} (hW : s.WarmedH U.vm) (hZ : NX s) : NX U := ⟨fun w hw hb => by
    have h1 := hZ.1 w hw hb
    cases w <;> first | exact absurd hb Bool.false_ne_true | exact va_Nw.warmM hW h1 | exact va_Nw.warmF hW h1 | exact va_Nw.warmC hW h1, va_AO.moved hW.alike hZ.2.1, va_AOA.moved hW.alike hZ.2.2⟩
abbrev classes : List vw_C := [(RX0, TX0, 0), (RX1, TX1, 0), (RX2, TX2, 6), (RX3, TX3, 0), (RX4, TX4, 8), (RX5, TX5, 0), (RX6, TX6, 0), (RX7, TX7, 2), (RX8, TX8, 0), (RX9, TX9, 14), (RX10, TX10, 0), (RX11, TX11, 14), (RX12, TX12, 33)]
/-- the array classes that all worlds speak of -/
abbrev TY (aC : Nat → ClassId) : List (ClassId × FieldType) := [(aC 0, .int), (aC 1, .char), (aC 2, .long), (aC 3, .object "EldestSays$Clever"), (aC 4, .array .int)]
theorem inX0 : ∀ w ∈ u_ws RX0 TX0 0, w ∈ lw_G := by intro w h; simp [u_ws] at h
theorem inX1 : ∀ w ∈ u_ws RX1 TX1 0, w ∈ lw_G := by intro w h; simp [u_ws] at h
theorem inX3 : ∀ w ∈ u_ws RX3 TX3 0, w ∈ lw_G := by intro w h; simp [u_ws] at h
theorem inX5 : ∀ w ∈ u_ws RX5 TX5 0, w ∈ lw_G := by intro w h; simp [u_ws] at h
theorem inX6 : ∀ w ∈ u_ws RX6 TX6 0, w ∈ lw_G := by intro w h; simp [u_ws] at h
theorem inX8 : ∀ w ∈ u_ws RX8 TX8 0, w ∈ lw_G := by intro w h; simp [u_ws] at h
theorem inX10 : ∀ w ∈ u_ws RX10 TX10 0, w ∈ lw_G := by intro w h; simp [u_ws] at h
theorem inX2 : ∀ w ∈ u_ws RX2 TX2 6, w ∈ lw_G := fun w h => gw ((by decide +kernel : ∀ w ∈ u_ws RX2 TX2 6, w ∈ lw_tbl) w h) (List.all_eq_true.mp (by decide +kernel : (u_ws RX2 TX2 6).all goodWord = true) w h)
theorem inX4 : ∀ w ∈ u_ws RX4 TX4 8, w ∈ lw_G := fun w h => gw ((by decide +kernel : ∀ w ∈ u_ws RX4 TX4 8, w ∈ lw_tbl) w h) (List.all_eq_true.mp (by decide +kernel : (u_ws RX4 TX4 8).all goodWord = true) w h)
theorem inX7 : ∀ w ∈ u_ws RX7 TX7 2, w ∈ lw_G := fun w h => gw ((by decide +kernel : ∀ w ∈ u_ws RX7 TX7 2, w ∈ lw_tbl) w h) (List.all_eq_true.mp (by decide +kernel : (u_ws RX7 TX7 2).all goodWord = true) w h)
theorem inX9 : ∀ w ∈ u_ws RX9 TX9 14, w ∈ lw_G := fun w h => gw ((by decide +kernel : ∀ w ∈ u_ws RX9 TX9 14, w ∈ lw_tbl) w h) (List.all_eq_true.mp (by decide +kernel : (u_ws RX9 TX9 14).all goodWord = true) w h)
theorem inX11 : ∀ w ∈ u_ws RX11 TX11 14, w ∈ lw_G := fun w h => gw ((by decide +kernel : ∀ w ∈ u_ws RX11 TX11 14, w ∈ lw_tbl) w h) (List.all_eq_true.mp (by decide +kernel : (u_ws RX11 TX11 14).all goodWord = true) w h)
theorem inX12 : ∀ w ∈ u_ws RX12 TX12 33, w ∈ lw_G := fun w h => gw ((by decide +kernel : ∀ w ∈ u_ws RX12 TX12 33, w ∈ lw_tbl) w h) (List.all_eq_true.mp (by decide +kernel : (u_ws RX12 TX12 33).all goodWord = true) w h)
/-- one array class a type -/
theorem va_K.one {D : va_G} {cl : List vw_C} {tys : List (ClassId × FieldType)} {U : State} (h : va_K D cl tys U) {i j : Nat} {c d : ClassId} {ty : FieldType} (hi : tys[i]? = some (c, ty)) (hj : tys[j]? = some (d, ty)) : c = d := by
  have h1 := (h.2 i _ hi).2
  have h2 := (h.2 j _ hj).2
  cases ty with
  | object C =>
    obtain ⟨_, _, _, _, _, q1⟩ := h1
    obtain ⟨_, _, _, _, _, q2⟩ := h2
    exact Option.some.inj (q1.symm.trans q2)
  | _ => exact Option.some.inj (h1.symm.trans h2)
section NEWA
variable {p : Program} {l : Launch} {e : Env} {R : Room} {s : State} {m : MethodId} {args : Array Value} {below : List Frame} {meth : Method} {c : Code} {H : Heap} {locs : List Loc} {cells slots : Nat} {Q : State → Prop}
variable {cc : ByteArray} {pc : Nat} {ls : Array Slot} {rest : List Value} {D : va_G} {cl : List vw_C} {A : Nat → Prop} {aC : Nat → ClassId} {ws : va_W} {H0 : Heap}
theorem va_newaI (hexec : p.tables.exec = Jvm.exec) (hb : c.code = cc) (harr : (Cond.arrayClass .int).before args s = true) (hK : va_K D cl (TY aC) s) (hP : va_P D cl ws H) (hD : va_D A ws) (hS : va_S A H0 H locs) (hA : ∀ q, H0.size ≤ q → A q)
    {n : Int32} {N' : Nat} {a0 : vp_A} (hn : ¬ n < 0) (hN : n.toNatClampNeg = N') (hbytes : N' * componentBytes .int ≤ 536870912) (hcells : cells + 1 ≤ R.cells) (hslots : slots + N' ≤ R.slots) (hdg : decode cc pc = .ok (.newarray .int, 2)) (ha : a0 = (N', .inl (fun _ => 0)) := by rfl)
    (kk : ∀ (q : Nat) (H1 : Heap), va_P D cl (ws ++ [(q, .inl (aC 0, a0))]) H1 → va_D A (ws ++ [(q, .inl (aC 0, a0))]) → va_S A H0 H1 locs →
      W p l e R s m args below meth c H1 locs (cells + 1) (slots + N') Q (F0 m (pc + 2) ls (.ref q :: rest))) : W p l e R s m args below meth c H locs cells slots Q (F0 m pc ls (.int n :: rest)) := by
  subst ha
  refine va_newa (atype := .int) (ty := .int) hexec hb harr rfl hK hP hD hS hA (a0 := (N', .inl (fun _ => 0))) (fun cA => rfl) hn hN hbytes hcells hslots hdg (fun q cA H1 k1 k2 k3 k4 => ?_)
  have h9 : cA = aC 0 := k1.one (i := 5) (j := 0) rfl rfl
  subst h9
  exact kk q H1 k2 k3 k4
theorem va_newaC (hexec : p.tables.exec = Jvm.exec) (hb : c.code = cc) (harr : (Cond.arrayClass .char).before args s = true) (hK : va_K D cl (TY aC) s) (hP : va_P D cl ws H) (hD : va_D A ws) (hS : va_S A H0 H locs) (hA : ∀ q, H0.size ≤ q → A q)
    {n : Int32} {N' : Nat} {a0 : vp_A} (hn : ¬ n < 0) (hN : n.toNatClampNeg = N') (hbytes : N' * componentBytes .char ≤ 536870912) (hcells : cells + 1 ≤ R.cells) (hslots : slots + N' ≤ R.slots) (hdg : decode cc pc = .ok (.newarray .char, 2)) (ha : a0 = (N', .inl (fun _ => 0)) := by rfl)
    (kk : ∀ (q : Nat) (H1 : Heap), va_P D cl (ws ++ [(q, .inl (aC 1, a0))]) H1 → va_D A (ws ++ [(q, .inl (aC 1, a0))]) → va_S A H0 H1 locs →
      W p l e R s m args below meth c H1 locs (cells + 1) (slots + N') Q (F0 m (pc + 2) ls (.ref q :: rest))) : W p l e R s m args below meth c H locs cells slots Q (F0 m pc ls (.int n :: rest)) := by
  subst ha
  refine va_newa (atype := .char) (ty := .char) hexec hb harr rfl hK hP hD hS hA (a0 := (N', .inl (fun _ => 0))) (fun cA => rfl) hn hN hbytes hcells hslots hdg (fun q cA H1 k1 k2 k3 k4 => ?_)
  have h9 : cA = aC 1 := k1.one (i := 5) (j := 1) rfl rfl
  subst h9
  exact kk q H1 k2 k3 k4
theorem va_newaL (hexec : p.tables.exec = Jvm.exec) (hb : c.code = cc) (harr : (Cond.arrayClass .long).before args s = true) (hK : va_K D cl (TY aC) s) (hP : va_P D cl ws H) (hD : va_D A ws) (hS : va_S A H0 H locs) (hA : ∀ q, H0.size ≤ q → A q)
    {n : Int32} {N' : Nat} {a0 : vp_A} (hn : ¬ n < 0) (hN : n.toNatClampNeg = N') (hbytes : N' * componentBytes .long ≤ 536870912) (hcells : cells + 1 ≤ R.cells) (hslots : slots + N' ≤ R.slots) (hdg : decode cc pc = .ok (.newarray .long, 2)) (ha : a0 = (N', .inr (.inl (fun _ => 0))) := by rfl)
    (kk : ∀ (q : Nat) (H1 : Heap), va_P D cl (ws ++ [(q, .inl (aC 2, a0))]) H1 → va_D A (ws ++ [(q, .inl (aC 2, a0))]) → va_S A H0 H1 locs →
      W p l e R s m args below meth c H1 locs (cells + 1) (slots + N') Q (F0 m (pc + 2) ls (.ref q :: rest))) : W p l e R s m args below meth c H locs cells slots Q (F0 m pc ls (.int n :: rest)) := by
  subst ha
  refine va_newa (atype := .long) (ty := .long) hexec hb harr rfl hK hP hD hS hA (a0 := (N', .inr (.inl (fun _ => 0)))) (fun cA => rfl) hn hN hbytes hcells hslots hdg (fun q cA H1 k1 k2 k3 k4 => ?_)
  have h9 : cA = aC 2 := k1.one (i := 5) (j := 2) rfl rfl
  subst h9
  exact kk q H1 k2 k3 k4
theorem va_newqI (hexec : p.tables.exec = Jvm.exec) (hb : c.code = cc) {own : String} {index : Nat} (hown : s.vm.findClass own = some m.cls) (hclink : (Cond.classLink own index "EldestSays$Clever").before args s = true) (hover : (Cond.arrayOver (.object "EldestSays$Clever")).before args s = true) (hK : va_K D cl (TY aC) s) (hP : va_P D cl ws H) (hD : va_D A ws) (hS : va_S A H0 H locs) (hA : ∀ q, H0.size ≤ q → A q)
    {n : Int32} {N' : Nat} (hn : ¬ n < 0) (hN : n.toNatClampNeg = N') (hbytes : N' * 4 ≤ 536870912) (hcells : cells + 1 ≤ R.cells) (hslots : slots + N' ≤ R.slots) (hdg : decode cc pc = .ok (.anewarray index, 3))
    (kk : ∀ (q : Nat) (H1 : Heap), va_P D cl (ws ++ [(q, .inl (aC 3, N', .inr (.inr (.inr (.inr (fun _ => none))))))]) H1 → va_D A (ws ++ [(q, .inl (aC 3, N', .inr (.inr (.inr (.inr (fun _ => none))))))]) → va_S A H0 H1 locs →
      W p l e R s m args below meth c H1 locs (cells + 1) (slots + N') Q (F0 m (pc + 3) ls (.ref q :: rest))) : W p l e R s m args below meth c H locs cells slots Q (F0 m pc ls (.int n :: rest)) := by
  refine va_newq hexec hb hown hclink (va_AO.of hover) hK hP hD hS hA hn hN hbytes hcells hslots hdg (fun q cA H1 k1 k2 k3 k4 => ?_)
  have h9 : cA = aC 3 := k1.one (i := 5) (j := 3) rfl rfl
  subst h9
  exact kk q H1 k2 k3 k4
theorem va_mnaI {X : va_W} (hexec : p.tables.exec = Jvm.exec) (hb : c.code = cc) {own : String} {index : Nat} (hown : s.vm.findClass own = some m.cls) (hclink : (Cond.classLink own index ("[" ++ (FieldType.array .int).toString)).before args s = true) (hover : (Cond.arrayOver (.array .int)).before args s = true) (harr : (Cond.arrayClass .int).before args s = true)
    (hK : va_K D cl (TY aC) s) (hP : va_P D cl X H) (hD : va_D A X) (hS : va_S A H0 H locs) (hA : ∀ q, H0.size ≤ q → A q) {n k : Int32} {N' K' : Nat} (hn : ¬ n < 0) (hk : ¬ k < 0) (hN : n.toNatClampNeg = N') (hM : k.toNatClampNeg = K')
    (hb1 : N' * 4 ≤ 536870912) (hb2 : K' * componentBytes .int ≤ 536870912) (hb3 : K' ≤ 536870912) (hcells : cells + (1 + N') ≤ R.cells) (hslots : slots + (N' + N' * K') ≤ R.slots) (hdg : decode cc pc = .ok (.multianewarray index 2, 4))
    (kk : ∀ (q : Nat) (r : Nat → Nat) (H1 : Heap), (∀ i j : Nat, i < N' → j < N' → r i = r j → i = j) →
      va_P D cl (X ++ [(q, .inl (aC 4, N', .inr (.inr (.inr (.inr (fun i => if i < N' then some (r i) else none))))))]) H1 → va_D A (X ++ [(q, .inl (aC 4, N', .inr (.inr (.inr (.inr (fun i => if i < N' then some (r i) else none))))))]) → va_S A H0 H1 locs →
      W p l e R s m args below meth c H1 locs (cells + 1 + N') (slots + N' + N' * K') Q (F0 m (pc + 4) ls (.ref q :: rest))) : W p l e R s m args below meth c H locs cells slots Q (F0 m pc ls (.int k :: .int n :: rest)) := by
  have hcy : s.vm.findClass (FieldType.array .int).toString = some (aC 0) := (hK.2 0 _ rfl).2
  refine va_mna (X := X) (L := []) (f := fun _ => .inr (0, [])) (z := (K', .inl (fun _ => 0))) (ty := .int) hexec hb hown hclink hover harr hcy hK (by simpa [va_pl] using hP) (by simpa [va_pl] using hD) hS hA hn hk hN hM hb1 hb2 hb3 rfl rfl hcells hslots (fun c => by show _ = arrV c K' (fun _ => .int 0); rw [← arrV_new]; rfl) hdg (fun q r cA H1 k0 _ k1 k2 k3 k4 => ?_)
  have h9 : cA = aC 4 := k1.one (i := 5) (j := 4) rfl rfl
  subst h9
  refine kk q r H1 k0 (fun k x hx => k2 k x ?_) ⟨fun i j p q hi hj => k3.1 i j p q ?_ ?_, fun k x hx => k3.2 k x ?_⟩ k4
  · rw [List.getElem?_append_left (List.getElem?_eq_some_iff.mp hx).1]; exact hx
  · rw [List.getElem?_append_left (List.getElem?_eq_some_iff.mp hi).1]; exact hi
  · rw [List.getElem?_append_left (List.getElem?_eq_some_iff.mp hj).1]; exact hj
  · rw [List.getElem?_append_left (List.getElem?_eq_some_iff.mp hx).1]; exact hx
end NEWA
theorem sw_out3 {x : Int32} (h0 : ¬ x = 0) (h1 : ¬ x = 1) (h2 : ¬ x = 2) : x.toInt < 0 ∨ 2 < x.toInt := by
  have e0 := lv_neT h0 (a := 0) rfl
  have e1 := lv_neT h1 (a := 1) rfl
  have e2 := lv_neT h2 (a := 2) rfl
  omega
theorem sw_out7 {x : Int32} (h0 : ¬ x = 0) (h1 : ¬ x = 1) (h2 : ¬ x = 2) (h3 : ¬ x = 3) (h4 : ¬ x = 4) (h5 : ¬ x = 5) (h6 : ¬ x = 6) : x.toInt < 0 ∨ 6 < x.toInt := by
  have e0 := lv_neT h0 (a := 0) rfl
  have e1 := lv_neT h1 (a := 1) rfl
  have e2 := lv_neT h2 (a := 2) rfl
  have e3 := lv_neT h3 (a := 3) rfl
  have e4 := lv_neT h4 (a := 4) rfl
  have e5 := lv_neT h5 (a := 5) rfl
  have e6 := lv_neT h6 (a := 6) rfl
  omega
end
section
theorem dX0_init_0 : decode cX0_init 0 = .ok (.aload_n 0, 1) := by decide +kernel
theorem dX0_init_1 : decode cX0_init 1 = .ok (.invokespecial 1, 3) := by decide +kernel
theorem dX0_init_4 : decode cX0_init 4 = .ok (.return_, 1) := by decide +kernel
theorem dX0_ask_0 : decode cX0_ask 0 = .ok (.iload_n 3, 1) := by decide +kernel
theorem dX0_ask_1 : decode cX0_ask 1 = .ok (.iconst 1, 1) := by decide +kernel
theorem dX0_ask_2 : decode cX0_ask 2 = .ok (.if_icmp .ne 7, 3) := by decide +kernel
theorem dX0_ask_5 : decode cX0_ask 5 = .ok (.iload_n 1, 1) := by decide +kernel
theorem dX0_ask_6 : decode cX0_ask 6 = .ok (.goto 6, 3) := by decide +kernel
theorem dX0_ask_9 : decode cX0_ask 9 = .ok (.iload_n 1, 1) := by decide +kernel
theorem dX0_ask_10 : decode cX0_ask 10 = .ok (.iconst 1, 1) := by decide +kernel
theorem dX0_ask_11 : decode cX0_ask 11 = .ok (.iadd, 1) := by decide +kernel
theorem dX0_ask_12 : decode cX0_ask 12 = .ok (.istore 4, 2) := by decide +kernel
theorem dX0_ask_14 : decode cX0_ask 14 = .ok (.iload 4, 2) := by decide +kernel
theorem dX0_ask_16 : decode cX0_ask 16 = .ok (.ifCond .le 8, 3) := by decide +kernel
theorem dX0_ask_19 : decode cX0_ask 19 = .ok (.iload 4, 2) := by decide +kernel
theorem dX0_ask_21 : decode cX0_ask 21 = .ok (.goto 4, 3) := by decide +kernel
theorem dX0_ask_24 : decode cX0_ask 24 = .ok (.iconst 0, 1) := by decide +kernel
theorem dX0_ask_25 : decode cX0_ask 25 = .ok (.ireturn, 1) := by decide +kernel
theorem dX0_tell_0 : decode cX0_tell 0 = .ok (.aload_n 1, 1) := by decide +kernel
theorem dX0_tell_1 : decode cX0_tell 1 = .ok (.iload_n 2, 1) := by decide +kernel
theorem dX0_tell_2 : decode cX0_tell 2 = .ok (.invokevirtual 7, 3) := by decide +kernel
theorem dX0_tell_5 : decode cX0_tell 5 = .ok (.return_, 1) := by decide +kernel
theorem dX1_init_0 : decode cX1_init 0 = .ok (.aload_n 0, 1) := by decide +kernel
theorem dX1_init_1 : decode cX1_init 1 = .ok (.invokespecial 1, 3) := by decide +kernel
theorem dX1_init_4 : decode cX1_init 4 = .ok (.return_, 1) := by decide +kernel
theorem dX1_ask_0 : decode cX1_ask 0 = .ok (.iconst 0, 1) := by decide +kernel
theorem dX1_ask_1 : decode cX1_ask 1 = .ok (.iload_n 1, 1) := by decide +kernel
theorem dX1_ask_2 : decode cX1_ask 2 = .ok (.invokestatic 7, 3) := by decide +kernel
theorem dX1_ask_5 : decode cX1_ask 5 = .ok (.ireturn, 1) := by decide +kernel
theorem dX2_init_0 : decode cX2_init 0 = .ok (.aload_n 0, 1) := by decide +kernel
theorem dX2_init_1 : decode cX2_init 1 = .ok (.invokespecial 3, 3) := by decide +kernel
theorem dX2_init_4 : decode cX2_init 4 = .ok (.aload_n 0, 1) := by decide +kernel
theorem dX2_init_5 : decode cX2_init 5 = .ok (.bipush 60, 2) := by decide +kernel
theorem dX2_init_7 : decode cX2_init 7 = .ok (.newarray .int, 2) := by decide +kernel
theorem dX2_init_9 : decode cX2_init 9 = .ok (.putfield 9, 3) := by decide +kernel
theorem dX2_init_12 : decode cX2_init 12 = .ok (.aload_n 0, 1) := by decide +kernel
theorem dX2_init_13 : decode cX2_init 13 = .ok (.bipush 60, 2) := by decide +kernel
theorem dX2_init_15 : decode cX2_init 15 = .ok (.newarray .int, 2) := by decide +kernel
theorem dX2_init_17 : decode cX2_init 17 = .ok (.putfield 15, 3) := by decide +kernel
theorem dX2_init_20 : decode cX2_init 20 = .ok (.aload_n 0, 1) := by decide +kernel
theorem dX2_init_21 : decode cX2_init 21 = .ok (.bipush 60, 2) := by decide +kernel
theorem dX2_init_23 : decode cX2_init 23 = .ok (.newarray .int, 2) := by decide +kernel
theorem dX2_init_25 : decode cX2_init 25 = .ok (.putfield 18, 3) := by decide +kernel
theorem dX2_init_28 : decode cX2_init 28 = .ok (.aload_n 0, 1) := by decide +kernel
theorem dX2_init_29 : decode cX2_init 29 = .ok (.aload_n 1, 1) := by decide +kernel
theorem dX2_init_30 : decode cX2_init 30 = .ok (.putfield 21, 3) := by decide +kernel
theorem dX2_init_33 : decode cX2_init 33 = .ok (.return_, 1) := by decide +kernel
theorem dX2_solve_0 : decode cX2_solve 0 = .ok (.aload_n 0, 1) := by decide +kernel
theorem dX2_solve_1 : decode cX2_solve 1 = .ok (.iload_n 1, 1) := by decide +kernel
theorem dX2_solve_2 : decode cX2_solve 2 = .ok (.bipush 60, 2) := by decide +kernel
theorem dX2_solve_4 : decode cX2_solve 4 = .ok (.invokestatic 25, 3) := by decide +kernel
theorem dX2_solve_7 : decode cX2_solve 7 = .ok (.putfield 31, 3) := by decide +kernel
theorem dX2_solve_10 : decode cX2_solve 10 = .ok (.aload_n 0, 1) := by decide +kernel
theorem dX2_solve_11 : decode cX2_solve 11 = .ok (.iload_n 2, 1) := by decide +kernel
theorem dX2_solve_12 : decode cX2_solve 12 = .ok (.putfield 35, 3) := by decide +kernel
theorem dX2_solve_15 : decode cX2_solve 15 = .ok (.aload_n 0, 1) := by decide +kernel
theorem dX2_solve_16 : decode cX2_solve 16 = .ok (.getfield 31, 3) := by decide +kernel
theorem dX2_solve_19 : decode cX2_solve 19 = .ok (.iconst 1, 1) := by decide +kernel
theorem dX2_solve_20 : decode cX2_solve 20 = .ok (.isub, 1) := by decide +kernel
theorem dX2_solve_21 : decode cX2_solve 21 = .ok (.istore 4, 2) := by decide +kernel
theorem dX2_solve_23 : decode cX2_solve 23 = .ok (.iload 4, 2) := by decide +kernel
theorem dX2_solve_25 : decode cX2_solve 25 = .ok (.ifCond .lt 101, 3) := by decide +kernel
theorem dX2_solve_28 : decode cX2_solve 28 = .ok (.aload_n 0, 1) := by decide +kernel
theorem dX2_solve_29 : decode cX2_solve 29 = .ok (.iload 4, 2) := by decide +kernel
theorem dX2_solve_31 : decode cX2_solve 31 = .ok (.aload_n 3, 1) := by decide +kernel
theorem dX2_solve_32 : decode cX2_solve 32 = .ok (.iconst 2, 1) := by decide +kernel
theorem dX2_solve_33 : decode cX2_solve 33 = .ok (.iaload, 1) := by decide +kernel
theorem dX2_solve_34 : decode cX2_solve 34 = .ok (.invokevirtual 38, 3) := by decide +kernel
theorem dX2_solve_37 : decode cX2_solve 37 = .ok (.istore 5, 2) := by decide +kernel
theorem dX2_solve_39 : decode cX2_solve 39 = .ok (.iconst 1, 1) := by decide +kernel
theorem dX2_solve_40 : decode cX2_solve 40 = .ok (.iload 5, 2) := by decide +kernel
theorem dX2_solve_42 : decode cX2_solve 42 = .ok (.iadd, 1) := by decide +kernel
theorem dX2_solve_43 : decode cX2_solve 43 = .ok (.aload_n 0, 1) := by decide +kernel
theorem dX2_solve_44 : decode cX2_solve 44 = .ok (.getfield 31, 3) := by decide +kernel
theorem dX2_solve_47 : decode cX2_solve 47 = .ok (.iload 4, 2) := by decide +kernel
theorem dX2_solve_49 : decode cX2_solve 49 = .ok (.isub, 1) := by decide +kernel
theorem dX2_solve_50 : decode cX2_solve 50 = .ok (.aload_n 3, 1) := by decide +kernel
theorem dX2_solve_51 : decode cX2_solve 51 = .ok (.iconst 1, 1) := by decide +kernel
theorem dX2_solve_52 : decode cX2_solve 52 = .ok (.iaload, 1) := by decide +kernel
theorem dX2_solve_53 : decode cX2_solve 53 = .ok (.invokestatic 41, 3) := by decide +kernel
theorem dX2_solve_56 : decode cX2_solve 56 = .ok (.istore 6, 2) := by decide +kernel
theorem dX2_solve_58 : decode cX2_solve 58 = .ok (.aload_n 0, 1) := by decide +kernel
theorem dX2_solve_59 : decode cX2_solve 59 = .ok (.iload 4, 2) := by decide +kernel
theorem dX2_solve_61 : decode cX2_solve 61 = .ok (.iload 6, 2) := by decide +kernel
theorem dX2_solve_63 : decode cX2_solve 63 = .ok (.aload_n 3, 1) := by decide +kernel
theorem dX2_solve_64 : decode cX2_solve 64 = .ok (.iconst 3, 1) := by decide +kernel
theorem dX2_solve_65 : decode cX2_solve 65 = .ok (.iaload, 1) := by decide +kernel
theorem dX2_solve_66 : decode cX2_solve 66 = .ok (.invokevirtual 45, 3) := by decide +kernel
theorem dX2_solve_69 : decode cX2_solve 69 = .ok (.istore 7, 2) := by decide +kernel
theorem dX2_solve_71 : decode cX2_solve 71 = .ok (.iload 7, 2) := by decide +kernel
theorem dX2_solve_73 : decode cX2_solve 73 = .ok (.aload_n 0, 1) := by decide +kernel
theorem dX2_solve_74 : decode cX2_solve 74 = .ok (.getfield 35, 3) := by decide +kernel
theorem dX2_solve_77 : decode cX2_solve 77 = .ok (.if_icmp .gt 35, 3) := by decide +kernel
theorem dX2_solve_80 : decode cX2_solve 80 = .ok (.aload_n 0, 1) := by decide +kernel
theorem dX2_solve_81 : decode cX2_solve 81 = .ok (.getfield 18, 3) := by decide +kernel
theorem dX2_solve_84 : decode cX2_solve 84 = .ok (.iconst 0, 1) := by decide +kernel
theorem dX2_solve_85 : decode cX2_solve 85 = .ok (.aload_n 0, 1) := by decide +kernel
theorem dX2_solve_86 : decode cX2_solve 86 = .ok (.getfield 9, 3) := by decide +kernel
theorem dX2_solve_89 : decode cX2_solve 89 = .ok (.iconst 0, 1) := by decide +kernel
theorem dX2_solve_90 : decode cX2_solve 90 = .ok (.bipush 60, 2) := by decide +kernel
theorem dX2_solve_92 : decode cX2_solve 92 = .ok (.invokestatic 48, 3) := by decide +kernel
theorem dX2_solve_95 : decode cX2_solve 95 = .ok (.aload_n 0, 1) := by decide +kernel
theorem dX2_solve_96 : decode cX2_solve 96 = .ok (.getfield 9, 3) := by decide +kernel
theorem dX2_solve_99 : decode cX2_solve 99 = .ok (.iload 4, 2) := by decide +kernel
theorem dX2_solve_101 : decode cX2_solve 101 = .ok (.aload_n 0, 1) := by decide +kernel
theorem dX2_solve_102 : decode cX2_solve 102 = .ok (.getfield 35, 3) := by decide +kernel
theorem dX2_solve_105 : decode cX2_solve 105 = .ok (.iload 7, 2) := by decide +kernel
theorem dX2_solve_107 : decode cX2_solve 107 = .ok (.isub, 1) := by decide +kernel
theorem dX2_solve_108 : decode cX2_solve 108 = .ok (.iastore, 1) := by decide +kernel
theorem dX2_solve_109 : decode cX2_solve 109 = .ok (.goto 11, 3) := by decide +kernel
theorem dX2_solve_112 : decode cX2_solve 112 = .ok (.aload_n 0, 1) := by decide +kernel
theorem dX2_solve_113 : decode cX2_solve 113 = .ok (.getfield 9, 3) := by decide +kernel
theorem dX2_solve_116 : decode cX2_solve 116 = .ok (.iload 4, 2) := by decide +kernel
theorem dX2_solve_118 : decode cX2_solve 118 = .ok (.iconst (-1), 1) := by decide +kernel
theorem dX2_solve_119 : decode cX2_solve 119 = .ok (.iastore, 1) := by decide +kernel
theorem dX2_solve_120 : decode cX2_solve 120 = .ok (.iinc 4 (-1), 3) := by decide +kernel
theorem dX2_solve_123 : decode cX2_solve 123 = .ok (.goto (-100), 3) := by decide +kernel
theorem dX2_solve_126 : decode cX2_solve 126 = .ok (.return_, 1) := by decide +kernel
theorem dX2_askYounger_0 : decode cX2_askYounger 0 = .ok (.iconst 0, 1) := by decide +kernel
theorem dX2_askYounger_1 : decode cX2_askYounger 1 = .ok (.istore_n 3, 1) := by decide +kernel
theorem dX2_askYounger_2 : decode cX2_askYounger 2 = .ok (.iload_n 1, 1) := by decide +kernel
theorem dX2_askYounger_3 : decode cX2_askYounger 3 = .ok (.iconst 1, 1) := by decide +kernel
theorem dX2_askYounger_4 : decode cX2_askYounger 4 = .ok (.iadd, 1) := by decide +kernel
theorem dX2_askYounger_5 : decode cX2_askYounger 5 = .ok (.istore 4, 2) := by decide +kernel
theorem dX2_askYounger_7 : decode cX2_askYounger 7 = .ok (.iload 4, 2) := by decide +kernel
theorem dX2_askYounger_9 : decode cX2_askYounger 9 = .ok (.aload_n 0, 1) := by decide +kernel
theorem dX2_askYounger_10 : decode cX2_askYounger 10 = .ok (.getfield 31, 3) := by decide +kernel
theorem dX2_askYounger_13 : decode cX2_askYounger 13 = .ok (.if_icmp .ge 45, 3) := by decide +kernel
theorem dX2_askYounger_16 : decode cX2_askYounger 16 = .ok (.aload_n 0, 1) := by decide +kernel
theorem dX2_askYounger_17 : decode cX2_askYounger 17 = .ok (.getfield 15, 3) := by decide +kernel
theorem dX2_askYounger_20 : decode cX2_askYounger 20 = .ok (.iload 4, 2) := by decide +kernel
theorem dX2_askYounger_22 : decode cX2_askYounger 22 = .ok (.aload_n 0, 1) := by decide +kernel
theorem dX2_askYounger_23 : decode cX2_askYounger 23 = .ok (.getfield 21, 3) := by decide +kernel
theorem dX2_askYounger_26 : decode cX2_askYounger 26 = .ok (.aload_n 0, 1) := by decide +kernel
theorem dX2_askYounger_27 : decode cX2_askYounger 27 = .ok (.getfield 9, 3) := by decide +kernel
theorem dX2_askYounger_30 : decode cX2_askYounger 30 = .ok (.iload 4, 2) := by decide +kernel
theorem dX2_askYounger_32 : decode cX2_askYounger 32 = .ok (.iaload, 1) := by decide +kernel
theorem dX2_askYounger_33 : decode cX2_askYounger 33 = .ok (.iconst 0, 1) := by decide +kernel
theorem dX2_askYounger_34 : decode cX2_askYounger 34 = .ok (.iload_n 2, 1) := by decide +kernel
theorem dX2_askYounger_35 : decode cX2_askYounger 35 = .ok (.invokevirtual 54, 3) := by decide +kernel
theorem dX2_askYounger_38 : decode cX2_askYounger 38 = .ok (.iastore, 1) := by decide +kernel
theorem dX2_askYounger_39 : decode cX2_askYounger 39 = .ok (.aload_n 0, 1) := by decide +kernel
theorem dX2_askYounger_40 : decode cX2_askYounger 40 = .ok (.getfield 15, 3) := by decide +kernel
theorem dX2_askYounger_43 : decode cX2_askYounger 43 = .ok (.iload 4, 2) := by decide +kernel
theorem dX2_askYounger_45 : decode cX2_askYounger 45 = .ok (.iaload, 1) := by decide +kernel
theorem dX2_askYounger_46 : decode cX2_askYounger 46 = .ok (.ifCond .ne 6, 3) := by decide +kernel
theorem dX2_askYounger_49 : decode cX2_askYounger 49 = .ok (.iinc 3 1, 3) := by decide +kernel
theorem dX2_askYounger_52 : decode cX2_askYounger 52 = .ok (.iinc 4 1, 3) := by decide +kernel
theorem dX2_askYounger_55 : decode cX2_askYounger 55 = .ok (.goto (-48), 3) := by decide +kernel
theorem dX2_askYounger_58 : decode cX2_askYounger 58 = .ok (.iload_n 3, 1) := by decide +kernel
theorem dX2_askYounger_59 : decode cX2_askYounger 59 = .ok (.ireturn, 1) := by decide +kernel
theorem dX2_votesLacking_0 : decode cX2_votesLacking 0 = .ok (.iconst 0, 1) := by decide +kernel
theorem dX2_votesLacking_1 : decode cX2_votesLacking 1 = .ok (.istore_n 3, 1) := by decide +kernel
theorem dX2_votesLacking_2 : decode cX2_votesLacking 2 = .ok (.iload_n 0, 1) := by decide +kernel
theorem dX2_votesLacking_3 : decode cX2_votesLacking 3 = .ok (.iload_n 3, 1) := by decide +kernel
theorem dX2_votesLacking_4 : decode cX2_votesLacking 4 = .ok (.iadd, 1) := by decide +kernel
theorem dX2_votesLacking_5 : decode cX2_votesLacking 5 = .ok (.iload_n 1, 1) := by decide +kernel
theorem dX2_votesLacking_6 : decode cX2_votesLacking 6 = .ok (.if_icmp .ge 20, 3) := by decide +kernel
theorem dX2_votesLacking_9 : decode cX2_votesLacking 9 = .ok (.iload_n 2, 1) := by decide +kernel
theorem dX2_votesLacking_10 : decode cX2_votesLacking 10 = .ok (.iload_n 0, 1) := by decide +kernel
theorem dX2_votesLacking_11 : decode cX2_votesLacking 11 = .ok (.iload_n 3, 1) := by decide +kernel
theorem dX2_votesLacking_12 : decode cX2_votesLacking 12 = .ok (.iadd, 1) := by decide +kernel
theorem dX2_votesLacking_13 : decode cX2_votesLacking 13 = .ok (.iload_n 1, 1) := by decide +kernel
theorem dX2_votesLacking_14 : decode cX2_votesLacking 14 = .ok (.invokestatic 59, 3) := by decide +kernel
theorem dX2_votesLacking_17 : decode cX2_votesLacking 17 = .ok (.ifCond .ne 9, 3) := by decide +kernel
theorem dX2_votesLacking_20 : decode cX2_votesLacking 20 = .ok (.iinc 3 1, 3) := by decide +kernel
theorem dX2_votesLacking_23 : decode cX2_votesLacking 23 = .ok (.goto (-21), 3) := by decide +kernel
theorem dX2_votesLacking_26 : decode cX2_votesLacking 26 = .ok (.iload_n 3, 1) := by decide +kernel
theorem dX2_votesLacking_27 : decode cX2_votesLacking 27 = .ok (.ireturn, 1) := by decide +kernel
theorem dX2_buyYounger_0 : decode cX2_buyYounger 0 = .ok (.aload_n 0, 1) := by decide +kernel
theorem dX2_buyYounger_1 : decode cX2_buyYounger 1 = .ok (.getfield 18, 3) := by decide +kernel
theorem dX2_buyYounger_4 : decode cX2_buyYounger 4 = .ok (.iconst 0, 1) := by decide +kernel
theorem dX2_buyYounger_5 : decode cX2_buyYounger 5 = .ok (.invokestatic 63, 3) := by decide +kernel
theorem dX2_buyYounger_8 : decode cX2_buyYounger 8 = .ok (.iconst 0, 1) := by decide +kernel
theorem dX2_buyYounger_9 : decode cX2_buyYounger 9 = .ok (.istore 4, 2) := by decide +kernel
theorem dX2_buyYounger_11 : decode cX2_buyYounger 11 = .ok (.iload_n 2, 1) := by decide +kernel
theorem dX2_buyYounger_12 : decode cX2_buyYounger 12 = .ok (.istore 5, 2) := by decide +kernel
theorem dX2_buyYounger_14 : decode cX2_buyYounger 14 = .ok (.iconst 0, 1) := by decide +kernel
theorem dX2_buyYounger_15 : decode cX2_buyYounger 15 = .ok (.istore 6, 2) := by decide +kernel
theorem dX2_buyYounger_17 : decode cX2_buyYounger 17 = .ok (.iconst 0, 1) := by decide +kernel
theorem dX2_buyYounger_18 : decode cX2_buyYounger 18 = .ok (.istore 7, 2) := by decide +kernel
theorem dX2_buyYounger_20 : decode cX2_buyYounger 20 = .ok (.iload 7, 2) := by decide +kernel
theorem dX2_buyYounger_22 : decode cX2_buyYounger 22 = .ok (.aload_n 0, 1) := by decide +kernel
theorem dX2_buyYounger_23 : decode cX2_buyYounger 23 = .ok (.getfield 31, 3) := by decide +kernel
theorem dX2_buyYounger_26 : decode cX2_buyYounger 26 = .ok (.if_icmp .ge 61, 3) := by decide +kernel
theorem dX2_buyYounger_29 : decode cX2_buyYounger 29 = .ok (.iload 5, 2) := by decide +kernel
theorem dX2_buyYounger_31 : decode cX2_buyYounger 31 = .ok (.ifCond .le 56, 3) := by decide +kernel
theorem dX2_buyYounger_34 : decode cX2_buyYounger 34 = .ok (.iload 4, 2) := by decide +kernel
theorem dX2_buyYounger_36 : decode cX2_buyYounger 36 = .ok (.aload_n 0, 1) := by decide +kernel
theorem dX2_buyYounger_37 : decode cX2_buyYounger 37 = .ok (.getfield 35, 3) := by decide +kernel
theorem dX2_buyYounger_40 : decode cX2_buyYounger 40 = .ok (.if_icmp .gt 47, 3) := by decide +kernel
theorem dX2_buyYounger_43 : decode cX2_buyYounger 43 = .ok (.aload_n 0, 1) := by decide +kernel
theorem dX2_buyYounger_44 : decode cX2_buyYounger 44 = .ok (.iload_n 1, 1) := by decide +kernel
theorem dX2_buyYounger_45 : decode cX2_buyYounger 45 = .ok (.iload 6, 2) := by decide +kernel
theorem dX2_buyYounger_47 : decode cX2_buyYounger 47 = .ok (.invokevirtual 69, 3) := by decide +kernel
theorem dX2_buyYounger_50 : decode cX2_buyYounger 50 = .ok (.istore 6, 2) := by decide +kernel
theorem dX2_buyYounger_52 : decode cX2_buyYounger 52 = .ok (.aload_n 0, 1) := by decide +kernel
theorem dX2_buyYounger_53 : decode cX2_buyYounger 53 = .ok (.iload_n 1, 1) := by decide +kernel
theorem dX2_buyYounger_54 : decode cX2_buyYounger 54 = .ok (.iload 6, 2) := by decide +kernel
theorem dX2_buyYounger_56 : decode cX2_buyYounger 56 = .ok (.iload 5, 2) := by decide +kernel
theorem dX2_buyYounger_58 : decode cX2_buyYounger 58 = .ok (.iload_n 3, 1) := by decide +kernel
theorem dX2_buyYounger_59 : decode cX2_buyYounger 59 = .ok (.invokevirtual 72, 3) := by decide +kernel
theorem dX2_buyYounger_62 : decode cX2_buyYounger 62 = .ok (.istore 8, 2) := by decide +kernel
theorem dX2_buyYounger_64 : decode cX2_buyYounger 64 = .ok (.iload 4, 2) := by decide +kernel
theorem dX2_buyYounger_66 : decode cX2_buyYounger 66 = .ok (.iload 8, 2) := by decide +kernel
theorem dX2_buyYounger_68 : decode cX2_buyYounger 68 = .ok (.iload 6, 2) := by decide +kernel
theorem dX2_buyYounger_70 : decode cX2_buyYounger 70 = .ok (.imul, 1) := by decide +kernel
theorem dX2_buyYounger_71 : decode cX2_buyYounger 71 = .ok (.iadd, 1) := by decide +kernel
theorem dX2_buyYounger_72 : decode cX2_buyYounger 72 = .ok (.istore 4, 2) := by decide +kernel
theorem dX2_buyYounger_74 : decode cX2_buyYounger 74 = .ok (.iload 5, 2) := by decide +kernel
theorem dX2_buyYounger_76 : decode cX2_buyYounger 76 = .ok (.iload 8, 2) := by decide +kernel
theorem dX2_buyYounger_78 : decode cX2_buyYounger 78 = .ok (.isub, 1) := by decide +kernel
theorem dX2_buyYounger_79 : decode cX2_buyYounger 79 = .ok (.istore 5, 2) := by decide +kernel
theorem dX2_buyYounger_81 : decode cX2_buyYounger 81 = .ok (.iinc 7 1, 3) := by decide +kernel
theorem dX2_buyYounger_84 : decode cX2_buyYounger 84 = .ok (.goto (-64), 3) := by decide +kernel
theorem dX2_buyYounger_87 : decode cX2_buyYounger 87 = .ok (.iload 4, 2) := by decide +kernel
theorem dX2_buyYounger_89 : decode cX2_buyYounger 89 = .ok (.ireturn, 1) := by decide +kernel
theorem dX2_nextLevel_0 : decode cX2_nextLevel 0 = .ok (.sipush 1000, 3) := by decide +kernel
theorem dX2_nextLevel_3 : decode cX2_nextLevel 3 = .ok (.istore_n 3, 1) := by decide +kernel
theorem dX2_nextLevel_4 : decode cX2_nextLevel 4 = .ok (.iload_n 1, 1) := by decide +kernel
theorem dX2_nextLevel_5 : decode cX2_nextLevel 5 = .ok (.iconst 1, 1) := by decide +kernel
theorem dX2_nextLevel_6 : decode cX2_nextLevel 6 = .ok (.iadd, 1) := by decide +kernel
theorem dX2_nextLevel_7 : decode cX2_nextLevel 7 = .ok (.istore 4, 2) := by decide +kernel
theorem dX2_nextLevel_9 : decode cX2_nextLevel 9 = .ok (.iload 4, 2) := by decide +kernel
theorem dX2_nextLevel_11 : decode cX2_nextLevel 11 = .ok (.aload_n 0, 1) := by decide +kernel
theorem dX2_nextLevel_12 : decode cX2_nextLevel 12 = .ok (.getfield 31, 3) := by decide +kernel
theorem dX2_nextLevel_15 : decode cX2_nextLevel 15 = .ok (.if_icmp .ge 32, 3) := by decide +kernel
theorem dX2_nextLevel_18 : decode cX2_nextLevel 18 = .ok (.aload_n 0, 1) := by decide +kernel
theorem dX2_nextLevel_19 : decode cX2_nextLevel 19 = .ok (.getfield 15, 3) := by decide +kernel
theorem dX2_nextLevel_22 : decode cX2_nextLevel 22 = .ok (.iload 4, 2) := by decide +kernel
theorem dX2_nextLevel_24 : decode cX2_nextLevel 24 = .ok (.iaload, 1) := by decide +kernel
theorem dX2_nextLevel_25 : decode cX2_nextLevel 25 = .ok (.iload_n 2, 1) := by decide +kernel
theorem dX2_nextLevel_26 : decode cX2_nextLevel 26 = .ok (.if_icmp .le 15, 3) := by decide +kernel
theorem dX2_nextLevel_29 : decode cX2_nextLevel 29 = .ok (.iload_n 3, 1) := by decide +kernel
theorem dX2_nextLevel_30 : decode cX2_nextLevel 30 = .ok (.aload_n 0, 1) := by decide +kernel
theorem dX2_nextLevel_31 : decode cX2_nextLevel 31 = .ok (.getfield 15, 3) := by decide +kernel
theorem dX2_nextLevel_34 : decode cX2_nextLevel 34 = .ok (.iload 4, 2) := by decide +kernel
theorem dX2_nextLevel_36 : decode cX2_nextLevel 36 = .ok (.iaload, 1) := by decide +kernel
theorem dX2_nextLevel_37 : decode cX2_nextLevel 37 = .ok (.invokestatic 25, 3) := by decide +kernel
theorem dX2_nextLevel_40 : decode cX2_nextLevel 40 = .ok (.istore_n 3, 1) := by decide +kernel
theorem dX2_nextLevel_41 : decode cX2_nextLevel 41 = .ok (.iinc 4 1, 3) := by decide +kernel
theorem dX2_nextLevel_44 : decode cX2_nextLevel 44 = .ok (.goto (-35), 3) := by decide +kernel
theorem dX2_nextLevel_47 : decode cX2_nextLevel 47 = .ok (.iload_n 3, 1) := by decide +kernel
theorem dX2_nextLevel_48 : decode cX2_nextLevel 48 = .ok (.ireturn, 1) := by decide +kernel
theorem dX2_buyAtLevel_0 : decode cX2_buyAtLevel 0 = .ok (.iconst 0, 1) := by decide +kernel
theorem dX2_buyAtLevel_1 : decode cX2_buyAtLevel 1 = .ok (.istore 5, 2) := by decide +kernel
theorem dX2_buyAtLevel_3 : decode cX2_buyAtLevel 3 = .ok (.aload_n 0, 1) := by decide +kernel
theorem dX2_buyAtLevel_4 : decode cX2_buyAtLevel 4 = .ok (.getfield 31, 3) := by decide +kernel
theorem dX2_buyAtLevel_7 : decode cX2_buyAtLevel 7 = .ok (.iconst 1, 1) := by decide +kernel
theorem dX2_buyAtLevel_8 : decode cX2_buyAtLevel 8 = .ok (.isub, 1) := by decide +kernel
theorem dX2_buyAtLevel_9 : decode cX2_buyAtLevel 9 = .ok (.iload_n 1, 1) := by decide +kernel
theorem dX2_buyAtLevel_10 : decode cX2_buyAtLevel 10 = .ok (.isub, 1) := by decide +kernel
theorem dX2_buyAtLevel_11 : decode cX2_buyAtLevel 11 = .ok (.istore 6, 2) := by decide +kernel
theorem dX2_buyAtLevel_13 : decode cX2_buyAtLevel 13 = .ok (.iconst 0, 1) := by decide +kernel
theorem dX2_buyAtLevel_14 : decode cX2_buyAtLevel 14 = .ok (.istore 7, 2) := by decide +kernel
theorem dX2_buyAtLevel_16 : decode cX2_buyAtLevel 16 = .ok (.iload 7, 2) := by decide +kernel
theorem dX2_buyAtLevel_18 : decode cX2_buyAtLevel 18 = .ok (.iload 6, 2) := by decide +kernel
theorem dX2_buyAtLevel_20 : decode cX2_buyAtLevel 20 = .ok (.if_icmp .ge 62, 3) := by decide +kernel
theorem dX2_buyAtLevel_23 : decode cX2_buyAtLevel 23 = .ok (.iload 5, 2) := by decide +kernel
theorem dX2_buyAtLevel_25 : decode cX2_buyAtLevel 25 = .ok (.iload_n 3, 1) := by decide +kernel
theorem dX2_buyAtLevel_26 : decode cX2_buyAtLevel 26 = .ok (.if_icmp .ge 56, 3) := by decide +kernel
theorem dX2_buyAtLevel_29 : decode cX2_buyAtLevel 29 = .ok (.iload 4, 2) := by decide +kernel
theorem dX2_buyAtLevel_31 : decode cX2_buyAtLevel 31 = .ok (.ifCond .ne 12, 3) := by decide +kernel
theorem dX2_buyAtLevel_34 : decode cX2_buyAtLevel 34 = .ok (.iload_n 1, 1) := by decide +kernel
theorem dX2_buyAtLevel_35 : decode cX2_buyAtLevel 35 = .ok (.iconst 1, 1) := by decide +kernel
theorem dX2_buyAtLevel_36 : decode cX2_buyAtLevel 36 = .ok (.iadd, 1) := by decide +kernel
theorem dX2_buyAtLevel_37 : decode cX2_buyAtLevel 37 = .ok (.iload 7, 2) := by decide +kernel
theorem dX2_buyAtLevel_39 : decode cX2_buyAtLevel 39 = .ok (.iadd, 1) := by decide +kernel
theorem dX2_buyAtLevel_40 : decode cX2_buyAtLevel 40 = .ok (.goto 12, 3) := by decide +kernel
theorem dX2_buyAtLevel_43 : decode cX2_buyAtLevel 43 = .ok (.aload_n 0, 1) := by decide +kernel
theorem dX2_buyAtLevel_44 : decode cX2_buyAtLevel 44 = .ok (.getfield 31, 3) := by decide +kernel
theorem dX2_buyAtLevel_47 : decode cX2_buyAtLevel 47 = .ok (.iconst 1, 1) := by decide +kernel
theorem dX2_buyAtLevel_48 : decode cX2_buyAtLevel 48 = .ok (.isub, 1) := by decide +kernel
theorem dX2_buyAtLevel_49 : decode cX2_buyAtLevel 49 = .ok (.iload 7, 2) := by decide +kernel
theorem dX2_buyAtLevel_51 : decode cX2_buyAtLevel 51 = .ok (.isub, 1) := by decide +kernel
theorem dX2_buyAtLevel_52 : decode cX2_buyAtLevel 52 = .ok (.istore 8, 2) := by decide +kernel
theorem dX2_buyAtLevel_54 : decode cX2_buyAtLevel 54 = .ok (.aload_n 0, 1) := by decide +kernel
theorem dX2_buyAtLevel_55 : decode cX2_buyAtLevel 55 = .ok (.getfield 15, 3) := by decide +kernel
theorem dX2_buyAtLevel_58 : decode cX2_buyAtLevel 58 = .ok (.iload 8, 2) := by decide +kernel
theorem dX2_buyAtLevel_60 : decode cX2_buyAtLevel 60 = .ok (.iaload, 1) := by decide +kernel
theorem dX2_buyAtLevel_61 : decode cX2_buyAtLevel 61 = .ok (.iload_n 2, 1) := by decide +kernel
theorem dX2_buyAtLevel_62 : decode cX2_buyAtLevel 62 = .ok (.if_icmp .ne 14, 3) := by decide +kernel
theorem dX2_buyAtLevel_65 : decode cX2_buyAtLevel 65 = .ok (.aload_n 0, 1) := by decide +kernel
theorem dX2_buyAtLevel_66 : decode cX2_buyAtLevel 66 = .ok (.getfield 18, 3) := by decide +kernel
theorem dX2_buyAtLevel_69 : decode cX2_buyAtLevel 69 = .ok (.iload 8, 2) := by decide +kernel
theorem dX2_buyAtLevel_71 : decode cX2_buyAtLevel 71 = .ok (.iload_n 2, 1) := by decide +kernel
theorem dX2_buyAtLevel_72 : decode cX2_buyAtLevel 72 = .ok (.iastore, 1) := by decide +kernel
theorem dX2_buyAtLevel_73 : decode cX2_buyAtLevel 73 = .ok (.iinc 5 1, 3) := by decide +kernel
theorem dX2_buyAtLevel_76 : decode cX2_buyAtLevel 76 = .ok (.iinc 7 1, 3) := by decide +kernel
theorem dX2_buyAtLevel_79 : decode cX2_buyAtLevel 79 = .ok (.goto (-63), 3) := by decide +kernel
theorem dX2_buyAtLevel_82 : decode cX2_buyAtLevel 82 = .ok (.iload 5, 2) := by decide +kernel
theorem dX2_buyAtLevel_84 : decode cX2_buyAtLevel 84 = .ok (.ireturn, 1) := by decide +kernel
theorem dX3_init_0 : decode cX3_init 0 = .ok (.aload_n 0, 1) := by decide +kernel
theorem dX3_init_1 : decode cX3_init 1 = .ok (.invokespecial 1, 3) := by decide +kernel
theorem dX3_init_4 : decode cX3_init 4 = .ok (.return_, 1) := by decide +kernel
theorem dX3_ask_0 : decode cX3_ask 0 = .ok (.aload_n 0, 1) := by decide +kernel
theorem dX3_ask_1 : decode cX3_ask 1 = .ok (.iload_n 1, 1) := by decide +kernel
theorem dX3_ask_2 : decode cX3_ask 2 = .ok (.iload_n 2, 1) := by decide +kernel
theorem dX3_ask_3 : decode cX3_ask 3 = .ok (.iload_n 3, 1) := by decide +kernel
theorem dX3_ask_4 : decode cX3_ask 4 = .ok (.invokespecial 7, 3) := by decide +kernel
theorem dX3_ask_7 : decode cX3_ask 7 = .ok (.istore 4, 2) := by decide +kernel
theorem dX3_ask_9 : decode cX3_ask 9 = .ok (.iload_n 1, 1) := by decide +kernel
theorem dX3_ask_10 : decode cX3_ask 10 = .ok (.ifCond .lt 10, 3) := by decide +kernel
theorem dX3_ask_13 : decode cX3_ask 13 = .ok (.iload 4, 2) := by decide +kernel
theorem dX3_ask_15 : decode cX3_ask 15 = .ok (.iconst 1, 1) := by decide +kernel
theorem dX3_ask_16 : decode cX3_ask 16 = .ok (.iadd, 1) := by decide +kernel
theorem dX3_ask_17 : decode cX3_ask 17 = .ok (.goto 5, 3) := by decide +kernel
theorem dX3_ask_20 : decode cX3_ask 20 = .ok (.iload 4, 2) := by decide +kernel
theorem dX3_ask_22 : decode cX3_ask 22 = .ok (.ireturn, 1) := by decide +kernel
theorem dX4_init_0 : decode cX4_init 0 = .ok (.aload_n 0, 1) := by decide +kernel
theorem dX4_init_1 : decode cX4_init 1 = .ok (.invokespecial 3, 3) := by decide +kernel
theorem dX4_init_4 : decode cX4_init 4 = .ok (.aload_n 0, 1) := by decide +kernel
theorem dX4_init_5 : decode cX4_init 5 = .ok (.bipush 8, 2) := by decide +kernel
theorem dX4_init_7 : decode cX4_init 7 = .ok (.newarray .int, 2) := by decide +kernel
theorem dX4_init_9 : decode cX4_init 9 = .ok (.putfield 9, 3) := by decide +kernel
theorem dX4_init_12 : decode cX4_init 12 = .ok (.aload_n 0, 1) := by decide +kernel
theorem dX4_init_13 : decode cX4_init 13 = .ok (.bipush 8, 2) := by decide +kernel
theorem dX4_init_15 : decode cX4_init 15 = .ok (.newarray .int, 2) := by decide +kernel
theorem dX4_init_17 : decode cX4_init 17 = .ok (.putfield 15, 3) := by decide +kernel
theorem dX4_init_20 : decode cX4_init 20 = .ok (.aload_n 0, 1) := by decide +kernel
theorem dX4_init_21 : decode cX4_init 21 = .ok (.bipush 8, 2) := by decide +kernel
theorem dX4_init_23 : decode cX4_init 23 = .ok (.newarray .int, 2) := by decide +kernel
theorem dX4_init_25 : decode cX4_init 25 = .ok (.putfield 18, 3) := by decide +kernel
theorem dX4_init_28 : decode cX4_init 28 = .ok (.aload_n 0, 1) := by decide +kernel
theorem dX4_init_29 : decode cX4_init 29 = .ok (.bipush 8, 2) := by decide +kernel
theorem dX4_init_31 : decode cX4_init 31 = .ok (.newarray .int, 2) := by decide +kernel
theorem dX4_init_33 : decode cX4_init 33 = .ok (.putfield 21, 3) := by decide +kernel
theorem dX4_init_36 : decode cX4_init 36 = .ok (.aload_n 0, 1) := by decide +kernel
theorem dX4_init_37 : decode cX4_init 37 = .ok (.iconst 5, 1) := by decide +kernel
theorem dX4_init_38 : decode cX4_init 38 = .ok (.newarray .int, 2) := by decide +kernel
theorem dX4_init_40 : decode cX4_init 40 = .ok (.dup, 1) := by decide +kernel
theorem dX4_init_41 : decode cX4_init 41 = .ok (.iconst 0, 1) := by decide +kernel
theorem dX4_init_42 : decode cX4_init 42 = .ok (.bipush 10, 2) := by decide +kernel
theorem dX4_init_44 : decode cX4_init 44 = .ok (.iastore, 1) := by decide +kernel
theorem dX4_init_45 : decode cX4_init 45 = .ok (.dup, 1) := by decide +kernel
theorem dX4_init_46 : decode cX4_init 46 = .ok (.iconst 1, 1) := by decide +kernel
theorem dX4_init_47 : decode cX4_init 47 = .ok (.iconst 0, 1) := by decide +kernel
theorem dX4_init_48 : decode cX4_init 48 = .ok (.iastore, 1) := by decide +kernel
theorem dX4_init_49 : decode cX4_init 49 = .ok (.dup, 1) := by decide +kernel
theorem dX4_init_50 : decode cX4_init 50 = .ok (.iconst 2, 1) := by decide +kernel
theorem dX4_init_51 : decode cX4_init 51 = .ok (.iconst 0, 1) := by decide +kernel
theorem dX4_init_52 : decode cX4_init 52 = .ok (.iastore, 1) := by decide +kernel
theorem dX4_init_53 : decode cX4_init 53 = .ok (.dup, 1) := by decide +kernel
theorem dX4_init_54 : decode cX4_init 54 = .ok (.iconst 3, 1) := by decide +kernel
theorem dX4_init_55 : decode cX4_init 55 = .ok (.iconst 0, 1) := by decide +kernel
theorem dX4_init_56 : decode cX4_init 56 = .ok (.iastore, 1) := by decide +kernel
theorem dX4_init_57 : decode cX4_init 57 = .ok (.dup, 1) := by decide +kernel
theorem dX4_init_58 : decode cX4_init 58 = .ok (.iconst 4, 1) := by decide +kernel
theorem dX4_init_59 : decode cX4_init 59 = .ok (.bipush 10, 2) := by decide +kernel
theorem dX4_init_61 : decode cX4_init 61 = .ok (.iastore, 1) := by decide +kernel
theorem dX4_init_62 : decode cX4_init 62 = .ok (.putfield 24, 3) := by decide +kernel
theorem dX4_init_65 : decode cX4_init 65 = .ok (.return_, 1) := by decide +kernel
theorem dX4_copy_0 : decode cX4_copy 0 = .ok (.aload_n 1, 1) := by decide +kernel
theorem dX4_copy_1 : decode cX4_copy 1 = .ok (.getfield 9, 3) := by decide +kernel
theorem dX4_copy_4 : decode cX4_copy 4 = .ok (.iconst 0, 1) := by decide +kernel
theorem dX4_copy_5 : decode cX4_copy 5 = .ok (.aload_n 0, 1) := by decide +kernel
theorem dX4_copy_6 : decode cX4_copy 6 = .ok (.getfield 9, 3) := by decide +kernel
theorem dX4_copy_9 : decode cX4_copy 9 = .ok (.iconst 0, 1) := by decide +kernel
theorem dX4_copy_10 : decode cX4_copy 10 = .ok (.bipush 8, 2) := by decide +kernel
theorem dX4_copy_12 : decode cX4_copy 12 = .ok (.invokestatic 27, 3) := by decide +kernel
theorem dX4_copy_15 : decode cX4_copy 15 = .ok (.aload_n 1, 1) := by decide +kernel
theorem dX4_copy_16 : decode cX4_copy 16 = .ok (.getfield 15, 3) := by decide +kernel
theorem dX4_copy_19 : decode cX4_copy 19 = .ok (.iconst 0, 1) := by decide +kernel
theorem dX4_copy_20 : decode cX4_copy 20 = .ok (.aload_n 0, 1) := by decide +kernel
theorem dX4_copy_21 : decode cX4_copy 21 = .ok (.getfield 15, 3) := by decide +kernel
theorem dX4_copy_24 : decode cX4_copy 24 = .ok (.iconst 0, 1) := by decide +kernel
theorem dX4_copy_25 : decode cX4_copy 25 = .ok (.bipush 8, 2) := by decide +kernel
theorem dX4_copy_27 : decode cX4_copy 27 = .ok (.invokestatic 27, 3) := by decide +kernel
theorem dX4_copy_30 : decode cX4_copy 30 = .ok (.aload_n 1, 1) := by decide +kernel
theorem dX4_copy_31 : decode cX4_copy 31 = .ok (.getfield 18, 3) := by decide +kernel
theorem dX4_copy_34 : decode cX4_copy 34 = .ok (.iconst 0, 1) := by decide +kernel
theorem dX4_copy_35 : decode cX4_copy 35 = .ok (.aload_n 0, 1) := by decide +kernel
theorem dX4_copy_36 : decode cX4_copy 36 = .ok (.getfield 18, 3) := by decide +kernel
theorem dX4_copy_39 : decode cX4_copy 39 = .ok (.iconst 0, 1) := by decide +kernel
theorem dX4_copy_40 : decode cX4_copy 40 = .ok (.bipush 8, 2) := by decide +kernel
theorem dX4_copy_42 : decode cX4_copy 42 = .ok (.invokestatic 27, 3) := by decide +kernel
theorem dX4_copy_45 : decode cX4_copy 45 = .ok (.aload_n 1, 1) := by decide +kernel
theorem dX4_copy_46 : decode cX4_copy 46 = .ok (.getfield 21, 3) := by decide +kernel
theorem dX4_copy_49 : decode cX4_copy 49 = .ok (.iconst 0, 1) := by decide +kernel
theorem dX4_copy_50 : decode cX4_copy 50 = .ok (.aload_n 0, 1) := by decide +kernel
theorem dX4_copy_51 : decode cX4_copy 51 = .ok (.getfield 21, 3) := by decide +kernel
theorem dX4_copy_54 : decode cX4_copy 54 = .ok (.iconst 0, 1) := by decide +kernel
theorem dX4_copy_55 : decode cX4_copy 55 = .ok (.bipush 8, 2) := by decide +kernel
theorem dX4_copy_57 : decode cX4_copy 57 = .ok (.invokestatic 27, 3) := by decide +kernel
theorem dX4_copy_60 : decode cX4_copy 60 = .ok (.aload_n 1, 1) := by decide +kernel
theorem dX4_copy_61 : decode cX4_copy 61 = .ok (.getfield 24, 3) := by decide +kernel
theorem dX4_copy_64 : decode cX4_copy 64 = .ok (.iconst 0, 1) := by decide +kernel
theorem dX4_copy_65 : decode cX4_copy 65 = .ok (.aload_n 0, 1) := by decide +kernel
theorem dX4_copy_66 : decode cX4_copy 66 = .ok (.getfield 24, 3) := by decide +kernel
theorem dX4_copy_69 : decode cX4_copy 69 = .ok (.iconst 0, 1) := by decide +kernel
theorem dX4_copy_70 : decode cX4_copy 70 = .ok (.getstatic 33, 3) := by decide +kernel
theorem dX4_copy_73 : decode cX4_copy 73 = .ok (.arraylength, 1) := by decide +kernel
theorem dX4_copy_74 : decode cX4_copy 74 = .ok (.invokestatic 27, 3) := by decide +kernel
theorem dX4_copy_77 : decode cX4_copy 77 = .ok (.aload_n 0, 1) := by decide +kernel
theorem dX4_copy_78 : decode cX4_copy 78 = .ok (.aload_n 1, 1) := by decide +kernel
theorem dX4_copy_79 : decode cX4_copy 79 = .ok (.getfield 36, 3) := by decide +kernel
theorem dX4_copy_82 : decode cX4_copy 82 = .ok (.putfield 36, 3) := by decide +kernel
theorem dX4_copy_85 : decode cX4_copy 85 = .ok (.aload_n 0, 1) := by decide +kernel
theorem dX4_copy_86 : decode cX4_copy 86 = .ok (.aload_n 1, 1) := by decide +kernel
theorem dX4_copy_87 : decode cX4_copy 87 = .ok (.getfield 40, 3) := by decide +kernel
theorem dX4_copy_90 : decode cX4_copy 90 = .ok (.putfield 40, 3) := by decide +kernel
theorem dX4_copy_93 : decode cX4_copy 93 = .ok (.aload_n 0, 1) := by decide +kernel
theorem dX4_copy_94 : decode cX4_copy 94 = .ok (.aload_n 1, 1) := by decide +kernel
theorem dX4_copy_95 : decode cX4_copy 95 = .ok (.getfield 43, 3) := by decide +kernel
theorem dX4_copy_98 : decode cX4_copy 98 = .ok (.putfield 43, 3) := by decide +kernel
theorem dX4_copy_101 : decode cX4_copy 101 = .ok (.return_, 1) := by decide +kernel
theorem dX4_has_0 : decode cX4_has 0 = .ok (.iload_n 1, 1) := by decide +kernel
theorem dX4_has_1 : decode cX4_has 1 = .ok (.ifCond .lt 15, 3) := by decide +kernel
theorem dX4_has_4 : decode cX4_has 4 = .ok (.iload_n 1, 1) := by decide +kernel
theorem dX4_has_5 : decode cX4_has 5 = .ok (.aload_n 0, 1) := by decide +kernel
theorem dX4_has_6 : decode cX4_has 6 = .ok (.getfield 36, 3) := by decide +kernel
theorem dX4_has_9 : decode cX4_has 9 = .ok (.if_icmp .ge 7, 3) := by decide +kernel
theorem dX4_has_12 : decode cX4_has 12 = .ok (.iconst 1, 1) := by decide +kernel
theorem dX4_has_13 : decode cX4_has 13 = .ok (.goto 4, 3) := by decide +kernel
theorem dX4_has_16 : decode cX4_has 16 = .ok (.iconst 0, 1) := by decide +kernel
theorem dX4_has_17 : decode cX4_has 17 = .ok (.ireturn, 1) := by decide +kernel
theorem dX4_isOver_0 : decode cX4_isOver 0 = .ok (.aload_n 0, 1) := by decide +kernel
theorem dX4_isOver_1 : decode cX4_isOver 1 = .ok (.getfield 36, 3) := by decide +kernel
theorem dX4_isOver_4 : decode cX4_isOver 4 = .ok (.ifCond .eq 10, 3) := by decide +kernel
theorem dX4_isOver_7 : decode cX4_isOver 7 = .ok (.aload_n 0, 1) := by decide +kernel
theorem dX4_isOver_8 : decode cX4_isOver 8 = .ok (.getfield 43, 3) := by decide +kernel
theorem dX4_isOver_11 : decode cX4_isOver 11 = .ok (.ifCond .eq 7, 3) := by decide +kernel
theorem dX4_isOver_14 : decode cX4_isOver 14 = .ok (.iconst 1, 1) := by decide +kernel
theorem dX4_isOver_15 : decode cX4_isOver 15 = .ok (.goto 4, 3) := by decide +kernel
theorem dX4_isOver_18 : decode cX4_isOver 18 = .ok (.iconst 0, 1) := by decide +kernel
theorem dX4_isOver_19 : decode cX4_isOver 19 = .ok (.ireturn, 1) := by decide +kernel
theorem dX4_add_0 : decode cX4_add 0 = .ok (.aload_n 0, 1) := by decide +kernel
theorem dX4_add_1 : decode cX4_add 1 = .ok (.getfield 36, 3) := by decide +kernel
theorem dX4_add_4 : decode cX4_add 4 = .ok (.bipush 8, 2) := by decide +kernel
theorem dX4_add_6 : decode cX4_add 6 = .ok (.if_icmp .ge 43, 3) := by decide +kernel
theorem dX4_add_9 : decode cX4_add 9 = .ok (.aload_n 0, 1) := by decide +kernel
theorem dX4_add_10 : decode cX4_add 10 = .ok (.getfield 9, 3) := by decide +kernel
theorem dX4_add_13 : decode cX4_add 13 = .ok (.aload_n 0, 1) := by decide +kernel
theorem dX4_add_14 : decode cX4_add 14 = .ok (.getfield 36, 3) := by decide +kernel
theorem dX4_add_17 : decode cX4_add 17 = .ok (.iload_n 1, 1) := by decide +kernel
theorem dX4_add_18 : decode cX4_add 18 = .ok (.iastore, 1) := by decide +kernel
theorem dX4_add_19 : decode cX4_add 19 = .ok (.aload_n 0, 1) := by decide +kernel
theorem dX4_add_20 : decode cX4_add 20 = .ok (.getfield 15, 3) := by decide +kernel
theorem dX4_add_23 : decode cX4_add 23 = .ok (.aload_n 0, 1) := by decide +kernel
theorem dX4_add_24 : decode cX4_add 24 = .ok (.getfield 36, 3) := by decide +kernel
theorem dX4_add_27 : decode cX4_add 27 = .ok (.iload_n 2, 1) := by decide +kernel
theorem dX4_add_28 : decode cX4_add 28 = .ok (.iastore, 1) := by decide +kernel
theorem dX4_add_29 : decode cX4_add 29 = .ok (.aload_n 0, 1) := by decide +kernel
theorem dX4_add_30 : decode cX4_add 30 = .ok (.getfield 18, 3) := by decide +kernel
theorem dX4_add_33 : decode cX4_add 33 = .ok (.aload_n 0, 1) := by decide +kernel
theorem dX4_add_34 : decode cX4_add 34 = .ok (.getfield 36, 3) := by decide +kernel
theorem dX4_add_37 : decode cX4_add 37 = .ok (.iload_n 3, 1) := by decide +kernel
theorem dX4_add_38 : decode cX4_add 38 = .ok (.iastore, 1) := by decide +kernel
theorem dX4_add_39 : decode cX4_add 39 = .ok (.aload_n 0, 1) := by decide +kernel
theorem dX4_add_40 : decode cX4_add 40 = .ok (.dup, 1) := by decide +kernel
theorem dX4_add_41 : decode cX4_add 41 = .ok (.getfield 36, 3) := by decide +kernel
theorem dX4_add_44 : decode cX4_add 44 = .ok (.iconst 1, 1) := by decide +kernel
theorem dX4_add_45 : decode cX4_add 45 = .ok (.iadd, 1) := by decide +kernel
theorem dX4_add_46 : decode cX4_add 46 = .ok (.putfield 36, 3) := by decide +kernel
theorem dX4_add_49 : decode cX4_add 49 = .ok (.return_, 1) := by decide +kernel
theorem dX4_weightFrom_0 : decode cX4_weightFrom 0 = .ok (.iconst 0, 1) := by decide +kernel
theorem dX4_weightFrom_1 : decode cX4_weightFrom 1 = .ok (.istore_n 2, 1) := by decide +kernel
theorem dX4_weightFrom_2 : decode cX4_weightFrom 2 = .ok (.iconst 0, 1) := by decide +kernel
theorem dX4_weightFrom_3 : decode cX4_weightFrom 3 = .ok (.iload_n 1, 1) := by decide +kernel
theorem dX4_weightFrom_4 : decode cX4_weightFrom 4 = .ok (.invokestatic 47, 3) := by decide +kernel
theorem dX4_weightFrom_7 : decode cX4_weightFrom 7 = .ok (.istore_n 3, 1) := by decide +kernel
theorem dX4_weightFrom_8 : decode cX4_weightFrom 8 = .ok (.iload_n 3, 1) := by decide +kernel
theorem dX4_weightFrom_9 : decode cX4_weightFrom 9 = .ok (.aload_n 0, 1) := by decide +kernel
theorem dX4_weightFrom_10 : decode cX4_weightFrom 10 = .ok (.getfield 36, 3) := by decide +kernel
theorem dX4_weightFrom_13 : decode cX4_weightFrom 13 = .ok (.if_icmp .ge 18, 3) := by decide +kernel
theorem dX4_weightFrom_16 : decode cX4_weightFrom 16 = .ok (.iload_n 2, 1) := by decide +kernel
theorem dX4_weightFrom_17 : decode cX4_weightFrom 17 = .ok (.aload_n 0, 1) := by decide +kernel
theorem dX4_weightFrom_18 : decode cX4_weightFrom 18 = .ok (.getfield 18, 3) := by decide +kernel
theorem dX4_weightFrom_21 : decode cX4_weightFrom 21 = .ok (.iload_n 3, 1) := by decide +kernel
theorem dX4_weightFrom_22 : decode cX4_weightFrom 22 = .ok (.iaload, 1) := by decide +kernel
theorem dX4_weightFrom_23 : decode cX4_weightFrom 23 = .ok (.iadd, 1) := by decide +kernel
theorem dX4_weightFrom_24 : decode cX4_weightFrom 24 = .ok (.istore_n 2, 1) := by decide +kernel
theorem dX4_weightFrom_25 : decode cX4_weightFrom 25 = .ok (.iinc 3 1, 3) := by decide +kernel
theorem dX4_weightFrom_28 : decode cX4_weightFrom 28 = .ok (.goto (-20), 3) := by decide +kernel
theorem dX4_weightFrom_31 : decode cX4_weightFrom 31 = .ok (.iload_n 2, 1) := by decide +kernel
theorem dX4_weightFrom_32 : decode cX4_weightFrom 32 = .ok (.ireturn, 1) := by decide +kernel
theorem dX4_weightLeft_0 : decode cX4_weightLeft 0 = .ok (.aload_n 0, 1) := by decide +kernel
theorem dX4_weightLeft_1 : decode cX4_weightLeft 1 = .ok (.aload_n 0, 1) := by decide +kernel
theorem dX4_weightLeft_2 : decode cX4_weightLeft 2 = .ok (.getfield 40, 3) := by decide +kernel
theorem dX4_weightLeft_5 : decode cX4_weightLeft 5 = .ok (.invokevirtual 53, 3) := by decide +kernel
theorem dX4_weightLeft_8 : decode cX4_weightLeft 8 = .ok (.ifCond .eq 20, 3) := by decide +kernel
theorem dX4_weightLeft_11 : decode cX4_weightLeft 11 = .ok (.aload_n 0, 1) := by decide +kernel
theorem dX4_weightLeft_12 : decode cX4_weightLeft 12 = .ok (.getfield 21, 3) := by decide +kernel
theorem dX4_weightLeft_15 : decode cX4_weightLeft 15 = .ok (.aload_n 0, 1) := by decide +kernel
theorem dX4_weightLeft_16 : decode cX4_weightLeft 16 = .ok (.getfield 40, 3) := by decide +kernel
theorem dX4_weightLeft_19 : decode cX4_weightLeft 19 = .ok (.iaload, 1) := by decide +kernel
theorem dX4_weightLeft_20 : decode cX4_weightLeft 20 = .ok (.iconst (-1), 1) := by decide +kernel
theorem dX4_weightLeft_21 : decode cX4_weightLeft 21 = .ok (.if_icmp .ne 7, 3) := by decide +kernel
theorem dX4_weightLeft_24 : decode cX4_weightLeft 24 = .ok (.iconst 0, 1) := by decide +kernel
theorem dX4_weightLeft_25 : decode cX4_weightLeft 25 = .ok (.goto 11, 3) := by decide +kernel
theorem dX4_weightLeft_28 : decode cX4_weightLeft 28 = .ok (.aload_n 0, 1) := by decide +kernel
theorem dX4_weightLeft_29 : decode cX4_weightLeft 29 = .ok (.aload_n 0, 1) := by decide +kernel
theorem dX4_weightLeft_30 : decode cX4_weightLeft 30 = .ok (.getfield 40, 3) := by decide +kernel
theorem dX4_weightLeft_33 : decode cX4_weightLeft 33 = .ok (.invokevirtual 57, 3) := by decide +kernel
theorem dX4_weightLeft_36 : decode cX4_weightLeft 36 = .ok (.ireturn, 1) := by decide +kernel
theorem dX4_isCarried_0 : decode cX4_isCarried 0 = .ok (.iconst 0, 1) := by decide +kernel
theorem dX4_isCarried_1 : decode cX4_isCarried 1 = .ok (.istore_n 3, 1) := by decide +kernel
theorem dX4_isCarried_2 : decode cX4_isCarried 2 = .ok (.iconst 0, 1) := by decide +kernel
theorem dX4_isCarried_3 : decode cX4_isCarried 3 = .ok (.iload_n 1, 1) := by decide +kernel
theorem dX4_isCarried_4 : decode cX4_isCarried 4 = .ok (.invokestatic 47, 3) := by decide +kernel
theorem dX4_isCarried_7 : decode cX4_isCarried 7 = .ok (.istore 4, 2) := by decide +kernel
theorem dX4_isCarried_9 : decode cX4_isCarried 9 = .ok (.iload 4, 2) := by decide +kernel
theorem dX4_isCarried_11 : decode cX4_isCarried 11 = .ok (.aload_n 0, 1) := by decide +kernel
theorem dX4_isCarried_12 : decode cX4_isCarried 12 = .ok (.getfield 36, 3) := by decide +kernel
theorem dX4_isCarried_15 : decode cX4_isCarried 15 = .ok (.if_icmp .ge 29, 3) := by decide +kernel
theorem dX4_isCarried_18 : decode cX4_isCarried 18 = .ok (.iload_n 2, 1) := by decide +kernel
theorem dX4_isCarried_19 : decode cX4_isCarried 19 = .ok (.iload 4, 2) := by decide +kernel
theorem dX4_isCarried_21 : decode cX4_isCarried 21 = .ok (.ishr, 1) := by decide +kernel
theorem dX4_isCarried_22 : decode cX4_isCarried 22 = .ok (.iconst 1, 1) := by decide +kernel
theorem dX4_isCarried_23 : decode cX4_isCarried 23 = .ok (.iand, 1) := by decide +kernel
theorem dX4_isCarried_24 : decode cX4_isCarried 24 = .ok (.iconst 1, 1) := by decide +kernel
theorem dX4_isCarried_25 : decode cX4_isCarried 25 = .ok (.if_icmp .ne 13, 3) := by decide +kernel
theorem dX4_isCarried_28 : decode cX4_isCarried 28 = .ok (.iload_n 3, 1) := by decide +kernel
theorem dX4_isCarried_29 : decode cX4_isCarried 29 = .ok (.aload_n 0, 1) := by decide +kernel
theorem dX4_isCarried_30 : decode cX4_isCarried 30 = .ok (.getfield 18, 3) := by decide +kernel
theorem dX4_isCarried_33 : decode cX4_isCarried 33 = .ok (.iload 4, 2) := by decide +kernel
theorem dX4_isCarried_35 : decode cX4_isCarried 35 = .ok (.iaload, 1) := by decide +kernel
theorem dX4_isCarried_36 : decode cX4_isCarried 36 = .ok (.iadd, 1) := by decide +kernel
theorem dX4_isCarried_37 : decode cX4_isCarried 37 = .ok (.istore_n 3, 1) := by decide +kernel
theorem dX4_isCarried_38 : decode cX4_isCarried 38 = .ok (.iinc 4 1, 3) := by decide +kernel
theorem dX4_isCarried_41 : decode cX4_isCarried 41 = .ok (.goto (-32), 3) := by decide +kernel
theorem dX4_isCarried_44 : decode cX4_isCarried 44 = .ok (.aload_n 0, 1) := by decide +kernel
theorem dX4_isCarried_45 : decode cX4_isCarried 45 = .ok (.getfield 24, 3) := by decide +kernel
theorem dX4_isCarried_48 : decode cX4_isCarried 48 = .ok (.iconst 1, 1) := by decide +kernel
theorem dX4_isCarried_49 : decode cX4_isCarried 49 = .ok (.iaload, 1) := by decide +kernel
theorem dX4_isCarried_50 : decode cX4_isCarried 50 = .ok (.iload_n 3, 1) := by decide +kernel
theorem dX4_isCarried_51 : decode cX4_isCarried 51 = .ok (.aload_n 0, 1) := by decide +kernel
theorem dX4_isCarried_52 : decode cX4_isCarried 52 = .ok (.iload_n 1, 1) := by decide +kernel
theorem dX4_isCarried_53 : decode cX4_isCarried 53 = .ok (.invokevirtual 57, 3) := by decide +kernel
theorem dX4_isCarried_56 : decode cX4_isCarried 56 = .ok (.invokestatic 61, 3) := by decide +kernel
theorem dX4_isCarried_59 : decode cX4_isCarried 59 = .ok (.ireturn, 1) := by decide +kernel
theorem dX4_decide_0 : decode cX4_decide 0 = .ok (.aload_n 0, 1) := by decide +kernel
theorem dX4_decide_1 : decode cX4_decide 1 = .ok (.aload_n 0, 1) := by decide +kernel
theorem dX4_decide_2 : decode cX4_decide 2 = .ok (.getfield 40, 3) := by decide +kernel
theorem dX4_decide_5 : decode cX4_decide 5 = .ok (.iload_n 1, 1) := by decide +kernel
theorem dX4_decide_6 : decode cX4_decide 6 = .ok (.invokevirtual 65, 3) := by decide +kernel
theorem dX4_decide_9 : decode cX4_decide 9 = .ok (.istore 4, 2) := by decide +kernel
theorem dX4_decide_11 : decode cX4_decide 11 = .ok (.iload 4, 2) := by decide +kernel
theorem dX4_decide_13 : decode cX4_decide 13 = .ok (.ifCond .eq 12, 3) := by decide +kernel
theorem dX4_decide_16 : decode cX4_decide 16 = .ok (.aload_n 0, 1) := by decide +kernel
theorem dX4_decide_17 : decode cX4_decide 17 = .ok (.aload_n 2, 1) := by decide +kernel
theorem dX4_decide_18 : decode cX4_decide 18 = .ok (.iload_n 3, 1) := by decide +kernel
theorem dX4_decide_19 : decode cX4_decide 19 = .ok (.invokevirtual 69, 3) := by decide +kernel
theorem dX4_decide_22 : decode cX4_decide 22 = .ok (.goto 7, 3) := by decide +kernel
theorem dX4_decide_25 : decode cX4_decide 25 = .ok (.aload_n 0, 1) := by decide +kernel
theorem dX4_decide_26 : decode cX4_decide 26 = .ok (.invokevirtual 73, 3) := by decide +kernel
theorem dX4_decide_29 : decode cX4_decide 29 = .ok (.iload 4, 2) := by decide +kernel
theorem dX4_decide_31 : decode cX4_decide 31 = .ok (.ifCond .eq 7, 3) := by decide +kernel
theorem dX4_decide_34 : decode cX4_decide 34 = .ok (.iconst 1, 1) := by decide +kernel
theorem dX4_decide_35 : decode cX4_decide 35 = .ok (.goto 4, 3) := by decide +kernel
theorem dX4_decide_38 : decode cX4_decide 38 = .ok (.iconst 0, 1) := by decide +kernel
theorem dX4_decide_39 : decode cX4_decide 39 = .ok (.ireturn, 1) := by decide +kernel
theorem dX4_part_0 : decode cX4_part 0 = .ok (.aload_n 0, 1) := by decide +kernel
theorem dX4_part_1 : decode cX4_part 1 = .ok (.getfield 40, 3) := by decide +kernel
theorem dX4_part_4 : decode cX4_part 4 = .ok (.istore_n 3, 1) := by decide +kernel
theorem dX4_part_5 : decode cX4_part 5 = .ok (.iload_n 3, 1) := by decide +kernel
theorem dX4_part_6 : decode cX4_part 6 = .ok (.aload_n 0, 1) := by decide +kernel
theorem dX4_part_7 : decode cX4_part 7 = .ok (.getfield 36, 3) := by decide +kernel
theorem dX4_part_10 : decode cX4_part 10 = .ok (.if_icmp .ge 40, 3) := by decide +kernel
theorem dX4_part_13 : decode cX4_part 13 = .ok (.iload_n 3, 1) := by decide +kernel
theorem dX4_part_14 : decode cX4_part 14 = .ok (.iload_n 2, 1) := by decide +kernel
theorem dX4_part_15 : decode cX4_part 15 = .ok (.isub, 1) := by decide +kernel
theorem dX4_part_16 : decode cX4_part 16 = .ok (.istore 4, 2) := by decide +kernel
theorem dX4_part_18 : decode cX4_part 18 = .ok (.aload_n 0, 1) := by decide +kernel
theorem dX4_part_19 : decode cX4_part 19 = .ok (.getfield 21, 3) := by decide +kernel
theorem dX4_part_22 : decode cX4_part 22 = .ok (.iload_n 3, 1) := by decide +kernel
theorem dX4_part_23 : decode cX4_part 23 = .ok (.iload 4, 2) := by decide +kernel
theorem dX4_part_25 : decode cX4_part 25 = .ok (.ifCond .lt 17, 3) := by decide +kernel
theorem dX4_part_28 : decode cX4_part 28 = .ok (.iload 4, 2) := by decide +kernel
theorem dX4_part_30 : decode cX4_part 30 = .ok (.aload_n 1, 1) := by decide +kernel
theorem dX4_part_31 : decode cX4_part 31 = .ok (.arraylength, 1) := by decide +kernel
theorem dX4_part_32 : decode cX4_part 32 = .ok (.if_icmp .ge 10, 3) := by decide +kernel
theorem dX4_part_35 : decode cX4_part 35 = .ok (.aload_n 1, 1) := by decide +kernel
theorem dX4_part_36 : decode cX4_part 36 = .ok (.iload 4, 2) := by decide +kernel
theorem dX4_part_38 : decode cX4_part 38 = .ok (.iaload, 1) := by decide +kernel
theorem dX4_part_39 : decode cX4_part 39 = .ok (.goto 4, 3) := by decide +kernel
theorem dX4_part_42 : decode cX4_part 42 = .ok (.iconst 0, 1) := by decide +kernel
theorem dX4_part_43 : decode cX4_part 43 = .ok (.iastore, 1) := by decide +kernel
theorem dX4_part_44 : decode cX4_part 44 = .ok (.iinc 3 1, 3) := by decide +kernel
theorem dX4_part_47 : decode cX4_part 47 = .ok (.goto (-42), 3) := by decide +kernel
theorem dX4_part_50 : decode cX4_part 50 = .ok (.aload_n 0, 1) := by decide +kernel
theorem dX4_part_51 : decode cX4_part 51 = .ok (.iconst 1, 1) := by decide +kernel
theorem dX4_part_52 : decode cX4_part 52 = .ok (.putfield 43, 3) := by decide +kernel
theorem dX4_part_55 : decode cX4_part 55 = .ok (.return_, 1) := by decide +kernel
theorem dX4_putAshore_0 : decode cX4_putAshore 0 = .ok (.aload_n 0, 1) := by decide +kernel
theorem dX4_putAshore_1 : decode cX4_putAshore 1 = .ok (.getfield 21, 3) := by decide +kernel
theorem dX4_putAshore_4 : decode cX4_putAshore 4 = .ok (.aload_n 0, 1) := by decide +kernel
theorem dX4_putAshore_5 : decode cX4_putAshore 5 = .ok (.getfield 40, 3) := by decide +kernel
theorem dX4_putAshore_8 : decode cX4_putAshore 8 = .ok (.iconst (-1), 1) := by decide +kernel
theorem dX4_putAshore_9 : decode cX4_putAshore 9 = .ok (.iastore, 1) := by decide +kernel
theorem dX4_putAshore_10 : decode cX4_putAshore 10 = .ok (.aload_n 0, 1) := by decide +kernel
theorem dX4_putAshore_11 : decode cX4_putAshore 11 = .ok (.getfield 40, 3) := by decide +kernel
theorem dX4_putAshore_14 : decode cX4_putAshore 14 = .ok (.iconst 1, 1) := by decide +kernel
theorem dX4_putAshore_15 : decode cX4_putAshore 15 = .ok (.iadd, 1) := by decide +kernel
theorem dX4_putAshore_16 : decode cX4_putAshore 16 = .ok (.aload_n 0, 1) := by decide +kernel
theorem dX4_putAshore_17 : decode cX4_putAshore 17 = .ok (.getfield 36, 3) := by decide +kernel
theorem dX4_putAshore_20 : decode cX4_putAshore 20 = .ok (.if_icmp .ge 16, 3) := by decide +kernel
theorem dX4_putAshore_23 : decode cX4_putAshore 23 = .ok (.aload_n 0, 1) := by decide +kernel
theorem dX4_putAshore_24 : decode cX4_putAshore 24 = .ok (.dup, 1) := by decide +kernel
theorem dX4_putAshore_25 : decode cX4_putAshore 25 = .ok (.getfield 40, 3) := by decide +kernel
theorem dX4_putAshore_28 : decode cX4_putAshore 28 = .ok (.iconst 1, 1) := by decide +kernel
theorem dX4_putAshore_29 : decode cX4_putAshore 29 = .ok (.iadd, 1) := by decide +kernel
theorem dX4_putAshore_30 : decode cX4_putAshore 30 = .ok (.putfield 40, 3) := by decide +kernel
theorem dX4_putAshore_33 : decode cX4_putAshore 33 = .ok (.goto 8, 3) := by decide +kernel
theorem dX4_putAshore_36 : decode cX4_putAshore 36 = .ok (.aload_n 0, 1) := by decide +kernel
theorem dX4_putAshore_37 : decode cX4_putAshore 37 = .ok (.iconst 1, 1) := by decide +kernel
theorem dX4_putAshore_38 : decode cX4_putAshore 38 = .ok (.putfield 43, 3) := by decide +kernel
theorem dX4_putAshore_41 : decode cX4_putAshore 41 = .ok (.return_, 1) := by decide +kernel
theorem dX5_init_0 : decode cX5_init 0 = .ok (.aload_n 0, 1) := by decide +kernel
theorem dX5_init_1 : decode cX5_init 1 = .ok (.invokespecial 1, 3) := by decide +kernel
theorem dX5_init_4 : decode cX5_init 4 = .ok (.return_, 1) := by decide +kernel
theorem dX5_tell_0 : decode cX5_tell 0 = .ok (.aload_n 1, 1) := by decide +kernel
theorem dX5_tell_1 : decode cX5_tell 1 = .ok (.iload_n 2, 1) := by decide +kernel
theorem dX5_tell_2 : decode cX5_tell 2 = .ok (.invokevirtual 7, 3) := by decide +kernel
theorem dX5_tell_5 : decode cX5_tell 5 = .ok (.return_, 1) := by decide +kernel
theorem dX6_init_0 : decode cX6_init 0 = .ok (.aload_n 0, 1) := by decide +kernel
theorem dX6_init_1 : decode cX6_init 1 = .ok (.invokespecial 1, 3) := by decide +kernel
theorem dX6_init_4 : decode cX6_init 4 = .ok (.return_, 1) := by decide +kernel
theorem dX6_ask_0 : decode cX6_ask 0 = .ok (.iload_n 2, 1) := by decide +kernel
theorem dX6_ask_1 : decode cX6_ask 1 = .ok (.ireturn, 1) := by decide +kernel
theorem dX6_tell_0 : decode cX6_tell 0 = .ok (.aload_n 1, 1) := by decide +kernel
theorem dX6_tell_1 : decode cX6_tell 1 = .ok (.iload_n 2, 1) := by decide +kernel
theorem dX6_tell_2 : decode cX6_tell 2 = .ok (.aload_n 1, 1) := by decide +kernel
theorem dX6_tell_3 : decode cX6_tell 3 = .ok (.iload_n 2, 1) := by decide +kernel
theorem dX6_tell_4 : decode cX6_tell 4 = .ok (.invokevirtual 7, 3) := by decide +kernel
theorem dX6_tell_7 : decode cX6_tell 7 = .ok (.invokevirtual 13, 3) := by decide +kernel
theorem dX6_tell_10 : decode cX6_tell 10 = .ok (.return_, 1) := by decide +kernel
theorem dX7_init_0 : decode cX7_init 0 = .ok (.aload_n 0, 1) := by decide +kernel
theorem dX7_init_1 : decode cX7_init 1 = .ok (.invokespecial 3, 3) := by decide +kernel
theorem dX7_init_4 : decode cX7_init 4 = .ok (.aload_n 0, 1) := by decide +kernel
theorem dX7_init_5 : decode cX7_init 5 = .ok (.bipush 64, 2) := by decide +kernel
theorem dX7_init_7 : decode cX7_init 7 = .ok (.newarray .char, 2) := by decide +kernel
theorem dX7_init_9 : decode cX7_init 9 = .ok (.putfield 9, 3) := by decide +kernel
theorem dX7_init_12 : decode cX7_init 12 = .ok (.return_, 1) := by decide +kernel
theorem dX7_isFull_0 : decode cX7_isFull 0 = .ok (.aload_n 0, 1) := by decide +kernel
theorem dX7_isFull_1 : decode cX7_isFull 1 = .ok (.getfield 15, 3) := by decide +kernel
theorem dX7_isFull_4 : decode cX7_isFull 4 = .ok (.bipush 64, 2) := by decide +kernel
theorem dX7_isFull_6 : decode cX7_isFull 6 = .ok (.if_icmp .lt 7, 3) := by decide +kernel
theorem dX7_isFull_9 : decode cX7_isFull 9 = .ok (.iconst 1, 1) := by decide +kernel
theorem dX7_isFull_10 : decode cX7_isFull 10 = .ok (.goto 4, 3) := by decide +kernel
theorem dX7_isFull_13 : decode cX7_isFull 13 = .ok (.iconst 0, 1) := by decide +kernel
theorem dX7_isFull_14 : decode cX7_isFull 14 = .ok (.ireturn, 1) := by decide +kernel
theorem dX7_add_0 : decode cX7_add 0 = .ok (.aload_n 0, 1) := by decide +kernel
theorem dX7_add_1 : decode cX7_add 1 = .ok (.getfield 15, 3) := by decide +kernel
theorem dX7_add_4 : decode cX7_add 4 = .ok (.bipush 64, 2) := by decide +kernel
theorem dX7_add_6 : decode cX7_add 6 = .ok (.if_icmp .ge 23, 3) := by decide +kernel
theorem dX7_add_9 : decode cX7_add 9 = .ok (.aload_n 0, 1) := by decide +kernel
theorem dX7_add_10 : decode cX7_add 10 = .ok (.getfield 9, 3) := by decide +kernel
theorem dX7_add_13 : decode cX7_add 13 = .ok (.aload_n 0, 1) := by decide +kernel
theorem dX7_add_14 : decode cX7_add 14 = .ok (.getfield 15, 3) := by decide +kernel
theorem dX7_add_17 : decode cX7_add 17 = .ok (.iload_n 1, 1) := by decide +kernel
theorem dX7_add_18 : decode cX7_add 18 = .ok (.castore, 1) := by decide +kernel
theorem dX7_add_19 : decode cX7_add 19 = .ok (.aload_n 0, 1) := by decide +kernel
theorem dX7_add_20 : decode cX7_add 20 = .ok (.dup, 1) := by decide +kernel
theorem dX7_add_21 : decode cX7_add 21 = .ok (.getfield 15, 3) := by decide +kernel
theorem dX7_add_24 : decode cX7_add 24 = .ok (.iconst 1, 1) := by decide +kernel
theorem dX7_add_25 : decode cX7_add 25 = .ok (.iadd, 1) := by decide +kernel
theorem dX7_add_26 : decode cX7_add 26 = .ok (.putfield 15, 3) := by decide +kernel
theorem dX7_add_29 : decode cX7_add 29 = .ok (.aload_n 0, 1) := by decide +kernel
theorem dX7_add_30 : decode cX7_add 30 = .ok (.getfield 15, 3) := by decide +kernel
theorem dX7_add_33 : decode cX7_add 33 = .ok (.ireturn, 1) := by decide +kernel
theorem dX7_forget_0 : decode cX7_forget 0 = .ok (.aload_n 0, 1) := by decide +kernel
theorem dX7_forget_1 : decode cX7_forget 1 = .ok (.iconst 0, 1) := by decide +kernel
theorem dX7_forget_2 : decode cX7_forget 2 = .ok (.putfield 15, 3) := by decide +kernel
theorem dX7_forget_5 : decode cX7_forget 5 = .ok (.return_, 1) := by decide +kernel
theorem dX7_fault_0 : decode cX7_fault 0 = .ok (.aload_n 0, 1) := by decide +kernel
theorem dX7_fault_1 : decode cX7_fault 1 = .ok (.invokevirtual 19, 3) := by decide +kernel
theorem dX7_fault_4 : decode cX7_fault 4 = .ok (.istore_n 2, 1) := by decide +kernel
theorem dX7_fault_5 : decode cX7_fault 5 = .ok (.iload_n 2, 1) := by decide +kernel
theorem dX7_fault_6 : decode cX7_fault 6 = .ok (.ifCond .lt 9, 3) := by decide +kernel
theorem dX7_fault_9 : decode cX7_fault 9 = .ok (.sipush (-1000), 3) := by decide +kernel
theorem dX7_fault_12 : decode cX7_fault 12 = .ok (.iload_n 2, 1) := by decide +kernel
theorem dX7_fault_13 : decode cX7_fault 13 = .ok (.isub, 1) := by decide +kernel
theorem dX7_fault_14 : decode cX7_fault 14 = .ok (.ireturn, 1) := by decide +kernel
theorem dX7_fault_15 : decode cX7_fault 15 = .ok (.aload_n 0, 1) := by decide +kernel
theorem dX7_fault_16 : decode cX7_fault 16 = .ok (.aload_n 1, 1) := by decide +kernel
theorem dX7_fault_17 : decode cX7_fault 17 = .ok (.invokevirtual 23, 3) := by decide +kernel
theorem dX7_fault_20 : decode cX7_fault 20 = .ok (.istore_n 3, 1) := by decide +kernel
theorem dX7_fault_21 : decode cX7_fault 21 = .ok (.iload_n 3, 1) := by decide +kernel
theorem dX7_fault_22 : decode cX7_fault 22 = .ok (.ifCond .lt 11, 3) := by decide +kernel
theorem dX7_fault_25 : decode cX7_fault 25 = .ok (.sipush (-2000), 3) := by decide +kernel
theorem dX7_fault_28 : decode cX7_fault 28 = .ok (.iload_n 3, 1) := by decide +kernel
theorem dX7_fault_29 : decode cX7_fault 29 = .ok (.isub, 1) := by decide +kernel
theorem dX7_fault_30 : decode cX7_fault 30 = .ok (.goto 4, 3) := by decide +kernel
theorem dX7_fault_33 : decode cX7_fault 33 = .ok (.iconst 0, 1) := by decide +kernel
theorem dX7_fault_34 : decode cX7_fault 34 = .ok (.ireturn, 1) := by decide +kernel
theorem dX7_tell_0 : decode cX7_tell 0 = .ok (.iconst 0, 1) := by decide +kernel
theorem dX7_tell_1 : decode cX7_tell 1 = .ok (.istore_n 2, 1) := by decide +kernel
theorem dX7_tell_2 : decode cX7_tell 2 = .ok (.iconst 0, 1) := by decide +kernel
theorem dX7_tell_3 : decode cX7_tell 3 = .ok (.istore_n 3, 1) := by decide +kernel
theorem dX7_tell_4 : decode cX7_tell 4 = .ok (.iconst 0, 1) := by decide +kernel
theorem dX7_tell_5 : decode cX7_tell 5 = .ok (.istore 4, 2) := by decide +kernel
theorem dX7_tell_7 : decode cX7_tell 7 = .ok (.iload 4, 2) := by decide +kernel
theorem dX7_tell_9 : decode cX7_tell 9 = .ok (.aload_n 0, 1) := by decide +kernel
theorem dX7_tell_10 : decode cX7_tell 10 = .ok (.getfield 15, 3) := by decide +kernel
theorem dX7_tell_13 : decode cX7_tell 13 = .ok (.if_icmp .ge 37, 3) := by decide +kernel
theorem dX7_tell_16 : decode cX7_tell 16 = .ok (.aload_n 0, 1) := by decide +kernel
theorem dX7_tell_17 : decode cX7_tell 17 = .ok (.getfield 9, 3) := by decide +kernel
theorem dX7_tell_20 : decode cX7_tell 20 = .ok (.iload 4, 2) := by decide +kernel
theorem dX7_tell_22 : decode cX7_tell 22 = .ok (.caload, 1) := by decide +kernel
theorem dX7_tell_23 : decode cX7_tell 23 = .ok (.bipush 59, 2) := by decide +kernel
theorem dX7_tell_25 : decode cX7_tell 25 = .ok (.if_icmp .ne 19, 3) := by decide +kernel
theorem dX7_tell_28 : decode cX7_tell 28 = .ok (.aload_n 0, 1) := by decide +kernel
theorem dX7_tell_29 : decode cX7_tell 29 = .ok (.aload_n 1, 1) := by decide +kernel
theorem dX7_tell_30 : decode cX7_tell 30 = .ok (.iload_n 3, 1) := by decide +kernel
theorem dX7_tell_31 : decode cX7_tell 31 = .ok (.iload 4, 2) := by decide +kernel
theorem dX7_tell_33 : decode cX7_tell 33 = .ok (.invokevirtual 27, 3) := by decide +kernel
theorem dX7_tell_36 : decode cX7_tell 36 = .ok (.iinc 2 1, 3) := by decide +kernel
theorem dX7_tell_39 : decode cX7_tell 39 = .ok (.iload 4, 2) := by decide +kernel
theorem dX7_tell_41 : decode cX7_tell 41 = .ok (.iconst 1, 1) := by decide +kernel
theorem dX7_tell_42 : decode cX7_tell 42 = .ok (.iadd, 1) := by decide +kernel
theorem dX7_tell_43 : decode cX7_tell 43 = .ok (.istore_n 3, 1) := by decide +kernel
theorem dX7_tell_44 : decode cX7_tell 44 = .ok (.iinc 4 1, 3) := by decide +kernel
theorem dX7_tell_47 : decode cX7_tell 47 = .ok (.goto (-40), 3) := by decide +kernel
theorem dX7_tell_50 : decode cX7_tell 50 = .ok (.iload_n 2, 1) := by decide +kernel
theorem dX7_tell_51 : decode cX7_tell 51 = .ok (.ireturn, 1) := by decide +kernel
theorem dX7_brokenAt_0 : decode cX7_brokenAt 0 = .ok (.iconst 1, 1) := by decide +kernel
theorem dX7_brokenAt_1 : decode cX7_brokenAt 1 = .ok (.istore_n 1, 1) := by decide +kernel
theorem dX7_brokenAt_2 : decode cX7_brokenAt 2 = .ok (.iconst 0, 1) := by decide +kernel
theorem dX7_brokenAt_3 : decode cX7_brokenAt 3 = .ok (.istore_n 2, 1) := by decide +kernel
theorem dX7_brokenAt_4 : decode cX7_brokenAt 4 = .ok (.iconst 0, 1) := by decide +kernel
theorem dX7_brokenAt_5 : decode cX7_brokenAt 5 = .ok (.istore_n 3, 1) := by decide +kernel
theorem dX7_brokenAt_6 : decode cX7_brokenAt 6 = .ok (.iconst 0, 1) := by decide +kernel
theorem dX7_brokenAt_7 : decode cX7_brokenAt 7 = .ok (.istore 4, 2) := by decide +kernel
theorem dX7_brokenAt_9 : decode cX7_brokenAt 9 = .ok (.iload 4, 2) := by decide +kernel
theorem dX7_brokenAt_11 : decode cX7_brokenAt 11 = .ok (.aload_n 0, 1) := by decide +kernel
theorem dX7_brokenAt_12 : decode cX7_brokenAt 12 = .ok (.getfield 15, 3) := by decide +kernel
theorem dX7_brokenAt_15 : decode cX7_brokenAt 15 = .ok (.if_icmp .ge 105, 3) := by decide +kernel
theorem dX7_brokenAt_18 : decode cX7_brokenAt 18 = .ok (.aload_n 0, 1) := by decide +kernel
theorem dX7_brokenAt_19 : decode cX7_brokenAt 19 = .ok (.getfield 9, 3) := by decide +kernel
theorem dX7_brokenAt_22 : decode cX7_brokenAt 22 = .ok (.iload 4, 2) := by decide +kernel
theorem dX7_brokenAt_24 : decode cX7_brokenAt 24 = .ok (.caload, 1) := by decide +kernel
theorem dX7_brokenAt_25 : decode cX7_brokenAt 25 = .ok (.istore 5, 2) := by decide +kernel
theorem dX7_brokenAt_27 : decode cX7_brokenAt 27 = .ok (.iload_n 1, 1) := by decide +kernel
theorem dX7_brokenAt_28 : decode cX7_brokenAt 28 = .ok (.ifCond .eq 31, 3) := by decide +kernel
theorem dX7_brokenAt_31 : decode cX7_brokenAt 31 = .ok (.iload 5, 2) := by decide +kernel
theorem dX7_brokenAt_33 : decode cX7_brokenAt 33 = .ok (.invokestatic 31, 3) := by decide +kernel
theorem dX7_brokenAt_36 : decode cX7_brokenAt 36 = .ok (.istore_n 2, 1) := by decide +kernel
theorem dX7_brokenAt_37 : decode cX7_brokenAt 37 = .ok (.iload 5, 2) := by decide +kernel
theorem dX7_brokenAt_39 : decode cX7_brokenAt 39 = .ok (.bipush 99, 2) := by decide +kernel
theorem dX7_brokenAt_41 : decode cX7_brokenAt 41 = .ok (.if_icmp .ne 7, 3) := by decide +kernel
theorem dX7_brokenAt_44 : decode cX7_brokenAt 44 = .ok (.iconst 1, 1) := by decide +kernel
theorem dX7_brokenAt_45 : decode cX7_brokenAt 45 = .ok (.goto 4, 3) := by decide +kernel
theorem dX7_brokenAt_48 : decode cX7_brokenAt 48 = .ok (.iconst 0, 1) := by decide +kernel
theorem dX7_brokenAt_49 : decode cX7_brokenAt 49 = .ok (.istore_n 3, 1) := by decide +kernel
theorem dX7_brokenAt_50 : decode cX7_brokenAt 50 = .ok (.iconst 0, 1) := by decide +kernel
theorem dX7_brokenAt_51 : decode cX7_brokenAt 51 = .ok (.istore_n 1, 1) := by decide +kernel
theorem dX7_brokenAt_52 : decode cX7_brokenAt 52 = .ok (.iload_n 2, 1) := by decide +kernel
theorem dX7_brokenAt_53 : decode cX7_brokenAt 53 = .ok (.ifCond .ne 61, 3) := by decide +kernel
theorem dX7_brokenAt_56 : decode cX7_brokenAt 56 = .ok (.iload 4, 2) := by decide +kernel
theorem dX7_brokenAt_58 : decode cX7_brokenAt 58 = .ok (.ireturn, 1) := by decide +kernel
theorem dX7_brokenAt_59 : decode cX7_brokenAt 59 = .ok (.iload 5, 2) := by decide +kernel
theorem dX7_brokenAt_61 : decode cX7_brokenAt 61 = .ok (.invokestatic 35, 3) := by decide +kernel
theorem dX7_brokenAt_64 : decode cX7_brokenAt 64 = .ok (.ifCond .eq 13, 3) := by decide +kernel
theorem dX7_brokenAt_67 : decode cX7_brokenAt 67 = .ok (.iload_n 2, 1) := by decide +kernel
theorem dX7_brokenAt_68 : decode cX7_brokenAt 68 = .ok (.ifCond .le 9, 3) := by decide +kernel
theorem dX7_brokenAt_71 : decode cX7_brokenAt 71 = .ok (.iinc 2 (-1), 3) := by decide +kernel
theorem dX7_brokenAt_74 : decode cX7_brokenAt 74 = .ok (.goto 40, 3) := by decide +kernel
theorem dX7_brokenAt_77 : decode cX7_brokenAt 77 = .ok (.iload 5, 2) := by decide +kernel
theorem dX7_brokenAt_79 : decode cX7_brokenAt 79 = .ok (.invokestatic 35, 3) := by decide +kernel
theorem dX7_brokenAt_82 : decode cX7_brokenAt 82 = .ok (.ifCond .eq 13, 3) := by decide +kernel
theorem dX7_brokenAt_85 : decode cX7_brokenAt 85 = .ok (.iload_n 3, 1) := by decide +kernel
theorem dX7_brokenAt_86 : decode cX7_brokenAt 86 = .ok (.ifCond .le 9, 3) := by decide +kernel
theorem dX7_brokenAt_89 : decode cX7_brokenAt 89 = .ok (.iinc 3 (-1), 3) := by decide +kernel
theorem dX7_brokenAt_92 : decode cX7_brokenAt 92 = .ok (.goto 22, 3) := by decide +kernel
theorem dX7_brokenAt_95 : decode cX7_brokenAt 95 = .ok (.iload 5, 2) := by decide +kernel
theorem dX7_brokenAt_97 : decode cX7_brokenAt 97 = .ok (.bipush 59, 2) := by decide +kernel
theorem dX7_brokenAt_99 : decode cX7_brokenAt 99 = .ok (.if_icmp .ne 12, 3) := by decide +kernel
theorem dX7_brokenAt_102 : decode cX7_brokenAt 102 = .ok (.iload_n 2, 1) := by decide +kernel
theorem dX7_brokenAt_103 : decode cX7_brokenAt 103 = .ok (.ifCond .ne 8, 3) := by decide +kernel
theorem dX7_brokenAt_106 : decode cX7_brokenAt 106 = .ok (.iconst 1, 1) := by decide +kernel
theorem dX7_brokenAt_107 : decode cX7_brokenAt 107 = .ok (.istore_n 1, 1) := by decide +kernel
theorem dX7_brokenAt_108 : decode cX7_brokenAt 108 = .ok (.goto 6, 3) := by decide +kernel
theorem dX7_brokenAt_111 : decode cX7_brokenAt 111 = .ok (.iload 4, 2) := by decide +kernel
theorem dX7_brokenAt_113 : decode cX7_brokenAt 113 = .ok (.ireturn, 1) := by decide +kernel
theorem dX7_brokenAt_114 : decode cX7_brokenAt 114 = .ok (.iinc 4 1, 3) := by decide +kernel
theorem dX7_brokenAt_117 : decode cX7_brokenAt 117 = .ok (.goto (-108), 3) := by decide +kernel
theorem dX7_brokenAt_120 : decode cX7_brokenAt 120 = .ok (.aload_n 0, 1) := by decide +kernel
theorem dX7_brokenAt_121 : decode cX7_brokenAt 121 = .ok (.getfield 15, 3) := by decide +kernel
theorem dX7_brokenAt_124 : decode cX7_brokenAt 124 = .ok (.ifCond .le 12, 3) := by decide +kernel
theorem dX7_brokenAt_127 : decode cX7_brokenAt 127 = .ok (.iload_n 1, 1) := by decide +kernel
theorem dX7_brokenAt_128 : decode cX7_brokenAt 128 = .ok (.ifCond .eq 8, 3) := by decide +kernel
theorem dX7_brokenAt_131 : decode cX7_brokenAt 131 = .ok (.bipush (-9), 2) := by decide +kernel
theorem dX7_brokenAt_133 : decode cX7_brokenAt 133 = .ok (.goto 7, 3) := by decide +kernel
theorem dX7_brokenAt_136 : decode cX7_brokenAt 136 = .ok (.aload_n 0, 1) := by decide +kernel
theorem dX7_brokenAt_137 : decode cX7_brokenAt 137 = .ok (.getfield 15, 3) := by decide +kernel
theorem dX7_brokenAt_140 : decode cX7_brokenAt 140 = .ok (.ireturn, 1) := by decide +kernel
theorem dX7_digitsOf_0 : decode cX7_digitsOf 0 = .ok (.iload_n 0, 1) := by decide +kernel
theorem dX7_digitsOf_1 : decode cX7_digitsOf 1 = .ok (.bipush 109, 2) := by decide +kernel
theorem dX7_digitsOf_3 : decode cX7_digitsOf 3 = .ok (.if_icmp .eq 9, 3) := by decide +kernel
theorem dX7_digitsOf_6 : decode cX7_digitsOf 6 = .ok (.iload_n 0, 1) := by decide +kernel
theorem dX7_digitsOf_7 : decode cX7_digitsOf 7 = .ok (.bipush 108, 2) := by decide +kernel
theorem dX7_digitsOf_9 : decode cX7_digitsOf 9 = .ok (.if_icmp .ne 5, 3) := by decide +kernel
theorem dX7_digitsOf_12 : decode cX7_digitsOf 12 = .ok (.iconst 3, 1) := by decide +kernel
theorem dX7_digitsOf_13 : decode cX7_digitsOf 13 = .ok (.ireturn, 1) := by decide +kernel
theorem dX7_digitsOf_14 : decode cX7_digitsOf 14 = .ok (.iload_n 0, 1) := by decide +kernel
theorem dX7_digitsOf_15 : decode cX7_digitsOf 15 = .ok (.bipush 99, 2) := by decide +kernel
theorem dX7_digitsOf_17 : decode cX7_digitsOf 17 = .ok (.if_icmp .ne 7, 3) := by decide +kernel
theorem dX7_digitsOf_20 : decode cX7_digitsOf 20 = .ok (.iconst 1, 1) := by decide +kernel
theorem dX7_digitsOf_21 : decode cX7_digitsOf 21 = .ok (.goto 4, 3) := by decide +kernel
theorem dX7_digitsOf_24 : decode cX7_digitsOf 24 = .ok (.iconst 0, 1) := by decide +kernel
theorem dX7_digitsOf_25 : decode cX7_digitsOf 25 = .ok (.ireturn, 1) := by decide +kernel
theorem dX7_isDigit_0 : decode cX7_isDigit 0 = .ok (.iload_n 0, 1) := by decide +kernel
theorem dX7_isDigit_1 : decode cX7_isDigit 1 = .ok (.bipush 48, 2) := by decide +kernel
theorem dX7_isDigit_3 : decode cX7_isDigit 3 = .ok (.if_icmp .lt 13, 3) := by decide +kernel
theorem dX7_isDigit_6 : decode cX7_isDigit 6 = .ok (.iload_n 0, 1) := by decide +kernel
theorem dX7_isDigit_7 : decode cX7_isDigit 7 = .ok (.bipush 57, 2) := by decide +kernel
theorem dX7_isDigit_9 : decode cX7_isDigit 9 = .ok (.if_icmp .gt 7, 3) := by decide +kernel
theorem dX7_isDigit_12 : decode cX7_isDigit 12 = .ok (.iconst 1, 1) := by decide +kernel
theorem dX7_isDigit_13 : decode cX7_isDigit 13 = .ok (.goto 4, 3) := by decide +kernel
theorem dX7_isDigit_16 : decode cX7_isDigit 16 = .ok (.iconst 0, 1) := by decide +kernel
theorem dX7_isDigit_17 : decode cX7_isDigit 17 = .ok (.ireturn, 1) := by decide +kernel
theorem dX7_wrongAt_0 : decode cX7_wrongAt 0 = .ok (.aload_n 1, 1) := by decide +kernel
theorem dX7_wrongAt_1 : decode cX7_wrongAt 1 = .ok (.getfield 39, 3) := by decide +kernel
theorem dX7_wrongAt_4 : decode cX7_wrongAt 4 = .ok (.istore_n 2, 1) := by decide +kernel
theorem dX7_wrongAt_5 : decode cX7_wrongAt 5 = .ok (.iconst 0, 1) := by decide +kernel
theorem dX7_wrongAt_6 : decode cX7_wrongAt 6 = .ok (.istore_n 3, 1) := by decide +kernel
theorem dX7_wrongAt_7 : decode cX7_wrongAt 7 = .ok (.iconst 0, 1) := by decide +kernel
theorem dX7_wrongAt_8 : decode cX7_wrongAt 8 = .ok (.istore 4, 2) := by decide +kernel
theorem dX7_wrongAt_10 : decode cX7_wrongAt 10 = .ok (.iload 4, 2) := by decide +kernel
theorem dX7_wrongAt_12 : decode cX7_wrongAt 12 = .ok (.aload_n 0, 1) := by decide +kernel
theorem dX7_wrongAt_13 : decode cX7_wrongAt 13 = .ok (.getfield 15, 3) := by decide +kernel
theorem dX7_wrongAt_16 : decode cX7_wrongAt 16 = .ok (.if_icmp .ge 55, 3) := by decide +kernel
theorem dX7_wrongAt_19 : decode cX7_wrongAt 19 = .ok (.aload_n 0, 1) := by decide +kernel
theorem dX7_wrongAt_20 : decode cX7_wrongAt 20 = .ok (.getfield 9, 3) := by decide +kernel
theorem dX7_wrongAt_23 : decode cX7_wrongAt 23 = .ok (.iload 4, 2) := by decide +kernel
theorem dX7_wrongAt_25 : decode cX7_wrongAt 25 = .ok (.caload, 1) := by decide +kernel
theorem dX7_wrongAt_26 : decode cX7_wrongAt 26 = .ok (.bipush 59, 2) := by decide +kernel
theorem dX7_wrongAt_28 : decode cX7_wrongAt 28 = .ok (.if_icmp .ne 37, 3) := by decide +kernel
theorem dX7_wrongAt_31 : decode cX7_wrongAt 31 = .ok (.aload_n 0, 1) := by decide +kernel
theorem dX7_wrongAt_32 : decode cX7_wrongAt 32 = .ok (.getfield 9, 3) := by decide +kernel
theorem dX7_wrongAt_35 : decode cX7_wrongAt 35 = .ok (.iload_n 3, 1) := by decide +kernel
theorem dX7_wrongAt_36 : decode cX7_wrongAt 36 = .ok (.caload, 1) := by decide +kernel
theorem dX7_wrongAt_37 : decode cX7_wrongAt 37 = .ok (.bipush 109, 2) := by decide +kernel
theorem dX7_wrongAt_39 : decode cX7_wrongAt 39 = .ok (.if_icmp .ne 6, 3) := by decide +kernel
theorem dX7_wrongAt_42 : decode cX7_wrongAt 42 = .ok (.iinc 2 1, 3) := by decide +kernel
theorem dX7_wrongAt_45 : decode cX7_wrongAt 45 = .ok (.aload_n 0, 1) := by decide +kernel
theorem dX7_wrongAt_46 : decode cX7_wrongAt 46 = .ok (.iload_n 3, 1) := by decide +kernel
theorem dX7_wrongAt_47 : decode cX7_wrongAt 47 = .ok (.iload_n 2, 1) := by decide +kernel
theorem dX7_wrongAt_48 : decode cX7_wrongAt 48 = .ok (.aload_n 1, 1) := by decide +kernel
theorem dX7_wrongAt_49 : decode cX7_wrongAt 49 = .ok (.getfield 42, 3) := by decide +kernel
theorem dX7_wrongAt_52 : decode cX7_wrongAt 52 = .ok (.invokevirtual 46, 3) := by decide +kernel
theorem dX7_wrongAt_55 : decode cX7_wrongAt 55 = .ok (.ifCond .ne 5, 3) := by decide +kernel
theorem dX7_wrongAt_58 : decode cX7_wrongAt 58 = .ok (.iload_n 3, 1) := by decide +kernel
theorem dX7_wrongAt_59 : decode cX7_wrongAt 59 = .ok (.ireturn, 1) := by decide +kernel
theorem dX7_wrongAt_60 : decode cX7_wrongAt 60 = .ok (.iload 4, 2) := by decide +kernel
theorem dX7_wrongAt_62 : decode cX7_wrongAt 62 = .ok (.iconst 1, 1) := by decide +kernel
theorem dX7_wrongAt_63 : decode cX7_wrongAt 63 = .ok (.iadd, 1) := by decide +kernel
theorem dX7_wrongAt_64 : decode cX7_wrongAt 64 = .ok (.istore_n 3, 1) := by decide +kernel
theorem dX7_wrongAt_65 : decode cX7_wrongAt 65 = .ok (.iinc 4 1, 3) := by decide +kernel
theorem dX7_wrongAt_68 : decode cX7_wrongAt 68 = .ok (.goto (-58), 3) := by decide +kernel
theorem dX7_wrongAt_71 : decode cX7_wrongAt 71 = .ok (.bipush (-9), 2) := by decide +kernel
theorem dX7_wrongAt_73 : decode cX7_wrongAt 73 = .ok (.ireturn, 1) := by decide +kernel
theorem dX7_isRight_0 : decode cX7_isRight 0 = .ok (.aload_n 0, 1) := by decide +kernel
theorem dX7_isRight_1 : decode cX7_isRight 1 = .ok (.iload_n 1, 1) := by decide +kernel
theorem dX7_isRight_2 : decode cX7_isRight 2 = .ok (.iconst 1, 1) := by decide +kernel
theorem dX7_isRight_3 : decode cX7_isRight 3 = .ok (.iadd, 1) := by decide +kernel
theorem dX7_isRight_4 : decode cX7_isRight 4 = .ok (.invokevirtual 50, 3) := by decide +kernel
theorem dX7_isRight_7 : decode cX7_isRight 7 = .ok (.istore 4, 2) := by decide +kernel
theorem dX7_isRight_9 : decode cX7_isRight 9 = .ok (.aload_n 0, 1) := by decide +kernel
theorem dX7_isRight_10 : decode cX7_isRight 10 = .ok (.iload_n 1, 1) := by decide +kernel
theorem dX7_isRight_11 : decode cX7_isRight 11 = .ok (.iconst 2, 1) := by decide +kernel
theorem dX7_isRight_12 : decode cX7_isRight 12 = .ok (.iadd, 1) := by decide +kernel
theorem dX7_isRight_13 : decode cX7_isRight 13 = .ok (.invokevirtual 50, 3) := by decide +kernel
theorem dX7_isRight_16 : decode cX7_isRight 16 = .ok (.istore 5, 2) := by decide +kernel
theorem dX7_isRight_18 : decode cX7_isRight 18 = .ok (.aload_n 0, 1) := by decide +kernel
theorem dX7_isRight_19 : decode cX7_isRight 19 = .ok (.iload_n 1, 1) := by decide +kernel
theorem dX7_isRight_20 : decode cX7_isRight 20 = .ok (.iconst 3, 1) := by decide +kernel
theorem dX7_isRight_21 : decode cX7_isRight 21 = .ok (.iadd, 1) := by decide +kernel
theorem dX7_isRight_22 : decode cX7_isRight 22 = .ok (.invokevirtual 50, 3) := by decide +kernel
theorem dX7_isRight_25 : decode cX7_isRight 25 = .ok (.istore 6, 2) := by decide +kernel
theorem dX7_isRight_27 : decode cX7_isRight 27 = .ok (.aload_n 0, 1) := by decide +kernel
theorem dX7_isRight_28 : decode cX7_isRight 28 = .ok (.getfield 9, 3) := by decide +kernel
theorem dX7_isRight_31 : decode cX7_isRight 31 = .ok (.iload_n 1, 1) := by decide +kernel
theorem dX7_isRight_32 : decode cX7_isRight 32 = .ok (.caload, 1) := by decide +kernel
theorem dX7_isRight_33 : decode cX7_isRight 33 = .ok (.bipush 109, 2) := by decide +kernel
theorem dX7_isRight_35 : decode cX7_isRight 35 = .ok (.if_icmp .ne 32, 3) := by decide +kernel
theorem dX7_isRight_38 : decode cX7_isRight 38 = .ok (.iload 4, 2) := by decide +kernel
theorem dX7_isRight_40 : decode cX7_isRight 40 = .ok (.bipush 6, 2) := by decide +kernel
theorem dX7_isRight_42 : decode cX7_isRight 42 = .ok (.if_icmp .gt 23, 3) := by decide +kernel
theorem dX7_isRight_45 : decode cX7_isRight 45 = .ok (.iload 6, 2) := by decide +kernel
theorem dX7_isRight_47 : decode cX7_isRight 47 = .ok (.iconst 1, 1) := by decide +kernel
theorem dX7_isRight_48 : decode cX7_isRight 48 = .ok (.if_icmp .lt 17, 3) := by decide +kernel
theorem dX7_isRight_51 : decode cX7_isRight 51 = .ok (.iload_n 2, 1) := by decide +kernel
theorem dX7_isRight_52 : decode cX7_isRight 52 = .ok (.bipush 8, 2) := by decide +kernel
theorem dX7_isRight_54 : decode cX7_isRight 54 = .ok (.if_icmp .gt 11, 3) := by decide +kernel
theorem dX7_isRight_57 : decode cX7_isRight 57 = .ok (.iload_n 3, 1) := by decide +kernel
theorem dX7_isRight_58 : decode cX7_isRight 58 = .ok (.ifCond .ne 7, 3) := by decide +kernel
theorem dX7_isRight_61 : decode cX7_isRight 61 = .ok (.iconst 1, 1) := by decide +kernel
theorem dX7_isRight_62 : decode cX7_isRight 62 = .ok (.goto 4, 3) := by decide +kernel
theorem dX7_isRight_65 : decode cX7_isRight 65 = .ok (.iconst 0, 1) := by decide +kernel
theorem dX7_isRight_66 : decode cX7_isRight 66 = .ok (.ireturn, 1) := by decide +kernel
theorem dX7_isRight_67 : decode cX7_isRight 67 = .ok (.aload_n 0, 1) := by decide +kernel
theorem dX7_isRight_68 : decode cX7_isRight 68 = .ok (.getfield 9, 3) := by decide +kernel
theorem dX7_isRight_71 : decode cX7_isRight 71 = .ok (.iload_n 1, 1) := by decide +kernel
theorem dX7_isRight_72 : decode cX7_isRight 72 = .ok (.caload, 1) := by decide +kernel
theorem dX7_isRight_73 : decode cX7_isRight 73 = .ok (.bipush 108, 2) := by decide +kernel
theorem dX7_isRight_75 : decode cX7_isRight 75 = .ok (.if_icmp .ne 39, 3) := by decide +kernel
theorem dX7_isRight_78 : decode cX7_isRight 78 = .ok (.iload 4, 2) := by decide +kernel
theorem dX7_isRight_80 : decode cX7_isRight 80 = .ok (.getstatic 54, 3) := by decide +kernel
theorem dX7_isRight_83 : decode cX7_isRight 83 = .ok (.iconst 1, 1) := by decide +kernel
theorem dX7_isRight_84 : decode cX7_isRight 84 = .ok (.iaload, 1) := by decide +kernel
theorem dX7_isRight_85 : decode cX7_isRight 85 = .ok (.if_icmp .gt 27, 3) := by decide +kernel
theorem dX7_isRight_88 : decode cX7_isRight 88 = .ok (.iload 5, 2) := by decide +kernel
theorem dX7_isRight_90 : decode cX7_isRight 90 = .ok (.getstatic 54, 3) := by decide +kernel
theorem dX7_isRight_93 : decode cX7_isRight 93 = .ok (.iconst 2, 1) := by decide +kernel
theorem dX7_isRight_94 : decode cX7_isRight 94 = .ok (.iaload, 1) := by decide +kernel
theorem dX7_isRight_95 : decode cX7_isRight 95 = .ok (.if_icmp .gt 17, 3) := by decide +kernel
theorem dX7_isRight_98 : decode cX7_isRight 98 = .ok (.iload 6, 2) := by decide +kernel
theorem dX7_isRight_100 : decode cX7_isRight 100 = .ok (.getstatic 54, 3) := by decide +kernel
theorem dX7_isRight_103 : decode cX7_isRight 103 = .ok (.iconst 3, 1) := by decide +kernel
theorem dX7_isRight_104 : decode cX7_isRight 104 = .ok (.iaload, 1) := by decide +kernel
theorem dX7_isRight_105 : decode cX7_isRight 105 = .ok (.if_icmp .gt 7, 3) := by decide +kernel
theorem dX7_isRight_108 : decode cX7_isRight 108 = .ok (.iconst 1, 1) := by decide +kernel
theorem dX7_isRight_109 : decode cX7_isRight 109 = .ok (.goto 4, 3) := by decide +kernel
theorem dX7_isRight_112 : decode cX7_isRight 112 = .ok (.iconst 0, 1) := by decide +kernel
theorem dX7_isRight_113 : decode cX7_isRight 113 = .ok (.ireturn, 1) := by decide +kernel
theorem dX7_isRight_114 : decode cX7_isRight 114 = .ok (.iconst 1, 1) := by decide +kernel
theorem dX7_isRight_115 : decode cX7_isRight 115 = .ok (.ireturn, 1) := by decide +kernel
theorem dX7_tellOne_0 : decode cX7_tellOne 0 = .ok (.aload_n 0, 1) := by decide +kernel
theorem dX7_tellOne_1 : decode cX7_tellOne 1 = .ok (.iload_n 2, 1) := by decide +kernel
theorem dX7_tellOne_2 : decode cX7_tellOne 2 = .ok (.iconst 1, 1) := by decide +kernel
theorem dX7_tellOne_3 : decode cX7_tellOne 3 = .ok (.iadd, 1) := by decide +kernel
theorem dX7_tellOne_4 : decode cX7_tellOne 4 = .ok (.invokevirtual 50, 3) := by decide +kernel
theorem dX7_tellOne_7 : decode cX7_tellOne 7 = .ok (.istore 4, 2) := by decide +kernel
theorem dX7_tellOne_9 : decode cX7_tellOne 9 = .ok (.aload_n 0, 1) := by decide +kernel
theorem dX7_tellOne_10 : decode cX7_tellOne 10 = .ok (.iload_n 2, 1) := by decide +kernel
theorem dX7_tellOne_11 : decode cX7_tellOne 11 = .ok (.iconst 2, 1) := by decide +kernel
theorem dX7_tellOne_12 : decode cX7_tellOne 12 = .ok (.iadd, 1) := by decide +kernel
theorem dX7_tellOne_13 : decode cX7_tellOne 13 = .ok (.invokevirtual 50, 3) := by decide +kernel
theorem dX7_tellOne_16 : decode cX7_tellOne 16 = .ok (.istore 5, 2) := by decide +kernel
theorem dX7_tellOne_18 : decode cX7_tellOne 18 = .ok (.aload_n 0, 1) := by decide +kernel
theorem dX7_tellOne_19 : decode cX7_tellOne 19 = .ok (.iload_n 2, 1) := by decide +kernel
theorem dX7_tellOne_20 : decode cX7_tellOne 20 = .ok (.iconst 3, 1) := by decide +kernel
theorem dX7_tellOne_21 : decode cX7_tellOne 21 = .ok (.iadd, 1) := by decide +kernel
theorem dX7_tellOne_22 : decode cX7_tellOne 22 = .ok (.invokevirtual 50, 3) := by decide +kernel
theorem dX7_tellOne_25 : decode cX7_tellOne 25 = .ok (.istore 6, 2) := by decide +kernel
theorem dX7_tellOne_27 : decode cX7_tellOne 27 = .ok (.aload_n 0, 1) := by decide +kernel
theorem dX7_tellOne_28 : decode cX7_tellOne 28 = .ok (.getfield 9, 3) := by decide +kernel
theorem dX7_tellOne_31 : decode cX7_tellOne 31 = .ok (.iload_n 2, 1) := by decide +kernel
theorem dX7_tellOne_32 : decode cX7_tellOne 32 = .ok (.caload, 1) := by decide +kernel
theorem dX7_tellOne_33 : decode cX7_tellOne 33 = .ok (.bipush 109, 2) := by decide +kernel
theorem dX7_tellOne_35 : decode cX7_tellOne 35 = .ok (.if_icmp .ne 16, 3) := by decide +kernel
theorem dX7_tellOne_38 : decode cX7_tellOne 38 = .ok (.aload_n 1, 1) := by decide +kernel
theorem dX7_tellOne_39 : decode cX7_tellOne 39 = .ok (.iload 4, 2) := by decide +kernel
theorem dX7_tellOne_41 : decode cX7_tellOne 41 = .ok (.iload 5, 2) := by decide +kernel
theorem dX7_tellOne_43 : decode cX7_tellOne 43 = .ok (.iload 6, 2) := by decide +kernel
theorem dX7_tellOne_45 : decode cX7_tellOne 45 = .ok (.invokevirtual 58, 3) := by decide +kernel
theorem dX7_tellOne_48 : decode cX7_tellOne 48 = .ok (.goto 67, 3) := by decide +kernel
theorem dX7_tellOne_51 : decode cX7_tellOne 51 = .ok (.aload_n 0, 1) := by decide +kernel
theorem dX7_tellOne_52 : decode cX7_tellOne 52 = .ok (.getfield 9, 3) := by decide +kernel
theorem dX7_tellOne_55 : decode cX7_tellOne 55 = .ok (.iload_n 2, 1) := by decide +kernel
theorem dX7_tellOne_56 : decode cX7_tellOne 56 = .ok (.caload, 1) := by decide +kernel
theorem dX7_tellOne_57 : decode cX7_tellOne 57 = .ok (.bipush 108, 2) := by decide +kernel
theorem dX7_tellOne_59 : decode cX7_tellOne 59 = .ok (.if_icmp .ne 30, 3) := by decide +kernel
theorem dX7_tellOne_62 : decode cX7_tellOne 62 = .ok (.aload_n 1, 1) := by decide +kernel
theorem dX7_tellOne_63 : decode cX7_tellOne 63 = .ok (.getfield 62, 3) := by decide +kernel
theorem dX7_tellOne_66 : decode cX7_tellOne 66 = .ok (.iconst 1, 1) := by decide +kernel
theorem dX7_tellOne_67 : decode cX7_tellOne 67 = .ok (.iload 4, 2) := by decide +kernel
theorem dX7_tellOne_69 : decode cX7_tellOne 69 = .ok (.iastore, 1) := by decide +kernel
theorem dX7_tellOne_70 : decode cX7_tellOne 70 = .ok (.aload_n 1, 1) := by decide +kernel
theorem dX7_tellOne_71 : decode cX7_tellOne 71 = .ok (.getfield 62, 3) := by decide +kernel
theorem dX7_tellOne_74 : decode cX7_tellOne 74 = .ok (.iconst 2, 1) := by decide +kernel
theorem dX7_tellOne_75 : decode cX7_tellOne 75 = .ok (.iload 5, 2) := by decide +kernel
theorem dX7_tellOne_77 : decode cX7_tellOne 77 = .ok (.iastore, 1) := by decide +kernel
theorem dX7_tellOne_78 : decode cX7_tellOne 78 = .ok (.aload_n 1, 1) := by decide +kernel
theorem dX7_tellOne_79 : decode cX7_tellOne 79 = .ok (.getfield 62, 3) := by decide +kernel
theorem dX7_tellOne_82 : decode cX7_tellOne 82 = .ok (.iconst 3, 1) := by decide +kernel
theorem dX7_tellOne_83 : decode cX7_tellOne 83 = .ok (.iload 6, 2) := by decide +kernel
theorem dX7_tellOne_85 : decode cX7_tellOne 85 = .ok (.iastore, 1) := by decide +kernel
theorem dX7_tellOne_86 : decode cX7_tellOne 86 = .ok (.goto 29, 3) := by decide +kernel
theorem dX7_tellOne_89 : decode cX7_tellOne 89 = .ok (.aload_n 1, 1) := by decide +kernel
theorem dX7_tellOne_90 : decode cX7_tellOne 90 = .ok (.getfield 62, 3) := by decide +kernel
theorem dX7_tellOne_93 : decode cX7_tellOne 93 = .ok (.iconst 0, 1) := by decide +kernel
theorem dX7_tellOne_94 : decode cX7_tellOne 94 = .ok (.iload_n 3, 1) := by decide +kernel
theorem dX7_tellOne_95 : decode cX7_tellOne 95 = .ok (.iload_n 2, 1) := by decide +kernel
theorem dX7_tellOne_96 : decode cX7_tellOne 96 = .ok (.isub, 1) := by decide +kernel
theorem dX7_tellOne_97 : decode cX7_tellOne 97 = .ok (.iconst 3, 1) := by decide +kernel
theorem dX7_tellOne_98 : decode cX7_tellOne 98 = .ok (.if_icmp .ne 14, 3) := by decide +kernel
theorem dX7_tellOne_101 : decode cX7_tellOne 101 = .ok (.iload 4, 2) := by decide +kernel
theorem dX7_tellOne_103 : decode cX7_tellOne 103 = .ok (.bipush 10, 2) := by decide +kernel
theorem dX7_tellOne_105 : decode cX7_tellOne 105 = .ok (.imul, 1) := by decide +kernel
theorem dX7_tellOne_106 : decode cX7_tellOne 106 = .ok (.iload 5, 2) := by decide +kernel
theorem dX7_tellOne_108 : decode cX7_tellOne 108 = .ok (.iadd, 1) := by decide +kernel
theorem dX7_tellOne_109 : decode cX7_tellOne 109 = .ok (.goto 5, 3) := by decide +kernel
theorem dX7_tellOne_112 : decode cX7_tellOne 112 = .ok (.iload 4, 2) := by decide +kernel
theorem dX7_tellOne_114 : decode cX7_tellOne 114 = .ok (.iastore, 1) := by decide +kernel
theorem dX7_tellOne_115 : decode cX7_tellOne 115 = .ok (.return_, 1) := by decide +kernel
theorem dX7_digit_0 : decode cX7_digit 0 = .ok (.iload_n 1, 1) := by decide +kernel
theorem dX7_digit_1 : decode cX7_digit 1 = .ok (.ifCond .lt 23, 3) := by decide +kernel
theorem dX7_digit_4 : decode cX7_digit 4 = .ok (.iload_n 1, 1) := by decide +kernel
theorem dX7_digit_5 : decode cX7_digit 5 = .ok (.aload_n 0, 1) := by decide +kernel
theorem dX7_digit_6 : decode cX7_digit 6 = .ok (.getfield 15, 3) := by decide +kernel
theorem dX7_digit_9 : decode cX7_digit 9 = .ok (.if_icmp .ge 15, 3) := by decide +kernel
theorem dX7_digit_12 : decode cX7_digit 12 = .ok (.aload_n 0, 1) := by decide +kernel
theorem dX7_digit_13 : decode cX7_digit 13 = .ok (.getfield 9, 3) := by decide +kernel
theorem dX7_digit_16 : decode cX7_digit 16 = .ok (.iload_n 1, 1) := by decide +kernel
theorem dX7_digit_17 : decode cX7_digit 17 = .ok (.caload, 1) := by decide +kernel
theorem dX7_digit_18 : decode cX7_digit 18 = .ok (.bipush 48, 2) := by decide +kernel
theorem dX7_digit_20 : decode cX7_digit 20 = .ok (.isub, 1) := by decide +kernel
theorem dX7_digit_21 : decode cX7_digit 21 = .ok (.goto 4, 3) := by decide +kernel
theorem dX7_digit_24 : decode cX7_digit 24 = .ok (.iconst 0, 1) := by decide +kernel
theorem dX7_digit_25 : decode cX7_digit 25 = .ok (.ireturn, 1) := by decide +kernel
theorem dX8_init_0 : decode cX8_init 0 = .ok (.aload_n 0, 1) := by decide +kernel
theorem dX8_init_1 : decode cX8_init 1 = .ok (.invokespecial 1, 3) := by decide +kernel
theorem dX8_init_4 : decode cX8_init 4 = .ok (.return_, 1) := by decide +kernel
theorem dX8_ask_0 : decode cX8_ask 0 = .ok (.aload_n 0, 1) := by decide +kernel
theorem dX8_ask_1 : decode cX8_ask 1 = .ok (.iload_n 1, 1) := by decide +kernel
theorem dX8_ask_2 : decode cX8_ask 2 = .ok (.iload_n 2, 1) := by decide +kernel
theorem dX8_ask_3 : decode cX8_ask 3 = .ok (.iload_n 3, 1) := by decide +kernel
theorem dX8_ask_4 : decode cX8_ask 4 = .ok (.invokespecial 7, 3) := by decide +kernel
theorem dX8_ask_7 : decode cX8_ask 7 = .ok (.iconst 2, 1) := by decide +kernel
theorem dX8_ask_8 : decode cX8_ask 8 = .ok (.idiv, 1) := by decide +kernel
theorem dX8_ask_9 : decode cX8_ask 9 = .ok (.ireturn, 1) := by decide +kernel
theorem dX8_tell_0 : decode cX8_tell 0 = .ok (.aload_n 1, 1) := by decide +kernel
theorem dX8_tell_1 : decode cX8_tell 1 = .ok (.iload_n 2, 1) := by decide +kernel
theorem dX8_tell_2 : decode cX8_tell 2 = .ok (.aload_n 1, 1) := by decide +kernel
theorem dX8_tell_3 : decode cX8_tell 3 = .ok (.iload_n 2, 1) := by decide +kernel
theorem dX8_tell_4 : decode cX8_tell 4 = .ok (.invokevirtual 11, 3) := by decide +kernel
theorem dX8_tell_7 : decode cX8_tell 7 = .ok (.invokevirtual 17, 3) := by decide +kernel
theorem dX8_tell_10 : decode cX8_tell 10 = .ok (.return_, 1) := by decide +kernel
theorem dX10_init_0 : decode cX10_init 0 = .ok (.aload_n 0, 1) := by decide +kernel
theorem dX10_init_1 : decode cX10_init 1 = .ok (.invokespecial 1, 3) := by decide +kernel
theorem dX10_init_4 : decode cX10_init 4 = .ok (.return_, 1) := by decide +kernel
theorem dX10_ask_0 : decode cX10_ask 0 = .ok (.aload_n 0, 1) := by decide +kernel
theorem dX10_ask_1 : decode cX10_ask 1 = .ok (.iload_n 1, 1) := by decide +kernel
theorem dX10_ask_2 : decode cX10_ask 2 = .ok (.iload_n 2, 1) := by decide +kernel
theorem dX10_ask_3 : decode cX10_ask 3 = .ok (.iload_n 3, 1) := by decide +kernel
theorem dX10_ask_4 : decode cX10_ask 4 = .ok (.invokespecial 7, 3) := by decide +kernel
theorem dX10_ask_7 : decode cX10_ask 7 = .ok (.iload_n 2, 1) := by decide +kernel
theorem dX10_ask_8 : decode cX10_ask 8 = .ok (.iadd, 1) := by decide +kernel
theorem dX10_ask_9 : decode cX10_ask 9 = .ok (.ireturn, 1) := by decide +kernel
theorem dJ6_bitCount_0f7a4_0 : decode cJ6_bitCount_0f7a4 0 = .ok (.iload_n 0, 1) := by decide +kernel
theorem dJ6_bitCount_0f7a4_1 : decode cJ6_bitCount_0f7a4 1 = .ok (.iload_n 0, 1) := by decide +kernel
theorem dJ6_bitCount_0f7a4_2 : decode cJ6_bitCount_0f7a4 2 = .ok (.iconst 1, 1) := by decide +kernel
theorem dJ6_bitCount_0f7a4_3 : decode cJ6_bitCount_0f7a4 3 = .ok (.iushr, 1) := by decide +kernel
theorem dJ6_bitCount_0f7a4_4 : decode cJ6_bitCount_0f7a4 4 = .ok (.ldc_w 265, 3) := by decide +kernel
theorem dJ6_bitCount_0f7a4_7 : decode cJ6_bitCount_0f7a4 7 = .ok (.iand, 1) := by decide +kernel
theorem dJ6_bitCount_0f7a4_8 : decode cJ6_bitCount_0f7a4 8 = .ok (.isub, 1) := by decide +kernel
theorem dJ6_bitCount_0f7a4_9 : decode cJ6_bitCount_0f7a4 9 = .ok (.istore_n 0, 1) := by decide +kernel
theorem dJ6_bitCount_0f7a4_10 : decode cJ6_bitCount_0f7a4 10 = .ok (.iload_n 0, 1) := by decide +kernel
theorem dJ6_bitCount_0f7a4_11 : decode cJ6_bitCount_0f7a4 11 = .ok (.ldc_w 266, 3) := by decide +kernel
theorem dJ6_bitCount_0f7a4_14 : decode cJ6_bitCount_0f7a4 14 = .ok (.iand, 1) := by decide +kernel
theorem dJ6_bitCount_0f7a4_15 : decode cJ6_bitCount_0f7a4 15 = .ok (.iload_n 0, 1) := by decide +kernel
theorem dJ6_bitCount_0f7a4_16 : decode cJ6_bitCount_0f7a4 16 = .ok (.iconst 2, 1) := by decide +kernel
theorem dJ6_bitCount_0f7a4_17 : decode cJ6_bitCount_0f7a4 17 = .ok (.iushr, 1) := by decide +kernel
theorem dJ6_bitCount_0f7a4_18 : decode cJ6_bitCount_0f7a4 18 = .ok (.ldc_w 266, 3) := by decide +kernel
theorem dJ6_bitCount_0f7a4_21 : decode cJ6_bitCount_0f7a4 21 = .ok (.iand, 1) := by decide +kernel
theorem dJ6_bitCount_0f7a4_22 : decode cJ6_bitCount_0f7a4 22 = .ok (.iadd, 1) := by decide +kernel
theorem dJ6_bitCount_0f7a4_23 : decode cJ6_bitCount_0f7a4 23 = .ok (.istore_n 0, 1) := by decide +kernel
theorem dJ6_bitCount_0f7a4_24 : decode cJ6_bitCount_0f7a4 24 = .ok (.iload_n 0, 1) := by decide +kernel
theorem dJ6_bitCount_0f7a4_25 : decode cJ6_bitCount_0f7a4 25 = .ok (.iload_n 0, 1) := by decide +kernel
theorem dJ6_bitCount_0f7a4_26 : decode cJ6_bitCount_0f7a4 26 = .ok (.iconst 4, 1) := by decide +kernel
theorem dJ6_bitCount_0f7a4_27 : decode cJ6_bitCount_0f7a4 27 = .ok (.iushr, 1) := by decide +kernel
theorem dJ6_bitCount_0f7a4_28 : decode cJ6_bitCount_0f7a4 28 = .ok (.iadd, 1) := by decide +kernel
theorem dJ6_bitCount_0f7a4_29 : decode cJ6_bitCount_0f7a4 29 = .ok (.ldc_w 267, 3) := by decide +kernel
theorem dJ6_bitCount_0f7a4_32 : decode cJ6_bitCount_0f7a4 32 = .ok (.iand, 1) := by decide +kernel
theorem dJ6_bitCount_0f7a4_33 : decode cJ6_bitCount_0f7a4 33 = .ok (.istore_n 0, 1) := by decide +kernel
theorem dJ6_bitCount_0f7a4_34 : decode cJ6_bitCount_0f7a4 34 = .ok (.iload_n 0, 1) := by decide +kernel
theorem dJ6_bitCount_0f7a4_35 : decode cJ6_bitCount_0f7a4 35 = .ok (.iload_n 0, 1) := by decide +kernel
theorem dJ6_bitCount_0f7a4_36 : decode cJ6_bitCount_0f7a4 36 = .ok (.bipush 8, 2) := by decide +kernel
theorem dJ6_bitCount_0f7a4_38 : decode cJ6_bitCount_0f7a4 38 = .ok (.iushr, 1) := by decide +kernel
theorem dJ6_bitCount_0f7a4_39 : decode cJ6_bitCount_0f7a4 39 = .ok (.iadd, 1) := by decide +kernel
theorem dJ6_bitCount_0f7a4_40 : decode cJ6_bitCount_0f7a4 40 = .ok (.istore_n 0, 1) := by decide +kernel
theorem dJ6_bitCount_0f7a4_41 : decode cJ6_bitCount_0f7a4 41 = .ok (.iload_n 0, 1) := by decide +kernel
theorem dJ6_bitCount_0f7a4_42 : decode cJ6_bitCount_0f7a4 42 = .ok (.iload_n 0, 1) := by decide +kernel
theorem dJ6_bitCount_0f7a4_43 : decode cJ6_bitCount_0f7a4 43 = .ok (.bipush 16, 2) := by decide +kernel
theorem dJ6_bitCount_0f7a4_45 : decode cJ6_bitCount_0f7a4 45 = .ok (.iushr, 1) := by decide +kernel
theorem dJ6_bitCount_0f7a4_46 : decode cJ6_bitCount_0f7a4 46 = .ok (.iadd, 1) := by decide +kernel
theorem dJ6_bitCount_0f7a4_47 : decode cJ6_bitCount_0f7a4 47 = .ok (.istore_n 0, 1) := by decide +kernel
theorem dJ6_bitCount_0f7a4_48 : decode cJ6_bitCount_0f7a4 48 = .ok (.iload_n 0, 1) := by decide +kernel
theorem dJ6_bitCount_0f7a4_49 : decode cJ6_bitCount_0f7a4 49 = .ok (.bipush 63, 2) := by decide +kernel
theorem dJ6_bitCount_0f7a4_51 : decode cJ6_bitCount_0f7a4 51 = .ok (.iand, 1) := by decide +kernel
theorem dJ6_bitCount_0f7a4_52 : decode cJ6_bitCount_0f7a4 52 = .ok (.ireturn, 1) := by decide +kernel
theorem dJ9_max_7cf53_0 : decode cJ9_max_7cf53 0 = .ok (.iload_n 0, 1) := by decide +kernel
theorem dJ9_max_7cf53_1 : decode cJ9_max_7cf53 1 = .ok (.iload_n 1, 1) := by decide +kernel
theorem dJ9_max_7cf53_2 : decode cJ9_max_7cf53 2 = .ok (.if_icmp .lt 7, 3) := by decide +kernel
theorem dJ9_max_7cf53_5 : decode cJ9_max_7cf53 5 = .ok (.iload_n 0, 1) := by decide +kernel
theorem dJ9_max_7cf53_6 : decode cJ9_max_7cf53 6 = .ok (.goto 4, 3) := by decide +kernel
theorem dJ9_max_7cf53_9 : decode cJ9_max_7cf53 9 = .ok (.iload_n 1, 1) := by decide +kernel
theorem dJ9_max_7cf53_10 : decode cJ9_max_7cf53 10 = .ok (.ireturn, 1) := by decide +kernel
theorem dJ9_min_7cf53_0 : decode cJ9_min_7cf53 0 = .ok (.iload_n 0, 1) := by decide +kernel
theorem dJ9_min_7cf53_1 : decode cJ9_min_7cf53 1 = .ok (.iload_n 1, 1) := by decide +kernel
theorem dJ9_min_7cf53_2 : decode cJ9_min_7cf53 2 = .ok (.if_icmp .gt 7, 3) := by decide +kernel
theorem dJ9_min_7cf53_5 : decode cJ9_min_7cf53 5 = .ok (.iload_n 0, 1) := by decide +kernel
theorem dJ9_min_7cf53_6 : decode cJ9_min_7cf53 6 = .ok (.goto 4, 3) := by decide +kernel
theorem dJ9_min_7cf53_9 : decode cJ9_min_7cf53 9 = .ok (.iload_n 1, 1) := by decide +kernel
theorem dJ9_min_7cf53_10 : decode cJ9_min_7cf53 10 = .ok (.ireturn, 1) := by decide +kernel
theorem dJ7_fill_d0a16_0 : decode cJ7_fill_d0a16 0 = .ok (.iconst 0, 1) := by decide +kernel
theorem dJ7_fill_d0a16_1 : decode cJ7_fill_d0a16 1 = .ok (.istore_n 3, 1) := by decide +kernel
theorem dJ7_fill_d0a16_2 : decode cJ7_fill_d0a16 2 = .ok (.aload_n 0, 1) := by decide +kernel
theorem dJ7_fill_d0a16_3 : decode cJ7_fill_d0a16 3 = .ok (.arraylength, 1) := by decide +kernel
theorem dJ7_fill_d0a16_4 : decode cJ7_fill_d0a16 4 = .ok (.istore 4, 2) := by decide +kernel
theorem dJ7_fill_d0a16_6 : decode cJ7_fill_d0a16 6 = .ok (.iload_n 3, 1) := by decide +kernel
theorem dJ7_fill_d0a16_7 : decode cJ7_fill_d0a16 7 = .ok (.iload 4, 2) := by decide +kernel
theorem dJ7_fill_d0a16_9 : decode cJ7_fill_d0a16 9 = .ok (.if_icmp .ge 13, 3) := by decide +kernel
theorem dJ7_fill_d0a16_12 : decode cJ7_fill_d0a16 12 = .ok (.aload_n 0, 1) := by decide +kernel
theorem dJ7_fill_d0a16_13 : decode cJ7_fill_d0a16 13 = .ok (.iload_n 3, 1) := by decide +kernel
theorem dJ7_fill_d0a16_14 : decode cJ7_fill_d0a16 14 = .ok (.lload_n 1, 1) := by decide +kernel
theorem dJ7_fill_d0a16_15 : decode cJ7_fill_d0a16 15 = .ok (.lastore, 1) := by decide +kernel
theorem dJ7_fill_d0a16_16 : decode cJ7_fill_d0a16 16 = .ok (.iinc 3 1, 3) := by decide +kernel
theorem dJ7_fill_d0a16_19 : decode cJ7_fill_d0a16 19 = .ok (.goto (-13), 3) := by decide +kernel
theorem dJ7_fill_d0a16_22 : decode cJ7_fill_d0a16 22 = .ok (.return_, 1) := by decide +kernel
theorem dJ7_fill_53178_0 : decode cJ7_fill_53178 0 = .ok (.iconst 0, 1) := by decide +kernel
theorem dJ7_fill_53178_1 : decode cJ7_fill_53178 1 = .ok (.istore_n 2, 1) := by decide +kernel
theorem dJ7_fill_53178_2 : decode cJ7_fill_53178 2 = .ok (.aload_n 0, 1) := by decide +kernel
theorem dJ7_fill_53178_3 : decode cJ7_fill_53178 3 = .ok (.arraylength, 1) := by decide +kernel
theorem dJ7_fill_53178_4 : decode cJ7_fill_53178 4 = .ok (.istore_n 3, 1) := by decide +kernel
theorem dJ7_fill_53178_5 : decode cJ7_fill_53178 5 = .ok (.iload_n 2, 1) := by decide +kernel
theorem dJ7_fill_53178_6 : decode cJ7_fill_53178 6 = .ok (.iload_n 3, 1) := by decide +kernel
theorem dJ7_fill_53178_7 : decode cJ7_fill_53178 7 = .ok (.if_icmp .ge 13, 3) := by decide +kernel
theorem dJ7_fill_53178_10 : decode cJ7_fill_53178 10 = .ok (.aload_n 0, 1) := by decide +kernel
theorem dJ7_fill_53178_11 : decode cJ7_fill_53178 11 = .ok (.iload_n 2, 1) := by decide +kernel
theorem dJ7_fill_53178_12 : decode cJ7_fill_53178 12 = .ok (.iload_n 1, 1) := by decide +kernel
theorem dJ7_fill_53178_13 : decode cJ7_fill_53178 13 = .ok (.iastore, 1) := by decide +kernel
theorem dJ7_fill_53178_14 : decode cJ7_fill_53178 14 = .ok (.iinc 2 1, 3) := by decide +kernel
theorem dJ7_fill_53178_17 : decode cJ7_fill_53178 17 = .ok (.goto (-12), 3) := by decide +kernel
theorem dJ7_fill_53178_20 : decode cJ7_fill_53178 20 = .ok (.return_, 1) := by decide +kernel
end
section
theorem dX11_init_0 : decode cX11_init 0 = .ok (.aload_n 0, 1) := by decide +kernel
theorem dX11_init_1 : decode cX11_init 1 = .ok (.invokespecial 1, 3) := by decide +kernel
theorem dX11_init_4 : decode cX11_init 4 = .ok (.aload_n 0, 1) := by decide +kernel
theorem dX11_init_5 : decode cX11_init 5 = .ok (.new 7, 3) := by decide +kernel
theorem dX11_init_8 : decode cX11_init 8 = .ok (.dup, 1) := by decide +kernel
theorem dX11_init_9 : decode cX11_init 9 = .ok (.invokespecial 9, 3) := by decide +kernel
theorem dX11_init_12 : decode cX11_init 12 = .ok (.putfield 10, 3) := by decide +kernel
theorem dX11_init_15 : decode cX11_init 15 = .ok (.aload_n 0, 1) := by decide +kernel
theorem dX11_init_16 : decode cX11_init 16 = .ok (.new 16, 3) := by decide +kernel
theorem dX11_init_19 : decode cX11_init 19 = .ok (.dup, 1) := by decide +kernel
theorem dX11_init_20 : decode cX11_init 20 = .ok (.invokespecial 18, 3) := by decide +kernel
theorem dX11_init_23 : decode cX11_init 23 = .ok (.putfield 19, 3) := by decide +kernel
theorem dX11_init_26 : decode cX11_init 26 = .ok (.aload_n 0, 1) := by decide +kernel
theorem dX11_init_27 : decode cX11_init 27 = .ok (.bipush 8, 2) := by decide +kernel
theorem dX11_init_29 : decode cX11_init 29 = .ok (.newarray .int, 2) := by decide +kernel
theorem dX11_init_31 : decode cX11_init 31 = .ok (.putfield 23, 3) := by decide +kernel
theorem dX11_init_34 : decode cX11_init 34 = .ok (.aload_n 0, 1) := by decide +kernel
theorem dX11_init_35 : decode cX11_init 35 = .ok (.bipush 8, 2) := by decide +kernel
theorem dX11_init_37 : decode cX11_init 37 = .ok (.newarray .int, 2) := by decide +kernel
theorem dX11_init_39 : decode cX11_init 39 = .ok (.putfield 27, 3) := by decide +kernel
theorem dX11_init_42 : decode cX11_init 42 = .ok (.aload_n 0, 1) := by decide +kernel
theorem dX11_init_43 : decode cX11_init 43 = .ok (.bipush 7, 2) := by decide +kernel
theorem dX11_init_45 : decode cX11_init 45 = .ok (.newarray .int, 2) := by decide +kernel
theorem dX11_init_47 : decode cX11_init 47 = .ok (.putfield 30, 3) := by decide +kernel
theorem dX11_init_50 : decode cX11_init 50 = .ok (.aload_n 0, 1) := by decide +kernel
theorem dX11_init_51 : decode cX11_init 51 = .ok (.bipush 73, 2) := by decide +kernel
theorem dX11_init_53 : decode cX11_init 53 = .ok (.newarray .long, 2) := by decide +kernel
theorem dX11_init_55 : decode cX11_init 55 = .ok (.putfield 33, 3) := by decide +kernel
theorem dX11_init_58 : decode cX11_init 58 = .ok (.aload_n 0, 1) := by decide +kernel
theorem dX11_init_59 : decode cX11_init 59 = .ok (.iconst 1, 1) := by decide +kernel
theorem dX11_init_60 : decode cX11_init 60 = .ok (.putfield 37, 3) := by decide +kernel
theorem dX11_init_63 : decode cX11_init 63 = .ok (.new 41, 3) := by decide +kernel
theorem dX11_init_66 : decode cX11_init 66 = .ok (.dup, 1) := by decide +kernel
theorem dX11_init_67 : decode cX11_init 67 = .ok (.invokespecial 43, 3) := by decide +kernel
theorem dX11_init_70 : decode cX11_init 70 = .ok (.astore_n 1, 1) := by decide +kernel
theorem dX11_init_71 : decode cX11_init 71 = .ok (.bipush 7, 2) := by decide +kernel
theorem dX11_init_73 : decode cX11_init 73 = .ok (.anewarray 41, 3) := by decide +kernel
theorem dX11_init_76 : decode cX11_init 76 = .ok (.dup, 1) := by decide +kernel
theorem dX11_init_77 : decode cX11_init 77 = .ok (.iconst 0, 1) := by decide +kernel
theorem dX11_init_78 : decode cX11_init 78 = .ok (.aload_n 1, 1) := by decide +kernel
theorem dX11_init_79 : decode cX11_init 79 = .ok (.aastore, 1) := by decide +kernel
theorem dX11_init_80 : decode cX11_init 80 = .ok (.dup, 1) := by decide +kernel
theorem dX11_init_81 : decode cX11_init 81 = .ok (.iconst 1, 1) := by decide +kernel
theorem dX11_init_82 : decode cX11_init 82 = .ok (.new 44, 3) := by decide +kernel
theorem dX11_init_85 : decode cX11_init 85 = .ok (.dup, 1) := by decide +kernel
theorem dX11_init_86 : decode cX11_init 86 = .ok (.invokespecial 46, 3) := by decide +kernel
theorem dX11_init_89 : decode cX11_init 89 = .ok (.aastore, 1) := by decide +kernel
theorem dX11_init_90 : decode cX11_init 90 = .ok (.dup, 1) := by decide +kernel
theorem dX11_init_91 : decode cX11_init 91 = .ok (.iconst 2, 1) := by decide +kernel
theorem dX11_init_92 : decode cX11_init 92 = .ok (.new 47, 3) := by decide +kernel
theorem dX11_init_95 : decode cX11_init 95 = .ok (.dup, 1) := by decide +kernel
theorem dX11_init_96 : decode cX11_init 96 = .ok (.invokespecial 49, 3) := by decide +kernel
theorem dX11_init_99 : decode cX11_init 99 = .ok (.aastore, 1) := by decide +kernel
theorem dX11_init_100 : decode cX11_init 100 = .ok (.dup, 1) := by decide +kernel
theorem dX11_init_101 : decode cX11_init 101 = .ok (.iconst 3, 1) := by decide +kernel
theorem dX11_init_102 : decode cX11_init 102 = .ok (.new 50, 3) := by decide +kernel
theorem dX11_init_105 : decode cX11_init 105 = .ok (.dup, 1) := by decide +kernel
theorem dX11_init_106 : decode cX11_init 106 = .ok (.invokespecial 52, 3) := by decide +kernel
theorem dX11_init_109 : decode cX11_init 109 = .ok (.aastore, 1) := by decide +kernel
theorem dX11_init_110 : decode cX11_init 110 = .ok (.dup, 1) := by decide +kernel
theorem dX11_init_111 : decode cX11_init 111 = .ok (.iconst 4, 1) := by decide +kernel
theorem dX11_init_112 : decode cX11_init 112 = .ok (.new 53, 3) := by decide +kernel
theorem dX11_init_115 : decode cX11_init 115 = .ok (.dup, 1) := by decide +kernel
theorem dX11_init_116 : decode cX11_init 116 = .ok (.invokespecial 55, 3) := by decide +kernel
theorem dX11_init_119 : decode cX11_init 119 = .ok (.aastore, 1) := by decide +kernel
theorem dX11_init_120 : decode cX11_init 120 = .ok (.dup, 1) := by decide +kernel
theorem dX11_init_121 : decode cX11_init 121 = .ok (.iconst 5, 1) := by decide +kernel
theorem dX11_init_122 : decode cX11_init 122 = .ok (.new 56, 3) := by decide +kernel
theorem dX11_init_125 : decode cX11_init 125 = .ok (.dup, 1) := by decide +kernel
theorem dX11_init_126 : decode cX11_init 126 = .ok (.invokespecial 58, 3) := by decide +kernel
theorem dX11_init_129 : decode cX11_init 129 = .ok (.aastore, 1) := by decide +kernel
theorem dX11_init_130 : decode cX11_init 130 = .ok (.dup, 1) := by decide +kernel
theorem dX11_init_131 : decode cX11_init 131 = .ok (.bipush 6, 2) := by decide +kernel
theorem dX11_init_133 : decode cX11_init 133 = .ok (.new 59, 3) := by decide +kernel
theorem dX11_init_136 : decode cX11_init 136 = .ok (.dup, 1) := by decide +kernel
theorem dX11_init_137 : decode cX11_init 137 = .ok (.invokespecial 61, 3) := by decide +kernel
theorem dX11_init_140 : decode cX11_init 140 = .ok (.aastore, 1) := by decide +kernel
theorem dX11_init_141 : decode cX11_init 141 = .ok (.astore_n 2, 1) := by decide +kernel
theorem dX11_init_142 : decode cX11_init 142 = .ok (.aload_n 0, 1) := by decide +kernel
theorem dX11_init_143 : decode cX11_init 143 = .ok (.new 62, 3) := by decide +kernel
theorem dX11_init_146 : decode cX11_init 146 = .ok (.dup, 1) := by decide +kernel
theorem dX11_init_147 : decode cX11_init 147 = .ok (.aload_n 2, 1) := by decide +kernel
theorem dX11_init_148 : decode cX11_init 148 = .ok (.invokespecial 64, 3) := by decide +kernel
theorem dX11_init_151 : decode cX11_init 151 = .ok (.putfield 67, 3) := by decide +kernel
theorem dX11_init_154 : decode cX11_init 154 = .ok (.aload_n 0, 1) := by decide +kernel
theorem dX11_init_155 : decode cX11_init 155 = .ok (.new 62, 3) := by decide +kernel
theorem dX11_init_158 : decode cX11_init 158 = .ok (.dup, 1) := by decide +kernel
theorem dX11_init_159 : decode cX11_init 159 = .ok (.aload_n 2, 1) := by decide +kernel
theorem dX11_init_160 : decode cX11_init 160 = .ok (.invokespecial 64, 3) := by decide +kernel
theorem dX11_init_163 : decode cX11_init 163 = .ok (.putfield 71, 3) := by decide +kernel
theorem dX11_init_166 : decode cX11_init 166 = .ok (.aload_n 0, 1) := by decide +kernel
theorem dX11_init_167 : decode cX11_init 167 = .ok (.aload_n 0, 1) := by decide +kernel
theorem dX11_init_168 : decode cX11_init 168 = .ok (.getfield 67, 3) := by decide +kernel
theorem dX11_init_171 : decode cX11_init 171 = .ok (.getfield 74, 3) := by decide +kernel
theorem dX11_init_174 : decode cX11_init 174 = .ok (.putfield 77, 3) := by decide +kernel
theorem dX11_init_177 : decode cX11_init 177 = .ok (.aload_n 0, 1) := by decide +kernel
theorem dX11_init_178 : decode cX11_init 178 = .ok (.aload_n 0, 1) := by decide +kernel
theorem dX11_init_179 : decode cX11_init 179 = .ok (.getfield 71, 3) := by decide +kernel
theorem dX11_init_182 : decode cX11_init 182 = .ok (.getfield 74, 3) := by decide +kernel
theorem dX11_init_185 : decode cX11_init 185 = .ok (.putfield 80, 3) := by decide +kernel
theorem dX11_init_188 : decode cX11_init 188 = .ok (.aload_n 0, 1) := by decide +kernel
theorem dX11_init_189 : decode cX11_init 189 = .ok (.new 83, 3) := by decide +kernel
theorem dX11_init_192 : decode cX11_init 192 = .ok (.dup, 1) := by decide +kernel
theorem dX11_init_193 : decode cX11_init 193 = .ok (.aload_n 1, 1) := by decide +kernel
theorem dX11_init_194 : decode cX11_init 194 = .ok (.invokespecial 85, 3) := by decide +kernel
theorem dX11_init_197 : decode cX11_init 197 = .ok (.putfield 88, 3) := by decide +kernel
theorem dX11_init_200 : decode cX11_init 200 = .ok (.return_, 1) := by decide +kernel
theorem dX11_feed_0 : decode cX11_feed 0 = .ok (.iload_n 1, 1) := by decide +kernel
theorem dX11_feed_1 : decode cX11_feed 1 = .ok (.ifCond .ge 10, 3) := by decide +kernel
theorem dX11_feed_4 : decode cX11_feed 4 = .ok (.aload_n 0, 1) := by decide +kernel
theorem dX11_feed_5 : decode cX11_feed 5 = .ok (.bipush (-4), 2) := by decide +kernel
theorem dX11_feed_7 : decode cX11_feed 7 = .ok (.invokevirtual 92, 3) := by decide +kernel
theorem dX11_feed_10 : decode cX11_feed 10 = .ok (.ireturn, 1) := by decide +kernel
theorem dX11_feed_11 : decode cX11_feed 11 = .ok (.iload_n 1, 1) := by decide +kernel
theorem dX11_feed_12 : decode cX11_feed 12 = .ok (.sipush 255, 3) := by decide +kernel
theorem dX11_feed_15 : decode cX11_feed 15 = .ok (.if_icmp .gt 13, 3) := by decide +kernel
theorem dX11_feed_18 : decode cX11_feed 18 = .ok (.aload_n 0, 1) := by decide +kernel
theorem dX11_feed_19 : decode cX11_feed 19 = .ok (.getfield 19, 3) := by decide +kernel
theorem dX11_feed_22 : decode cX11_feed 22 = .ok (.invokevirtual 96, 3) := by decide +kernel
theorem dX11_feed_25 : decode cX11_feed 25 = .ok (.ifCond .eq 10, 3) := by decide +kernel
theorem dX11_feed_28 : decode cX11_feed 28 = .ok (.aload_n 0, 1) := by decide +kernel
theorem dX11_feed_29 : decode cX11_feed 29 = .ok (.bipush (-6), 2) := by decide +kernel
theorem dX11_feed_31 : decode cX11_feed 31 = .ok (.invokevirtual 92, 3) := by decide +kernel
theorem dX11_feed_34 : decode cX11_feed 34 = .ok (.ireturn, 1) := by decide +kernel
theorem dX11_feed_35 : decode cX11_feed 35 = .ok (.aload_n 0, 1) := by decide +kernel
theorem dX11_feed_36 : decode cX11_feed 36 = .ok (.getfield 19, 3) := by decide +kernel
theorem dX11_feed_39 : decode cX11_feed 39 = .ok (.iload_n 1, 1) := by decide +kernel
theorem dX11_feed_40 : decode cX11_feed 40 = .ok (.i2c, 1) := by decide +kernel
theorem dX11_feed_41 : decode cX11_feed 41 = .ok (.invokevirtual 100, 3) := by decide +kernel
theorem dX11_feed_44 : decode cX11_feed 44 = .ok (.ireturn, 1) := by decide +kernel
theorem dX11_beach_0 : decode cX11_beach 0 = .ok (.aload_n 0, 1) := by decide +kernel
theorem dX11_beach_1 : decode cX11_beach 1 = .ok (.getfield 19, 3) := by decide +kernel
theorem dX11_beach_4 : decode cX11_beach 4 = .ok (.aload_n 0, 1) := by decide +kernel
theorem dX11_beach_5 : decode cX11_beach 5 = .ok (.getfield 77, 3) := by decide +kernel
theorem dX11_beach_8 : decode cX11_beach 8 = .ok (.invokevirtual 104, 3) := by decide +kernel
theorem dX11_beach_11 : decode cX11_beach 11 = .ok (.istore_n 1, 1) := by decide +kernel
theorem dX11_beach_12 : decode cX11_beach 12 = .ok (.iload_n 1, 1) := by decide +kernel
theorem dX11_beach_13 : decode cX11_beach 13 = .ok (.ifCond .ne 20, 3) := by decide +kernel
theorem dX11_beach_16 : decode cX11_beach 16 = .ok (.aload_n 0, 1) := by decide +kernel
theorem dX11_beach_17 : decode cX11_beach 17 = .ok (.getfield 19, 3) := by decide +kernel
theorem dX11_beach_20 : decode cX11_beach 20 = .ok (.aload_n 0, 1) := by decide +kernel
theorem dX11_beach_21 : decode cX11_beach 21 = .ok (.getfield 77, 3) := by decide +kernel
theorem dX11_beach_24 : decode cX11_beach 24 = .ok (.invokevirtual 108, 3) := by decide +kernel
theorem dX11_beach_27 : decode cX11_beach 27 = .ok (.istore_n 1, 1) := by decide +kernel
theorem dX11_beach_28 : decode cX11_beach 28 = .ok (.aload_n 0, 1) := by decide +kernel
theorem dX11_beach_29 : decode cX11_beach 29 = .ok (.iconst 1, 1) := by decide +kernel
theorem dX11_beach_30 : decode cX11_beach 30 = .ok (.putfield 37, 3) := by decide +kernel
theorem dX11_beach_33 : decode cX11_beach 33 = .ok (.aload_n 0, 1) := by decide +kernel
theorem dX11_beach_34 : decode cX11_beach 34 = .ok (.getfield 19, 3) := by decide +kernel
theorem dX11_beach_37 : decode cX11_beach 37 = .ok (.invokevirtual 111, 3) := by decide +kernel
theorem dX11_beach_40 : decode cX11_beach 40 = .ok (.iload_n 1, 1) := by decide +kernel
theorem dX11_beach_41 : decode cX11_beach 41 = .ok (.ireturn, 1) := by decide +kernel
theorem dX11_man_0 : decode cX11_man 0 = .ok (.aload_n 0, 1) := by decide +kernel
theorem dX11_man_1 : decode cX11_man 1 = .ok (.getfield 77, 3) := by decide +kernel
theorem dX11_man_4 : decode cX11_man 4 = .ok (.iload_n 1, 1) := by decide +kernel
theorem dX11_man_5 : decode cX11_man 5 = .ok (.invokevirtual 114, 3) := by decide +kernel
theorem dX11_man_8 : decode cX11_man 8 = .ok (.ifCond .ne 9, 3) := by decide +kernel
theorem dX11_man_11 : decode cX11_man 11 = .ok (.aload_n 0, 1) := by decide +kernel
theorem dX11_man_12 : decode cX11_man 12 = .ok (.iconst (-1), 1) := by decide +kernel
theorem dX11_man_13 : decode cX11_man 13 = .ok (.invokevirtual 92, 3) := by decide +kernel
theorem dX11_man_16 : decode cX11_man 16 = .ok (.ireturn, 1) := by decide +kernel
theorem dX11_man_17 : decode cX11_man 17 = .ok (.iload_n 2, 1) := by decide +kernel
theorem dX11_man_18 : decode cX11_man 18 = .ok (.tableswitch 56 0 2 #[26, 36, 46], 26) := by decide +kernel
theorem dX11_man_44 : decode cX11_man 44 = .ok (.aload_n 0, 1) := by decide +kernel
theorem dX11_man_45 : decode cX11_man 45 = .ok (.getfield 77, 3) := by decide +kernel
theorem dX11_man_48 : decode cX11_man 48 = .ok (.getfield 118, 3) := by decide +kernel
theorem dX11_man_51 : decode cX11_man 51 = .ok (.iload_n 1, 1) := by decide +kernel
theorem dX11_man_52 : decode cX11_man 52 = .ok (.iaload, 1) := by decide +kernel
theorem dX11_man_53 : decode cX11_man 53 = .ok (.ireturn, 1) := by decide +kernel
theorem dX11_man_54 : decode cX11_man 54 = .ok (.aload_n 0, 1) := by decide +kernel
theorem dX11_man_55 : decode cX11_man 55 = .ok (.getfield 77, 3) := by decide +kernel
theorem dX11_man_58 : decode cX11_man 58 = .ok (.getfield 121, 3) := by decide +kernel
theorem dX11_man_61 : decode cX11_man 61 = .ok (.iload_n 1, 1) := by decide +kernel
theorem dX11_man_62 : decode cX11_man 62 = .ok (.iaload, 1) := by decide +kernel
theorem dX11_man_63 : decode cX11_man 63 = .ok (.ireturn, 1) := by decide +kernel
theorem dX11_man_64 : decode cX11_man 64 = .ok (.aload_n 0, 1) := by decide +kernel
theorem dX11_man_65 : decode cX11_man 65 = .ok (.getfield 77, 3) := by decide +kernel
theorem dX11_man_68 : decode cX11_man 68 = .ok (.getfield 124, 3) := by decide +kernel
theorem dX11_man_71 : decode cX11_man 71 = .ok (.iload_n 1, 1) := by decide +kernel
theorem dX11_man_72 : decode cX11_man 72 = .ok (.iaload, 1) := by decide +kernel
theorem dX11_man_73 : decode cX11_man 73 = .ok (.ireturn, 1) := by decide +kernel
theorem dX11_man_74 : decode cX11_man 74 = .ok (.aload_n 0, 1) := by decide +kernel
theorem dX11_man_75 : decode cX11_man 75 = .ok (.bipush (-2), 2) := by decide +kernel
theorem dX11_man_77 : decode cX11_man 77 = .ok (.invokevirtual 92, 3) := by decide +kernel
theorem dX11_man_80 : decode cX11_man 80 = .ok (.ireturn, 1) := by decide +kernel
theorem dX11_set_0 : decode cX11_set 0 = .ok (.iload_n 1, 1) := by decide +kernel
theorem dX11_set_1 : decode cX11_set 1 = .ok (.ifCond .lt 11, 3) := by decide +kernel
theorem dX11_set_4 : decode cX11_set 4 = .ok (.iload_n 1, 1) := by decide +kernel
theorem dX11_set_5 : decode cX11_set 5 = .ok (.getstatic 127, 3) := by decide +kernel
theorem dX11_set_8 : decode cX11_set 8 = .ok (.arraylength, 1) := by decide +kernel
theorem dX11_set_9 : decode cX11_set 9 = .ok (.if_icmp .lt 10, 3) := by decide +kernel
theorem dX11_set_12 : decode cX11_set 12 = .ok (.aload_n 0, 1) := by decide +kernel
theorem dX11_set_13 : decode cX11_set 13 = .ok (.bipush (-2), 2) := by decide +kernel
theorem dX11_set_15 : decode cX11_set 15 = .ok (.invokevirtual 92, 3) := by decide +kernel
theorem dX11_set_18 : decode cX11_set 18 = .ok (.ireturn, 1) := by decide +kernel
theorem dX11_set_19 : decode cX11_set 19 = .ok (.iload_n 2, 1) := by decide +kernel
theorem dX11_set_20 : decode cX11_set 20 = .ok (.ifCond .ge 10, 3) := by decide +kernel
theorem dX11_set_23 : decode cX11_set 23 = .ok (.aload_n 0, 1) := by decide +kernel
theorem dX11_set_24 : decode cX11_set 24 = .ok (.bipush (-4), 2) := by decide +kernel
theorem dX11_set_26 : decode cX11_set 26 = .ok (.invokevirtual 92, 3) := by decide +kernel
theorem dX11_set_29 : decode cX11_set 29 = .ok (.ireturn, 1) := by decide +kernel
theorem dX11_set_30 : decode cX11_set 30 = .ok (.iload_n 2, 1) := by decide +kernel
theorem dX11_set_31 : decode cX11_set 31 = .ok (.getstatic 127, 3) := by decide +kernel
theorem dX11_set_34 : decode cX11_set 34 = .ok (.iload_n 1, 1) := by decide +kernel
theorem dX11_set_35 : decode cX11_set 35 = .ok (.iaload, 1) := by decide +kernel
theorem dX11_set_36 : decode cX11_set 36 = .ok (.if_icmp .le 10, 3) := by decide +kernel
theorem dX11_set_39 : decode cX11_set 39 = .ok (.aload_n 0, 1) := by decide +kernel
theorem dX11_set_40 : decode cX11_set 40 = .ok (.bipush (-6), 2) := by decide +kernel
theorem dX11_set_42 : decode cX11_set 42 = .ok (.invokevirtual 92, 3) := by decide +kernel
theorem dX11_set_45 : decode cX11_set 45 = .ok (.ireturn, 1) := by decide +kernel
theorem dX11_set_46 : decode cX11_set 46 = .ok (.aload_n 0, 1) := by decide +kernel
theorem dX11_set_47 : decode cX11_set 47 = .ok (.getfield 77, 3) := by decide +kernel
theorem dX11_set_50 : decode cX11_set 50 = .ok (.getfield 130, 3) := by decide +kernel
theorem dX11_set_53 : decode cX11_set 53 = .ok (.iload_n 1, 1) := by decide +kernel
theorem dX11_set_54 : decode cX11_set 54 = .ok (.iaload, 1) := by decide +kernel
theorem dX11_set_55 : decode cX11_set 55 = .ok (.istore_n 3, 1) := by decide +kernel
theorem dX11_set_56 : decode cX11_set 56 = .ok (.aload_n 0, 1) := by decide +kernel
theorem dX11_set_57 : decode cX11_set 57 = .ok (.getfield 77, 3) := by decide +kernel
theorem dX11_set_60 : decode cX11_set 60 = .ok (.getfield 130, 3) := by decide +kernel
theorem dX11_set_63 : decode cX11_set 63 = .ok (.iload_n 1, 1) := by decide +kernel
theorem dX11_set_64 : decode cX11_set 64 = .ok (.iload_n 2, 1) := by decide +kernel
theorem dX11_set_65 : decode cX11_set 65 = .ok (.iastore, 1) := by decide +kernel
theorem dX11_set_66 : decode cX11_set 66 = .ok (.aload_n 0, 1) := by decide +kernel
theorem dX11_set_67 : decode cX11_set 67 = .ok (.iconst 1, 1) := by decide +kernel
theorem dX11_set_68 : decode cX11_set 68 = .ok (.putfield 37, 3) := by decide +kernel
theorem dX11_set_71 : decode cX11_set 71 = .ok (.iload_n 3, 1) := by decide +kernel
theorem dX11_set_72 : decode cX11_set 72 = .ok (.ireturn, 1) := by decide +kernel
theorem dX11_offered_0 : decode cX11_offered 0 = .ok (.aload_n 0, 1) := by decide +kernel
theorem dX11_offered_1 : decode cX11_offered 1 = .ok (.getfield 77, 3) := by decide +kernel
theorem dX11_offered_4 : decode cX11_offered 4 = .ok (.iload_n 1, 1) := by decide +kernel
theorem dX11_offered_5 : decode cX11_offered 5 = .ok (.invokevirtual 114, 3) := by decide +kernel
theorem dX11_offered_8 : decode cX11_offered 8 = .ok (.ifCond .eq 33, 3) := by decide +kernel
theorem dX11_offered_11 : decode cX11_offered 11 = .ok (.aload_n 0, 1) := by decide +kernel
theorem dX11_offered_12 : decode cX11_offered 12 = .ok (.getfield 77, 3) := by decide +kernel
theorem dX11_offered_15 : decode cX11_offered 15 = .ok (.iload_n 2, 1) := by decide +kernel
theorem dX11_offered_16 : decode cX11_offered 16 = .ok (.invokevirtual 114, 3) := by decide +kernel
theorem dX11_offered_19 : decode cX11_offered 19 = .ok (.ifCond .eq 22, 3) := by decide +kernel
theorem dX11_offered_22 : decode cX11_offered 22 = .ok (.iload_n 2, 1) := by decide +kernel
theorem dX11_offered_23 : decode cX11_offered 23 = .ok (.iload_n 1, 1) := by decide +kernel
theorem dX11_offered_24 : decode cX11_offered 24 = .ok (.if_icmp .lt 17, 3) := by decide +kernel
theorem dX11_offered_27 : decode cX11_offered 27 = .ok (.aload_n 0, 1) := by decide +kernel
theorem dX11_offered_28 : decode cX11_offered 28 = .ok (.invokevirtual 133, 3) := by decide +kernel
theorem dX11_offered_31 : decode cX11_offered 31 = .ok (.getfield 137, 3) := by decide +kernel
theorem dX11_offered_34 : decode cX11_offered 34 = .ok (.iload_n 1, 1) := by decide +kernel
theorem dX11_offered_35 : decode cX11_offered 35 = .ok (.aaload, 1) := by decide +kernel
theorem dX11_offered_36 : decode cX11_offered 36 = .ok (.iload_n 2, 1) := by decide +kernel
theorem dX11_offered_37 : decode cX11_offered 37 = .ok (.iaload, 1) := by decide +kernel
theorem dX11_offered_38 : decode cX11_offered 38 = .ok (.goto 8, 3) := by decide +kernel
theorem dX11_offered_41 : decode cX11_offered 41 = .ok (.aload_n 0, 1) := by decide +kernel
theorem dX11_offered_42 : decode cX11_offered 42 = .ok (.iconst (-1), 1) := by decide +kernel
theorem dX11_offered_43 : decode cX11_offered 43 = .ok (.invokevirtual 92, 3) := by decide +kernel
theorem dX11_offered_46 : decode cX11_offered 46 = .ok (.ireturn, 1) := by decide +kernel
theorem dX11_price_0 : decode cX11_price 0 = .ok (.aload_n 0, 1) := by decide +kernel
theorem dX11_price_1 : decode cX11_price 1 = .ok (.getfield 77, 3) := by decide +kernel
theorem dX11_price_4 : decode cX11_price 4 = .ok (.iload_n 1, 1) := by decide +kernel
theorem dX11_price_5 : decode cX11_price 5 = .ok (.invokevirtual 114, 3) := by decide +kernel
theorem dX11_price_8 : decode cX11_price 8 = .ok (.ifCond .eq 14, 3) := by decide +kernel
theorem dX11_price_11 : decode cX11_price 11 = .ok (.aload_n 0, 1) := by decide +kernel
theorem dX11_price_12 : decode cX11_price 12 = .ok (.getfield 77, 3) := by decide +kernel
theorem dX11_price_15 : decode cX11_price 15 = .ok (.iload_n 2, 1) := by decide +kernel
theorem dX11_price_16 : decode cX11_price 16 = .ok (.invokevirtual 114, 3) := by decide +kernel
theorem dX11_price_19 : decode cX11_price 19 = .ok (.ifCond .ne 9, 3) := by decide +kernel
theorem dX11_price_22 : decode cX11_price 22 = .ok (.aload_n 0, 1) := by decide +kernel
theorem dX11_price_23 : decode cX11_price 23 = .ok (.iconst (-1), 1) := by decide +kernel
theorem dX11_price_24 : decode cX11_price 24 = .ok (.invokevirtual 92, 3) := by decide +kernel
theorem dX11_price_27 : decode cX11_price 27 = .ok (.ireturn, 1) := by decide +kernel
theorem dX11_price_28 : decode cX11_price 28 = .ok (.iload_n 2, 1) := by decide +kernel
theorem dX11_price_29 : decode cX11_price 29 = .ok (.iload_n 1, 1) := by decide +kernel
theorem dX11_price_30 : decode cX11_price 30 = .ok (.if_icmp .le 17, 3) := by decide +kernel
theorem dX11_price_33 : decode cX11_price 33 = .ok (.aload_n 0, 1) := by decide +kernel
theorem dX11_price_34 : decode cX11_price 34 = .ok (.invokevirtual 133, 3) := by decide +kernel
theorem dX11_price_37 : decode cX11_price 37 = .ok (.getfield 141, 3) := by decide +kernel
theorem dX11_price_40 : decode cX11_price 40 = .ok (.iload_n 1, 1) := by decide +kernel
theorem dX11_price_41 : decode cX11_price 41 = .ok (.aaload, 1) := by decide +kernel
theorem dX11_price_42 : decode cX11_price 42 = .ok (.iload_n 2, 1) := by decide +kernel
theorem dX11_price_43 : decode cX11_price 43 = .ok (.iaload, 1) := by decide +kernel
theorem dX11_price_44 : decode cX11_price 44 = .ok (.goto 5, 3) := by decide +kernel
theorem dX11_price_47 : decode cX11_price 47 = .ok (.bipush (-9), 2) := by decide +kernel
theorem dX11_price_49 : decode cX11_price 49 = .ok (.ireturn, 1) := by decide +kernel
theorem dX11_votes_0 : decode cX11_votes 0 = .ok (.aload_n 0, 1) := by decide +kernel
theorem dX11_votes_1 : decode cX11_votes 1 = .ok (.getfield 77, 3) := by decide +kernel
theorem dX11_votes_4 : decode cX11_votes 4 = .ok (.iload_n 1, 1) := by decide +kernel
theorem dX11_votes_5 : decode cX11_votes 5 = .ok (.invokevirtual 114, 3) := by decide +kernel
theorem dX11_votes_8 : decode cX11_votes 8 = .ok (.ifCond .eq 15, 3) := by decide +kernel
theorem dX11_votes_11 : decode cX11_votes 11 = .ok (.aload_n 0, 1) := by decide +kernel
theorem dX11_votes_12 : decode cX11_votes 12 = .ok (.invokevirtual 133, 3) := by decide +kernel
theorem dX11_votes_15 : decode cX11_votes 15 = .ok (.getfield 144, 3) := by decide +kernel
theorem dX11_votes_18 : decode cX11_votes 18 = .ok (.iload_n 1, 1) := by decide +kernel
theorem dX11_votes_19 : decode cX11_votes 19 = .ok (.iaload, 1) := by decide +kernel
theorem dX11_votes_20 : decode cX11_votes 20 = .ok (.goto 8, 3) := by decide +kernel
theorem dX11_votes_23 : decode cX11_votes 23 = .ok (.aload_n 0, 1) := by decide +kernel
theorem dX11_votes_24 : decode cX11_votes 24 = .ok (.iconst (-1), 1) := by decide +kernel
theorem dX11_votes_25 : decode cX11_votes 25 = .ok (.invokevirtual 92, 3) := by decide +kernel
theorem dX11_votes_28 : decode cX11_votes 28 = .ok (.ireturn, 1) := by decide +kernel
theorem dX11_carries_0 : decode cX11_carries 0 = .ok (.aload_n 0, 1) := by decide +kernel
theorem dX11_carries_1 : decode cX11_carries 1 = .ok (.getfield 77, 3) := by decide +kernel
theorem dX11_carries_4 : decode cX11_carries 4 = .ok (.iload_n 1, 1) := by decide +kernel
theorem dX11_carries_5 : decode cX11_carries 5 = .ok (.invokevirtual 114, 3) := by decide +kernel
theorem dX11_carries_8 : decode cX11_carries 8 = .ok (.ifCond .ne 9, 3) := by decide +kernel
theorem dX11_carries_11 : decode cX11_carries 11 = .ok (.aload_n 0, 1) := by decide +kernel
theorem dX11_carries_12 : decode cX11_carries 12 = .ok (.iconst (-1), 1) := by decide +kernel
theorem dX11_carries_13 : decode cX11_carries 13 = .ok (.invokevirtual 92, 3) := by decide +kernel
theorem dX11_carries_16 : decode cX11_carries 16 = .ok (.ireturn, 1) := by decide +kernel
theorem dX11_carries_17 : decode cX11_carries 17 = .ok (.aload_n 0, 1) := by decide +kernel
theorem dX11_carries_18 : decode cX11_carries 18 = .ok (.invokevirtual 133, 3) := by decide +kernel
theorem dX11_carries_21 : decode cX11_carries 21 = .ok (.getfield 147, 3) := by decide +kernel
theorem dX11_carries_24 : decode cX11_carries 24 = .ok (.iload_n 1, 1) := by decide +kernel
theorem dX11_carries_25 : decode cX11_carries 25 = .ok (.iaload, 1) := by decide +kernel
theorem dX11_carries_26 : decode cX11_carries 26 = .ok (.iload_n 1, 1) := by decide +kernel
theorem dX11_carries_27 : decode cX11_carries 27 = .ok (.if_icmp .ne 7, 3) := by decide +kernel
theorem dX11_carries_30 : decode cX11_carries 30 = .ok (.iconst 1, 1) := by decide +kernel
theorem dX11_carries_31 : decode cX11_carries 31 = .ok (.goto 4, 3) := by decide +kernel
theorem dX11_carries_34 : decode cX11_carries 34 = .ok (.iconst 0, 1) := by decide +kernel
theorem dX11_carries_35 : decode cX11_carries 35 = .ok (.ireturn, 1) := by decide +kernel
theorem dX11_ends_0 : decode cX11_ends 0 = .ok (.aload_n 0, 1) := by decide +kernel
theorem dX11_ends_1 : decode cX11_ends 1 = .ok (.getfield 77, 3) := by decide +kernel
theorem dX11_ends_4 : decode cX11_ends 4 = .ok (.iload_n 1, 1) := by decide +kernel
theorem dX11_ends_5 : decode cX11_ends 5 = .ok (.invokevirtual 114, 3) := by decide +kernel
theorem dX11_ends_8 : decode cX11_ends 8 = .ok (.ifCond .eq 15, 3) := by decide +kernel
theorem dX11_ends_11 : decode cX11_ends 11 = .ok (.aload_n 0, 1) := by decide +kernel
theorem dX11_ends_12 : decode cX11_ends 12 = .ok (.invokevirtual 133, 3) := by decide +kernel
theorem dX11_ends_15 : decode cX11_ends 15 = .ok (.getfield 147, 3) := by decide +kernel
theorem dX11_ends_18 : decode cX11_ends 18 = .ok (.iload_n 1, 1) := by decide +kernel
theorem dX11_ends_19 : decode cX11_ends 19 = .ok (.iaload, 1) := by decide +kernel
theorem dX11_ends_20 : decode cX11_ends 20 = .ok (.goto 8, 3) := by decide +kernel
theorem dX11_ends_23 : decode cX11_ends 23 = .ok (.aload_n 0, 1) := by decide +kernel
theorem dX11_ends_24 : decode cX11_ends 24 = .ok (.iconst (-1), 1) := by decide +kernel
theorem dX11_ends_25 : decode cX11_ends 25 = .ok (.invokevirtual 92, 3) := by decide +kernel
theorem dX11_ends_28 : decode cX11_ends 28 = .ok (.ireturn, 1) := by decide +kernel
theorem dX11_gets_0 : decode cX11_gets 0 = .ok (.aload_n 0, 1) := by decide +kernel
theorem dX11_gets_1 : decode cX11_gets 1 = .ok (.getfield 77, 3) := by decide +kernel
theorem dX11_gets_4 : decode cX11_gets 4 = .ok (.iload_n 1, 1) := by decide +kernel
theorem dX11_gets_5 : decode cX11_gets 5 = .ok (.invokevirtual 114, 3) := by decide +kernel
theorem dX11_gets_8 : decode cX11_gets 8 = .ok (.ifCond .eq 19, 3) := by decide +kernel
theorem dX11_gets_11 : decode cX11_gets 11 = .ok (.aload_n 0, 1) := by decide +kernel
theorem dX11_gets_12 : decode cX11_gets 12 = .ok (.getfield 77, 3) := by decide +kernel
theorem dX11_gets_15 : decode cX11_gets 15 = .ok (.iload_n 2, 1) := by decide +kernel
theorem dX11_gets_16 : decode cX11_gets 16 = .ok (.invokevirtual 114, 3) := by decide +kernel
theorem dX11_gets_19 : decode cX11_gets 19 = .ok (.ifCond .eq 8, 3) := by decide +kernel
theorem dX11_gets_22 : decode cX11_gets 22 = .ok (.iload_n 2, 1) := by decide +kernel
theorem dX11_gets_23 : decode cX11_gets 23 = .ok (.iload_n 1, 1) := by decide +kernel
theorem dX11_gets_24 : decode cX11_gets 24 = .ok (.if_icmp .ge 12, 3) := by decide +kernel
theorem dX11_gets_27 : decode cX11_gets 27 = .ok (.ldc 150, 2) := by decide +kernel
theorem dX11_gets_29 : decode cX11_gets 29 = .ok (.aload_n 0, 1) := by decide +kernel
theorem dX11_gets_30 : decode cX11_gets 30 = .ok (.iconst (-1), 1) := by decide +kernel
theorem dX11_gets_31 : decode cX11_gets 31 = .ok (.invokevirtual 92, 3) := by decide +kernel
theorem dX11_gets_34 : decode cX11_gets 34 = .ok (.isub, 1) := by decide +kernel
theorem dX11_gets_35 : decode cX11_gets 35 = .ok (.ireturn, 1) := by decide +kernel
theorem dX11_gets_36 : decode cX11_gets 36 = .ok (.aload_n 0, 1) := by decide +kernel
theorem dX11_gets_37 : decode cX11_gets 37 = .ok (.invokevirtual 133, 3) := by decide +kernel
theorem dX11_gets_40 : decode cX11_gets 40 = .ok (.getfield 151, 3) := by decide +kernel
theorem dX11_gets_43 : decode cX11_gets 43 = .ok (.iload_n 1, 1) := by decide +kernel
theorem dX11_gets_44 : decode cX11_gets 44 = .ok (.aaload, 1) := by decide +kernel
theorem dX11_gets_45 : decode cX11_gets 45 = .ok (.iload_n 2, 1) := by decide +kernel
theorem dX11_gets_46 : decode cX11_gets 46 = .ok (.iaload, 1) := by decide +kernel
theorem dX11_gets_47 : decode cX11_gets 47 = .ok (.ireturn, 1) := by decide +kernel
theorem dX11_bought_0 : decode cX11_bought 0 = .ok (.aload_n 0, 1) := by decide +kernel
theorem dX11_bought_1 : decode cX11_bought 1 = .ok (.getfield 77, 3) := by decide +kernel
theorem dX11_bought_4 : decode cX11_bought 4 = .ok (.iload_n 1, 1) := by decide +kernel
theorem dX11_bought_5 : decode cX11_bought 5 = .ok (.invokevirtual 114, 3) := by decide +kernel
theorem dX11_bought_8 : decode cX11_bought 8 = .ok (.ifCond .eq 15, 3) := by decide +kernel
theorem dX11_bought_11 : decode cX11_bought 11 = .ok (.aload_n 0, 1) := by decide +kernel
theorem dX11_bought_12 : decode cX11_bought 12 = .ok (.invokevirtual 133, 3) := by decide +kernel
theorem dX11_bought_15 : decode cX11_bought 15 = .ok (.getfield 154, 3) := by decide +kernel
theorem dX11_bought_18 : decode cX11_bought 18 = .ok (.iload_n 1, 1) := by decide +kernel
theorem dX11_bought_19 : decode cX11_bought 19 = .ok (.iaload, 1) := by decide +kernel
theorem dX11_bought_20 : decode cX11_bought 20 = .ok (.goto 8, 3) := by decide +kernel
theorem dX11_bought_23 : decode cX11_bought 23 = .ok (.aload_n 0, 1) := by decide +kernel
theorem dX11_bought_24 : decode cX11_bought 24 = .ok (.iconst (-1), 1) := by decide +kernel
theorem dX11_bought_25 : decode cX11_bought 25 = .ok (.invokevirtual 92, 3) := by decide +kernel
theorem dX11_bought_28 : decode cX11_bought 28 = .ok (.ireturn, 1) := by decide +kernel
theorem dX11_row_0 : decode cX11_row 0 = .ok (.iload_n 1, 1) := by decide +kernel
theorem dX11_row_1 : decode cX11_row 1 = .ok (.ifCond .ge 10, 3) := by decide +kernel
theorem dX11_row_4 : decode cX11_row 4 = .ok (.aload_n 0, 1) := by decide +kernel
theorem dX11_row_5 : decode cX11_row 5 = .ok (.bipush (-4), 2) := by decide +kernel
theorem dX11_row_7 : decode cX11_row 7 = .ok (.invokevirtual 92, 3) := by decide +kernel
theorem dX11_row_10 : decode cX11_row 10 = .ok (.ireturn, 1) := by decide +kernel
theorem dX11_row_11 : decode cX11_row 11 = .ok (.iload_n 1, 1) := by decide +kernel
theorem dX11_row_12 : decode cX11_row 12 = .ok (.bipush 99, 2) := by decide +kernel
theorem dX11_row_14 : decode cX11_row 14 = .ok (.if_icmp .gt 12, 3) := by decide +kernel
theorem dX11_row_17 : decode cX11_row 17 = .ok (.aload_n 0, 1) := by decide +kernel
theorem dX11_row_18 : decode cX11_row 18 = .ok (.getfield 157, 3) := by decide +kernel
theorem dX11_row_21 : decode cX11_row 21 = .ok (.bipush 8, 2) := by decide +kernel
theorem dX11_row_23 : decode cX11_row 23 = .ok (.if_icmp .lt 10, 3) := by decide +kernel
theorem dX11_row_26 : decode cX11_row 26 = .ok (.aload_n 0, 1) := by decide +kernel
theorem dX11_row_27 : decode cX11_row 27 = .ok (.bipush (-6), 2) := by decide +kernel
theorem dX11_row_29 : decode cX11_row 29 = .ok (.invokevirtual 92, 3) := by decide +kernel
theorem dX11_row_32 : decode cX11_row 32 = .ok (.ireturn, 1) := by decide +kernel
theorem dX11_row_33 : decode cX11_row 33 = .ok (.aload_n 0, 1) := by decide +kernel
theorem dX11_row_34 : decode cX11_row 34 = .ok (.getfield 27, 3) := by decide +kernel
theorem dX11_row_37 : decode cX11_row 37 = .ok (.aload_n 0, 1) := by decide +kernel
theorem dX11_row_38 : decode cX11_row 38 = .ok (.getfield 157, 3) := by decide +kernel
theorem dX11_row_41 : decode cX11_row 41 = .ok (.iload_n 1, 1) := by decide +kernel
theorem dX11_row_42 : decode cX11_row 42 = .ok (.iastore, 1) := by decide +kernel
theorem dX11_row_43 : decode cX11_row 43 = .ok (.aload_n 0, 1) := by decide +kernel
theorem dX11_row_44 : decode cX11_row 44 = .ok (.dup, 1) := by decide +kernel
theorem dX11_row_45 : decode cX11_row 45 = .ok (.getfield 157, 3) := by decide +kernel
theorem dX11_row_48 : decode cX11_row 48 = .ok (.iconst 1, 1) := by decide +kernel
theorem dX11_row_49 : decode cX11_row 49 = .ok (.iadd, 1) := by decide +kernel
theorem dX11_row_50 : decode cX11_row 50 = .ok (.putfield 157, 3) := by decide +kernel
theorem dX11_row_53 : decode cX11_row 53 = .ok (.aload_n 0, 1) := by decide +kernel
theorem dX11_row_54 : decode cX11_row 54 = .ok (.getfield 157, 3) := by decide +kernel
theorem dX11_row_57 : decode cX11_row 57 = .ok (.ireturn, 1) := by decide +kernel
theorem dX11_judge_0 : decode cX11_judge 0 = .ok (.aload_n 0, 1) := by decide +kernel
theorem dX11_judge_1 : decode cX11_judge 1 = .ok (.getfield 77, 3) := by decide +kernel
theorem dX11_judge_4 : decode cX11_judge 4 = .ok (.invokevirtual 161, 3) := by decide +kernel
theorem dX11_judge_7 : decode cX11_judge 7 = .ok (.ifCond .eq 10, 3) := by decide +kernel
theorem dX11_judge_10 : decode cX11_judge 10 = .ok (.aload_n 0, 1) := by decide +kernel
theorem dX11_judge_11 : decode cX11_judge 11 = .ok (.bipush (-3), 2) := by decide +kernel
theorem dX11_judge_13 : decode cX11_judge 13 = .ok (.invokevirtual 92, 3) := by decide +kernel
theorem dX11_judge_16 : decode cX11_judge 16 = .ok (.ireturn, 1) := by decide +kernel
theorem dX11_judge_17 : decode cX11_judge 17 = .ok (.iload_n 1, 1) := by decide +kernel
theorem dX11_judge_18 : decode cX11_judge 18 = .ok (.ifCond .ge 10, 3) := by decide +kernel
theorem dX11_judge_21 : decode cX11_judge 21 = .ok (.aload_n 0, 1) := by decide +kernel
theorem dX11_judge_22 : decode cX11_judge 22 = .ok (.bipush (-4), 2) := by decide +kernel
theorem dX11_judge_24 : decode cX11_judge 24 = .ok (.invokevirtual 92, 3) := by decide +kernel
theorem dX11_judge_27 : decode cX11_judge 27 = .ok (.ireturn, 1) := by decide +kernel
theorem dX11_judge_28 : decode cX11_judge 28 = .ok (.aload_n 0, 1) := by decide +kernel
theorem dX11_judge_29 : decode cX11_judge 29 = .ok (.invokevirtual 164, 3) := by decide +kernel
theorem dX11_judge_32 : decode cX11_judge 32 = .ok (.ifCond .eq 11, 3) := by decide +kernel
theorem dX11_judge_35 : decode cX11_judge 35 = .ok (.aload_n 0, 1) := by decide +kernel
theorem dX11_judge_36 : decode cX11_judge 36 = .ok (.iload_n 1, 1) := by decide +kernel
theorem dX11_judge_37 : decode cX11_judge 37 = .ok (.invokevirtual 167, 3) := by decide +kernel
theorem dX11_judge_40 : decode cX11_judge 40 = .ok (.goto 4, 3) := by decide +kernel
theorem dX11_judge_43 : decode cX11_judge 43 = .ok (.iconst 0, 1) := by decide +kernel
theorem dX11_judge_44 : decode cX11_judge 44 = .ok (.ireturn, 1) := by decide +kernel
theorem dX11_goes_0 : decode cX11_goes 0 = .ok (.aload_n 0, 1) := by decide +kernel
theorem dX11_goes_1 : decode cX11_goes 1 = .ok (.getfield 77, 3) := by decide +kernel
theorem dX11_goes_4 : decode cX11_goes 4 = .ok (.invokevirtual 161, 3) := by decide +kernel
theorem dX11_goes_7 : decode cX11_goes 7 = .ok (.ifCond .ne 10, 3) := by decide +kernel
theorem dX11_goes_10 : decode cX11_goes 10 = .ok (.aload_n 0, 1) := by decide +kernel
theorem dX11_goes_11 : decode cX11_goes 11 = .ok (.invokevirtual 164, 3) := by decide +kernel
theorem dX11_goes_14 : decode cX11_goes 14 = .ok (.ifCond .ne 10, 3) := by decide +kernel
theorem dX11_goes_17 : decode cX11_goes 17 = .ok (.aload_n 0, 1) := by decide +kernel
theorem dX11_goes_18 : decode cX11_goes 18 = .ok (.bipush (-3), 2) := by decide +kernel
theorem dX11_goes_20 : decode cX11_goes 20 = .ok (.invokevirtual 92, 3) := by decide +kernel
theorem dX11_goes_23 : decode cX11_goes 23 = .ok (.ireturn, 1) := by decide +kernel
theorem dX11_goes_24 : decode cX11_goes 24 = .ok (.iload_n 1, 1) := by decide +kernel
theorem dX11_goes_25 : decode cX11_goes 25 = .ok (.ifCond .ge 10, 3) := by decide +kernel
theorem dX11_goes_28 : decode cX11_goes 28 = .ok (.aload_n 0, 1) := by decide +kernel
theorem dX11_goes_29 : decode cX11_goes 29 = .ok (.bipush (-4), 2) := by decide +kernel
theorem dX11_goes_31 : decode cX11_goes 31 = .ok (.invokevirtual 92, 3) := by decide +kernel
theorem dX11_goes_34 : decode cX11_goes 34 = .ok (.ireturn, 1) := by decide +kernel
theorem dX11_goes_35 : decode cX11_goes 35 = .ok (.aload_n 0, 1) := by decide +kernel
theorem dX11_goes_36 : decode cX11_goes 36 = .ok (.getfield 77, 3) := by decide +kernel
theorem dX11_goes_39 : decode cX11_goes 39 = .ok (.iload_n 1, 1) := by decide +kernel
theorem dX11_goes_40 : decode cX11_goes 40 = .ok (.aload_n 0, 1) := by decide +kernel
theorem dX11_goes_41 : decode cX11_goes 41 = .ok (.getfield 27, 3) := by decide +kernel
theorem dX11_goes_44 : decode cX11_goes 44 = .ok (.aload_n 0, 1) := by decide +kernel
theorem dX11_goes_45 : decode cX11_goes 45 = .ok (.getfield 77, 3) := by decide +kernel
theorem dX11_goes_48 : decode cX11_goes 48 = .ok (.getfield 170, 3) := by decide +kernel
theorem dX11_goes_51 : decode cX11_goes 51 = .ok (.invokevirtual 173, 3) := by decide +kernel
theorem dX11_goes_54 : decode cX11_goes 54 = .ok (.istore_n 2, 1) := by decide +kernel
theorem dX11_goes_55 : decode cX11_goes 55 = .ok (.aload_n 0, 1) := by decide +kernel
theorem dX11_goes_56 : decode cX11_goes 56 = .ok (.iconst 0, 1) := by decide +kernel
theorem dX11_goes_57 : decode cX11_goes 57 = .ok (.putfield 157, 3) := by decide +kernel
theorem dX11_goes_60 : decode cX11_goes 60 = .ok (.iload_n 2, 1) := by decide +kernel
theorem dX11_goes_61 : decode cX11_goes 61 = .ok (.ireturn, 1) := by decide +kernel
theorem dX11_says_0 : decode cX11_says 0 = .ok (.aload_n 0, 1) := by decide +kernel
theorem dX11_says_1 : decode cX11_says 1 = .ok (.getfield 77, 3) := by decide +kernel
theorem dX11_says_4 : decode cX11_says 4 = .ok (.invokevirtual 161, 3) := by decide +kernel
theorem dX11_says_7 : decode cX11_says 7 = .ok (.ifCond .eq 10, 3) := by decide +kernel
theorem dX11_says_10 : decode cX11_says 10 = .ok (.aload_n 0, 1) := by decide +kernel
theorem dX11_says_11 : decode cX11_says 11 = .ok (.bipush (-3), 2) := by decide +kernel
theorem dX11_says_13 : decode cX11_says 13 = .ok (.invokevirtual 92, 3) := by decide +kernel
theorem dX11_says_16 : decode cX11_says 16 = .ok (.ireturn, 1) := by decide +kernel
theorem dX11_says_17 : decode cX11_says 17 = .ok (.aload_n 0, 1) := by decide +kernel
theorem dX11_says_18 : decode cX11_says 18 = .ok (.invokevirtual 133, 3) := by decide +kernel
theorem dX11_says_21 : decode cX11_says 21 = .ok (.astore_n 1, 1) := by decide +kernel
theorem dX11_says_22 : decode cX11_says 22 = .ok (.aload_n 0, 1) := by decide +kernel
theorem dX11_says_23 : decode cX11_says 23 = .ok (.getfield 77, 3) := by decide +kernel
theorem dX11_says_26 : decode cX11_says 26 = .ok (.aload_n 1, 1) := by decide +kernel
theorem dX11_says_27 : decode cX11_says 27 = .ok (.getfield 144, 3) := by decide +kernel
theorem dX11_says_30 : decode cX11_says 30 = .ok (.aload_n 0, 1) := by decide +kernel
theorem dX11_says_31 : decode cX11_says 31 = .ok (.getfield 77, 3) := by decide +kernel
theorem dX11_says_34 : decode cX11_says 34 = .ok (.getfield 170, 3) := by decide +kernel
theorem dX11_says_37 : decode cX11_says 37 = .ok (.iaload, 1) := by decide +kernel
theorem dX11_says_38 : decode cX11_says 38 = .ok (.aload_n 1, 1) := by decide +kernel
theorem dX11_says_39 : decode cX11_says 39 = .ok (.getfield 137, 3) := by decide +kernel
theorem dX11_says_42 : decode cX11_says 42 = .ok (.aload_n 0, 1) := by decide +kernel
theorem dX11_says_43 : decode cX11_says 43 = .ok (.getfield 77, 3) := by decide +kernel
theorem dX11_says_46 : decode cX11_says 46 = .ok (.getfield 170, 3) := by decide +kernel
theorem dX11_says_49 : decode cX11_says 49 = .ok (.aaload, 1) := by decide +kernel
theorem dX11_says_50 : decode cX11_says 50 = .ok (.iconst 0, 1) := by decide +kernel
theorem dX11_says_51 : decode cX11_says 51 = .ok (.invokevirtual 173, 3) := by decide +kernel
theorem dX11_says_54 : decode cX11_says 54 = .ok (.ireturn, 1) := by decide +kernel
theorem dX11_got_0 : decode cX11_got 0 = .ok (.aload_n 0, 1) := by decide +kernel
theorem dX11_got_1 : decode cX11_got 1 = .ok (.getfield 77, 3) := by decide +kernel
theorem dX11_got_4 : decode cX11_got 4 = .ok (.iload_n 1, 1) := by decide +kernel
theorem dX11_got_5 : decode cX11_got 5 = .ok (.invokevirtual 114, 3) := by decide +kernel
theorem dX11_got_8 : decode cX11_got 8 = .ok (.ifCond .eq 15, 3) := by decide +kernel
theorem dX11_got_11 : decode cX11_got 11 = .ok (.aload_n 0, 1) := by decide +kernel
theorem dX11_got_12 : decode cX11_got 12 = .ok (.getfield 77, 3) := by decide +kernel
theorem dX11_got_15 : decode cX11_got 15 = .ok (.getfield 177, 3) := by decide +kernel
theorem dX11_got_18 : decode cX11_got 18 = .ok (.iload_n 1, 1) := by decide +kernel
theorem dX11_got_19 : decode cX11_got 19 = .ok (.iaload, 1) := by decide +kernel
theorem dX11_got_20 : decode cX11_got 20 = .ok (.goto 11, 3) := by decide +kernel
theorem dX11_got_23 : decode cX11_got 23 = .ok (.ldc 150, 2) := by decide +kernel
theorem dX11_got_25 : decode cX11_got 25 = .ok (.aload_n 0, 1) := by decide +kernel
theorem dX11_got_26 : decode cX11_got 26 = .ok (.iconst (-1), 1) := by decide +kernel
theorem dX11_got_27 : decode cX11_got 27 = .ok (.invokevirtual 92, 3) := by decide +kernel
theorem dX11_got_30 : decode cX11_got 30 = .ok (.isub, 1) := by decide +kernel
theorem dX11_got_31 : decode cX11_got 31 = .ok (.ireturn, 1) := by decide +kernel
theorem dX11_alike_0 : decode cX11_alike 0 = .ok (.iload_n 1, 1) := by decide +kernel
theorem dX11_alike_1 : decode cX11_alike 1 = .ok (.iconst 1, 1) := by decide +kernel
theorem dX11_alike_2 : decode cX11_alike 2 = .ok (.if_icmp .lt 11, 3) := by decide +kernel
theorem dX11_alike_5 : decode cX11_alike 5 = .ok (.iload_n 2, 1) := by decide +kernel
theorem dX11_alike_6 : decode cX11_alike 6 = .ok (.ifCond .lt 7, 3) := by decide +kernel
theorem dX11_alike_9 : decode cX11_alike 9 = .ok (.iload_n 3, 1) := by decide +kernel
theorem dX11_alike_10 : decode cX11_alike 10 = .ok (.ifCond .ge 13, 3) := by decide +kernel
theorem dX11_alike_13 : decode cX11_alike 13 = .ok (.ldc 150, 2) := by decide +kernel
theorem dX11_alike_15 : decode cX11_alike 15 = .ok (.aload_n 0, 1) := by decide +kernel
theorem dX11_alike_16 : decode cX11_alike 16 = .ok (.bipush (-4), 2) := by decide +kernel
theorem dX11_alike_18 : decode cX11_alike 18 = .ok (.invokevirtual 92, 3) := by decide +kernel
theorem dX11_alike_21 : decode cX11_alike 21 = .ok (.isub, 1) := by decide +kernel
theorem dX11_alike_22 : decode cX11_alike 22 = .ok (.ireturn, 1) := by decide +kernel
theorem dX11_alike_23 : decode cX11_alike 23 = .ok (.iload_n 1, 1) := by decide +kernel
theorem dX11_alike_24 : decode cX11_alike 24 = .ok (.bipush 60, 2) := by decide +kernel
theorem dX11_alike_26 : decode cX11_alike 26 = .ok (.if_icmp .gt 14, 3) := by decide +kernel
theorem dX11_alike_29 : decode cX11_alike 29 = .ok (.iload_n 2, 1) := by decide +kernel
theorem dX11_alike_30 : decode cX11_alike 30 = .ok (.bipush 99, 2) := by decide +kernel
theorem dX11_alike_32 : decode cX11_alike 32 = .ok (.if_icmp .gt 8, 3) := by decide +kernel
theorem dX11_alike_35 : decode cX11_alike 35 = .ok (.iload_n 3, 1) := by decide +kernel
theorem dX11_alike_36 : decode cX11_alike 36 = .ok (.iload_n 1, 1) := by decide +kernel
theorem dX11_alike_37 : decode cX11_alike 37 = .ok (.if_icmp .lt 13, 3) := by decide +kernel
theorem dX11_alike_40 : decode cX11_alike 40 = .ok (.ldc 150, 2) := by decide +kernel
theorem dX11_alike_42 : decode cX11_alike 42 = .ok (.aload_n 0, 1) := by decide +kernel
theorem dX11_alike_43 : decode cX11_alike 43 = .ok (.bipush (-6), 2) := by decide +kernel
theorem dX11_alike_45 : decode cX11_alike 45 = .ok (.invokevirtual 92, 3) := by decide +kernel
theorem dX11_alike_48 : decode cX11_alike 48 = .ok (.isub, 1) := by decide +kernel
theorem dX11_alike_49 : decode cX11_alike 49 = .ok (.ireturn, 1) := by decide +kernel
theorem dX11_alike_50 : decode cX11_alike 50 = .ok (.aload_n 0, 1) := by decide +kernel
theorem dX11_alike_51 : decode cX11_alike 51 = .ok (.getfield 88, 3) := by decide +kernel
theorem dX11_alike_54 : decode cX11_alike 54 = .ok (.iload_n 1, 1) := by decide +kernel
theorem dX11_alike_55 : decode cX11_alike 55 = .ok (.iload_n 2, 1) := by decide +kernel
theorem dX11_alike_56 : decode cX11_alike 56 = .ok (.aload_n 0, 1) := by decide +kernel
theorem dX11_alike_57 : decode cX11_alike 57 = .ok (.getfield 77, 3) := by decide +kernel
theorem dX11_alike_60 : decode cX11_alike 60 = .ok (.getfield 130, 3) := by decide +kernel
theorem dX11_alike_63 : decode cX11_alike 63 = .ok (.invokevirtual 180, 3) := by decide +kernel
theorem dX11_alike_66 : decode cX11_alike 66 = .ok (.iload 4, 2) := by decide +kernel
theorem dX11_alike_68 : decode cX11_alike 68 = .ok (.ifCond .eq 22, 3) := by decide +kernel
theorem dX11_alike_71 : decode cX11_alike 71 = .ok (.aload_n 0, 1) := by decide +kernel
theorem dX11_alike_72 : decode cX11_alike 72 = .ok (.getfield 88, 3) := by decide +kernel
theorem dX11_alike_75 : decode cX11_alike 75 = .ok (.getfield 184, 3) := by decide +kernel
theorem dX11_alike_78 : decode cX11_alike 78 = .ok (.iconst 0, 1) := by decide +kernel
theorem dX11_alike_79 : decode cX11_alike 79 = .ok (.iaload, 1) := by decide +kernel
theorem dX11_alike_80 : decode cX11_alike 80 = .ok (.iconst (-1), 1) := by decide +kernel
theorem dX11_alike_81 : decode cX11_alike 81 = .ok (.if_icmp .ne 7, 3) := by decide +kernel
theorem dX11_alike_84 : decode cX11_alike 84 = .ok (.iconst 0, 1) := by decide +kernel
theorem dX11_alike_85 : decode cX11_alike 85 = .ok (.goto 4, 3) := by decide +kernel
theorem dX11_alike_88 : decode cX11_alike 88 = .ok (.iconst 1, 1) := by decide +kernel
theorem dX11_alike_89 : decode cX11_alike 89 = .ok (.ireturn, 1) := by decide +kernel
theorem dX11_alike_90 : decode cX11_alike 90 = .ok (.aload_n 0, 1) := by decide +kernel
theorem dX11_alike_91 : decode cX11_alike 91 = .ok (.getfield 88, 3) := by decide +kernel
theorem dX11_alike_94 : decode cX11_alike 94 = .ok (.getfield 184, 3) := by decide +kernel
theorem dX11_alike_97 : decode cX11_alike 97 = .ok (.iload_n 3, 1) := by decide +kernel
theorem dX11_alike_98 : decode cX11_alike 98 = .ok (.iaload, 1) := by decide +kernel
theorem dX11_alike_99 : decode cX11_alike 99 = .ok (.ireturn, 1) := by decide +kernel
theorem dX11_fewest_0 : decode cX11_fewest 0 = .ok (.aload_n 0, 1) := by decide +kernel
theorem dX11_fewest_1 : decode cX11_fewest 1 = .ok (.getfield 77, 3) := by decide +kernel
theorem dX11_fewest_4 : decode cX11_fewest 4 = .ok (.invokevirtual 161, 3) := by decide +kernel
theorem dX11_fewest_7 : decode cX11_fewest 7 = .ok (.ifCond .eq 10, 3) := by decide +kernel
theorem dX11_fewest_10 : decode cX11_fewest 10 = .ok (.aload_n 0, 1) := by decide +kernel
theorem dX11_fewest_11 : decode cX11_fewest 11 = .ok (.bipush (-3), 2) := by decide +kernel
theorem dX11_fewest_13 : decode cX11_fewest 13 = .ok (.invokevirtual 92, 3) := by decide +kernel
theorem dX11_fewest_16 : decode cX11_fewest 16 = .ok (.ireturn, 1) := by decide +kernel
theorem dX11_fewest_17 : decode cX11_fewest 17 = .ok (.aload_n 0, 1) := by decide +kernel
theorem dX11_fewest_18 : decode cX11_fewest 18 = .ok (.getfield 80, 3) := by decide +kernel
theorem dX11_fewest_21 : decode cX11_fewest 21 = .ok (.aload_n 0, 1) := by decide +kernel
theorem dX11_fewest_22 : decode cX11_fewest 22 = .ok (.getfield 77, 3) := by decide +kernel
theorem dX11_fewest_25 : decode cX11_fewest 25 = .ok (.invokevirtual 186, 3) := by decide +kernel
theorem dX11_fewest_28 : decode cX11_fewest 28 = .ok (.iconst 0, 1) := by decide +kernel
theorem dX11_fewest_29 : decode cX11_fewest 29 = .ok (.istore_n 1, 1) := by decide +kernel
theorem dX11_fewest_30 : decode cX11_fewest 30 = .ok (.iload_n 1, 1) := by decide +kernel
theorem dX11_fewest_31 : decode cX11_fewest 31 = .ok (.bipush 99, 2) := by decide +kernel
theorem dX11_fewest_33 : decode cX11_fewest 33 = .ok (.if_icmp .gt 60, 3) := by decide +kernel
theorem dX11_fewest_36 : decode cX11_fewest 36 = .ok (.aload_n 0, 1) := by decide +kernel
theorem dX11_fewest_37 : decode cX11_fewest 37 = .ok (.getfield 80, 3) := by decide +kernel
theorem dX11_fewest_40 : decode cX11_fewest 40 = .ok (.getfield 130, 3) := by decide +kernel
theorem dX11_fewest_43 : decode cX11_fewest 43 = .ok (.iconst 0, 1) := by decide +kernel
theorem dX11_fewest_44 : decode cX11_fewest 44 = .ok (.iload_n 1, 1) := by decide +kernel
theorem dX11_fewest_45 : decode cX11_fewest 45 = .ok (.iastore, 1) := by decide +kernel
theorem dX11_fewest_46 : decode cX11_fewest 46 = .ok (.aload_n 0, 1) := by decide +kernel
theorem dX11_fewest_47 : decode cX11_fewest 47 = .ok (.getfield 71, 3) := by decide +kernel
theorem dX11_fewest_50 : decode cX11_fewest 50 = .ok (.aload_n 0, 1) := by decide +kernel
theorem dX11_fewest_51 : decode cX11_fewest 51 = .ok (.getfield 77, 3) := by decide +kernel
theorem dX11_fewest_54 : decode cX11_fewest 54 = .ok (.getfield 170, 3) := by decide +kernel
theorem dX11_fewest_57 : decode cX11_fewest 57 = .ok (.invokevirtual 190, 3) := by decide +kernel
theorem dX11_fewest_60 : decode cX11_fewest 60 = .ok (.aload_n 0, 1) := by decide +kernel
theorem dX11_fewest_61 : decode cX11_fewest 61 = .ok (.getfield 71, 3) := by decide +kernel
theorem dX11_fewest_64 : decode cX11_fewest 64 = .ok (.getfield 147, 3) := by decide +kernel
theorem dX11_fewest_67 : decode cX11_fewest 67 = .ok (.aload_n 0, 1) := by decide +kernel
theorem dX11_fewest_68 : decode cX11_fewest 68 = .ok (.getfield 77, 3) := by decide +kernel
theorem dX11_fewest_71 : decode cX11_fewest 71 = .ok (.getfield 170, 3) := by decide +kernel
theorem dX11_fewest_74 : decode cX11_fewest 74 = .ok (.iaload, 1) := by decide +kernel
theorem dX11_fewest_75 : decode cX11_fewest 75 = .ok (.aload_n 0, 1) := by decide +kernel
theorem dX11_fewest_76 : decode cX11_fewest 76 = .ok (.getfield 77, 3) := by decide +kernel
theorem dX11_fewest_79 : decode cX11_fewest 79 = .ok (.getfield 170, 3) := by decide +kernel
theorem dX11_fewest_82 : decode cX11_fewest 82 = .ok (.if_icmp .ne 5, 3) := by decide +kernel
theorem dX11_fewest_85 : decode cX11_fewest 85 = .ok (.iload_n 1, 1) := by decide +kernel
theorem dX11_fewest_86 : decode cX11_fewest 86 = .ok (.ireturn, 1) := by decide +kernel
theorem dX11_fewest_87 : decode cX11_fewest 87 = .ok (.iinc 1 1, 3) := by decide +kernel
theorem dX11_fewest_90 : decode cX11_fewest 90 = .ok (.goto (-60), 3) := by decide +kernel
theorem dX11_fewest_93 : decode cX11_fewest 93 = .ok (.bipush (-9), 2) := by decide +kernel
theorem dX11_fewest_95 : decode cX11_fewest 95 = .ok (.ireturn, 1) := by decide +kernel
theorem dX11_byLaw_0 : decode cX11_byLaw 0 = .ok (.iload_n 1, 1) := by decide +kernel
theorem dX11_byLaw_1 : decode cX11_byLaw 1 = .ok (.ifCond .lt 25, 3) := by decide +kernel
theorem dX11_byLaw_4 : decode cX11_byLaw 4 = .ok (.iload_n 1, 1) := by decide +kernel
theorem dX11_byLaw_5 : decode cX11_byLaw 5 = .ok (.getstatic 127, 3) := by decide +kernel
theorem dX11_byLaw_8 : decode cX11_byLaw 8 = .ok (.iconst 1, 1) := by decide +kernel
theorem dX11_byLaw_9 : decode cX11_byLaw 9 = .ok (.iaload, 1) := by decide +kernel
theorem dX11_byLaw_10 : decode cX11_byLaw 10 = .ok (.if_icmp .gt 16, 3) := by decide +kernel
theorem dX11_byLaw_13 : decode cX11_byLaw 13 = .ok (.iload_n 2, 1) := by decide +kernel
theorem dX11_byLaw_14 : decode cX11_byLaw 14 = .ok (.ifCond .lt 12, 3) := by decide +kernel
theorem dX11_byLaw_17 : decode cX11_byLaw 17 = .ok (.iload_n 2, 1) := by decide +kernel
theorem dX11_byLaw_18 : decode cX11_byLaw 18 = .ok (.getstatic 127, 3) := by decide +kernel
theorem dX11_byLaw_21 : decode cX11_byLaw 21 = .ok (.iconst 2, 1) := by decide +kernel
theorem dX11_byLaw_22 : decode cX11_byLaw 22 = .ok (.iaload, 1) := by decide +kernel
theorem dX11_byLaw_23 : decode cX11_byLaw 23 = .ok (.if_icmp .le 13, 3) := by decide +kernel
theorem dX11_byLaw_26 : decode cX11_byLaw 26 = .ok (.ldc 150, 2) := by decide +kernel
theorem dX11_byLaw_28 : decode cX11_byLaw 28 = .ok (.aload_n 0, 1) := by decide +kernel
theorem dX11_byLaw_29 : decode cX11_byLaw 29 = .ok (.bipush (-2), 2) := by decide +kernel
theorem dX11_byLaw_31 : decode cX11_byLaw 31 = .ok (.invokevirtual 92, 3) := by decide +kernel
theorem dX11_byLaw_34 : decode cX11_byLaw 34 = .ok (.isub, 1) := by decide +kernel
theorem dX11_byLaw_35 : decode cX11_byLaw 35 = .ok (.ireturn, 1) := by decide +kernel
theorem dX11_byLaw_36 : decode cX11_byLaw 36 = .ok (.aload_n 0, 1) := by decide +kernel
theorem dX11_byLaw_37 : decode cX11_byLaw 37 = .ok (.getfield 77, 3) := by decide +kernel
theorem dX11_byLaw_40 : decode cX11_byLaw 40 = .ok (.iload_n 3, 1) := by decide +kernel
theorem dX11_byLaw_41 : decode cX11_byLaw 41 = .ok (.invokevirtual 114, 3) := by decide +kernel
theorem dX11_byLaw_44 : decode cX11_byLaw 44 = .ok (.ifCond .eq 14, 3) := by decide +kernel
theorem dX11_byLaw_47 : decode cX11_byLaw 47 = .ok (.iload_n 3, 1) := by decide +kernel
theorem dX11_byLaw_48 : decode cX11_byLaw 48 = .ok (.aload_n 0, 1) := by decide +kernel
theorem dX11_byLaw_49 : decode cX11_byLaw 49 = .ok (.getfield 77, 3) := by decide +kernel
theorem dX11_byLaw_52 : decode cX11_byLaw 52 = .ok (.getfield 170, 3) := by decide +kernel
theorem dX11_byLaw_55 : decode cX11_byLaw 55 = .ok (.if_icmp .ge 12, 3) := by decide +kernel
theorem dX11_byLaw_58 : decode cX11_byLaw 58 = .ok (.ldc 150, 2) := by decide +kernel
theorem dX11_byLaw_60 : decode cX11_byLaw 60 = .ok (.aload_n 0, 1) := by decide +kernel
theorem dX11_byLaw_61 : decode cX11_byLaw 61 = .ok (.iconst (-1), 1) := by decide +kernel
theorem dX11_byLaw_62 : decode cX11_byLaw 62 = .ok (.invokevirtual 92, 3) := by decide +kernel
theorem dX11_byLaw_65 : decode cX11_byLaw 65 = .ok (.isub, 1) := by decide +kernel
theorem dX11_byLaw_66 : decode cX11_byLaw 66 = .ok (.ireturn, 1) := by decide +kernel
theorem dX11_byLaw_67 : decode cX11_byLaw 67 = .ok (.aload_n 0, 1) := by decide +kernel
theorem dX11_byLaw_68 : decode cX11_byLaw 68 = .ok (.getfield 77, 3) := by decide +kernel
theorem dX11_byLaw_71 : decode cX11_byLaw 71 = .ok (.invokevirtual 161, 3) := by decide +kernel
theorem dX11_byLaw_74 : decode cX11_byLaw 74 = .ok (.ifCond .eq 13, 3) := by decide +kernel
theorem dX11_byLaw_77 : decode cX11_byLaw 77 = .ok (.ldc 150, 2) := by decide +kernel
theorem dX11_byLaw_79 : decode cX11_byLaw 79 = .ok (.aload_n 0, 1) := by decide +kernel
theorem dX11_byLaw_80 : decode cX11_byLaw 80 = .ok (.bipush (-3), 2) := by decide +kernel
theorem dX11_byLaw_82 : decode cX11_byLaw 82 = .ok (.invokevirtual 92, 3) := by decide +kernel
theorem dX11_byLaw_85 : decode cX11_byLaw 85 = .ok (.isub, 1) := by decide +kernel
theorem dX11_byLaw_86 : decode cX11_byLaw 86 = .ok (.ireturn, 1) := by decide +kernel
theorem dX11_byLaw_87 : decode cX11_byLaw 87 = .ok (.aload_n 0, 1) := by decide +kernel
theorem dX11_byLaw_88 : decode cX11_byLaw 88 = .ok (.getfield 80, 3) := by decide +kernel
theorem dX11_byLaw_91 : decode cX11_byLaw 91 = .ok (.aload_n 0, 1) := by decide +kernel
theorem dX11_byLaw_92 : decode cX11_byLaw 92 = .ok (.getfield 77, 3) := by decide +kernel
theorem dX11_byLaw_95 : decode cX11_byLaw 95 = .ok (.invokevirtual 186, 3) := by decide +kernel
theorem dX11_byLaw_98 : decode cX11_byLaw 98 = .ok (.aload_n 0, 1) := by decide +kernel
theorem dX11_byLaw_99 : decode cX11_byLaw 99 = .ok (.getfield 80, 3) := by decide +kernel
theorem dX11_byLaw_102 : decode cX11_byLaw 102 = .ok (.getfield 130, 3) := by decide +kernel
theorem dX11_byLaw_105 : decode cX11_byLaw 105 = .ok (.iconst 1, 1) := by decide +kernel
theorem dX11_byLaw_106 : decode cX11_byLaw 106 = .ok (.iload_n 1, 1) := by decide +kernel
theorem dX11_byLaw_107 : decode cX11_byLaw 107 = .ok (.iastore, 1) := by decide +kernel
theorem dX11_byLaw_108 : decode cX11_byLaw 108 = .ok (.aload_n 0, 1) := by decide +kernel
theorem dX11_byLaw_109 : decode cX11_byLaw 109 = .ok (.getfield 80, 3) := by decide +kernel
theorem dX11_byLaw_112 : decode cX11_byLaw 112 = .ok (.getfield 130, 3) := by decide +kernel
theorem dX11_byLaw_115 : decode cX11_byLaw 115 = .ok (.iconst 2, 1) := by decide +kernel
theorem dX11_byLaw_116 : decode cX11_byLaw 116 = .ok (.iload_n 2, 1) := by decide +kernel
theorem dX11_byLaw_117 : decode cX11_byLaw 117 = .ok (.iastore, 1) := by decide +kernel
theorem dX11_byLaw_118 : decode cX11_byLaw 118 = .ok (.aload_n 0, 1) := by decide +kernel
theorem dX11_byLaw_119 : decode cX11_byLaw 119 = .ok (.getfield 71, 3) := by decide +kernel
theorem dX11_byLaw_122 : decode cX11_byLaw 122 = .ok (.aload_n 0, 1) := by decide +kernel
theorem dX11_byLaw_123 : decode cX11_byLaw 123 = .ok (.getfield 77, 3) := by decide +kernel
theorem dX11_byLaw_126 : decode cX11_byLaw 126 = .ok (.getfield 170, 3) := by decide +kernel
theorem dX11_byLaw_129 : decode cX11_byLaw 129 = .ok (.invokevirtual 190, 3) := by decide +kernel
theorem dX11_byLaw_132 : decode cX11_byLaw 132 = .ok (.aload_n 0, 1) := by decide +kernel
theorem dX11_byLaw_133 : decode cX11_byLaw 133 = .ok (.getfield 71, 3) := by decide +kernel
theorem dX11_byLaw_136 : decode cX11_byLaw 136 = .ok (.getfield 151, 3) := by decide +kernel
theorem dX11_byLaw_139 : decode cX11_byLaw 139 = .ok (.aload_n 0, 1) := by decide +kernel
theorem dX11_byLaw_140 : decode cX11_byLaw 140 = .ok (.getfield 77, 3) := by decide +kernel
theorem dX11_byLaw_143 : decode cX11_byLaw 143 = .ok (.getfield 170, 3) := by decide +kernel
theorem dX11_byLaw_146 : decode cX11_byLaw 146 = .ok (.aaload, 1) := by decide +kernel
theorem dX11_byLaw_147 : decode cX11_byLaw 147 = .ok (.iload_n 3, 1) := by decide +kernel
theorem dX11_byLaw_148 : decode cX11_byLaw 148 = .ok (.iaload, 1) := by decide +kernel
theorem dX11_byLaw_149 : decode cX11_byLaw 149 = .ok (.ireturn, 1) := by decide +kernel
theorem dX11_gains_0 : decode cX11_gains 0 = .ok (.aload_n 0, 1) := by decide +kernel
theorem dX11_gains_1 : decode cX11_gains 1 = .ok (.getfield 77, 3) := by decide +kernel
theorem dX11_gains_4 : decode cX11_gains 4 = .ok (.getfield 193, 3) := by decide +kernel
theorem dX11_gains_7 : decode cX11_gains 7 = .ok (.ifCond .eq 15, 3) := by decide +kernel
theorem dX11_gains_10 : decode cX11_gains 10 = .ok (.aload_n 0, 1) := by decide +kernel
theorem dX11_gains_11 : decode cX11_gains 11 = .ok (.getfield 77, 3) := by decide +kernel
theorem dX11_gains_14 : decode cX11_gains 14 = .ok (.getfield 193, 3) := by decide +kernel
theorem dX11_gains_17 : decode cX11_gains 17 = .ok (.bipush 8, 2) := by decide +kernel
theorem dX11_gains_19 : decode cX11_gains 19 = .ok (.if_icmp .lt 5, 3) := by decide +kernel
theorem dX11_gains_22 : decode cX11_gains 22 = .ok (.iconst 0, 1) := by decide +kernel
theorem dX11_gains_23 : decode cX11_gains 23 = .ok (.ireturn, 1) := by decide +kernel
theorem dX11_gains_24 : decode cX11_gains 24 = .ok (.aload_n 0, 1) := by decide +kernel
theorem dX11_gains_25 : decode cX11_gains 25 = .ok (.getfield 80, 3) := by decide +kernel
theorem dX11_gains_28 : decode cX11_gains 28 = .ok (.aload_n 0, 1) := by decide +kernel
theorem dX11_gains_29 : decode cX11_gains 29 = .ok (.getfield 77, 3) := by decide +kernel
theorem dX11_gains_32 : decode cX11_gains 32 = .ok (.invokevirtual 186, 3) := by decide +kernel
theorem dX11_gains_35 : decode cX11_gains 35 = .ok (.aload_n 0, 1) := by decide +kernel
theorem dX11_gains_36 : decode cX11_gains 36 = .ok (.getfield 80, 3) := by decide +kernel
theorem dX11_gains_39 : decode cX11_gains 39 = .ok (.iconst 0, 1) := by decide +kernel
theorem dX11_gains_40 : decode cX11_gains 40 = .ok (.putfield 193, 3) := by decide +kernel
theorem dX11_gains_43 : decode cX11_gains 43 = .ok (.aload_n 0, 1) := by decide +kernel
theorem dX11_gains_44 : decode cX11_gains 44 = .ok (.getfield 80, 3) := by decide +kernel
theorem dX11_gains_47 : decode cX11_gains 47 = .ok (.iconst 0, 1) := by decide +kernel
theorem dX11_gains_48 : decode cX11_gains 48 = .ok (.iconst 0, 1) := by decide +kernel
theorem dX11_gains_49 : decode cX11_gains 49 = .ok (.iconst 1, 1) := by decide +kernel
theorem dX11_gains_50 : decode cX11_gains 50 = .ok (.invokevirtual 196, 3) := by decide +kernel
theorem dX11_gains_53 : decode cX11_gains 53 = .ok (.iconst 0, 1) := by decide +kernel
theorem dX11_gains_54 : decode cX11_gains 54 = .ok (.istore_n 1, 1) := by decide +kernel
theorem dX11_gains_55 : decode cX11_gains 55 = .ok (.iload_n 1, 1) := by decide +kernel
theorem dX11_gains_56 : decode cX11_gains 56 = .ok (.aload_n 0, 1) := by decide +kernel
theorem dX11_gains_57 : decode cX11_gains 57 = .ok (.getfield 77, 3) := by decide +kernel
theorem dX11_gains_60 : decode cX11_gains 60 = .ok (.getfield 193, 3) := by decide +kernel
theorem dX11_gains_63 : decode cX11_gains 63 = .ok (.if_icmp .ge 43, 3) := by decide +kernel
theorem dX11_gains_66 : decode cX11_gains 66 = .ok (.aload_n 0, 1) := by decide +kernel
theorem dX11_gains_67 : decode cX11_gains 67 = .ok (.getfield 80, 3) := by decide +kernel
theorem dX11_gains_70 : decode cX11_gains 70 = .ok (.aload_n 0, 1) := by decide +kernel
theorem dX11_gains_71 : decode cX11_gains 71 = .ok (.getfield 77, 3) := by decide +kernel
theorem dX11_gains_74 : decode cX11_gains 74 = .ok (.getfield 118, 3) := by decide +kernel
theorem dX11_gains_77 : decode cX11_gains 77 = .ok (.iload_n 1, 1) := by decide +kernel
theorem dX11_gains_78 : decode cX11_gains 78 = .ok (.iaload, 1) := by decide +kernel
theorem dX11_gains_79 : decode cX11_gains 79 = .ok (.aload_n 0, 1) := by decide +kernel
theorem dX11_gains_80 : decode cX11_gains 80 = .ok (.getfield 77, 3) := by decide +kernel
theorem dX11_gains_83 : decode cX11_gains 83 = .ok (.getfield 121, 3) := by decide +kernel
theorem dX11_gains_86 : decode cX11_gains 86 = .ok (.iload_n 1, 1) := by decide +kernel
theorem dX11_gains_87 : decode cX11_gains 87 = .ok (.iaload, 1) := by decide +kernel
theorem dX11_gains_88 : decode cX11_gains 88 = .ok (.aload_n 0, 1) := by decide +kernel
theorem dX11_gains_89 : decode cX11_gains 89 = .ok (.getfield 77, 3) := by decide +kernel
theorem dX11_gains_92 : decode cX11_gains 92 = .ok (.getfield 124, 3) := by decide +kernel
theorem dX11_gains_95 : decode cX11_gains 95 = .ok (.iload_n 1, 1) := by decide +kernel
theorem dX11_gains_96 : decode cX11_gains 96 = .ok (.iaload, 1) := by decide +kernel
theorem dX11_gains_97 : decode cX11_gains 97 = .ok (.invokevirtual 196, 3) := by decide +kernel
theorem dX11_gains_100 : decode cX11_gains 100 = .ok (.iinc 1 1, 3) := by decide +kernel
theorem dX11_gains_103 : decode cX11_gains 103 = .ok (.goto (-48), 3) := by decide +kernel
theorem dX11_gains_106 : decode cX11_gains 106 = .ok (.aload_n 0, 1) := by decide +kernel
theorem dX11_gains_107 : decode cX11_gains 107 = .ok (.getfield 71, 3) := by decide +kernel
theorem dX11_gains_110 : decode cX11_gains 110 = .ok (.iconst 0, 1) := by decide +kernel
theorem dX11_gains_111 : decode cX11_gains 111 = .ok (.invokevirtual 190, 3) := by decide +kernel
theorem dX11_gains_114 : decode cX11_gains 114 = .ok (.aload_n 0, 1) := by decide +kernel
theorem dX11_gains_115 : decode cX11_gains 115 = .ok (.invokevirtual 133, 3) := by decide +kernel
theorem dX11_gains_118 : decode cX11_gains 118 = .ok (.astore_n 1, 1) := by decide +kernel
theorem dX11_gains_119 : decode cX11_gains 119 = .ok (.iconst 0, 1) := by decide +kernel
theorem dX11_gains_120 : decode cX11_gains 120 = .ok (.istore_n 2, 1) := by decide +kernel
theorem dX11_gains_121 : decode cX11_gains 121 = .ok (.iconst 0, 1) := by decide +kernel
theorem dX11_gains_122 : decode cX11_gains 122 = .ok (.istore_n 3, 1) := by decide +kernel
theorem dX11_gains_123 : decode cX11_gains 123 = .ok (.iload_n 3, 1) := by decide +kernel
theorem dX11_gains_124 : decode cX11_gains 124 = .ok (.aload_n 0, 1) := by decide +kernel
theorem dX11_gains_125 : decode cX11_gains 125 = .ok (.getfield 77, 3) := by decide +kernel
theorem dX11_gains_128 : decode cX11_gains 128 = .ok (.getfield 193, 3) := by decide +kernel
theorem dX11_gains_131 : decode cX11_gains 131 = .ok (.if_icmp .ge 39, 3) := by decide +kernel
theorem dX11_gains_134 : decode cX11_gains 134 = .ok (.aload_n 0, 1) := by decide +kernel
theorem dX11_gains_135 : decode cX11_gains 135 = .ok (.getfield 71, 3) := by decide +kernel
theorem dX11_gains_138 : decode cX11_gains 138 = .ok (.getfield 151, 3) := by decide +kernel
theorem dX11_gains_141 : decode cX11_gains 141 = .ok (.iconst 0, 1) := by decide +kernel
theorem dX11_gains_142 : decode cX11_gains 142 = .ok (.aaload, 1) := by decide +kernel
theorem dX11_gains_143 : decode cX11_gains 143 = .ok (.iload_n 3, 1) := by decide +kernel
theorem dX11_gains_144 : decode cX11_gains 144 = .ok (.iconst 1, 1) := by decide +kernel
theorem dX11_gains_145 : decode cX11_gains 145 = .ok (.iadd, 1) := by decide +kernel
theorem dX11_gains_146 : decode cX11_gains 146 = .ok (.iaload, 1) := by decide +kernel
theorem dX11_gains_147 : decode cX11_gains 147 = .ok (.aload_n 1, 1) := by decide +kernel
theorem dX11_gains_148 : decode cX11_gains 148 = .ok (.getfield 151, 3) := by decide +kernel
theorem dX11_gains_151 : decode cX11_gains 151 = .ok (.iconst 0, 1) := by decide +kernel
theorem dX11_gains_152 : decode cX11_gains 152 = .ok (.aaload, 1) := by decide +kernel
theorem dX11_gains_153 : decode cX11_gains 153 = .ok (.iload_n 3, 1) := by decide +kernel
theorem dX11_gains_154 : decode cX11_gains 154 = .ok (.iaload, 1) := by decide +kernel
theorem dX11_gains_155 : decode cX11_gains 155 = .ok (.if_icmp .le 9, 3) := by decide +kernel
theorem dX11_gains_158 : decode cX11_gains 158 = .ok (.iload_n 2, 1) := by decide +kernel
theorem dX11_gains_159 : decode cX11_gains 159 = .ok (.iconst 1, 1) := by decide +kernel
theorem dX11_gains_160 : decode cX11_gains 160 = .ok (.iload_n 3, 1) := by decide +kernel
theorem dX11_gains_161 : decode cX11_gains 161 = .ok (.ishl, 1) := by decide +kernel
theorem dX11_gains_162 : decode cX11_gains 162 = .ok (.ior, 1) := by decide +kernel
theorem dX11_gains_163 : decode cX11_gains 163 = .ok (.istore_n 2, 1) := by decide +kernel
theorem dX11_gains_164 : decode cX11_gains 164 = .ok (.iinc 3 1, 3) := by decide +kernel
theorem dX11_gains_167 : decode cX11_gains 167 = .ok (.goto (-44), 3) := by decide +kernel
theorem dX11_gains_170 : decode cX11_gains 170 = .ok (.iload_n 2, 1) := by decide +kernel
theorem dX11_gains_171 : decode cX11_gains 171 = .ok (.ireturn, 1) := by decide +kernel
theorem dX11_swap_0 : decode cX11_swap 0 = .ok (.aload_n 0, 1) := by decide +kernel
theorem dX11_swap_1 : decode cX11_swap 1 = .ok (.getfield 77, 3) := by decide +kernel
theorem dX11_swap_4 : decode cX11_swap 4 = .ok (.iload_n 1, 1) := by decide +kernel
theorem dX11_swap_5 : decode cX11_swap 5 = .ok (.invokevirtual 114, 3) := by decide +kernel
theorem dX11_swap_8 : decode cX11_swap 8 = .ok (.ifCond .eq 19, 3) := by decide +kernel
theorem dX11_swap_11 : decode cX11_swap 11 = .ok (.aload_n 0, 1) := by decide +kernel
theorem dX11_swap_12 : decode cX11_swap 12 = .ok (.getfield 77, 3) := by decide +kernel
theorem dX11_swap_15 : decode cX11_swap 15 = .ok (.iload_n 2, 1) := by decide +kernel
theorem dX11_swap_16 : decode cX11_swap 16 = .ok (.invokevirtual 114, 3) := by decide +kernel
theorem dX11_swap_19 : decode cX11_swap 19 = .ok (.ifCond .eq 8, 3) := by decide +kernel
theorem dX11_swap_22 : decode cX11_swap 22 = .ok (.iload_n 1, 1) := by decide +kernel
theorem dX11_swap_23 : decode cX11_swap 23 = .ok (.iload_n 2, 1) := by decide +kernel
theorem dX11_swap_24 : decode cX11_swap 24 = .ok (.if_icmp .ne 9, 3) := by decide +kernel
theorem dX11_swap_27 : decode cX11_swap 27 = .ok (.aload_n 0, 1) := by decide +kernel
theorem dX11_swap_28 : decode cX11_swap 28 = .ok (.iconst (-1), 1) := by decide +kernel
theorem dX11_swap_29 : decode cX11_swap 29 = .ok (.invokevirtual 92, 3) := by decide +kernel
theorem dX11_swap_32 : decode cX11_swap 32 = .ok (.ireturn, 1) := by decide +kernel
theorem dX11_swap_33 : decode cX11_swap 33 = .ok (.aload_n 0, 1) := by decide +kernel
theorem dX11_swap_34 : decode cX11_swap 34 = .ok (.getfield 77, 3) := by decide +kernel
theorem dX11_swap_37 : decode cX11_swap 37 = .ok (.invokevirtual 161, 3) := by decide +kernel
theorem dX11_swap_40 : decode cX11_swap 40 = .ok (.ifCond .ne 13, 3) := by decide +kernel
theorem dX11_swap_43 : decode cX11_swap 43 = .ok (.aload_n 0, 1) := by decide +kernel
theorem dX11_swap_44 : decode cX11_swap 44 = .ok (.getfield 77, 3) := by decide +kernel
theorem dX11_swap_47 : decode cX11_swap 47 = .ok (.getfield 170, 3) := by decide +kernel
theorem dX11_swap_50 : decode cX11_swap 50 = .ok (.ifCond .le 10, 3) := by decide +kernel
theorem dX11_swap_53 : decode cX11_swap 53 = .ok (.aload_n 0, 1) := by decide +kernel
theorem dX11_swap_54 : decode cX11_swap 54 = .ok (.bipush (-3), 2) := by decide +kernel
theorem dX11_swap_56 : decode cX11_swap 56 = .ok (.invokevirtual 92, 3) := by decide +kernel
theorem dX11_swap_59 : decode cX11_swap 59 = .ok (.ireturn, 1) := by decide +kernel
theorem dX11_swap_60 : decode cX11_swap 60 = .ok (.aload_n 0, 1) := by decide +kernel
theorem dX11_swap_61 : decode cX11_swap 61 = .ok (.invokevirtual 199, 3) := by decide +kernel
theorem dX11_swap_64 : decode cX11_swap 64 = .ok (.aload_n 0, 1) := by decide +kernel
theorem dX11_swap_65 : decode cX11_swap 65 = .ok (.getfield 23, 3) := by decide +kernel
theorem dX11_swap_68 : decode cX11_swap 68 = .ok (.iload_n 1, 1) := by decide +kernel
theorem dX11_swap_69 : decode cX11_swap 69 = .ok (.iload_n 2, 1) := by decide +kernel
theorem dX11_swap_70 : decode cX11_swap 70 = .ok (.iastore, 1) := by decide +kernel
theorem dX11_swap_71 : decode cX11_swap 71 = .ok (.aload_n 0, 1) := by decide +kernel
theorem dX11_swap_72 : decode cX11_swap 72 = .ok (.getfield 23, 3) := by decide +kernel
theorem dX11_swap_75 : decode cX11_swap 75 = .ok (.iload_n 2, 1) := by decide +kernel
theorem dX11_swap_76 : decode cX11_swap 76 = .ok (.iload_n 1, 1) := by decide +kernel
theorem dX11_swap_77 : decode cX11_swap 77 = .ok (.iastore, 1) := by decide +kernel
theorem dX11_swap_78 : decode cX11_swap 78 = .ok (.aload_n 0, 1) := by decide +kernel
theorem dX11_swap_79 : decode cX11_swap 79 = .ok (.invokevirtual 202, 3) := by decide +kernel
theorem dX11_swap_82 : decode cX11_swap 82 = .ok (.aload_n 0, 1) := by decide +kernel
theorem dX11_swap_83 : decode cX11_swap 83 = .ok (.getfield 77, 3) := by decide +kernel
theorem dX11_swap_86 : decode cX11_swap 86 = .ok (.aload_n 0, 1) := by decide +kernel
theorem dX11_swap_87 : decode cX11_swap 87 = .ok (.getfield 80, 3) := by decide +kernel
theorem dX11_swap_90 : decode cX11_swap 90 = .ok (.invokevirtual 186, 3) := by decide +kernel
theorem dX11_swap_93 : decode cX11_swap 93 = .ok (.aload_n 0, 1) := by decide +kernel
theorem dX11_swap_94 : decode cX11_swap 94 = .ok (.iconst 1, 1) := by decide +kernel
theorem dX11_swap_95 : decode cX11_swap 95 = .ok (.putfield 37, 3) := by decide +kernel
theorem dX11_swap_98 : decode cX11_swap 98 = .ok (.iconst 1, 1) := by decide +kernel
theorem dX11_swap_99 : decode cX11_swap 99 = .ok (.ireturn, 1) := by decide +kernel
theorem dX11_bestAge_0 : decode cX11_bestAge 0 = .ok (.aload_n 0, 1) := by decide +kernel
theorem dX11_bestAge_1 : decode cX11_bestAge 1 = .ok (.getfield 77, 3) := by decide +kernel
theorem dX11_bestAge_4 : decode cX11_bestAge 4 = .ok (.iload_n 1, 1) := by decide +kernel
theorem dX11_bestAge_5 : decode cX11_bestAge 5 = .ok (.invokevirtual 114, 3) := by decide +kernel
theorem dX11_bestAge_8 : decode cX11_bestAge 8 = .ok (.ifCond .ne 9, 3) := by decide +kernel
theorem dX11_bestAge_11 : decode cX11_bestAge 11 = .ok (.aload_n 0, 1) := by decide +kernel
theorem dX11_bestAge_12 : decode cX11_bestAge 12 = .ok (.iconst (-1), 1) := by decide +kernel
theorem dX11_bestAge_13 : decode cX11_bestAge 13 = .ok (.invokevirtual 92, 3) := by decide +kernel
theorem dX11_bestAge_16 : decode cX11_bestAge 16 = .ok (.ireturn, 1) := by decide +kernel
theorem dX11_bestAge_17 : decode cX11_bestAge 17 = .ok (.iconst 0, 1) := by decide +kernel
theorem dX11_bestAge_18 : decode cX11_bestAge 18 = .ok (.istore_n 2, 1) := by decide +kernel
theorem dX11_bestAge_19 : decode cX11_bestAge 19 = .ok (.iconst (-1), 1) := by decide +kernel
theorem dX11_bestAge_20 : decode cX11_bestAge 20 = .ok (.istore_n 3, 1) := by decide +kernel
theorem dX11_bestAge_21 : decode cX11_bestAge 21 = .ok (.iconst 0, 1) := by decide +kernel
theorem dX11_bestAge_22 : decode cX11_bestAge 22 = .ok (.istore 4, 2) := by decide +kernel
theorem dX11_bestAge_24 : decode cX11_bestAge 24 = .ok (.iload 4, 2) := by decide +kernel
theorem dX11_bestAge_26 : decode cX11_bestAge 26 = .ok (.aload_n 0, 1) := by decide +kernel
theorem dX11_bestAge_27 : decode cX11_bestAge 27 = .ok (.getfield 77, 3) := by decide +kernel
end
section
theorem dX11_bestAge_30 : decode cX11_bestAge 30 = .ok (.getfield 193, 3) := by decide +kernel
theorem dX11_bestAge_33 : decode cX11_bestAge 33 = .ok (.if_icmp .ge 60, 3) := by decide +kernel
theorem dX11_bestAge_36 : decode cX11_bestAge 36 = .ok (.aload_n 0, 1) := by decide +kernel
theorem dX11_bestAge_37 : decode cX11_bestAge 37 = .ok (.iload_n 1, 1) := by decide +kernel
theorem dX11_bestAge_38 : decode cX11_bestAge 38 = .ok (.iload 4, 2) := by decide +kernel
theorem dX11_bestAge_40 : decode cX11_bestAge 40 = .ok (.invokevirtual 205, 3) := by decide +kernel
theorem dX11_bestAge_43 : decode cX11_bestAge 43 = .ok (.aload_n 0, 1) := by decide +kernel
theorem dX11_bestAge_44 : decode cX11_bestAge 44 = .ok (.invokevirtual 202, 3) := by decide +kernel
theorem dX11_bestAge_47 : decode cX11_bestAge 47 = .ok (.aload_n 0, 1) := by decide +kernel
theorem dX11_bestAge_48 : decode cX11_bestAge 48 = .ok (.getfield 71, 3) := by decide +kernel
theorem dX11_bestAge_51 : decode cX11_bestAge 51 = .ok (.iconst 0, 1) := by decide +kernel
theorem dX11_bestAge_52 : decode cX11_bestAge 52 = .ok (.invokevirtual 190, 3) := by decide +kernel
theorem dX11_bestAge_55 : decode cX11_bestAge 55 = .ok (.aload_n 0, 1) := by decide +kernel
theorem dX11_bestAge_56 : decode cX11_bestAge 56 = .ok (.getfield 71, 3) := by decide +kernel
theorem dX11_bestAge_59 : decode cX11_bestAge 59 = .ok (.getfield 151, 3) := by decide +kernel
theorem dX11_bestAge_62 : decode cX11_bestAge 62 = .ok (.iconst 0, 1) := by decide +kernel
theorem dX11_bestAge_63 : decode cX11_bestAge 63 = .ok (.aaload, 1) := by decide +kernel
theorem dX11_bestAge_64 : decode cX11_bestAge 64 = .ok (.iload 4, 2) := by decide +kernel
theorem dX11_bestAge_66 : decode cX11_bestAge 66 = .ok (.iaload, 1) := by decide +kernel
theorem dX11_bestAge_67 : decode cX11_bestAge 67 = .ok (.iload_n 3, 1) := by decide +kernel
theorem dX11_bestAge_68 : decode cX11_bestAge 68 = .ok (.if_icmp .le 19, 3) := by decide +kernel
theorem dX11_bestAge_71 : decode cX11_bestAge 71 = .ok (.aload_n 0, 1) := by decide +kernel
theorem dX11_bestAge_72 : decode cX11_bestAge 72 = .ok (.getfield 71, 3) := by decide +kernel
theorem dX11_bestAge_75 : decode cX11_bestAge 75 = .ok (.getfield 151, 3) := by decide +kernel
theorem dX11_bestAge_78 : decode cX11_bestAge 78 = .ok (.iconst 0, 1) := by decide +kernel
theorem dX11_bestAge_79 : decode cX11_bestAge 79 = .ok (.aaload, 1) := by decide +kernel
theorem dX11_bestAge_80 : decode cX11_bestAge 80 = .ok (.iload 4, 2) := by decide +kernel
theorem dX11_bestAge_82 : decode cX11_bestAge 82 = .ok (.iaload, 1) := by decide +kernel
theorem dX11_bestAge_83 : decode cX11_bestAge 83 = .ok (.istore_n 3, 1) := by decide +kernel
theorem dX11_bestAge_84 : decode cX11_bestAge 84 = .ok (.iload 4, 2) := by decide +kernel
theorem dX11_bestAge_86 : decode cX11_bestAge 86 = .ok (.istore_n 2, 1) := by decide +kernel
theorem dX11_bestAge_87 : decode cX11_bestAge 87 = .ok (.iinc 4 1, 3) := by decide +kernel
theorem dX11_bestAge_90 : decode cX11_bestAge 90 = .ok (.goto (-66), 3) := by decide +kernel
theorem dX11_bestAge_93 : decode cX11_bestAge 93 = .ok (.iload_n 2, 1) := by decide +kernel
theorem dX11_bestAge_94 : decode cX11_bestAge 94 = .ok (.ireturn, 1) := by decide +kernel
theorem dX11_league_0 : decode cX11_league 0 = .ok (.aload_n 0, 1) := by decide +kernel
theorem dX11_league_1 : decode cX11_league 1 = .ok (.getfield 77, 3) := by decide +kernel
theorem dX11_league_4 : decode cX11_league 4 = .ok (.invokevirtual 161, 3) := by decide +kernel
theorem dX11_league_7 : decode cX11_league 7 = .ok (.ifCond .eq 10, 3) := by decide +kernel
theorem dX11_league_10 : decode cX11_league 10 = .ok (.aload_n 0, 1) := by decide +kernel
theorem dX11_league_11 : decode cX11_league 11 = .ok (.bipush (-3), 2) := by decide +kernel
theorem dX11_league_13 : decode cX11_league 13 = .ok (.invokevirtual 92, 3) := by decide +kernel
theorem dX11_league_16 : decode cX11_league 16 = .ok (.ireturn, 1) := by decide +kernel
theorem dX11_league_17 : decode cX11_league 17 = .ok (.iconst 1, 1) := by decide +kernel
theorem dX11_league_18 : decode cX11_league 18 = .ok (.aload_n 0, 1) := by decide +kernel
theorem dX11_league_19 : decode cX11_league 19 = .ok (.getfield 77, 3) := by decide +kernel
theorem dX11_league_22 : decode cX11_league 22 = .ok (.getfield 193, 3) := by decide +kernel
theorem dX11_league_25 : decode cX11_league 25 = .ok (.ishl, 1) := by decide +kernel
theorem dX11_league_26 : decode cX11_league 26 = .ok (.iconst 2, 1) := by decide +kernel
theorem dX11_league_27 : decode cX11_league 27 = .ok (.aload_n 0, 1) := by decide +kernel
theorem dX11_league_28 : decode cX11_league 28 = .ok (.getfield 77, 3) := by decide +kernel
theorem dX11_league_31 : decode cX11_league 31 = .ok (.getfield 170, 3) := by decide +kernel
theorem dX11_league_34 : decode cX11_league 34 = .ok (.ishl, 1) := by decide +kernel
theorem dX11_league_35 : decode cX11_league 35 = .ok (.isub, 1) := by decide +kernel
theorem dX11_league_36 : decode cX11_league 36 = .ok (.istore_n 2, 1) := by decide +kernel
theorem dX11_league_37 : decode cX11_league 37 = .ok (.iload_n 1, 1) := by decide +kernel
theorem dX11_league_38 : decode cX11_league 38 = .ok (.iload_n 2, 1) := by decide +kernel
theorem dX11_league_39 : decode cX11_league 39 = .ok (.iconst (-1), 1) := by decide +kernel
theorem dX11_league_40 : decode cX11_league 40 = .ok (.ixor, 1) := by decide +kernel
theorem dX11_league_41 : decode cX11_league 41 = .ok (.iand, 1) := by decide +kernel
theorem dX11_league_42 : decode cX11_league 42 = .ok (.ifCond .ne 11, 3) := by decide +kernel
theorem dX11_league_45 : decode cX11_league 45 = .ok (.iload_n 1, 1) := by decide +kernel
theorem dX11_league_46 : decode cX11_league 46 = .ok (.invokestatic 209, 3) := by decide +kernel
theorem dX11_league_49 : decode cX11_league 49 = .ok (.iconst 2, 1) := by decide +kernel
theorem dX11_league_50 : decode cX11_league 50 = .ok (.if_icmp .ge 9, 3) := by decide +kernel
theorem dX11_league_53 : decode cX11_league 53 = .ok (.aload_n 0, 1) := by decide +kernel
theorem dX11_league_54 : decode cX11_league 54 = .ok (.iconst (-1), 1) := by decide +kernel
theorem dX11_league_55 : decode cX11_league 55 = .ok (.invokevirtual 92, 3) := by decide +kernel
theorem dX11_league_58 : decode cX11_league 58 = .ok (.ireturn, 1) := by decide +kernel
theorem dX11_league_59 : decode cX11_league 59 = .ok (.aload_n 0, 1) := by decide +kernel
theorem dX11_league_60 : decode cX11_league 60 = .ok (.invokevirtual 133, 3) := by decide +kernel
theorem dX11_league_63 : decode cX11_league 63 = .ok (.aload_n 0, 1) := by decide +kernel
theorem dX11_league_64 : decode cX11_league 64 = .ok (.getfield 77, 3) := by decide +kernel
theorem dX11_league_67 : decode cX11_league 67 = .ok (.getfield 170, 3) := by decide +kernel
theorem dX11_league_70 : decode cX11_league 70 = .ok (.iload_n 1, 1) := by decide +kernel
theorem dX11_league_71 : decode cX11_league 71 = .ok (.invokevirtual 214, 3) := by decide +kernel
theorem dX11_league_74 : decode cX11_league 74 = .ok (.ifCond .eq 7, 3) := by decide +kernel
theorem dX11_league_77 : decode cX11_league 77 = .ok (.iconst 1, 1) := by decide +kernel
theorem dX11_league_78 : decode cX11_league 78 = .ok (.goto 4, 3) := by decide +kernel
theorem dX11_league_81 : decode cX11_league 81 = .ok (.iconst 0, 1) := by decide +kernel
theorem dX11_league_82 : decode cX11_league 82 = .ok (.ireturn, 1) := by decide +kernel
theorem dX11_shaken_0 : decode cX11_shaken 0 = .ok (.iload_n 1, 1) := by decide +kernel
theorem dX11_shaken_1 : decode cX11_shaken 1 = .ok (.ifCond .lt 8, 3) := by decide +kernel
theorem dX11_shaken_4 : decode cX11_shaken 4 = .ok (.iload_n 1, 1) := by decide +kernel
theorem dX11_shaken_5 : decode cX11_shaken 5 = .ok (.iconst 1, 1) := by decide +kernel
theorem dX11_shaken_6 : decode cX11_shaken 6 = .ok (.if_icmp .le 15, 3) := by decide +kernel
theorem dX11_shaken_9 : decode cX11_shaken 9 = .ok (.ldc2_w 218, 3) := by decide +kernel
theorem dX11_shaken_12 : decode cX11_shaken 12 = .ok (.aload_n 0, 1) := by decide +kernel
theorem dX11_shaken_13 : decode cX11_shaken 13 = .ok (.bipush (-2), 2) := by decide +kernel
theorem dX11_shaken_15 : decode cX11_shaken 15 = .ok (.invokevirtual 92, 3) := by decide +kernel
theorem dX11_shaken_18 : decode cX11_shaken 18 = .ok (.i2l, 1) := by decide +kernel
theorem dX11_shaken_19 : decode cX11_shaken 19 = .ok (.lsub, 1) := by decide +kernel
theorem dX11_shaken_20 : decode cX11_shaken 20 = .ok (.lreturn, 1) := by decide +kernel
theorem dX11_shaken_21 : decode cX11_shaken 21 = .ok (.aload_n 0, 1) := by decide +kernel
theorem dX11_shaken_22 : decode cX11_shaken 22 = .ok (.getfield 77, 3) := by decide +kernel
theorem dX11_shaken_25 : decode cX11_shaken 25 = .ok (.invokevirtual 161, 3) := by decide +kernel
theorem dX11_shaken_28 : decode cX11_shaken 28 = .ok (.ifCond .eq 15, 3) := by decide +kernel
theorem dX11_shaken_31 : decode cX11_shaken 31 = .ok (.ldc2_w 218, 3) := by decide +kernel
theorem dX11_shaken_34 : decode cX11_shaken 34 = .ok (.aload_n 0, 1) := by decide +kernel
theorem dX11_shaken_35 : decode cX11_shaken 35 = .ok (.bipush (-3), 2) := by decide +kernel
theorem dX11_shaken_37 : decode cX11_shaken 37 = .ok (.invokevirtual 92, 3) := by decide +kernel
theorem dX11_shaken_40 : decode cX11_shaken 40 = .ok (.i2l, 1) := by decide +kernel
theorem dX11_shaken_41 : decode cX11_shaken 41 = .ok (.lsub, 1) := by decide +kernel
theorem dX11_shaken_42 : decode cX11_shaken 42 = .ok (.lreturn, 1) := by decide +kernel
theorem dX11_shaken_43 : decode cX11_shaken 43 = .ok (.aload_n 0, 1) := by decide +kernel
theorem dX11_shaken_44 : decode cX11_shaken 44 = .ok (.aload_n 0, 1) := by decide +kernel
theorem dX11_shaken_45 : decode cX11_shaken 45 = .ok (.invokevirtual 133, 3) := by decide +kernel
theorem dX11_shaken_48 : decode cX11_shaken 48 = .ok (.getfield 144, 3) := by decide +kernel
theorem dX11_shaken_51 : decode cX11_shaken 51 = .ok (.aload_n 0, 1) := by decide +kernel
theorem dX11_shaken_52 : decode cX11_shaken 52 = .ok (.getfield 77, 3) := by decide +kernel
theorem dX11_shaken_55 : decode cX11_shaken 55 = .ok (.getfield 170, 3) := by decide +kernel
theorem dX11_shaken_58 : decode cX11_shaken 58 = .ok (.iaload, 1) := by decide +kernel
theorem dX11_shaken_59 : decode cX11_shaken 59 = .ok (.invokevirtual 220, 3) := by decide +kernel
theorem dX11_shaken_62 : decode cX11_shaken 62 = .ok (.lstore_n 2, 1) := by decide +kernel
theorem dX11_shaken_63 : decode cX11_shaken 63 = .ok (.aload_n 0, 1) := by decide +kernel
theorem dX11_shaken_64 : decode cX11_shaken 64 = .ok (.invokevirtual 224, 3) := by decide +kernel
theorem dX11_shaken_67 : decode cX11_shaken 67 = .ok (.lstore 4, 2) := by decide +kernel
theorem dX11_shaken_69 : decode cX11_shaken 69 = .ok (.lload 4, 2) := by decide +kernel
theorem dX11_shaken_71 : decode cX11_shaken 71 = .ok (.lload_n 2, 1) := by decide +kernel
theorem dX11_shaken_72 : decode cX11_shaken 72 = .ok (.invokestatic 228, 3) := by decide +kernel
theorem dX11_shaken_75 : decode cX11_shaken 75 = .ok (.lstore 6, 2) := by decide +kernel
theorem dX11_shaken_77 : decode cX11_shaken 77 = .ok (.lload 6, 2) := by decide +kernel
theorem dX11_shaken_79 : decode cX11_shaken 79 = .ok (.lconst 0, 1) := by decide +kernel
theorem dX11_shaken_80 : decode cX11_shaken 80 = .ok (.lcmp, 1) := by decide +kernel
theorem dX11_shaken_81 : decode cX11_shaken 81 = .ok (.ifCond .gt 5, 3) := by decide +kernel
theorem dX11_shaken_84 : decode cX11_shaken 84 = .ok (.lconst 0, 1) := by decide +kernel
theorem dX11_shaken_85 : decode cX11_shaken 85 = .ok (.lreturn, 1) := by decide +kernel
theorem dX11_shaken_86 : decode cX11_shaken 86 = .ok (.iload_n 1, 1) := by decide +kernel
theorem dX11_shaken_87 : decode cX11_shaken 87 = .ok (.ifCond .ne 8, 3) := by decide +kernel
theorem dX11_shaken_90 : decode cX11_shaken 90 = .ok (.lload 4, 2) := by decide +kernel
theorem dX11_shaken_92 : decode cX11_shaken 92 = .ok (.goto 4, 3) := by decide +kernel
theorem dX11_shaken_95 : decode cX11_shaken 95 = .ok (.lload_n 2, 1) := by decide +kernel
theorem dX11_shaken_96 : decode cX11_shaken 96 = .ok (.lload 6, 2) := by decide +kernel
theorem dX11_shaken_98 : decode cX11_shaken 98 = .ok (.ldiv, 1) := by decide +kernel
theorem dX11_shaken_99 : decode cX11_shaken 99 = .ok (.lreturn, 1) := by decide +kernel
theorem dX11_seeds_0 : decode cX11_seeds 0 = .ok (.aload_n 0, 1) := by decide +kernel
theorem dX11_seeds_1 : decode cX11_seeds 1 = .ok (.getfield 77, 3) := by decide +kernel
theorem dX11_seeds_4 : decode cX11_seeds 4 = .ok (.iload_n 1, 1) := by decide +kernel
theorem dX11_seeds_5 : decode cX11_seeds 5 = .ok (.invokevirtual 114, 3) := by decide +kernel
theorem dX11_seeds_8 : decode cX11_seeds 8 = .ok (.ifCond .ne 9, 3) := by decide +kernel
theorem dX11_seeds_11 : decode cX11_seeds 11 = .ok (.aload_n 0, 1) := by decide +kernel
theorem dX11_seeds_12 : decode cX11_seeds 12 = .ok (.iconst (-1), 1) := by decide +kernel
theorem dX11_seeds_13 : decode cX11_seeds 13 = .ok (.invokevirtual 92, 3) := by decide +kernel
theorem dX11_seeds_16 : decode cX11_seeds 16 = .ok (.ireturn, 1) := by decide +kernel
theorem dX11_seeds_17 : decode cX11_seeds 17 = .ok (.iload_n 2, 1) := by decide +kernel
theorem dX11_seeds_18 : decode cX11_seeds 18 = .ok (.iconst 1, 1) := by decide +kernel
theorem dX11_seeds_19 : decode cX11_seeds 19 = .ok (.if_icmp .ge 10, 3) := by decide +kernel
theorem dX11_seeds_22 : decode cX11_seeds 22 = .ok (.aload_n 0, 1) := by decide +kernel
theorem dX11_seeds_23 : decode cX11_seeds 23 = .ok (.bipush (-4), 2) := by decide +kernel
theorem dX11_seeds_25 : decode cX11_seeds 25 = .ok (.invokevirtual 92, 3) := by decide +kernel
theorem dX11_seeds_28 : decode cX11_seeds 28 = .ok (.ireturn, 1) := by decide +kernel
theorem dX11_seeds_29 : decode cX11_seeds 29 = .ok (.iload_n 2, 1) := by decide +kernel
theorem dX11_seeds_30 : decode cX11_seeds 30 = .ok (.bipush 30, 2) := by decide +kernel
theorem dX11_seeds_32 : decode cX11_seeds 32 = .ok (.if_icmp .le 10, 3) := by decide +kernel
theorem dX11_seeds_35 : decode cX11_seeds 35 = .ok (.aload_n 0, 1) := by decide +kernel
theorem dX11_seeds_36 : decode cX11_seeds 36 = .ok (.bipush (-6), 2) := by decide +kernel
theorem dX11_seeds_38 : decode cX11_seeds 38 = .ok (.invokevirtual 92, 3) := by decide +kernel
theorem dX11_seeds_41 : decode cX11_seeds 41 = .ok (.ireturn, 1) := by decide +kernel
theorem dX11_seeds_42 : decode cX11_seeds 42 = .ok (.iload_n 3, 1) := by decide +kernel
theorem dX11_seeds_43 : decode cX11_seeds 43 = .ok (.istore 4, 2) := by decide +kernel
theorem dX11_seeds_45 : decode cX11_seeds 45 = .ok (.iconst 0, 1) := by decide +kernel
theorem dX11_seeds_46 : decode cX11_seeds 46 = .ok (.istore 5, 2) := by decide +kernel
theorem dX11_seeds_48 : decode cX11_seeds 48 = .ok (.iconst 0, 1) := by decide +kernel
theorem dX11_seeds_49 : decode cX11_seeds 49 = .ok (.istore 6, 2) := by decide +kernel
theorem dX11_seeds_51 : decode cX11_seeds 51 = .ok (.iload 6, 2) := by decide +kernel
theorem dX11_seeds_53 : decode cX11_seeds 53 = .ok (.iload_n 2, 1) := by decide +kernel
theorem dX11_seeds_54 : decode cX11_seeds 54 = .ok (.if_icmp .ge 53, 3) := by decide +kernel
theorem dX11_seeds_57 : decode cX11_seeds 57 = .ok (.aload_n 0, 1) := by decide +kernel
theorem dX11_seeds_58 : decode cX11_seeds 58 = .ok (.iload 4, 2) := by decide +kernel
theorem dX11_seeds_60 : decode cX11_seeds 60 = .ok (.invokevirtual 232, 3) := by decide +kernel
theorem dX11_seeds_63 : decode cX11_seeds 63 = .ok (.istore 4, 2) := by decide +kernel
theorem dX11_seeds_65 : decode cX11_seeds 65 = .ok (.aload_n 0, 1) := by decide +kernel
theorem dX11_seeds_66 : decode cX11_seeds 66 = .ok (.invokevirtual 202, 3) := by decide +kernel
theorem dX11_seeds_69 : decode cX11_seeds 69 = .ok (.aload_n 0, 1) := by decide +kernel
theorem dX11_seeds_70 : decode cX11_seeds 70 = .ok (.getfield 71, 3) := by decide +kernel
theorem dX11_seeds_73 : decode cX11_seeds 73 = .ok (.iconst 0, 1) := by decide +kernel
theorem dX11_seeds_74 : decode cX11_seeds 74 = .ok (.invokevirtual 190, 3) := by decide +kernel
theorem dX11_seeds_77 : decode cX11_seeds 77 = .ok (.iload 5, 2) := by decide +kernel
theorem dX11_seeds_79 : decode cX11_seeds 79 = .ok (.iconst 0, 1) := by decide +kernel
theorem dX11_seeds_80 : decode cX11_seeds 80 = .ok (.aload_n 0, 1) := by decide +kernel
theorem dX11_seeds_81 : decode cX11_seeds 81 = .ok (.getfield 71, 3) := by decide +kernel
theorem dX11_seeds_84 : decode cX11_seeds 84 = .ok (.getfield 151, 3) := by decide +kernel
theorem dX11_seeds_87 : decode cX11_seeds 87 = .ok (.iconst 0, 1) := by decide +kernel
theorem dX11_seeds_88 : decode cX11_seeds 88 = .ok (.aaload, 1) := by decide +kernel
theorem dX11_seeds_89 : decode cX11_seeds 89 = .ok (.aload_n 0, 1) := by decide +kernel
theorem dX11_seeds_90 : decode cX11_seeds 90 = .ok (.iload_n 1, 1) := by decide +kernel
theorem dX11_seeds_91 : decode cX11_seeds 91 = .ok (.invokevirtual 235, 3) := by decide +kernel
theorem dX11_seeds_94 : decode cX11_seeds 94 = .ok (.iaload, 1) := by decide +kernel
theorem dX11_seeds_95 : decode cX11_seeds 95 = .ok (.invokestatic 238, 3) := by decide +kernel
theorem dX11_seeds_98 : decode cX11_seeds 98 = .ok (.iadd, 1) := by decide +kernel
theorem dX11_seeds_99 : decode cX11_seeds 99 = .ok (.istore 5, 2) := by decide +kernel
theorem dX11_seeds_101 : decode cX11_seeds 101 = .ok (.iinc 6 1, 3) := by decide +kernel
theorem dX11_seeds_104 : decode cX11_seeds 104 = .ok (.goto (-53), 3) := by decide +kernel
theorem dX11_seeds_107 : decode cX11_seeds 107 = .ok (.iload 5, 2) := by decide +kernel
theorem dX11_seeds_109 : decode cX11_seeds 109 = .ok (.ireturn, 1) := by decide +kernel
theorem dX11_clear_0 : decode cX11_clear 0 = .ok (.aload_n 0, 1) := by decide +kernel
theorem dX11_clear_1 : decode cX11_clear 1 = .ok (.getfield 157, 3) := by decide +kernel
theorem dX11_clear_4 : decode cX11_clear 4 = .ok (.istore_n 1, 1) := by decide +kernel
theorem dX11_clear_5 : decode cX11_clear 5 = .ok (.aload_n 0, 1) := by decide +kernel
theorem dX11_clear_6 : decode cX11_clear 6 = .ok (.iconst 0, 1) := by decide +kernel
theorem dX11_clear_7 : decode cX11_clear 7 = .ok (.putfield 157, 3) := by decide +kernel
theorem dX11_clear_10 : decode cX11_clear 10 = .ok (.iload_n 1, 1) := by decide +kernel
theorem dX11_clear_11 : decode cX11_clear 11 = .ok (.ireturn, 1) := by decide +kernel
theorem dX11_image_0 : decode cX11_image 0 = .ok (.aload_n 0, 1) := by decide +kernel
theorem dX11_image_1 : decode cX11_image 1 = .ok (.getfield 10, 3) := by decide +kernel
theorem dX11_image_4 : decode cX11_image 4 = .ok (.aload_n 0, 1) := by decide +kernel
theorem dX11_image_5 : decode cX11_image 5 = .ok (.getfield 77, 3) := by decide +kernel
theorem dX11_image_8 : decode cX11_image 8 = .ok (.invokevirtual 186, 3) := by decide +kernel
theorem dX11_image_11 : decode cX11_image 11 = .ok (.aload_n 0, 1) := by decide +kernel
theorem dX11_image_12 : decode cX11_image 12 = .ok (.iconst 1, 1) := by decide +kernel
theorem dX11_image_13 : decode cX11_image 13 = .ok (.putfield 244, 3) := by decide +kernel
theorem dX11_image_16 : decode cX11_image 16 = .ok (.aload_n 0, 1) := by decide +kernel
theorem dX11_image_17 : decode cX11_image 17 = .ok (.getfield 77, 3) := by decide +kernel
theorem dX11_image_20 : decode cX11_image 20 = .ok (.getfield 193, 3) := by decide +kernel
theorem dX11_image_23 : decode cX11_image 23 = .ok (.ireturn, 1) := by decide +kernel
theorem dX11_restore_0 : decode cX11_restore 0 = .ok (.aload_n 0, 1) := by decide +kernel
theorem dX11_restore_1 : decode cX11_restore 1 = .ok (.getfield 244, 3) := by decide +kernel
theorem dX11_restore_4 : decode cX11_restore 4 = .ok (.ifCond .ne 10, 3) := by decide +kernel
theorem dX11_restore_7 : decode cX11_restore 7 = .ok (.aload_n 0, 1) := by decide +kernel
theorem dX11_restore_8 : decode cX11_restore 8 = .ok (.bipush (-3), 2) := by decide +kernel
theorem dX11_restore_10 : decode cX11_restore 10 = .ok (.invokevirtual 92, 3) := by decide +kernel
theorem dX11_restore_13 : decode cX11_restore 13 = .ok (.ireturn, 1) := by decide +kernel
theorem dX11_restore_14 : decode cX11_restore 14 = .ok (.aload_n 0, 1) := by decide +kernel
theorem dX11_restore_15 : decode cX11_restore 15 = .ok (.getfield 77, 3) := by decide +kernel
theorem dX11_restore_18 : decode cX11_restore 18 = .ok (.aload_n 0, 1) := by decide +kernel
theorem dX11_restore_19 : decode cX11_restore 19 = .ok (.getfield 10, 3) := by decide +kernel
theorem dX11_restore_22 : decode cX11_restore 22 = .ok (.invokevirtual 186, 3) := by decide +kernel
theorem dX11_restore_25 : decode cX11_restore 25 = .ok (.aload_n 0, 1) := by decide +kernel
theorem dX11_restore_26 : decode cX11_restore 26 = .ok (.iconst 1, 1) := by decide +kernel
theorem dX11_restore_27 : decode cX11_restore 27 = .ok (.putfield 37, 3) := by decide +kernel
theorem dX11_restore_30 : decode cX11_restore 30 = .ok (.aload_n 0, 1) := by decide +kernel
theorem dX11_restore_31 : decode cX11_restore 31 = .ok (.getfield 77, 3) := by decide +kernel
theorem dX11_restore_34 : decode cX11_restore 34 = .ok (.getfield 193, 3) := by decide +kernel
theorem dX11_restore_37 : decode cX11_restore 37 = .ok (.ireturn, 1) := by decide +kernel
theorem dX11_count_0 : decode cX11_count 0 = .ok (.iload_n 1, 1) := by decide +kernel
theorem dX11_count_1 : decode cX11_count 1 = .ok (.tableswitch 134 0 6 #[43, 51, 59, 75, 83, 91, 96], 43) := by decide +kernel
theorem dX11_count_44 : decode cX11_count 44 = .ok (.aload_n 0, 1) := by decide +kernel
theorem dX11_count_45 : decode cX11_count 45 = .ok (.getfield 77, 3) := by decide +kernel
theorem dX11_count_48 : decode cX11_count 48 = .ok (.getfield 193, 3) := by decide +kernel
theorem dX11_count_51 : decode cX11_count 51 = .ok (.ireturn, 1) := by decide +kernel
theorem dX11_count_52 : decode cX11_count 52 = .ok (.aload_n 0, 1) := by decide +kernel
theorem dX11_count_53 : decode cX11_count 53 = .ok (.getfield 77, 3) := by decide +kernel
theorem dX11_count_56 : decode cX11_count 56 = .ok (.getfield 170, 3) := by decide +kernel
theorem dX11_count_59 : decode cX11_count 59 = .ok (.ireturn, 1) := by decide +kernel
theorem dX11_count_60 : decode cX11_count 60 = .ok (.aload_n 0, 1) := by decide +kernel
theorem dX11_count_61 : decode cX11_count 61 = .ok (.getfield 77, 3) := by decide +kernel
theorem dX11_count_64 : decode cX11_count 64 = .ok (.getfield 247, 3) := by decide +kernel
theorem dX11_count_67 : decode cX11_count 67 = .ok (.ifCond .eq 7, 3) := by decide +kernel
theorem dX11_count_70 : decode cX11_count 70 = .ok (.iconst 1, 1) := by decide +kernel
theorem dX11_count_71 : decode cX11_count 71 = .ok (.goto 4, 3) := by decide +kernel
theorem dX11_count_74 : decode cX11_count 74 = .ok (.iconst 0, 1) := by decide +kernel
theorem dX11_count_75 : decode cX11_count 75 = .ok (.ireturn, 1) := by decide +kernel
theorem dX11_count_76 : decode cX11_count 76 = .ok (.aload_n 0, 1) := by decide +kernel
theorem dX11_count_77 : decode cX11_count 77 = .ok (.getfield 77, 3) := by decide +kernel
theorem dX11_count_80 : decode cX11_count 80 = .ok (.invokevirtual 250, 3) := by decide +kernel
theorem dX11_count_83 : decode cX11_count 83 = .ok (.ireturn, 1) := by decide +kernel
theorem dX11_count_84 : decode cX11_count 84 = .ok (.aload_n 0, 1) := by decide +kernel
theorem dX11_count_85 : decode cX11_count 85 = .ok (.getfield 19, 3) := by decide +kernel
theorem dX11_count_88 : decode cX11_count 88 = .ok (.getfield 254, 3) := by decide +kernel
theorem dX11_count_91 : decode cX11_count 91 = .ok (.ireturn, 1) := by decide +kernel
theorem dX11_count_92 : decode cX11_count 92 = .ok (.aload_n 0, 1) := by decide +kernel
theorem dX11_count_93 : decode cX11_count 93 = .ok (.getfield 157, 3) := by decide +kernel
theorem dX11_count_96 : decode cX11_count 96 = .ok (.ireturn, 1) := by decide +kernel
theorem dX11_count_97 : decode cX11_count 97 = .ok (.aload_n 0, 1) := by decide +kernel
theorem dX11_count_98 : decode cX11_count 98 = .ok (.getfield 77, 3) := by decide +kernel
theorem dX11_count_101 : decode cX11_count 101 = .ok (.invokevirtual 161, 3) := by decide +kernel
theorem dX11_count_104 : decode cX11_count 104 = .ok (.ifCond .eq 7, 3) := by decide +kernel
theorem dX11_count_107 : decode cX11_count 107 = .ok (.iconst 0, 1) := by decide +kernel
theorem dX11_count_108 : decode cX11_count 108 = .ok (.goto 26, 3) := by decide +kernel
theorem dX11_count_111 : decode cX11_count 111 = .ok (.aload_n 0, 1) := by decide +kernel
theorem dX11_count_112 : decode cX11_count 112 = .ok (.invokevirtual 133, 3) := by decide +kernel
theorem dX11_count_115 : decode cX11_count 115 = .ok (.getfield 147, 3) := by decide +kernel
theorem dX11_count_118 : decode cX11_count 118 = .ok (.aload_n 0, 1) := by decide +kernel
theorem dX11_count_119 : decode cX11_count 119 = .ok (.getfield 77, 3) := by decide +kernel
theorem dX11_count_122 : decode cX11_count 122 = .ok (.getfield 170, 3) := by decide +kernel
theorem dX11_count_125 : decode cX11_count 125 = .ok (.iaload, 1) := by decide +kernel
theorem dX11_count_126 : decode cX11_count 126 = .ok (.aload_n 0, 1) := by decide +kernel
theorem dX11_count_127 : decode cX11_count 127 = .ok (.getfield 77, 3) := by decide +kernel
theorem dX11_count_130 : decode cX11_count 130 = .ok (.getfield 170, 3) := by decide +kernel
theorem dX11_count_133 : decode cX11_count 133 = .ok (.isub, 1) := by decide +kernel
theorem dX11_count_134 : decode cX11_count 134 = .ok (.ireturn, 1) := by decide +kernel
theorem dX11_count_135 : decode cX11_count 135 = .ok (.aload_n 0, 1) := by decide +kernel
theorem dX11_count_136 : decode cX11_count 136 = .ok (.iload_n 1, 1) := by decide +kernel
theorem dX11_count_137 : decode cX11_count 137 = .ok (.bipush 10, 2) := by decide +kernel
theorem dX11_count_139 : decode cX11_count 139 = .ok (.isub, 1) := by decide +kernel
theorem dX11_count_140 : decode cX11_count 140 = .ok (.invokevirtual 255, 3) := by decide +kernel
theorem dX11_count_143 : decode cX11_count 143 = .ok (.ireturn, 1) := by decide +kernel
theorem dX11_countRefusals_0 : decode cX11_countRefusals 0 = .ok (.iload_n 1, 1) := by decide +kernel
theorem dX11_countRefusals_1 : decode cX11_countRefusals 1 = .ok (.iconst 1, 1) := by decide +kernel
theorem dX11_countRefusals_2 : decode cX11_countRefusals 2 = .ok (.if_icmp .lt 18, 3) := by decide +kernel
theorem dX11_countRefusals_5 : decode cX11_countRefusals 5 = .ok (.iload_n 1, 1) := by decide +kernel
theorem dX11_countRefusals_6 : decode cX11_countRefusals 6 = .ok (.bipush 6, 2) := by decide +kernel
theorem dX11_countRefusals_8 : decode cX11_countRefusals 8 = .ok (.if_icmp .gt 12, 3) := by decide +kernel
theorem dX11_countRefusals_11 : decode cX11_countRefusals 11 = .ok (.aload_n 0, 1) := by decide +kernel
theorem dX11_countRefusals_12 : decode cX11_countRefusals 12 = .ok (.getfield 30, 3) := by decide +kernel
theorem dX11_countRefusals_15 : decode cX11_countRefusals 15 = .ok (.iload_n 1, 1) := by decide +kernel
theorem dX11_countRefusals_16 : decode cX11_countRefusals 16 = .ok (.iaload, 1) := by decide +kernel
theorem dX11_countRefusals_17 : decode cX11_countRefusals 17 = .ok (.goto 5, 3) := by decide +kernel
theorem dX11_countRefusals_20 : decode cX11_countRefusals 20 = .ok (.bipush (-9), 2) := by decide +kernel
theorem dX11_countRefusals_22 : decode cX11_countRefusals 22 = .ok (.ireturn, 1) := by decide +kernel
theorem dX11_refuse_0 : decode cX11_refuse 0 = .ok (.iload_n 1, 1) := by decide +kernel
theorem dX11_refuse_1 : decode cX11_refuse 1 = .ok (.ifCond .ge 20, 3) := by decide +kernel
theorem dX11_refuse_4 : decode cX11_refuse 4 = .ok (.iload_n 1, 1) := by decide +kernel
theorem dX11_refuse_5 : decode cX11_refuse 5 = .ok (.bipush (-6), 2) := by decide +kernel
theorem dX11_refuse_7 : decode cX11_refuse 7 = .ok (.if_icmp .lt 14, 3) := by decide +kernel
theorem dX11_refuse_10 : decode cX11_refuse 10 = .ok (.aload_n 0, 1) := by decide +kernel
theorem dX11_refuse_11 : decode cX11_refuse 11 = .ok (.getfield 30, 3) := by decide +kernel
theorem dX11_refuse_14 : decode cX11_refuse 14 = .ok (.iload_n 1, 1) := by decide +kernel
theorem dX11_refuse_15 : decode cX11_refuse 15 = .ok (.ineg, 1) := by decide +kernel
theorem dX11_refuse_16 : decode cX11_refuse 16 = .ok (.dup2, 1) := by decide +kernel
theorem dX11_refuse_17 : decode cX11_refuse 17 = .ok (.iaload, 1) := by decide +kernel
theorem dX11_refuse_18 : decode cX11_refuse 18 = .ok (.iconst 1, 1) := by decide +kernel
theorem dX11_refuse_19 : decode cX11_refuse 19 = .ok (.iadd, 1) := by decide +kernel
theorem dX11_refuse_20 : decode cX11_refuse 20 = .ok (.iastore, 1) := by decide +kernel
theorem dX11_refuse_21 : decode cX11_refuse 21 = .ok (.iload_n 1, 1) := by decide +kernel
theorem dX11_refuse_22 : decode cX11_refuse 22 = .ok (.ireturn, 1) := by decide +kernel
theorem dX11_solved_0 : decode cX11_solved 0 = .ok (.aload_n 0, 1) := by decide +kernel
theorem dX11_solved_1 : decode cX11_solved 1 = .ok (.getfield 37, 3) := by decide +kernel
theorem dX11_solved_4 : decode cX11_solved 4 = .ok (.ifCond .eq 16, 3) := by decide +kernel
theorem dX11_solved_7 : decode cX11_solved 7 = .ok (.aload_n 0, 1) := by decide +kernel
theorem dX11_solved_8 : decode cX11_solved 8 = .ok (.getfield 67, 3) := by decide +kernel
theorem dX11_solved_11 : decode cX11_solved 11 = .ok (.iconst 0, 1) := by decide +kernel
theorem dX11_solved_12 : decode cX11_solved 12 = .ok (.invokevirtual 190, 3) := by decide +kernel
theorem dX11_solved_15 : decode cX11_solved 15 = .ok (.aload_n 0, 1) := by decide +kernel
theorem dX11_solved_16 : decode cX11_solved 16 = .ok (.iconst 0, 1) := by decide +kernel
theorem dX11_solved_17 : decode cX11_solved 17 = .ok (.putfield 37, 3) := by decide +kernel
theorem dX11_solved_20 : decode cX11_solved 20 = .ok (.aload_n 0, 1) := by decide +kernel
theorem dX11_solved_21 : decode cX11_solved 21 = .ok (.getfield 67, 3) := by decide +kernel
theorem dX11_solved_24 : decode cX11_solved 24 = .ok (.areturn, 1) := by decide +kernel
theorem dX11_isRowRight_0 : decode cX11_isRowRight 0 = .ok (.aload_n 0, 1) := by decide +kernel
theorem dX11_isRowRight_1 : decode cX11_isRowRight 1 = .ok (.getfield 157, 3) := by decide +kernel
theorem dX11_isRowRight_4 : decode cX11_isRowRight 4 = .ok (.aload_n 0, 1) := by decide +kernel
theorem dX11_isRowRight_5 : decode cX11_isRowRight 5 = .ok (.getfield 77, 3) := by decide +kernel
theorem dX11_isRowRight_8 : decode cX11_isRowRight 8 = .ok (.getfield 193, 3) := by decide +kernel
theorem dX11_isRowRight_11 : decode cX11_isRowRight 11 = .ok (.aload_n 0, 1) := by decide +kernel
theorem dX11_isRowRight_12 : decode cX11_isRowRight 12 = .ok (.getfield 77, 3) := by decide +kernel
theorem dX11_isRowRight_15 : decode cX11_isRowRight 15 = .ok (.getfield 170, 3) := by decide +kernel
theorem dX11_isRowRight_18 : decode cX11_isRowRight 18 = .ok (.isub, 1) := by decide +kernel
theorem dX11_isRowRight_19 : decode cX11_isRowRight 19 = .ok (.if_icmp .eq 5, 3) := by decide +kernel
theorem dX11_isRowRight_22 : decode cX11_isRowRight 22 = .ok (.iconst 0, 1) := by decide +kernel
theorem dX11_isRowRight_23 : decode cX11_isRowRight 23 = .ok (.ireturn, 1) := by decide +kernel
theorem dX11_isRowRight_24 : decode cX11_isRowRight 24 = .ok (.iconst 0, 1) := by decide +kernel
theorem dX11_isRowRight_25 : decode cX11_isRowRight 25 = .ok (.istore_n 1, 1) := by decide +kernel
theorem dX11_isRowRight_26 : decode cX11_isRowRight 26 = .ok (.iconst 0, 1) := by decide +kernel
theorem dX11_isRowRight_27 : decode cX11_isRowRight 27 = .ok (.istore_n 2, 1) := by decide +kernel
theorem dX11_isRowRight_28 : decode cX11_isRowRight 28 = .ok (.iload_n 2, 1) := by decide +kernel
theorem dX11_isRowRight_29 : decode cX11_isRowRight 29 = .ok (.aload_n 0, 1) := by decide +kernel
theorem dX11_isRowRight_30 : decode cX11_isRowRight 30 = .ok (.getfield 157, 3) := by decide +kernel
theorem dX11_isRowRight_33 : decode cX11_isRowRight 33 = .ok (.if_icmp .ge 18, 3) := by decide +kernel
theorem dX11_isRowRight_36 : decode cX11_isRowRight 36 = .ok (.iload_n 1, 1) := by decide +kernel
theorem dX11_isRowRight_37 : decode cX11_isRowRight 37 = .ok (.aload_n 0, 1) := by decide +kernel
theorem dX11_isRowRight_38 : decode cX11_isRowRight 38 = .ok (.getfield 27, 3) := by decide +kernel
theorem dX11_isRowRight_41 : decode cX11_isRowRight 41 = .ok (.iload_n 2, 1) := by decide +kernel
theorem dX11_isRowRight_42 : decode cX11_isRowRight 42 = .ok (.iaload, 1) := by decide +kernel
theorem dX11_isRowRight_43 : decode cX11_isRowRight 43 = .ok (.iadd, 1) := by decide +kernel
theorem dX11_isRowRight_44 : decode cX11_isRowRight 44 = .ok (.istore_n 1, 1) := by decide +kernel
theorem dX11_isRowRight_45 : decode cX11_isRowRight 45 = .ok (.iinc 2 1, 3) := by decide +kernel
theorem dX11_isRowRight_48 : decode cX11_isRowRight 48 = .ok (.goto (-20), 3) := by decide +kernel
theorem dX11_isRowRight_51 : decode cX11_isRowRight 51 = .ok (.iload_n 1, 1) := by decide +kernel
theorem dX11_isRowRight_52 : decode cX11_isRowRight 52 = .ok (.aload_n 0, 1) := by decide +kernel
theorem dX11_isRowRight_53 : decode cX11_isRowRight 53 = .ok (.getfield 77, 3) := by decide +kernel
theorem dX11_isRowRight_56 : decode cX11_isRowRight 56 = .ok (.getfield 130, 3) := by decide +kernel
theorem dX11_isRowRight_59 : decode cX11_isRowRight 59 = .ok (.iconst 0, 1) := by decide +kernel
theorem dX11_isRowRight_60 : decode cX11_isRowRight 60 = .ok (.iaload, 1) := by decide +kernel
theorem dX11_isRowRight_61 : decode cX11_isRowRight 61 = .ok (.if_icmp .ne 7, 3) := by decide +kernel
theorem dX11_isRowRight_64 : decode cX11_isRowRight 64 = .ok (.iconst 1, 1) := by decide +kernel
theorem dX11_isRowRight_65 : decode cX11_isRowRight 65 = .ok (.goto 4, 3) := by decide +kernel
theorem dX11_isRowRight_68 : decode cX11_isRowRight 68 = .ok (.iconst 0, 1) := by decide +kernel
theorem dX11_isRowRight_69 : decode cX11_isRowRight 69 = .ok (.ireturn, 1) := by decide +kernel
theorem dX11_firstOddVote_0 : decode cX11_firstOddVote 0 = .ok (.aload_n 0, 1) := by decide +kernel
theorem dX11_firstOddVote_1 : decode cX11_firstOddVote 1 = .ok (.invokevirtual 133, 3) := by decide +kernel
theorem dX11_firstOddVote_4 : decode cX11_firstOddVote 4 = .ok (.getfield 141, 3) := by decide +kernel
theorem dX11_firstOddVote_7 : decode cX11_firstOddVote 7 = .ok (.aload_n 0, 1) := by decide +kernel
theorem dX11_firstOddVote_8 : decode cX11_firstOddVote 8 = .ok (.getfield 77, 3) := by decide +kernel
theorem dX11_firstOddVote_11 : decode cX11_firstOddVote 11 = .ok (.getfield 170, 3) := by decide +kernel
theorem dX11_firstOddVote_14 : decode cX11_firstOddVote 14 = .ok (.aaload, 1) := by decide +kernel
theorem dX11_firstOddVote_15 : decode cX11_firstOddVote 15 = .ok (.astore_n 2, 1) := by decide +kernel
theorem dX11_firstOddVote_16 : decode cX11_firstOddVote 16 = .ok (.aload_n 0, 1) := by decide +kernel
theorem dX11_firstOddVote_17 : decode cX11_firstOddVote 17 = .ok (.getfield 77, 3) := by decide +kernel
theorem dX11_firstOddVote_20 : decode cX11_firstOddVote 20 = .ok (.getfield 170, 3) := by decide +kernel
theorem dX11_firstOddVote_23 : decode cX11_firstOddVote 23 = .ok (.istore_n 3, 1) := by decide +kernel
theorem dX11_firstOddVote_24 : decode cX11_firstOddVote 24 = .ok (.iload_n 3, 1) := by decide +kernel
theorem dX11_firstOddVote_25 : decode cX11_firstOddVote 25 = .ok (.aload_n 0, 1) := by decide +kernel
theorem dX11_firstOddVote_26 : decode cX11_firstOddVote 26 = .ok (.getfield 77, 3) := by decide +kernel
theorem dX11_firstOddVote_29 : decode cX11_firstOddVote 29 = .ok (.getfield 193, 3) := by decide +kernel
theorem dX11_firstOddVote_32 : decode cX11_firstOddVote 32 = .ok (.if_icmp .ge 73, 3) := by decide +kernel
theorem dX11_firstOddVote_35 : decode cX11_firstOddVote 35 = .ok (.iload_n 3, 1) := by decide +kernel
theorem dX11_firstOddVote_36 : decode cX11_firstOddVote 36 = .ok (.aload_n 0, 1) := by decide +kernel
theorem dX11_firstOddVote_37 : decode cX11_firstOddVote 37 = .ok (.getfield 77, 3) := by decide +kernel
theorem dX11_firstOddVote_40 : decode cX11_firstOddVote 40 = .ok (.getfield 170, 3) := by decide +kernel
theorem dX11_firstOddVote_43 : decode cX11_firstOddVote 43 = .ok (.isub, 1) := by decide +kernel
theorem dX11_firstOddVote_44 : decode cX11_firstOddVote 44 = .ok (.istore 4, 2) := by decide +kernel
theorem dX11_firstOddVote_46 : decode cX11_firstOddVote 46 = .ok (.iload 4, 2) := by decide +kernel
theorem dX11_firstOddVote_48 : decode cX11_firstOddVote 48 = .ok (.ifCond .eq 16, 3) := by decide +kernel
theorem dX11_firstOddVote_51 : decode cX11_firstOddVote 51 = .ok (.aload_n 0, 1) := by decide +kernel
theorem dX11_firstOddVote_52 : decode cX11_firstOddVote 52 = .ok (.getfield 27, 3) := by decide +kernel
theorem dX11_firstOddVote_55 : decode cX11_firstOddVote 55 = .ok (.iload 4, 2) := by decide +kernel
theorem dX11_firstOddVote_57 : decode cX11_firstOddVote 57 = .ok (.iaload, 1) := by decide +kernel
theorem dX11_firstOddVote_58 : decode cX11_firstOddVote 58 = .ok (.aload_n 2, 1) := by decide +kernel
theorem dX11_firstOddVote_59 : decode cX11_firstOddVote 59 = .ok (.iload_n 3, 1) := by decide +kernel
theorem dX11_firstOddVote_60 : decode cX11_firstOddVote 60 = .ok (.iaload, 1) := by decide +kernel
theorem dX11_firstOddVote_61 : decode cX11_firstOddVote 61 = .ok (.if_icmp .lt 7, 3) := by decide +kernel
theorem dX11_firstOddVote_64 : decode cX11_firstOddVote 64 = .ok (.iconst 1, 1) := by decide +kernel
theorem dX11_firstOddVote_65 : decode cX11_firstOddVote 65 = .ok (.goto 4, 3) := by decide +kernel
theorem dX11_firstOddVote_68 : decode cX11_firstOddVote 68 = .ok (.iconst 0, 1) := by decide +kernel
theorem dX11_firstOddVote_69 : decode cX11_firstOddVote 69 = .ok (.istore 5, 2) := by decide +kernel
theorem dX11_firstOddVote_71 : decode cX11_firstOddVote 71 = .ok (.iload_n 1, 1) := by decide +kernel
theorem dX11_firstOddVote_72 : decode cX11_firstOddVote 72 = .ok (.iload_n 3, 1) := by decide +kernel
theorem dX11_firstOddVote_73 : decode cX11_firstOddVote 73 = .ok (.ishr, 1) := by decide +kernel
theorem dX11_firstOddVote_74 : decode cX11_firstOddVote 74 = .ok (.iconst 1, 1) := by decide +kernel
theorem dX11_firstOddVote_75 : decode cX11_firstOddVote 75 = .ok (.iand, 1) := by decide +kernel
theorem dX11_firstOddVote_76 : decode cX11_firstOddVote 76 = .ok (.iconst 1, 1) := by decide +kernel
theorem dX11_firstOddVote_77 : decode cX11_firstOddVote 77 = .ok (.if_icmp .ne 7, 3) := by decide +kernel
theorem dX11_firstOddVote_80 : decode cX11_firstOddVote 80 = .ok (.iconst 1, 1) := by decide +kernel
theorem dX11_firstOddVote_81 : decode cX11_firstOddVote 81 = .ok (.goto 4, 3) := by decide +kernel
theorem dX11_firstOddVote_84 : decode cX11_firstOddVote 84 = .ok (.iconst 0, 1) := by decide +kernel
theorem dX11_firstOddVote_85 : decode cX11_firstOddVote 85 = .ok (.istore 6, 2) := by decide +kernel
theorem dX11_firstOddVote_87 : decode cX11_firstOddVote 87 = .ok (.iload 5, 2) := by decide +kernel
theorem dX11_firstOddVote_89 : decode cX11_firstOddVote 89 = .ok (.iload 6, 2) := by decide +kernel
theorem dX11_firstOddVote_91 : decode cX11_firstOddVote 91 = .ok (.if_icmp .eq 8, 3) := by decide +kernel
theorem dX11_firstOddVote_94 : decode cX11_firstOddVote 94 = .ok (.iload 4, 2) := by decide +kernel
theorem dX11_firstOddVote_96 : decode cX11_firstOddVote 96 = .ok (.iconst 1, 1) := by decide +kernel
theorem dX11_firstOddVote_97 : decode cX11_firstOddVote 97 = .ok (.iadd, 1) := by decide +kernel
theorem dX11_firstOddVote_98 : decode cX11_firstOddVote 98 = .ok (.ireturn, 1) := by decide +kernel
theorem dX11_firstOddVote_99 : decode cX11_firstOddVote 99 = .ok (.iinc 3 1, 3) := by decide +kernel
theorem dX11_firstOddVote_102 : decode cX11_firstOddVote 102 = .ok (.goto (-78), 3) := by decide +kernel
theorem dX11_firstOddVote_105 : decode cX11_firstOddVote 105 = .ok (.bipush (-9), 2) := by decide +kernel
theorem dX11_firstOddVote_107 : decode cX11_firstOddVote 107 = .ok (.ireturn, 1) := by decide +kernel
theorem dX11_orderAsIs_0 : decode cX11_orderAsIs 0 = .ok (.iconst 0, 1) := by decide +kernel
theorem dX11_orderAsIs_1 : decode cX11_orderAsIs 1 = .ok (.istore_n 1, 1) := by decide +kernel
theorem dX11_orderAsIs_2 : decode cX11_orderAsIs 2 = .ok (.iload_n 1, 1) := by decide +kernel
theorem dX11_orderAsIs_3 : decode cX11_orderAsIs 3 = .ok (.aload_n 0, 1) := by decide +kernel
theorem dX11_orderAsIs_4 : decode cX11_orderAsIs 4 = .ok (.getfield 77, 3) := by decide +kernel
theorem dX11_orderAsIs_7 : decode cX11_orderAsIs 7 = .ok (.getfield 193, 3) := by decide +kernel
theorem dX11_orderAsIs_10 : decode cX11_orderAsIs 10 = .ok (.if_icmp .ge 16, 3) := by decide +kernel
theorem dX11_orderAsIs_13 : decode cX11_orderAsIs 13 = .ok (.aload_n 0, 1) := by decide +kernel
theorem dX11_orderAsIs_14 : decode cX11_orderAsIs 14 = .ok (.getfield 23, 3) := by decide +kernel
theorem dX11_orderAsIs_17 : decode cX11_orderAsIs 17 = .ok (.iload_n 1, 1) := by decide +kernel
theorem dX11_orderAsIs_18 : decode cX11_orderAsIs 18 = .ok (.iload_n 1, 1) := by decide +kernel
theorem dX11_orderAsIs_19 : decode cX11_orderAsIs 19 = .ok (.iastore, 1) := by decide +kernel
theorem dX11_orderAsIs_20 : decode cX11_orderAsIs 20 = .ok (.iinc 1 1, 3) := by decide +kernel
theorem dX11_orderAsIs_23 : decode cX11_orderAsIs 23 = .ok (.goto (-21), 3) := by decide +kernel
theorem dX11_orderAsIs_26 : decode cX11_orderAsIs 26 = .ok (.return_, 1) := by decide +kernel
theorem dX11_orderWith_0 : decode cX11_orderWith 0 = .ok (.iconst 0, 1) := by decide +kernel
theorem dX11_orderWith_1 : decode cX11_orderWith 1 = .ok (.istore_n 3, 1) := by decide +kernel
theorem dX11_orderWith_2 : decode cX11_orderWith 2 = .ok (.iconst 0, 1) := by decide +kernel
theorem dX11_orderWith_3 : decode cX11_orderWith 3 = .ok (.istore 4, 2) := by decide +kernel
theorem dX11_orderWith_5 : decode cX11_orderWith 5 = .ok (.iload 4, 2) := by decide +kernel
theorem dX11_orderWith_7 : decode cX11_orderWith 7 = .ok (.aload_n 0, 1) := by decide +kernel
theorem dX11_orderWith_8 : decode cX11_orderWith 8 = .ok (.getfield 77, 3) := by decide +kernel
theorem dX11_orderWith_11 : decode cX11_orderWith 11 = .ok (.getfield 193, 3) := by decide +kernel
theorem dX11_orderWith_14 : decode cX11_orderWith 14 = .ok (.if_icmp .ge 45, 3) := by decide +kernel
theorem dX11_orderWith_17 : decode cX11_orderWith 17 = .ok (.iload 4, 2) := by decide +kernel
theorem dX11_orderWith_19 : decode cX11_orderWith 19 = .ok (.iload_n 2, 1) := by decide +kernel
theorem dX11_orderWith_20 : decode cX11_orderWith 20 = .ok (.if_icmp .ne 14, 3) := by decide +kernel
theorem dX11_orderWith_23 : decode cX11_orderWith 23 = .ok (.aload_n 0, 1) := by decide +kernel
theorem dX11_orderWith_24 : decode cX11_orderWith 24 = .ok (.getfield 23, 3) := by decide +kernel
theorem dX11_orderWith_27 : decode cX11_orderWith 27 = .ok (.iload 4, 2) := by decide +kernel
theorem dX11_orderWith_29 : decode cX11_orderWith 29 = .ok (.iload_n 1, 1) := by decide +kernel
theorem dX11_orderWith_30 : decode cX11_orderWith 30 = .ok (.iastore, 1) := by decide +kernel
theorem dX11_orderWith_31 : decode cX11_orderWith 31 = .ok (.goto 22, 3) := by decide +kernel
theorem dX11_orderWith_34 : decode cX11_orderWith 34 = .ok (.iload_n 3, 1) := by decide +kernel
theorem dX11_orderWith_35 : decode cX11_orderWith 35 = .ok (.iload_n 1, 1) := by decide +kernel
theorem dX11_orderWith_36 : decode cX11_orderWith 36 = .ok (.if_icmp .ne 6, 3) := by decide +kernel
theorem dX11_orderWith_39 : decode cX11_orderWith 39 = .ok (.iinc 3 1, 3) := by decide +kernel
theorem dX11_orderWith_42 : decode cX11_orderWith 42 = .ok (.aload_n 0, 1) := by decide +kernel
theorem dX11_orderWith_43 : decode cX11_orderWith 43 = .ok (.getfield 23, 3) := by decide +kernel
theorem dX11_orderWith_46 : decode cX11_orderWith 46 = .ok (.iload 4, 2) := by decide +kernel
theorem dX11_orderWith_48 : decode cX11_orderWith 48 = .ok (.iload_n 3, 1) := by decide +kernel
theorem dX11_orderWith_49 : decode cX11_orderWith 49 = .ok (.iastore, 1) := by decide +kernel
theorem dX11_orderWith_50 : decode cX11_orderWith 50 = .ok (.iinc 3 1, 3) := by decide +kernel
theorem dX11_orderWith_53 : decode cX11_orderWith 53 = .ok (.iinc 4 1, 3) := by decide +kernel
theorem dX11_orderWith_56 : decode cX11_orderWith 56 = .ok (.goto (-51), 3) := by decide +kernel
theorem dX11_orderWith_59 : decode cX11_orderWith 59 = .ok (.return_, 1) := by decide +kernel
theorem dX11_drawOrder_0 : decode cX11_drawOrder 0 = .ok (.iload_n 1, 1) := by decide +kernel
theorem dX11_drawOrder_1 : decode cX11_drawOrder 1 = .ok (.istore_n 2, 1) := by decide +kernel
theorem dX11_drawOrder_2 : decode cX11_drawOrder 2 = .ok (.aload_n 0, 1) := by decide +kernel
theorem dX11_drawOrder_3 : decode cX11_drawOrder 3 = .ok (.invokevirtual 199, 3) := by decide +kernel
theorem dX11_drawOrder_6 : decode cX11_drawOrder 6 = .ok (.aload_n 0, 1) := by decide +kernel
theorem dX11_drawOrder_7 : decode cX11_drawOrder 7 = .ok (.getfield 77, 3) := by decide +kernel
theorem dX11_drawOrder_10 : decode cX11_drawOrder 10 = .ok (.getfield 193, 3) := by decide +kernel
theorem dX11_drawOrder_13 : decode cX11_drawOrder 13 = .ok (.iconst 1, 1) := by decide +kernel
theorem dX11_drawOrder_14 : decode cX11_drawOrder 14 = .ok (.isub, 1) := by decide +kernel
theorem dX11_drawOrder_15 : decode cX11_drawOrder 15 = .ok (.istore_n 3, 1) := by decide +kernel
theorem dX11_drawOrder_16 : decode cX11_drawOrder 16 = .ok (.iload_n 3, 1) := by decide +kernel
theorem dX11_drawOrder_17 : decode cX11_drawOrder 17 = .ok (.iconst 1, 1) := by decide +kernel
theorem dX11_drawOrder_18 : decode cX11_drawOrder 18 = .ok (.if_icmp .lt 64, 3) := by decide +kernel
theorem dX11_drawOrder_21 : decode cX11_drawOrder 21 = .ok (.iload_n 2, 1) := by decide +kernel
theorem dX11_drawOrder_22 : decode cX11_drawOrder 22 = .ok (.ldc_w 258, 3) := by decide +kernel
theorem dX11_drawOrder_25 : decode cX11_drawOrder 25 = .ok (.imul, 1) := by decide +kernel
theorem dX11_drawOrder_26 : decode cX11_drawOrder 26 = .ok (.sipush 12345, 3) := by decide +kernel
theorem dX11_drawOrder_29 : decode cX11_drawOrder 29 = .ok (.iadd, 1) := by decide +kernel
theorem dX11_drawOrder_30 : decode cX11_drawOrder 30 = .ok (.istore_n 2, 1) := by decide +kernel
theorem dX11_drawOrder_31 : decode cX11_drawOrder 31 = .ok (.iload_n 2, 1) := by decide +kernel
theorem dX11_drawOrder_32 : decode cX11_drawOrder 32 = .ok (.ldc_w 259, 3) := by decide +kernel
theorem dX11_drawOrder_35 : decode cX11_drawOrder 35 = .ok (.iand, 1) := by decide +kernel
theorem dX11_drawOrder_36 : decode cX11_drawOrder 36 = .ok (.ldc_w 260, 3) := by decide +kernel
theorem dX11_drawOrder_39 : decode cX11_drawOrder 39 = .ok (.idiv, 1) := by decide +kernel
theorem dX11_drawOrder_40 : decode cX11_drawOrder 40 = .ok (.iload_n 3, 1) := by decide +kernel
theorem dX11_drawOrder_41 : decode cX11_drawOrder 41 = .ok (.iconst 1, 1) := by decide +kernel
theorem dX11_drawOrder_42 : decode cX11_drawOrder 42 = .ok (.iadd, 1) := by decide +kernel
theorem dX11_drawOrder_43 : decode cX11_drawOrder 43 = .ok (.irem, 1) := by decide +kernel
theorem dX11_drawOrder_44 : decode cX11_drawOrder 44 = .ok (.istore 4, 2) := by decide +kernel
theorem dX11_drawOrder_46 : decode cX11_drawOrder 46 = .ok (.aload_n 0, 1) := by decide +kernel
theorem dX11_drawOrder_47 : decode cX11_drawOrder 47 = .ok (.getfield 23, 3) := by decide +kernel
theorem dX11_drawOrder_50 : decode cX11_drawOrder 50 = .ok (.iload_n 3, 1) := by decide +kernel
theorem dX11_drawOrder_51 : decode cX11_drawOrder 51 = .ok (.iaload, 1) := by decide +kernel
theorem dX11_drawOrder_52 : decode cX11_drawOrder 52 = .ok (.istore 5, 2) := by decide +kernel
theorem dX11_drawOrder_54 : decode cX11_drawOrder 54 = .ok (.aload_n 0, 1) := by decide +kernel
theorem dX11_drawOrder_55 : decode cX11_drawOrder 55 = .ok (.getfield 23, 3) := by decide +kernel
theorem dX11_drawOrder_58 : decode cX11_drawOrder 58 = .ok (.iload_n 3, 1) := by decide +kernel
theorem dX11_drawOrder_59 : decode cX11_drawOrder 59 = .ok (.aload_n 0, 1) := by decide +kernel
theorem dX11_drawOrder_60 : decode cX11_drawOrder 60 = .ok (.getfield 23, 3) := by decide +kernel
theorem dX11_drawOrder_63 : decode cX11_drawOrder 63 = .ok (.iload 4, 2) := by decide +kernel
theorem dX11_drawOrder_65 : decode cX11_drawOrder 65 = .ok (.iaload, 1) := by decide +kernel
theorem dX11_drawOrder_66 : decode cX11_drawOrder 66 = .ok (.iastore, 1) := by decide +kernel
theorem dX11_drawOrder_67 : decode cX11_drawOrder 67 = .ok (.aload_n 0, 1) := by decide +kernel
theorem dX11_drawOrder_68 : decode cX11_drawOrder 68 = .ok (.getfield 23, 3) := by decide +kernel
theorem dX11_drawOrder_71 : decode cX11_drawOrder 71 = .ok (.iload 4, 2) := by decide +kernel
theorem dX11_drawOrder_73 : decode cX11_drawOrder 73 = .ok (.iload 5, 2) := by decide +kernel
theorem dX11_drawOrder_75 : decode cX11_drawOrder 75 = .ok (.iastore, 1) := by decide +kernel
theorem dX11_drawOrder_76 : decode cX11_drawOrder 76 = .ok (.iinc 3 (-1), 3) := by decide +kernel
theorem dX11_drawOrder_79 : decode cX11_drawOrder 79 = .ok (.goto (-63), 3) := by decide +kernel
theorem dX11_drawOrder_82 : decode cX11_drawOrder 82 = .ok (.iload_n 2, 1) := by decide +kernel
theorem dX11_drawOrder_83 : decode cX11_drawOrder 83 = .ok (.ireturn, 1) := by decide +kernel
theorem dX11_placeOf_0 : decode cX11_placeOf 0 = .ok (.iconst 0, 1) := by decide +kernel
theorem dX11_placeOf_1 : decode cX11_placeOf 1 = .ok (.istore_n 2, 1) := by decide +kernel
theorem dX11_placeOf_2 : decode cX11_placeOf 2 = .ok (.iconst 0, 1) := by decide +kernel
theorem dX11_placeOf_3 : decode cX11_placeOf 3 = .ok (.istore_n 3, 1) := by decide +kernel
theorem dX11_placeOf_4 : decode cX11_placeOf 4 = .ok (.iload_n 3, 1) := by decide +kernel
theorem dX11_placeOf_5 : decode cX11_placeOf 5 = .ok (.aload_n 0, 1) := by decide +kernel
theorem dX11_placeOf_6 : decode cX11_placeOf 6 = .ok (.getfield 77, 3) := by decide +kernel
theorem dX11_placeOf_9 : decode cX11_placeOf 9 = .ok (.getfield 193, 3) := by decide +kernel
theorem dX11_placeOf_12 : decode cX11_placeOf 12 = .ok (.if_icmp .ge 21, 3) := by decide +kernel
theorem dX11_placeOf_15 : decode cX11_placeOf 15 = .ok (.aload_n 0, 1) := by decide +kernel
theorem dX11_placeOf_16 : decode cX11_placeOf 16 = .ok (.getfield 23, 3) := by decide +kernel
theorem dX11_placeOf_19 : decode cX11_placeOf 19 = .ok (.iload_n 3, 1) := by decide +kernel
theorem dX11_placeOf_20 : decode cX11_placeOf 20 = .ok (.iaload, 1) := by decide +kernel
theorem dX11_placeOf_21 : decode cX11_placeOf 21 = .ok (.iload_n 1, 1) := by decide +kernel
theorem dX11_placeOf_22 : decode cX11_placeOf 22 = .ok (.if_icmp .ne 5, 3) := by decide +kernel
theorem dX11_placeOf_25 : decode cX11_placeOf 25 = .ok (.iload_n 3, 1) := by decide +kernel
theorem dX11_placeOf_26 : decode cX11_placeOf 26 = .ok (.istore_n 2, 1) := by decide +kernel
theorem dX11_placeOf_27 : decode cX11_placeOf 27 = .ok (.iinc 3 1, 3) := by decide +kernel
theorem dX11_placeOf_30 : decode cX11_placeOf 30 = .ok (.goto (-26), 3) := by decide +kernel
theorem dX11_placeOf_33 : decode cX11_placeOf 33 = .ok (.iload_n 2, 1) := by decide +kernel
theorem dX11_placeOf_34 : decode cX11_placeOf 34 = .ok (.ireturn, 1) := by decide +kernel
theorem dX11_seat_0 : decode cX11_seat 0 = .ok (.aload_n 0, 1) := by decide +kernel
theorem dX11_seat_1 : decode cX11_seat 1 = .ok (.getfield 80, 3) := by decide +kernel
theorem dX11_seat_4 : decode cX11_seat 4 = .ok (.aload_n 0, 1) := by decide +kernel
theorem dX11_seat_5 : decode cX11_seat 5 = .ok (.getfield 77, 3) := by decide +kernel
theorem dX11_seat_8 : decode cX11_seat 8 = .ok (.invokevirtual 186, 3) := by decide +kernel
theorem dX11_seat_11 : decode cX11_seat 11 = .ok (.iconst 0, 1) := by decide +kernel
theorem dX11_seat_12 : decode cX11_seat 12 = .ok (.istore_n 1, 1) := by decide +kernel
theorem dX11_seat_13 : decode cX11_seat 13 = .ok (.iload_n 1, 1) := by decide +kernel
theorem dX11_seat_14 : decode cX11_seat 14 = .ok (.aload_n 0, 1) := by decide +kernel
theorem dX11_seat_15 : decode cX11_seat 15 = .ok (.getfield 77, 3) := by decide +kernel
theorem dX11_seat_18 : decode cX11_seat 18 = .ok (.getfield 193, 3) := by decide +kernel
theorem dX11_seat_21 : decode cX11_seat 21 = .ok (.if_icmp .ge 81, 3) := by decide +kernel
theorem dX11_seat_24 : decode cX11_seat 24 = .ok (.aload_n 0, 1) := by decide +kernel
theorem dX11_seat_25 : decode cX11_seat 25 = .ok (.getfield 23, 3) := by decide +kernel
theorem dX11_seat_28 : decode cX11_seat 28 = .ok (.iload_n 1, 1) := by decide +kernel
theorem dX11_seat_29 : decode cX11_seat 29 = .ok (.iaload, 1) := by decide +kernel
theorem dX11_seat_30 : decode cX11_seat 30 = .ok (.istore_n 2, 1) := by decide +kernel
theorem dX11_seat_31 : decode cX11_seat 31 = .ok (.aload_n 0, 1) := by decide +kernel
theorem dX11_seat_32 : decode cX11_seat 32 = .ok (.getfield 77, 3) := by decide +kernel
theorem dX11_seat_35 : decode cX11_seat 35 = .ok (.iload_n 2, 1) := by decide +kernel
theorem dX11_seat_36 : decode cX11_seat 36 = .ok (.invokevirtual 114, 3) := by decide +kernel
theorem dX11_seat_39 : decode cX11_seat 39 = .ok (.ifCond .eq 57, 3) := by decide +kernel
theorem dX11_seat_42 : decode cX11_seat 42 = .ok (.aload_n 0, 1) := by decide +kernel
theorem dX11_seat_43 : decode cX11_seat 43 = .ok (.getfield 80, 3) := by decide +kernel
theorem dX11_seat_46 : decode cX11_seat 46 = .ok (.getfield 118, 3) := by decide +kernel
theorem dX11_seat_49 : decode cX11_seat 49 = .ok (.iload_n 1, 1) := by decide +kernel
theorem dX11_seat_50 : decode cX11_seat 50 = .ok (.aload_n 0, 1) := by decide +kernel
theorem dX11_seat_51 : decode cX11_seat 51 = .ok (.getfield 77, 3) := by decide +kernel
theorem dX11_seat_54 : decode cX11_seat 54 = .ok (.getfield 118, 3) := by decide +kernel
theorem dX11_seat_57 : decode cX11_seat 57 = .ok (.iload_n 2, 1) := by decide +kernel
theorem dX11_seat_58 : decode cX11_seat 58 = .ok (.iaload, 1) := by decide +kernel
theorem dX11_seat_59 : decode cX11_seat 59 = .ok (.iastore, 1) := by decide +kernel
theorem dX11_seat_60 : decode cX11_seat 60 = .ok (.aload_n 0, 1) := by decide +kernel
theorem dX11_seat_61 : decode cX11_seat 61 = .ok (.getfield 80, 3) := by decide +kernel
theorem dX11_seat_64 : decode cX11_seat 64 = .ok (.getfield 121, 3) := by decide +kernel
theorem dX11_seat_67 : decode cX11_seat 67 = .ok (.iload_n 1, 1) := by decide +kernel
theorem dX11_seat_68 : decode cX11_seat 68 = .ok (.aload_n 0, 1) := by decide +kernel
theorem dX11_seat_69 : decode cX11_seat 69 = .ok (.getfield 77, 3) := by decide +kernel
theorem dX11_seat_72 : decode cX11_seat 72 = .ok (.getfield 121, 3) := by decide +kernel
theorem dX11_seat_75 : decode cX11_seat 75 = .ok (.iload_n 2, 1) := by decide +kernel
theorem dX11_seat_76 : decode cX11_seat 76 = .ok (.iaload, 1) := by decide +kernel
theorem dX11_seat_77 : decode cX11_seat 77 = .ok (.iastore, 1) := by decide +kernel
theorem dX11_seat_78 : decode cX11_seat 78 = .ok (.aload_n 0, 1) := by decide +kernel
theorem dX11_seat_79 : decode cX11_seat 79 = .ok (.getfield 80, 3) := by decide +kernel
theorem dX11_seat_82 : decode cX11_seat 82 = .ok (.getfield 124, 3) := by decide +kernel
theorem dX11_seat_85 : decode cX11_seat 85 = .ok (.iload_n 1, 1) := by decide +kernel
theorem dX11_seat_86 : decode cX11_seat 86 = .ok (.aload_n 0, 1) := by decide +kernel
theorem dX11_seat_87 : decode cX11_seat 87 = .ok (.getfield 77, 3) := by decide +kernel
theorem dX11_seat_90 : decode cX11_seat 90 = .ok (.getfield 124, 3) := by decide +kernel
theorem dX11_seat_93 : decode cX11_seat 93 = .ok (.iload_n 2, 1) := by decide +kernel
theorem dX11_seat_94 : decode cX11_seat 94 = .ok (.iaload, 1) := by decide +kernel
theorem dX11_seat_95 : decode cX11_seat 95 = .ok (.iastore, 1) := by decide +kernel
theorem dX11_seat_96 : decode cX11_seat 96 = .ok (.iinc 1 1, 3) := by decide +kernel
theorem dX11_seat_99 : decode cX11_seat 99 = .ok (.goto (-86), 3) := by decide +kernel
theorem dX11_seat_102 : decode cX11_seat 102 = .ok (.return_, 1) := by decide +kernel
theorem dX11_shakeVotes_0 : decode cX11_shakeVotes 0 = .ok (.aload_n 0, 1) := by decide +kernel
theorem dX11_shakeVotes_1 : decode cX11_shakeVotes 1 = .ok (.getfield 33, 3) := by decide +kernel
theorem dX11_shakeVotes_4 : decode cX11_shakeVotes 4 = .ok (.lconst 0, 1) := by decide +kernel
theorem dX11_shakeVotes_5 : decode cX11_shakeVotes 5 = .ok (.invokestatic 261, 3) := by decide +kernel
theorem dX11_shakeVotes_8 : decode cX11_shakeVotes 8 = .ok (.aload_n 0, 1) := by decide +kernel
theorem dX11_shakeVotes_9 : decode cX11_shakeVotes 9 = .ok (.getfield 33, 3) := by decide +kernel
theorem dX11_shakeVotes_12 : decode cX11_shakeVotes 12 = .ok (.aload_n 0, 1) := by decide +kernel
theorem dX11_shakeVotes_13 : decode cX11_shakeVotes 13 = .ok (.getfield 77, 3) := by decide +kernel
theorem dX11_shakeVotes_16 : decode cX11_shakeVotes 16 = .ok (.getfield 124, 3) := by decide +kernel
theorem dX11_shakeVotes_19 : decode cX11_shakeVotes 19 = .ok (.aload_n 0, 1) := by decide +kernel
theorem dX11_shakeVotes_20 : decode cX11_shakeVotes 20 = .ok (.getfield 77, 3) := by decide +kernel
theorem dX11_shakeVotes_23 : decode cX11_shakeVotes 23 = .ok (.getfield 170, 3) := by decide +kernel
theorem dX11_shakeVotes_26 : decode cX11_shakeVotes 26 = .ok (.iaload, 1) := by decide +kernel
theorem dX11_shakeVotes_27 : decode cX11_shakeVotes 27 = .ok (.lconst 1, 1) := by decide +kernel
theorem dX11_shakeVotes_28 : decode cX11_shakeVotes 28 = .ok (.lastore, 1) := by decide +kernel
theorem dX11_shakeVotes_29 : decode cX11_shakeVotes 29 = .ok (.lconst 1, 1) := by decide +kernel
theorem dX11_shakeVotes_30 : decode cX11_shakeVotes 30 = .ok (.lstore_n 2, 1) := by decide +kernel
theorem dX11_shakeVotes_31 : decode cX11_shakeVotes 31 = .ok (.aload_n 0, 1) := by decide +kernel
theorem dX11_shakeVotes_32 : decode cX11_shakeVotes 32 = .ok (.getfield 77, 3) := by decide +kernel
theorem dX11_shakeVotes_35 : decode cX11_shakeVotes 35 = .ok (.getfield 170, 3) := by decide +kernel
theorem dX11_shakeVotes_38 : decode cX11_shakeVotes 38 = .ok (.iconst 1, 1) := by decide +kernel
theorem dX11_shakeVotes_39 : decode cX11_shakeVotes 39 = .ok (.iadd, 1) := by decide +kernel
theorem dX11_shakeVotes_40 : decode cX11_shakeVotes 40 = .ok (.istore 4, 2) := by decide +kernel
theorem dX11_shakeVotes_42 : decode cX11_shakeVotes 42 = .ok (.iload 4, 2) := by decide +kernel
theorem dX11_shakeVotes_44 : decode cX11_shakeVotes 44 = .ok (.aload_n 0, 1) := by decide +kernel
theorem dX11_shakeVotes_45 : decode cX11_shakeVotes 45 = .ok (.getfield 77, 3) := by decide +kernel
theorem dX11_shakeVotes_48 : decode cX11_shakeVotes 48 = .ok (.getfield 193, 3) := by decide +kernel
theorem dX11_shakeVotes_51 : decode cX11_shakeVotes 51 = .ok (.if_icmp .ge 64, 3) := by decide +kernel
theorem dX11_shakeVotes_54 : decode cX11_shakeVotes 54 = .ok (.aload_n 0, 1) := by decide +kernel
theorem dX11_shakeVotes_55 : decode cX11_shakeVotes 55 = .ok (.getfield 77, 3) := by decide +kernel
theorem dX11_shakeVotes_58 : decode cX11_shakeVotes 58 = .ok (.getfield 130, 3) := by decide +kernel
theorem dX11_shakeVotes_61 : decode cX11_shakeVotes 61 = .ok (.iconst 4, 1) := by decide +kernel
theorem dX11_shakeVotes_62 : decode cX11_shakeVotes 62 = .ok (.iaload, 1) := by decide +kernel
theorem dX11_shakeVotes_63 : decode cX11_shakeVotes 63 = .ok (.istore 5, 2) := by decide +kernel
theorem dX11_shakeVotes_65 : decode cX11_shakeVotes 65 = .ok (.iload_n 1, 1) := by decide +kernel
theorem dX11_shakeVotes_66 : decode cX11_shakeVotes 66 = .ok (.iload 4, 2) := by decide +kernel
theorem dX11_shakeVotes_68 : decode cX11_shakeVotes 68 = .ok (.ishr, 1) := by decide +kernel
theorem dX11_shakeVotes_69 : decode cX11_shakeVotes 69 = .ok (.iconst 1, 1) := by decide +kernel
theorem dX11_shakeVotes_70 : decode cX11_shakeVotes 70 = .ok (.iand, 1) := by decide +kernel
theorem dX11_shakeVotes_71 : decode cX11_shakeVotes 71 = .ok (.iconst 1, 1) := by decide +kernel
theorem dX11_shakeVotes_72 : decode cX11_shakeVotes 72 = .ok (.if_icmp .ne 11, 3) := by decide +kernel
theorem dX11_shakeVotes_75 : decode cX11_shakeVotes 75 = .ok (.bipush 100, 2) := by decide +kernel
theorem dX11_shakeVotes_77 : decode cX11_shakeVotes 77 = .ok (.iload 5, 2) := by decide +kernel
theorem dX11_shakeVotes_79 : decode cX11_shakeVotes 79 = .ok (.isub, 1) := by decide +kernel
theorem dX11_shakeVotes_80 : decode cX11_shakeVotes 80 = .ok (.goto 5, 3) := by decide +kernel
theorem dX11_shakeVotes_83 : decode cX11_shakeVotes 83 = .ok (.iload 5, 2) := by decide +kernel
theorem dX11_shakeVotes_85 : decode cX11_shakeVotes 85 = .ok (.istore 6, 2) := by decide +kernel
theorem dX11_shakeVotes_87 : decode cX11_shakeVotes 87 = .ok (.aload_n 0, 1) := by decide +kernel
theorem dX11_shakeVotes_88 : decode cX11_shakeVotes 88 = .ok (.aload_n 0, 1) := by decide +kernel
theorem dX11_shakeVotes_89 : decode cX11_shakeVotes 89 = .ok (.getfield 77, 3) := by decide +kernel
theorem dX11_shakeVotes_92 : decode cX11_shakeVotes 92 = .ok (.getfield 124, 3) := by decide +kernel
theorem dX11_shakeVotes_95 : decode cX11_shakeVotes 95 = .ok (.iload 4, 2) := by decide +kernel
theorem dX11_shakeVotes_97 : decode cX11_shakeVotes 97 = .ok (.iaload, 1) := by decide +kernel
theorem dX11_shakeVotes_98 : decode cX11_shakeVotes 98 = .ok (.iload 6, 2) := by decide +kernel
theorem dX11_shakeVotes_100 : decode cX11_shakeVotes 100 = .ok (.invokevirtual 267, 3) := by decide +kernel
theorem dX11_shakeVotes_103 : decode cX11_shakeVotes 103 = .ok (.lload_n 2, 1) := by decide +kernel
theorem dX11_shakeVotes_104 : decode cX11_shakeVotes 104 = .ok (.ldc2_w 270, 3) := by decide +kernel
theorem dX11_shakeVotes_107 : decode cX11_shakeVotes 107 = .ok (.lmul, 1) := by decide +kernel
theorem dX11_shakeVotes_108 : decode cX11_shakeVotes 108 = .ok (.lstore_n 2, 1) := by decide +kernel
theorem dX11_shakeVotes_109 : decode cX11_shakeVotes 109 = .ok (.iinc 4 1, 3) := by decide +kernel
theorem dX11_shakeVotes_112 : decode cX11_shakeVotes 112 = .ok (.goto (-70), 3) := by decide +kernel
theorem dX11_shakeVotes_115 : decode cX11_shakeVotes 115 = .ok (.lload_n 2, 1) := by decide +kernel
theorem dX11_shakeVotes_116 : decode cX11_shakeVotes 116 = .ok (.lreturn, 1) := by decide +kernel
theorem dX11_addVoter_0 : decode cX11_addVoter 0 = .ok (.aload_n 0, 1) := by decide +kernel
theorem dX11_addVoter_1 : decode cX11_addVoter 1 = .ok (.getfield 33, 3) := by decide +kernel
theorem dX11_addVoter_4 : decode cX11_addVoter 4 = .ok (.arraylength, 1) := by decide +kernel
theorem dX11_addVoter_5 : decode cX11_addVoter 5 = .ok (.iconst 1, 1) := by decide +kernel
theorem dX11_addVoter_6 : decode cX11_addVoter 6 = .ok (.isub, 1) := by decide +kernel
theorem dX11_addVoter_7 : decode cX11_addVoter 7 = .ok (.istore_n 3, 1) := by decide +kernel
theorem dX11_addVoter_8 : decode cX11_addVoter 8 = .ok (.iload_n 3, 1) := by decide +kernel
theorem dX11_addVoter_9 : decode cX11_addVoter 9 = .ok (.ifCond .lt 52, 3) := by decide +kernel
theorem dX11_addVoter_12 : decode cX11_addVoter 12 = .ok (.iload_n 3, 1) := by decide +kernel
theorem dX11_addVoter_13 : decode cX11_addVoter 13 = .ok (.iload_n 1, 1) := by decide +kernel
theorem dX11_addVoter_14 : decode cX11_addVoter 14 = .ok (.if_icmp .lt 14, 3) := by decide +kernel
theorem dX11_addVoter_17 : decode cX11_addVoter 17 = .ok (.aload_n 0, 1) := by decide +kernel
theorem dX11_addVoter_18 : decode cX11_addVoter 18 = .ok (.getfield 33, 3) := by decide +kernel
theorem dX11_addVoter_21 : decode cX11_addVoter 21 = .ok (.iload_n 3, 1) := by decide +kernel
theorem dX11_addVoter_22 : decode cX11_addVoter 22 = .ok (.iload_n 1, 1) := by decide +kernel
theorem dX11_addVoter_23 : decode cX11_addVoter 23 = .ok (.isub, 1) := by decide +kernel
theorem dX11_addVoter_24 : decode cX11_addVoter 24 = .ok (.laload, 1) := by decide +kernel
theorem dX11_addVoter_25 : decode cX11_addVoter 25 = .ok (.goto 4, 3) := by decide +kernel
theorem dX11_addVoter_28 : decode cX11_addVoter 28 = .ok (.lconst 0, 1) := by decide +kernel
theorem dX11_addVoter_29 : decode cX11_addVoter 29 = .ok (.lstore 4, 2) := by decide +kernel
theorem dX11_addVoter_31 : decode cX11_addVoter 31 = .ok (.aload_n 0, 1) := by decide +kernel
theorem dX11_addVoter_32 : decode cX11_addVoter 32 = .ok (.getfield 33, 3) := by decide +kernel
theorem dX11_addVoter_35 : decode cX11_addVoter 35 = .ok (.iload_n 3, 1) := by decide +kernel
theorem dX11_addVoter_36 : decode cX11_addVoter 36 = .ok (.aload_n 0, 1) := by decide +kernel
theorem dX11_addVoter_37 : decode cX11_addVoter 37 = .ok (.getfield 33, 3) := by decide +kernel
theorem dX11_addVoter_40 : decode cX11_addVoter 40 = .ok (.iload_n 3, 1) := by decide +kernel
theorem dX11_addVoter_41 : decode cX11_addVoter 41 = .ok (.laload, 1) := by decide +kernel
theorem dX11_addVoter_42 : decode cX11_addVoter 42 = .ok (.bipush 100, 2) := by decide +kernel
theorem dX11_addVoter_44 : decode cX11_addVoter 44 = .ok (.iload_n 2, 1) := by decide +kernel
theorem dX11_addVoter_45 : decode cX11_addVoter 45 = .ok (.isub, 1) := by decide +kernel
theorem dX11_addVoter_46 : decode cX11_addVoter 46 = .ok (.i2l, 1) := by decide +kernel
theorem dX11_addVoter_47 : decode cX11_addVoter 47 = .ok (.lmul, 1) := by decide +kernel
theorem dX11_addVoter_48 : decode cX11_addVoter 48 = .ok (.lload 4, 2) := by decide +kernel
theorem dX11_addVoter_50 : decode cX11_addVoter 50 = .ok (.iload_n 2, 1) := by decide +kernel
theorem dX11_addVoter_51 : decode cX11_addVoter 51 = .ok (.i2l, 1) := by decide +kernel
theorem dX11_addVoter_52 : decode cX11_addVoter 52 = .ok (.lmul, 1) := by decide +kernel
theorem dX11_addVoter_53 : decode cX11_addVoter 53 = .ok (.ladd, 1) := by decide +kernel
theorem dX11_addVoter_54 : decode cX11_addVoter 54 = .ok (.lastore, 1) := by decide +kernel
theorem dX11_addVoter_55 : decode cX11_addVoter 55 = .ok (.iinc 3 (-1), 3) := by decide +kernel
theorem dX11_addVoter_58 : decode cX11_addVoter 58 = .ok (.goto (-50), 3) := by decide +kernel
theorem dX11_addVoter_61 : decode cX11_addVoter 61 = .ok (.return_, 1) := by decide +kernel
theorem dX11_chanceCarried_0 : decode cX11_chanceCarried 0 = .ok (.aload_n 0, 1) := by decide +kernel
theorem dX11_chanceCarried_1 : decode cX11_chanceCarried 1 = .ok (.getfield 77, 3) := by decide +kernel
theorem dX11_chanceCarried_4 : decode cX11_chanceCarried 4 = .ok (.aload_n 0, 1) := by decide +kernel
theorem dX11_chanceCarried_5 : decode cX11_chanceCarried 5 = .ok (.getfield 77, 3) := by decide +kernel
theorem dX11_chanceCarried_8 : decode cX11_chanceCarried 8 = .ok (.getfield 170, 3) := by decide +kernel
theorem dX11_chanceCarried_11 : decode cX11_chanceCarried 11 = .ok (.invokevirtual 272, 3) := by decide +kernel
theorem dX11_chanceCarried_14 : decode cX11_chanceCarried 14 = .ok (.istore_n 1, 1) := by decide +kernel
theorem dX11_chanceCarried_15 : decode cX11_chanceCarried 15 = .ok (.lconst 0, 1) := by decide +kernel
theorem dX11_chanceCarried_16 : decode cX11_chanceCarried 16 = .ok (.lstore_n 2, 1) := by decide +kernel
theorem dX11_chanceCarried_17 : decode cX11_chanceCarried 17 = .ok (.iconst 0, 1) := by decide +kernel
theorem dX11_chanceCarried_18 : decode cX11_chanceCarried 18 = .ok (.istore 4, 2) := by decide +kernel
theorem dX11_chanceCarried_20 : decode cX11_chanceCarried 20 = .ok (.iload 4, 2) := by decide +kernel
theorem dX11_chanceCarried_22 : decode cX11_chanceCarried 22 = .ok (.aload_n 0, 1) := by decide +kernel
theorem dX11_chanceCarried_23 : decode cX11_chanceCarried 23 = .ok (.getfield 33, 3) := by decide +kernel
theorem dX11_chanceCarried_26 : decode cX11_chanceCarried 26 = .ok (.arraylength, 1) := by decide +kernel
theorem dX11_chanceCarried_27 : decode cX11_chanceCarried 27 = .ok (.if_icmp .ge 37, 3) := by decide +kernel
theorem dX11_chanceCarried_30 : decode cX11_chanceCarried 30 = .ok (.aload_n 0, 1) := by decide +kernel
theorem dX11_chanceCarried_31 : decode cX11_chanceCarried 31 = .ok (.getfield 77, 3) := by decide +kernel
theorem dX11_chanceCarried_34 : decode cX11_chanceCarried 34 = .ok (.getfield 130, 3) := by decide +kernel
theorem dX11_chanceCarried_37 : decode cX11_chanceCarried 37 = .ok (.iconst 1, 1) := by decide +kernel
theorem dX11_chanceCarried_38 : decode cX11_chanceCarried 38 = .ok (.iaload, 1) := by decide +kernel
theorem dX11_chanceCarried_39 : decode cX11_chanceCarried 39 = .ok (.iload 4, 2) := by decide +kernel
theorem dX11_chanceCarried_41 : decode cX11_chanceCarried 41 = .ok (.iload_n 1, 1) := by decide +kernel
theorem dX11_chanceCarried_42 : decode cX11_chanceCarried 42 = .ok (.invokestatic 275, 3) := by decide +kernel
theorem dX11_chanceCarried_45 : decode cX11_chanceCarried 45 = .ok (.ifCond .eq 13, 3) := by decide +kernel
theorem dX11_chanceCarried_48 : decode cX11_chanceCarried 48 = .ok (.lload_n 2, 1) := by decide +kernel
theorem dX11_chanceCarried_49 : decode cX11_chanceCarried 49 = .ok (.aload_n 0, 1) := by decide +kernel
theorem dX11_chanceCarried_50 : decode cX11_chanceCarried 50 = .ok (.getfield 33, 3) := by decide +kernel
theorem dX11_chanceCarried_53 : decode cX11_chanceCarried 53 = .ok (.iload 4, 2) := by decide +kernel
theorem dX11_chanceCarried_55 : decode cX11_chanceCarried 55 = .ok (.laload, 1) := by decide +kernel
theorem dX11_chanceCarried_56 : decode cX11_chanceCarried 56 = .ok (.ladd, 1) := by decide +kernel
theorem dX11_chanceCarried_57 : decode cX11_chanceCarried 57 = .ok (.lstore_n 2, 1) := by decide +kernel
theorem dX11_chanceCarried_58 : decode cX11_chanceCarried 58 = .ok (.iinc 4 1, 3) := by decide +kernel
theorem dX11_chanceCarried_61 : decode cX11_chanceCarried 61 = .ok (.goto (-41), 3) := by decide +kernel
theorem dX11_chanceCarried_64 : decode cX11_chanceCarried 64 = .ok (.lload_n 2, 1) := by decide +kernel
theorem dX11_chanceCarried_65 : decode cX11_chanceCarried 65 = .ok (.lreturn, 1) := by decide +kernel
theorem dX11_commonDivisor_0 : decode cX11_commonDivisor 0 = .ok (.lload_n 0, 1) := by decide +kernel
theorem dX11_commonDivisor_1 : decode cX11_commonDivisor 1 = .ok (.lstore 4, 2) := by decide +kernel
theorem dX11_commonDivisor_3 : decode cX11_commonDivisor 3 = .ok (.lload_n 2, 1) := by decide +kernel
theorem dX11_commonDivisor_4 : decode cX11_commonDivisor 4 = .ok (.lstore 6, 2) := by decide +kernel
theorem dX11_commonDivisor_6 : decode cX11_commonDivisor 6 = .ok (.iconst 0, 1) := by decide +kernel
theorem dX11_commonDivisor_7 : decode cX11_commonDivisor 7 = .ok (.istore 8, 2) := by decide +kernel
theorem dX11_commonDivisor_9 : decode cX11_commonDivisor 9 = .ok (.iload 8, 2) := by decide +kernel
theorem dX11_commonDivisor_11 : decode cX11_commonDivisor 11 = .ok (.bipush 100, 2) := by decide +kernel
theorem dX11_commonDivisor_13 : decode cX11_commonDivisor 13 = .ok (.if_icmp .ge 31, 3) := by decide +kernel
theorem dX11_commonDivisor_16 : decode cX11_commonDivisor 16 = .ok (.lload 6, 2) := by decide +kernel
theorem dX11_commonDivisor_18 : decode cX11_commonDivisor 18 = .ok (.lconst 0, 1) := by decide +kernel
theorem dX11_commonDivisor_19 : decode cX11_commonDivisor 19 = .ok (.lcmp, 1) := by decide +kernel
theorem dX11_commonDivisor_20 : decode cX11_commonDivisor 20 = .ok (.ifCond .eq 24, 3) := by decide +kernel
theorem dX11_commonDivisor_23 : decode cX11_commonDivisor 23 = .ok (.lload 4, 2) := by decide +kernel
theorem dX11_commonDivisor_25 : decode cX11_commonDivisor 25 = .ok (.lload 6, 2) := by decide +kernel
theorem dX11_commonDivisor_27 : decode cX11_commonDivisor 27 = .ok (.lrem, 1) := by decide +kernel
theorem dX11_commonDivisor_28 : decode cX11_commonDivisor 28 = .ok (.lstore 9, 2) := by decide +kernel
theorem dX11_commonDivisor_30 : decode cX11_commonDivisor 30 = .ok (.lload 6, 2) := by decide +kernel
theorem dX11_commonDivisor_32 : decode cX11_commonDivisor 32 = .ok (.lstore 4, 2) := by decide +kernel
theorem dX11_commonDivisor_34 : decode cX11_commonDivisor 34 = .ok (.lload 9, 2) := by decide +kernel
theorem dX11_commonDivisor_36 : decode cX11_commonDivisor 36 = .ok (.lstore 6, 2) := by decide +kernel
theorem dX11_commonDivisor_38 : decode cX11_commonDivisor 38 = .ok (.iinc 8 1, 3) := by decide +kernel
theorem dX11_commonDivisor_41 : decode cX11_commonDivisor 41 = .ok (.goto (-32), 3) := by decide +kernel
theorem dX11_commonDivisor_44 : decode cX11_commonDivisor 44 = .ok (.lload 4, 2) := by decide +kernel
theorem dX11_commonDivisor_46 : decode cX11_commonDivisor 46 = .ok (.lreturn, 1) := by decide +kernel
theorem dX11_isEnough_0 : decode cX11_isEnough 0 = .ok (.iload_n 0, 1) := by decide +kernel
theorem dX11_isEnough_1 : decode cX11_isEnough 1 = .ok (.lookupswitch 53 #[(0, 27), (1, 40)], 27) := by decide +kernel
theorem dX11_isEnough_28 : decode cX11_isEnough 28 = .ok (.iconst 2, 1) := by decide +kernel
theorem dX11_isEnough_29 : decode cX11_isEnough 29 = .ok (.iload_n 1, 1) := by decide +kernel
theorem dX11_isEnough_30 : decode cX11_isEnough 30 = .ok (.imul, 1) := by decide +kernel
theorem dX11_isEnough_31 : decode cX11_isEnough 31 = .ok (.iload_n 2, 1) := by decide +kernel
theorem dX11_isEnough_32 : decode cX11_isEnough 32 = .ok (.if_icmp .lt 7, 3) := by decide +kernel
theorem dX11_isEnough_35 : decode cX11_isEnough 35 = .ok (.iconst 1, 1) := by decide +kernel
theorem dX11_isEnough_36 : decode cX11_isEnough 36 = .ok (.goto 4, 3) := by decide +kernel
theorem dX11_isEnough_39 : decode cX11_isEnough 39 = .ok (.iconst 0, 1) := by decide +kernel
theorem dX11_isEnough_40 : decode cX11_isEnough 40 = .ok (.ireturn, 1) := by decide +kernel
theorem dX11_isEnough_41 : decode cX11_isEnough 41 = .ok (.iconst 2, 1) := by decide +kernel
theorem dX11_isEnough_42 : decode cX11_isEnough 42 = .ok (.iload_n 1, 1) := by decide +kernel
theorem dX11_isEnough_43 : decode cX11_isEnough 43 = .ok (.imul, 1) := by decide +kernel
theorem dX11_isEnough_44 : decode cX11_isEnough 44 = .ok (.iload_n 2, 1) := by decide +kernel
theorem dX11_isEnough_45 : decode cX11_isEnough 45 = .ok (.if_icmp .le 7, 3) := by decide +kernel
theorem dX11_isEnough_48 : decode cX11_isEnough 48 = .ok (.iconst 1, 1) := by decide +kernel
theorem dX11_isEnough_49 : decode cX11_isEnough 49 = .ok (.goto 4, 3) := by decide +kernel
theorem dX11_isEnough_52 : decode cX11_isEnough 52 = .ok (.iconst 0, 1) := by decide +kernel
theorem dX11_isEnough_53 : decode cX11_isEnough 53 = .ok (.ireturn, 1) := by decide +kernel
theorem dX11_isEnough_54 : decode cX11_isEnough 54 = .ok (.iconst 3, 1) := by decide +kernel
theorem dX11_isEnough_55 : decode cX11_isEnough 55 = .ok (.iload_n 1, 1) := by decide +kernel
theorem dX11_isEnough_56 : decode cX11_isEnough 56 = .ok (.imul, 1) := by decide +kernel
theorem dX11_isEnough_57 : decode cX11_isEnough 57 = .ok (.iconst 2, 1) := by decide +kernel
theorem dX11_isEnough_58 : decode cX11_isEnough 58 = .ok (.iload_n 2, 1) := by decide +kernel
theorem dX11_isEnough_59 : decode cX11_isEnough 59 = .ok (.imul, 1) := by decide +kernel
theorem dX11_isEnough_60 : decode cX11_isEnough 60 = .ok (.if_icmp .lt 7, 3) := by decide +kernel
theorem dX11_isEnough_63 : decode cX11_isEnough 63 = .ok (.iconst 1, 1) := by decide +kernel
theorem dX11_isEnough_64 : decode cX11_isEnough 64 = .ok (.goto 4, 3) := by decide +kernel
theorem dX11_isEnough_67 : decode cX11_isEnough 67 = .ok (.iconst 0, 1) := by decide +kernel
theorem dX11_isEnough_68 : decode cX11_isEnough 68 = .ok (.ireturn, 1) := by decide +kernel
theorem dX9_init_0 : decode cX9_init 0 = .ok (.aload_n 0, 1) := by decide +kernel
theorem dX9_init_1 : decode cX9_init 1 = .ok (.invokespecial 3, 3) := by decide +kernel
theorem dX9_init_4 : decode cX9_init 4 = .ok (.aload_n 0, 1) := by decide +kernel
theorem dX9_init_5 : decode cX9_init 5 = .ok (.bipush 8, 2) := by decide +kernel
theorem dX9_init_7 : decode cX9_init 7 = .ok (.bipush 8, 2) := by decide +kernel
theorem dX9_init_9 : decode cX9_init 9 = .ok (.multianewarray 9 2, 4) := by decide +kernel
theorem dX9_init_13 : decode cX9_init 13 = .ok (.putfield 11, 3) := by decide +kernel
theorem dX9_init_16 : decode cX9_init 16 = .ok (.aload_n 0, 1) := by decide +kernel
theorem dX9_init_17 : decode cX9_init 17 = .ok (.bipush 8, 2) := by decide +kernel
theorem dX9_init_19 : decode cX9_init 19 = .ok (.bipush 8, 2) := by decide +kernel
theorem dX9_init_21 : decode cX9_init 21 = .ok (.multianewarray 9 2, 4) := by decide +kernel
theorem dX9_init_25 : decode cX9_init 25 = .ok (.putfield 16, 3) := by decide +kernel
theorem dX9_init_28 : decode cX9_init 28 = .ok (.aload_n 0, 1) := by decide +kernel
theorem dX9_init_29 : decode cX9_init 29 = .ok (.bipush 8, 2) := by decide +kernel
theorem dX9_init_31 : decode cX9_init 31 = .ok (.bipush 8, 2) := by decide +kernel
theorem dX9_init_33 : decode cX9_init 33 = .ok (.multianewarray 9 2, 4) := by decide +kernel
theorem dX9_init_37 : decode cX9_init 37 = .ok (.putfield 19, 3) := by decide +kernel
theorem dX9_init_40 : decode cX9_init 40 = .ok (.aload_n 0, 1) := by decide +kernel
theorem dX9_init_41 : decode cX9_init 41 = .ok (.bipush 8, 2) := by decide +kernel
theorem dX9_init_43 : decode cX9_init 43 = .ok (.newarray .int, 2) := by decide +kernel
theorem dX9_init_45 : decode cX9_init 45 = .ok (.putfield 22, 3) := by decide +kernel
theorem dX9_init_48 : decode cX9_init 48 = .ok (.aload_n 0, 1) := by decide +kernel
theorem dX9_init_49 : decode cX9_init 49 = .ok (.bipush 8, 2) := by decide +kernel
theorem dX9_init_51 : decode cX9_init 51 = .ok (.newarray .int, 2) := by decide +kernel
theorem dX9_init_53 : decode cX9_init 53 = .ok (.putfield 26, 3) := by decide +kernel
theorem dX9_init_56 : decode cX9_init 56 = .ok (.aload_n 0, 1) := by decide +kernel
theorem dX9_init_57 : decode cX9_init 57 = .ok (.bipush 8, 2) := by decide +kernel
theorem dX9_init_59 : decode cX9_init 59 = .ok (.newarray .int, 2) := by decide +kernel
theorem dX9_init_61 : decode cX9_init 61 = .ok (.putfield 29, 3) := by decide +kernel
theorem dX9_init_64 : decode cX9_init 64 = .ok (.aload_n 0, 1) := by decide +kernel
theorem dX9_init_65 : decode cX9_init 65 = .ok (.new 32, 3) := by decide +kernel
theorem dX9_init_68 : decode cX9_init 68 = .ok (.dup, 1) := by decide +kernel
theorem dX9_init_69 : decode cX9_init 69 = .ok (.invokespecial 34, 3) := by decide +kernel
theorem dX9_init_72 : decode cX9_init 72 = .ok (.putfield 35, 3) := by decide +kernel
theorem dX9_init_75 : decode cX9_init 75 = .ok (.aload_n 0, 1) := by decide +kernel
theorem dX9_init_76 : decode cX9_init 76 = .ok (.bipush 7, 2) := by decide +kernel
theorem dX9_init_78 : decode cX9_init 78 = .ok (.newarray .int, 2) := by decide +kernel
theorem dX9_init_80 : decode cX9_init 80 = .ok (.putfield 39, 3) := by decide +kernel
theorem dX9_init_83 : decode cX9_init 83 = .ok (.aload_n 0, 1) := by decide +kernel
theorem dX9_init_84 : decode cX9_init 84 = .ok (.bipush 7, 2) := by decide +kernel
theorem dX9_init_86 : decode cX9_init 86 = .ok (.newarray .int, 2) := by decide +kernel
theorem dX9_init_88 : decode cX9_init 88 = .ok (.putfield 42, 3) := by decide +kernel
theorem dX9_init_91 : decode cX9_init 91 = .ok (.aload_n 0, 1) := by decide +kernel
theorem dX9_init_92 : decode cX9_init 92 = .ok (.sipush 128, 3) := by decide +kernel
theorem dX9_init_95 : decode cX9_init 95 = .ok (.newarray .int, 2) := by decide +kernel
theorem dX9_init_97 : decode cX9_init 97 = .ok (.putfield 45, 3) := by decide +kernel
theorem dX9_init_100 : decode cX9_init 100 = .ok (.aload_n 0, 1) := by decide +kernel
theorem dX9_init_101 : decode cX9_init 101 = .ok (.sipush 128, 3) := by decide +kernel
theorem dX9_init_104 : decode cX9_init 104 = .ok (.newarray .int, 2) := by decide +kernel
theorem dX9_init_106 : decode cX9_init 106 = .ok (.putfield 48, 3) := by decide +kernel
theorem dX9_init_109 : decode cX9_init 109 = .ok (.aload_n 0, 1) := by decide +kernel
theorem dX9_init_110 : decode cX9_init 110 = .ok (.aload_n 1, 1) := by decide +kernel
theorem dX9_init_111 : decode cX9_init 111 = .ok (.putfield 51, 3) := by decide +kernel
theorem dX9_init_114 : decode cX9_init 114 = .ok (.return_, 1) := by decide +kernel
end
section
theorem dX12_init_0 : decode cX12_init 0 = .ok (.aload_n 0, 1) := by decide +kernel
theorem dX12_init_1 : decode cX12_init 1 = .ok (.invokespecial 1, 3) := by decide +kernel
theorem dX12_init_4 : decode cX12_init 4 = .ok (.aload_n 0, 1) := by decide +kernel
theorem dX12_init_5 : decode cX12_init 5 = .ok (.bipush 7, 2) := by decide +kernel
theorem dX12_init_7 : decode cX12_init 7 = .ok (.newarray .int, 2) := by decide +kernel
theorem dX12_init_9 : decode cX12_init 9 = .ok (.putfield 7, 3) := by decide +kernel
theorem dX12_init_12 : decode cX12_init 12 = .ok (.aload_n 0, 1) := by decide +kernel
theorem dX12_init_13 : decode cX12_init 13 = .ok (.bipush 9, 2) := by decide +kernel
theorem dX12_init_15 : decode cX12_init 15 = .ok (.newarray .int, 2) := by decide +kernel
theorem dX12_init_17 : decode cX12_init 17 = .ok (.putfield 13, 3) := by decide +kernel
theorem dX12_init_20 : decode cX12_init 20 = .ok (.aload_n 0, 1) := by decide +kernel
theorem dX12_init_21 : decode cX12_init 21 = .ok (.bipush 9, 2) := by decide +kernel
theorem dX12_init_23 : decode cX12_init 23 = .ok (.newarray .int, 2) := by decide +kernel
theorem dX12_init_25 : decode cX12_init 25 = .ok (.putfield 16, 3) := by decide +kernel
theorem dX12_init_28 : decode cX12_init 28 = .ok (.aload_n 0, 1) := by decide +kernel
theorem dX12_init_29 : decode cX12_init 29 = .ok (.bipush 9, 2) := by decide +kernel
theorem dX12_init_31 : decode cX12_init 31 = .ok (.newarray .int, 2) := by decide +kernel
theorem dX12_init_33 : decode cX12_init 33 = .ok (.putfield 19, 3) := by decide +kernel
theorem dX12_init_36 : decode cX12_init 36 = .ok (.aload_n 0, 1) := by decide +kernel
theorem dX12_init_37 : decode cX12_init 37 = .ok (.bipush 8, 2) := by decide +kernel
theorem dX12_init_39 : decode cX12_init 39 = .ok (.newarray .int, 2) := by decide +kernel
theorem dX12_init_41 : decode cX12_init 41 = .ok (.putfield 22, 3) := by decide +kernel
theorem dX12_init_44 : decode cX12_init 44 = .ok (.aload_n 0, 1) := by decide +kernel
theorem dX12_init_45 : decode cX12_init 45 = .ok (.iconst 5, 1) := by decide +kernel
theorem dX12_init_46 : decode cX12_init 46 = .ok (.newarray .int, 2) := by decide +kernel
theorem dX12_init_48 : decode cX12_init 48 = .ok (.dup, 1) := by decide +kernel
theorem dX12_init_49 : decode cX12_init 49 = .ok (.iconst 0, 1) := by decide +kernel
theorem dX12_init_50 : decode cX12_init 50 = .ok (.bipush 10, 2) := by decide +kernel
theorem dX12_init_52 : decode cX12_init 52 = .ok (.iastore, 1) := by decide +kernel
theorem dX12_init_53 : decode cX12_init 53 = .ok (.dup, 1) := by decide +kernel
theorem dX12_init_54 : decode cX12_init 54 = .ok (.iconst 1, 1) := by decide +kernel
theorem dX12_init_55 : decode cX12_init 55 = .ok (.iconst 0, 1) := by decide +kernel
theorem dX12_init_56 : decode cX12_init 56 = .ok (.iastore, 1) := by decide +kernel
theorem dX12_init_57 : decode cX12_init 57 = .ok (.dup, 1) := by decide +kernel
theorem dX12_init_58 : decode cX12_init 58 = .ok (.iconst 2, 1) := by decide +kernel
theorem dX12_init_59 : decode cX12_init 59 = .ok (.iconst 0, 1) := by decide +kernel
theorem dX12_init_60 : decode cX12_init 60 = .ok (.iastore, 1) := by decide +kernel
theorem dX12_init_61 : decode cX12_init 61 = .ok (.dup, 1) := by decide +kernel
theorem dX12_init_62 : decode cX12_init 62 = .ok (.iconst 3, 1) := by decide +kernel
theorem dX12_init_63 : decode cX12_init 63 = .ok (.iconst 0, 1) := by decide +kernel
theorem dX12_init_64 : decode cX12_init 64 = .ok (.iastore, 1) := by decide +kernel
theorem dX12_init_65 : decode cX12_init 65 = .ok (.dup, 1) := by decide +kernel
theorem dX12_init_66 : decode cX12_init 66 = .ok (.iconst 4, 1) := by decide +kernel
theorem dX12_init_67 : decode cX12_init 67 = .ok (.bipush 10, 2) := by decide +kernel
theorem dX12_init_69 : decode cX12_init 69 = .ok (.iastore, 1) := by decide +kernel
theorem dX12_init_70 : decode cX12_init 70 = .ok (.putfield 25, 3) := by decide +kernel
theorem dX12_init_73 : decode cX12_init 73 = .ok (.aload_n 0, 1) := by decide +kernel
theorem dX12_init_74 : decode cX12_init 74 = .ok (.bipush 64, 2) := by decide +kernel
theorem dX12_init_76 : decode cX12_init 76 = .ok (.newarray .int, 2) := by decide +kernel
theorem dX12_init_78 : decode cX12_init 78 = .ok (.putfield 28, 3) := by decide +kernel
theorem dX12_init_81 : decode cX12_init 81 = .ok (.aload_n 0, 1) := by decide +kernel
theorem dX12_init_82 : decode cX12_init 82 = .ok (.bipush 32, 2) := by decide +kernel
theorem dX12_init_84 : decode cX12_init 84 = .ok (.newarray .int, 2) := by decide +kernel
theorem dX12_init_86 : decode cX12_init 86 = .ok (.putfield 31, 3) := by decide +kernel
theorem dX12_init_89 : decode cX12_init 89 = .ok (.aload_n 0, 1) := by decide +kernel
theorem dX12_init_90 : decode cX12_init 90 = .ok (.bipush 32, 2) := by decide +kernel
theorem dX12_init_92 : decode cX12_init 92 = .ok (.newarray .int, 2) := by decide +kernel
theorem dX12_init_94 : decode cX12_init 94 = .ok (.putfield 34, 3) := by decide +kernel
theorem dX12_init_97 : decode cX12_init 97 = .ok (.aload_n 0, 1) := by decide +kernel
theorem dX12_init_98 : decode cX12_init 98 = .ok (.bipush 96, 2) := by decide +kernel
theorem dX12_init_100 : decode cX12_init 100 = .ok (.newarray .int, 2) := by decide +kernel
theorem dX12_init_102 : decode cX12_init 102 = .ok (.putfield 37, 3) := by decide +kernel
theorem dX12_init_105 : decode cX12_init 105 = .ok (.aload_n 0, 1) := by decide +kernel
theorem dX12_init_106 : decode cX12_init 106 = .ok (.bipush 100, 2) := by decide +kernel
theorem dX12_init_108 : decode cX12_init 108 = .ok (.newarray .int, 2) := by decide +kernel
theorem dX12_init_110 : decode cX12_init 110 = .ok (.putfield 40, 3) := by decide +kernel
theorem dX12_init_113 : decode cX12_init 113 = .ok (.aload_n 0, 1) := by decide +kernel
theorem dX12_init_114 : decode cX12_init 114 = .ok (.bipush 81, 2) := by decide +kernel
theorem dX12_init_116 : decode cX12_init 116 = .ok (.newarray .int, 2) := by decide +kernel
theorem dX12_init_118 : decode cX12_init 118 = .ok (.putfield 43, 3) := by decide +kernel
theorem dX12_init_121 : decode cX12_init 121 = .ok (.aload_n 0, 1) := by decide +kernel
theorem dX12_init_122 : decode cX12_init 122 = .ok (.bipush 81, 2) := by decide +kernel
theorem dX12_init_124 : decode cX12_init 124 = .ok (.newarray .int, 2) := by decide +kernel
theorem dX12_init_126 : decode cX12_init 126 = .ok (.putfield 46, 3) := by decide +kernel
theorem dX12_init_129 : decode cX12_init 129 = .ok (.aload_n 0, 1) := by decide +kernel
theorem dX12_init_130 : decode cX12_init 130 = .ok (.bipush 90, 2) := by decide +kernel
theorem dX12_init_132 : decode cX12_init 132 = .ok (.newarray .int, 2) := by decide +kernel
theorem dX12_init_134 : decode cX12_init 134 = .ok (.putfield 49, 3) := by decide +kernel
theorem dX12_init_137 : decode cX12_init 137 = .ok (.aload_n 0, 1) := by decide +kernel
theorem dX12_init_138 : decode cX12_init 138 = .ok (.bipush 9, 2) := by decide +kernel
theorem dX12_init_140 : decode cX12_init 140 = .ok (.newarray .int, 2) := by decide +kernel
theorem dX12_init_142 : decode cX12_init 142 = .ok (.putfield 52, 3) := by decide +kernel
theorem dX12_init_145 : decode cX12_init 145 = .ok (.aload_n 0, 1) := by decide +kernel
theorem dX12_init_146 : decode cX12_init 146 = .ok (.bipush 9, 2) := by decide +kernel
theorem dX12_init_148 : decode cX12_init 148 = .ok (.newarray .int, 2) := by decide +kernel
theorem dX12_init_150 : decode cX12_init 150 = .ok (.putfield 55, 3) := by decide +kernel
theorem dX12_init_153 : decode cX12_init 153 = .ok (.aload_n 0, 1) := by decide +kernel
theorem dX12_init_154 : decode cX12_init 154 = .ok (.bipush 9, 2) := by decide +kernel
theorem dX12_init_156 : decode cX12_init 156 = .ok (.newarray .int, 2) := by decide +kernel
theorem dX12_init_158 : decode cX12_init 158 = .ok (.putfield 58, 3) := by decide +kernel
theorem dX12_init_161 : decode cX12_init 161 = .ok (.aload_n 0, 1) := by decide +kernel
theorem dX12_init_162 : decode cX12_init 162 = .ok (.bipush 9, 2) := by decide +kernel
theorem dX12_init_164 : decode cX12_init 164 = .ok (.newarray .int, 2) := by decide +kernel
theorem dX12_init_166 : decode cX12_init 166 = .ok (.putfield 61, 3) := by decide +kernel
theorem dX12_init_169 : decode cX12_init 169 = .ok (.aload_n 0, 1) := by decide +kernel
theorem dX12_init_170 : decode cX12_init 170 = .ok (.bipush 8, 2) := by decide +kernel
theorem dX12_init_172 : decode cX12_init 172 = .ok (.newarray .int, 2) := by decide +kernel
theorem dX12_init_174 : decode cX12_init 174 = .ok (.putfield 64, 3) := by decide +kernel
theorem dX12_init_177 : decode cX12_init 177 = .ok (.aload_n 0, 1) := by decide +kernel
theorem dX12_init_178 : decode cX12_init 178 = .ok (.bipush 8, 2) := by decide +kernel
theorem dX12_init_180 : decode cX12_init 180 = .ok (.newarray .int, 2) := by decide +kernel
theorem dX12_init_182 : decode cX12_init 182 = .ok (.putfield 67, 3) := by decide +kernel
theorem dX12_init_185 : decode cX12_init 185 = .ok (.aload_n 0, 1) := by decide +kernel
theorem dX12_init_186 : decode cX12_init 186 = .ok (.bipush 61, 2) := by decide +kernel
theorem dX12_init_188 : decode cX12_init 188 = .ok (.newarray .int, 2) := by decide +kernel
theorem dX12_init_190 : decode cX12_init 190 = .ok (.putfield 70, 3) := by decide +kernel
theorem dX12_init_193 : decode cX12_init 193 = .ok (.aload_n 0, 1) := by decide +kernel
theorem dX12_init_194 : decode cX12_init 194 = .ok (.bipush 61, 2) := by decide +kernel
theorem dX12_init_196 : decode cX12_init 196 = .ok (.newarray .int, 2) := by decide +kernel
theorem dX12_init_198 : decode cX12_init 198 = .ok (.putfield 73, 3) := by decide +kernel
theorem dX12_init_201 : decode cX12_init 201 = .ok (.aload_n 0, 1) := by decide +kernel
theorem dX12_init_202 : decode cX12_init 202 = .ok (.bipush 8, 2) := by decide +kernel
theorem dX12_init_204 : decode cX12_init 204 = .ok (.newarray .int, 2) := by decide +kernel
theorem dX12_init_206 : decode cX12_init 206 = .ok (.putfield 76, 3) := by decide +kernel
theorem dX12_init_209 : decode cX12_init 209 = .ok (.return_, 1) := by decide +kernel
theorem dX12_no_0 : decode cX12_no 0 = .ok (.aload_n 0, 1) := by decide +kernel
theorem dX12_no_1 : decode cX12_no 1 = .ok (.getfield 7, 3) := by decide +kernel
theorem dX12_no_4 : decode cX12_no 4 = .ok (.iload_n 1, 1) := by decide +kernel
theorem dX12_no_5 : decode cX12_no 5 = .ok (.ineg, 1) := by decide +kernel
theorem dX12_no_6 : decode cX12_no 6 = .ok (.dup2, 1) := by decide +kernel
theorem dX12_no_7 : decode cX12_no 7 = .ok (.iaload, 1) := by decide +kernel
theorem dX12_no_8 : decode cX12_no 8 = .ok (.iconst 1, 1) := by decide +kernel
theorem dX12_no_9 : decode cX12_no 9 = .ok (.iadd, 1) := by decide +kernel
theorem dX12_no_10 : decode cX12_no 10 = .ok (.iastore, 1) := by decide +kernel
theorem dX12_no_11 : decode cX12_no 11 = .ok (.iload_n 1, 1) := by decide +kernel
theorem dX12_no_12 : decode cX12_no 12 = .ok (.ireturn, 1) := by decide +kernel
theorem dX12_lower_0 : decode cX12_lower 0 = .ok (.aload_n 0, 1) := by decide +kernel
theorem dX12_lower_1 : decode cX12_lower 1 = .ok (.getfield 7, 3) := by decide +kernel
theorem dX12_lower_4 : decode cX12_lower 4 = .ok (.iload_n 1, 1) := by decide +kernel
theorem dX12_lower_5 : decode cX12_lower 5 = .ok (.ineg, 1) := by decide +kernel
theorem dX12_lower_6 : decode cX12_lower 6 = .ok (.dup2, 1) := by decide +kernel
theorem dX12_lower_7 : decode cX12_lower 7 = .ok (.iaload, 1) := by decide +kernel
theorem dX12_lower_8 : decode cX12_lower 8 = .ok (.iconst 1, 1) := by decide +kernel
theorem dX12_lower_9 : decode cX12_lower 9 = .ok (.iadd, 1) := by decide +kernel
theorem dX12_lower_10 : decode cX12_lower 10 = .ok (.iastore, 1) := by decide +kernel
theorem dX12_lower_11 : decode cX12_lower 11 = .ok (.ldc 79, 2) := by decide +kernel
theorem dX12_lower_13 : decode cX12_lower 13 = .ok (.iload_n 1, 1) := by decide +kernel
theorem dX12_lower_14 : decode cX12_lower 14 = .ok (.isub, 1) := by decide +kernel
theorem dX12_lower_15 : decode cX12_lower 15 = .ok (.ireturn, 1) := by decide +kernel
theorem dX12_lowest_0 : decode cX12_lowest 0 = .ok (.aload_n 0, 1) := by decide +kernel
theorem dX12_lowest_1 : decode cX12_lowest 1 = .ok (.getfield 7, 3) := by decide +kernel
theorem dX12_lowest_4 : decode cX12_lowest 4 = .ok (.iload_n 1, 1) := by decide +kernel
theorem dX12_lowest_5 : decode cX12_lowest 5 = .ok (.ineg, 1) := by decide +kernel
theorem dX12_lowest_6 : decode cX12_lowest 6 = .ok (.dup2, 1) := by decide +kernel
theorem dX12_lowest_7 : decode cX12_lowest 7 = .ok (.iaload, 1) := by decide +kernel
theorem dX12_lowest_8 : decode cX12_lowest 8 = .ok (.iconst 1, 1) := by decide +kernel
theorem dX12_lowest_9 : decode cX12_lowest 9 = .ok (.iadd, 1) := by decide +kernel
theorem dX12_lowest_10 : decode cX12_lowest 10 = .ok (.iastore, 1) := by decide +kernel
theorem dX12_lowest_11 : decode cX12_lowest 11 = .ok (.ldc2_w 80, 3) := by decide +kernel
theorem dX12_lowest_14 : decode cX12_lowest 14 = .ok (.iload_n 1, 1) := by decide +kernel
theorem dX12_lowest_15 : decode cX12_lowest 15 = .ok (.i2l, 1) := by decide +kernel
theorem dX12_lowest_16 : decode cX12_lowest 16 = .ok (.lsub, 1) := by decide +kernel
theorem dX12_lowest_17 : decode cX12_lowest 17 = .ok (.lreturn, 1) := by decide +kernel
theorem dX12_isIn_0 : decode cX12_isIn 0 = .ok (.iload_n 0, 1) := by decide +kernel
theorem dX12_isIn_1 : decode cX12_isIn 1 = .ok (.iload_n 1, 1) := by decide +kernel
theorem dX12_isIn_2 : decode cX12_isIn 2 = .ok (.if_icmp .lt 12, 3) := by decide +kernel
theorem dX12_isIn_5 : decode cX12_isIn 5 = .ok (.iload_n 0, 1) := by decide +kernel
theorem dX12_isIn_6 : decode cX12_isIn 6 = .ok (.iload_n 2, 1) := by decide +kernel
theorem dX12_isIn_7 : decode cX12_isIn 7 = .ok (.if_icmp .gt 7, 3) := by decide +kernel
theorem dX12_isIn_10 : decode cX12_isIn 10 = .ok (.iconst 1, 1) := by decide +kernel
theorem dX12_isIn_11 : decode cX12_isIn 11 = .ok (.goto 4, 3) := by decide +kernel
theorem dX12_isIn_14 : decode cX12_isIn 14 = .ok (.iconst 0, 1) := by decide +kernel
theorem dX12_isIn_15 : decode cX12_isIn 15 = .ok (.ireturn, 1) := by decide +kernel
theorem dX12_bound_0 : decode cX12_bound 0 = .ok (.iload_n 0, 1) := by decide +kernel
theorem dX12_bound_1 : decode cX12_bound 1 = .ok (.iload_n 1, 1) := by decide +kernel
theorem dX12_bound_2 : decode cX12_bound 2 = .ok (.if_icmp .ge 8, 3) := by decide +kernel
theorem dX12_bound_5 : decode cX12_bound 5 = .ok (.bipush (-4), 2) := by decide +kernel
theorem dX12_bound_7 : decode cX12_bound 7 = .ok (.goto 14, 3) := by decide +kernel
theorem dX12_bound_10 : decode cX12_bound 10 = .ok (.iload_n 0, 1) := by decide +kernel
theorem dX12_bound_11 : decode cX12_bound 11 = .ok (.iload_n 2, 1) := by decide +kernel
theorem dX12_bound_12 : decode cX12_bound 12 = .ok (.if_icmp .le 8, 3) := by decide +kernel
theorem dX12_bound_15 : decode cX12_bound 15 = .ok (.bipush (-6), 2) := by decide +kernel
theorem dX12_bound_17 : decode cX12_bound 17 = .ok (.goto 4, 3) := by decide +kernel
theorem dX12_bound_20 : decode cX12_bound 20 = .ok (.iconst 0, 1) := by decide +kernel
theorem dX12_bound_21 : decode cX12_bound 21 = .ok (.ireturn, 1) := by decide +kernel
theorem dX12_isMan_0 : decode cX12_isMan 0 = .ok (.iload_n 1, 1) := by decide +kernel
theorem dX12_isMan_1 : decode cX12_isMan 1 = .ok (.ifCond .lt 15, 3) := by decide +kernel
theorem dX12_isMan_4 : decode cX12_isMan 4 = .ok (.iload_n 1, 1) := by decide +kernel
theorem dX12_isMan_5 : decode cX12_isMan 5 = .ok (.aload_n 0, 1) := by decide +kernel
theorem dX12_isMan_6 : decode cX12_isMan 6 = .ok (.getfield 82, 3) := by decide +kernel
theorem dX12_isMan_9 : decode cX12_isMan 9 = .ok (.if_icmp .ge 7, 3) := by decide +kernel
theorem dX12_isMan_12 : decode cX12_isMan 12 = .ok (.iconst 1, 1) := by decide +kernel
theorem dX12_isMan_13 : decode cX12_isMan 13 = .ok (.goto 4, 3) := by decide +kernel
theorem dX12_isMan_16 : decode cX12_isMan 16 = .ok (.iconst 0, 1) := by decide +kernel
theorem dX12_isMan_17 : decode cX12_isMan 17 = .ok (.ireturn, 1) := by decide +kernel
theorem dX12_feed_0 : decode cX12_feed 0 = .ok (.iload_n 1, 1) := by decide +kernel
theorem dX12_feed_1 : decode cX12_feed 1 = .ok (.iconst 0, 1) := by decide +kernel
theorem dX12_feed_2 : decode cX12_feed 2 = .ok (.sipush 255, 3) := by decide +kernel
theorem dX12_feed_5 : decode cX12_feed 5 = .ok (.invokestatic 86, 3) := by decide +kernel
theorem dX12_feed_8 : decode cX12_feed 8 = .ok (.istore_n 2, 1) := by decide +kernel
theorem dX12_feed_9 : decode cX12_feed 9 = .ok (.iload_n 2, 1) := by decide +kernel
theorem dX12_feed_10 : decode cX12_feed 10 = .ok (.ifCond .ne 15, 3) := by decide +kernel
theorem dX12_feed_13 : decode cX12_feed 13 = .ok (.aload_n 0, 1) := by decide +kernel
theorem dX12_feed_14 : decode cX12_feed 14 = .ok (.getfield 90, 3) := by decide +kernel
theorem dX12_feed_17 : decode cX12_feed 17 = .ok (.bipush 64, 2) := by decide +kernel
theorem dX12_feed_19 : decode cX12_feed 19 = .ok (.if_icmp .ne 6, 3) := by decide +kernel
theorem dX12_feed_22 : decode cX12_feed 22 = .ok (.bipush (-6), 2) := by decide +kernel
theorem dX12_feed_24 : decode cX12_feed 24 = .ok (.istore_n 2, 1) := by decide +kernel
theorem dX12_feed_25 : decode cX12_feed 25 = .ok (.iload_n 2, 1) := by decide +kernel
theorem dX12_feed_26 : decode cX12_feed 26 = .ok (.ifCond .eq 9, 3) := by decide +kernel
theorem dX12_feed_29 : decode cX12_feed 29 = .ok (.aload_n 0, 1) := by decide +kernel
theorem dX12_feed_30 : decode cX12_feed 30 = .ok (.iload_n 2, 1) := by decide +kernel
theorem dX12_feed_31 : decode cX12_feed 31 = .ok (.invokevirtual 93, 3) := by decide +kernel
theorem dX12_feed_34 : decode cX12_feed 34 = .ok (.ireturn, 1) := by decide +kernel
theorem dX12_feed_35 : decode cX12_feed 35 = .ok (.aload_n 0, 1) := by decide +kernel
theorem dX12_feed_36 : decode cX12_feed 36 = .ok (.getfield 28, 3) := by decide +kernel
theorem dX12_feed_39 : decode cX12_feed 39 = .ok (.aload_n 0, 1) := by decide +kernel
theorem dX12_feed_40 : decode cX12_feed 40 = .ok (.getfield 90, 3) := by decide +kernel
theorem dX12_feed_43 : decode cX12_feed 43 = .ok (.iload_n 1, 1) := by decide +kernel
theorem dX12_feed_44 : decode cX12_feed 44 = .ok (.iastore, 1) := by decide +kernel
theorem dX12_feed_45 : decode cX12_feed 45 = .ok (.aload_n 0, 1) := by decide +kernel
theorem dX12_feed_46 : decode cX12_feed 46 = .ok (.dup, 1) := by decide +kernel
theorem dX12_feed_47 : decode cX12_feed 47 = .ok (.getfield 90, 3) := by decide +kernel
theorem dX12_feed_50 : decode cX12_feed 50 = .ok (.iconst 1, 1) := by decide +kernel
theorem dX12_feed_51 : decode cX12_feed 51 = .ok (.iadd, 1) := by decide +kernel
theorem dX12_feed_52 : decode cX12_feed 52 = .ok (.putfield 90, 3) := by decide +kernel
theorem dX12_feed_55 : decode cX12_feed 55 = .ok (.aload_n 0, 1) := by decide +kernel
theorem dX12_feed_56 : decode cX12_feed 56 = .ok (.getfield 90, 3) := by decide +kernel
theorem dX12_feed_59 : decode cX12_feed 59 = .ok (.ireturn, 1) := by decide +kernel
theorem dX12_next_0 : decode cX12_next 0 = .ok (.aload_n 0, 1) := by decide +kernel
theorem dX12_next_1 : decode cX12_next 1 = .ok (.getfield 97, 3) := by decide +kernel
theorem dX12_next_4 : decode cX12_next 4 = .ok (.aload_n 0, 1) := by decide +kernel
theorem dX12_next_5 : decode cX12_next 5 = .ok (.getfield 90, 3) := by decide +kernel
theorem dX12_next_8 : decode cX12_next 8 = .ok (.if_icmp .ge 15, 3) := by decide +kernel
theorem dX12_next_11 : decode cX12_next 11 = .ok (.aload_n 0, 1) := by decide +kernel
theorem dX12_next_12 : decode cX12_next 12 = .ok (.getfield 28, 3) := by decide +kernel
theorem dX12_next_15 : decode cX12_next 15 = .ok (.aload_n 0, 1) := by decide +kernel
theorem dX12_next_16 : decode cX12_next 16 = .ok (.getfield 97, 3) := by decide +kernel
theorem dX12_next_19 : decode cX12_next 19 = .ok (.iaload, 1) := by decide +kernel
theorem dX12_next_20 : decode cX12_next 20 = .ok (.goto 4, 3) := by decide +kernel
theorem dX12_next_23 : decode cX12_next 23 = .ok (.iconst (-1), 1) := by decide +kernel
theorem dX12_next_24 : decode cX12_next 24 = .ok (.ireturn, 1) := by decide +kernel
theorem dX12_reads_0 : decode cX12_reads 0 = .ok (.aload_n 0, 1) := by decide +kernel
theorem dX12_reads_1 : decode cX12_reads 1 = .ok (.invokevirtual 100, 3) := by decide +kernel
theorem dX12_reads_4 : decode cX12_reads 4 = .ok (.bipush 48, 2) := by decide +kernel
theorem dX12_reads_6 : decode cX12_reads 6 = .ok (.bipush 57, 2) := by decide +kernel
theorem dX12_reads_8 : decode cX12_reads 8 = .ok (.invokestatic 104, 3) := by decide +kernel
theorem dX12_reads_11 : decode cX12_reads 11 = .ok (.ifCond .ne 5, 3) := by decide +kernel
theorem dX12_reads_14 : decode cX12_reads 14 = .ok (.iconst 0, 1) := by decide +kernel
theorem dX12_reads_15 : decode cX12_reads 15 = .ok (.ireturn, 1) := by decide +kernel
theorem dX12_reads_16 : decode cX12_reads 16 = .ok (.iconst 0, 1) := by decide +kernel
theorem dX12_reads_17 : decode cX12_reads 17 = .ok (.istore_n 3, 1) := by decide +kernel
theorem dX12_reads_18 : decode cX12_reads 18 = .ok (.iconst 0, 1) := by decide +kernel
theorem dX12_reads_19 : decode cX12_reads 19 = .ok (.istore 4, 2) := by decide +kernel
theorem dX12_reads_21 : decode cX12_reads 21 = .ok (.iload 4, 2) := by decide +kernel
theorem dX12_reads_23 : decode cX12_reads 23 = .ok (.iload_n 2, 1) := by decide +kernel
theorem dX12_reads_24 : decode cX12_reads 24 = .ok (.if_icmp .ge 46, 3) := by decide +kernel
theorem dX12_reads_27 : decode cX12_reads 27 = .ok (.aload_n 0, 1) := by decide +kernel
theorem dX12_reads_28 : decode cX12_reads 28 = .ok (.invokevirtual 100, 3) := by decide +kernel
theorem dX12_reads_31 : decode cX12_reads 31 = .ok (.bipush 48, 2) := by decide +kernel
theorem dX12_reads_33 : decode cX12_reads 33 = .ok (.bipush 57, 2) := by decide +kernel
theorem dX12_reads_35 : decode cX12_reads 35 = .ok (.invokestatic 104, 3) := by decide +kernel
theorem dX12_reads_38 : decode cX12_reads 38 = .ok (.ifCond .eq 32, 3) := by decide +kernel
theorem dX12_reads_41 : decode cX12_reads 41 = .ok (.bipush 10, 2) := by decide +kernel
theorem dX12_reads_43 : decode cX12_reads 43 = .ok (.iload_n 3, 1) := by decide +kernel
theorem dX12_reads_44 : decode cX12_reads 44 = .ok (.imul, 1) := by decide +kernel
theorem dX12_reads_45 : decode cX12_reads 45 = .ok (.aload_n 0, 1) := by decide +kernel
theorem dX12_reads_46 : decode cX12_reads 46 = .ok (.invokevirtual 100, 3) := by decide +kernel
theorem dX12_reads_49 : decode cX12_reads 49 = .ok (.iadd, 1) := by decide +kernel
theorem dX12_reads_50 : decode cX12_reads 50 = .ok (.bipush 48, 2) := by decide +kernel
theorem dX12_reads_52 : decode cX12_reads 52 = .ok (.isub, 1) := by decide +kernel
theorem dX12_reads_53 : decode cX12_reads 53 = .ok (.istore_n 3, 1) := by decide +kernel
theorem dX12_reads_54 : decode cX12_reads 54 = .ok (.aload_n 0, 1) := by decide +kernel
theorem dX12_reads_55 : decode cX12_reads 55 = .ok (.dup, 1) := by decide +kernel
theorem dX12_reads_56 : decode cX12_reads 56 = .ok (.getfield 97, 3) := by decide +kernel
theorem dX12_reads_59 : decode cX12_reads 59 = .ok (.iconst 1, 1) := by decide +kernel
theorem dX12_reads_60 : decode cX12_reads 60 = .ok (.iadd, 1) := by decide +kernel
theorem dX12_reads_61 : decode cX12_reads 61 = .ok (.putfield 97, 3) := by decide +kernel
theorem dX12_reads_64 : decode cX12_reads 64 = .ok (.iinc 4 1, 3) := by decide +kernel
theorem dX12_reads_67 : decode cX12_reads 67 = .ok (.goto (-46), 3) := by decide +kernel
theorem dX12_reads_70 : decode cX12_reads 70 = .ok (.aload_n 0, 1) := by decide +kernel
theorem dX12_reads_71 : decode cX12_reads 71 = .ok (.getfield 37, 3) := by decide +kernel
theorem dX12_reads_74 : decode cX12_reads 74 = .ok (.iload_n 1, 1) := by decide +kernel
theorem dX12_reads_75 : decode cX12_reads 75 = .ok (.iload_n 3, 1) := by decide +kernel
theorem dX12_reads_76 : decode cX12_reads 76 = .ok (.iastore, 1) := by decide +kernel
theorem dX12_reads_77 : decode cX12_reads 77 = .ok (.iconst 1, 1) := by decide +kernel
theorem dX12_reads_78 : decode cX12_reads 78 = .ok (.ireturn, 1) := by decide +kernel
theorem dX12_statement_0 : decode cX12_statement 0 = .ok (.aload_n 0, 1) := by decide +kernel
theorem dX12_statement_1 : decode cX12_statement 1 = .ok (.invokevirtual 100, 3) := by decide +kernel
theorem dX12_statement_4 : decode cX12_statement 4 = .ok (.istore_n 1, 1) := by decide +kernel
theorem dX12_statement_5 : decode cX12_statement 5 = .ok (.iload_n 1, 1) := by decide +kernel
theorem dX12_statement_6 : decode cX12_statement 6 = .ok (.bipush 109, 2) := by decide +kernel
theorem dX12_statement_8 : decode cX12_statement 8 = .ok (.if_icmp .eq 17, 3) := by decide +kernel
theorem dX12_statement_11 : decode cX12_statement 11 = .ok (.iload_n 1, 1) := by decide +kernel
theorem dX12_statement_12 : decode cX12_statement 12 = .ok (.bipush 99, 2) := by decide +kernel
theorem dX12_statement_14 : decode cX12_statement 14 = .ok (.if_icmp .eq 11, 3) := by decide +kernel
theorem dX12_statement_17 : decode cX12_statement 17 = .ok (.iload_n 1, 1) := by decide +kernel
theorem dX12_statement_18 : decode cX12_statement 18 = .ok (.bipush 108, 2) := by decide +kernel
theorem dX12_statement_20 : decode cX12_statement 20 = .ok (.if_icmp .eq 5, 3) := by decide +kernel
theorem dX12_statement_23 : decode cX12_statement 23 = .ok (.iconst 0, 1) := by decide +kernel
theorem dX12_statement_24 : decode cX12_statement 24 = .ok (.ireturn, 1) := by decide +kernel
theorem dX12_statement_25 : decode cX12_statement 25 = .ok (.aload_n 0, 1) := by decide +kernel
theorem dX12_statement_26 : decode cX12_statement 26 = .ok (.getfield 31, 3) := by decide +kernel
theorem dX12_statement_29 : decode cX12_statement 29 = .ok (.aload_n 0, 1) := by decide +kernel
theorem dX12_statement_30 : decode cX12_statement 30 = .ok (.getfield 108, 3) := by decide +kernel
theorem dX12_statement_33 : decode cX12_statement 33 = .ok (.iload_n 1, 1) := by decide +kernel
theorem dX12_statement_34 : decode cX12_statement 34 = .ok (.iastore, 1) := by decide +kernel
theorem dX12_statement_35 : decode cX12_statement 35 = .ok (.aload_n 0, 1) := by decide +kernel
theorem dX12_statement_36 : decode cX12_statement 36 = .ok (.getfield 34, 3) := by decide +kernel
theorem dX12_statement_39 : decode cX12_statement 39 = .ok (.aload_n 0, 1) := by decide +kernel
theorem dX12_statement_40 : decode cX12_statement 40 = .ok (.getfield 108, 3) := by decide +kernel
theorem dX12_statement_43 : decode cX12_statement 43 = .ok (.aload_n 0, 1) := by decide +kernel
theorem dX12_statement_44 : decode cX12_statement 44 = .ok (.getfield 97, 3) := by decide +kernel
theorem dX12_statement_47 : decode cX12_statement 47 = .ok (.iastore, 1) := by decide +kernel
theorem dX12_statement_48 : decode cX12_statement 48 = .ok (.aload_n 0, 1) := by decide +kernel
theorem dX12_statement_49 : decode cX12_statement 49 = .ok (.dup, 1) := by decide +kernel
theorem dX12_statement_50 : decode cX12_statement 50 = .ok (.getfield 97, 3) := by decide +kernel
theorem dX12_statement_53 : decode cX12_statement 53 = .ok (.iconst 1, 1) := by decide +kernel
theorem dX12_statement_54 : decode cX12_statement 54 = .ok (.iadd, 1) := by decide +kernel
theorem dX12_statement_55 : decode cX12_statement 55 = .ok (.putfield 97, 3) := by decide +kernel
theorem dX12_statement_58 : decode cX12_statement 58 = .ok (.iconst 3, 1) := by decide +kernel
theorem dX12_statement_59 : decode cX12_statement 59 = .ok (.aload_n 0, 1) := by decide +kernel
theorem dX12_statement_60 : decode cX12_statement 60 = .ok (.getfield 108, 3) := by decide +kernel
theorem dX12_statement_63 : decode cX12_statement 63 = .ok (.imul, 1) := by decide +kernel
theorem dX12_statement_64 : decode cX12_statement 64 = .ok (.istore_n 2, 1) := by decide +kernel
theorem dX12_statement_65 : decode cX12_statement 65 = .ok (.iload_n 1, 1) := by decide +kernel
theorem dX12_statement_66 : decode cX12_statement 66 = .ok (.bipush 99, 2) := by decide +kernel
theorem dX12_statement_68 : decode cX12_statement 68 = .ok (.if_icmp .ne 14, 3) := by decide +kernel
theorem dX12_statement_71 : decode cX12_statement 71 = .ok (.aload_n 0, 1) := by decide +kernel
theorem dX12_statement_72 : decode cX12_statement 72 = .ok (.iload_n 2, 1) := by decide +kernel
theorem dX12_statement_73 : decode cX12_statement 73 = .ok (.iconst 2, 1) := by decide +kernel
theorem dX12_statement_74 : decode cX12_statement 74 = .ok (.invokevirtual 111, 3) := by decide +kernel
theorem dX12_statement_77 : decode cX12_statement 77 = .ok (.ifCond .ne 31, 3) := by decide +kernel
theorem dX12_statement_80 : decode cX12_statement 80 = .ok (.iconst 0, 1) := by decide +kernel
theorem dX12_statement_81 : decode cX12_statement 81 = .ok (.ireturn, 1) := by decide +kernel
theorem dX12_statement_82 : decode cX12_statement 82 = .ok (.iconst 0, 1) := by decide +kernel
theorem dX12_statement_83 : decode cX12_statement 83 = .ok (.istore_n 3, 1) := by decide +kernel
theorem dX12_statement_84 : decode cX12_statement 84 = .ok (.iload_n 3, 1) := by decide +kernel
theorem dX12_statement_85 : decode cX12_statement 85 = .ok (.iconst 3, 1) := by decide +kernel
theorem dX12_statement_86 : decode cX12_statement 86 = .ok (.if_icmp .ge 22, 3) := by decide +kernel
theorem dX12_statement_89 : decode cX12_statement 89 = .ok (.aload_n 0, 1) := by decide +kernel
theorem dX12_statement_90 : decode cX12_statement 90 = .ok (.iload_n 2, 1) := by decide +kernel
theorem dX12_statement_91 : decode cX12_statement 91 = .ok (.iload_n 3, 1) := by decide +kernel
theorem dX12_statement_92 : decode cX12_statement 92 = .ok (.iadd, 1) := by decide +kernel
theorem dX12_statement_93 : decode cX12_statement 93 = .ok (.iconst 1, 1) := by decide +kernel
theorem dX12_statement_94 : decode cX12_statement 94 = .ok (.invokevirtual 111, 3) := by decide +kernel
theorem dX12_statement_97 : decode cX12_statement 97 = .ok (.ifCond .ne 5, 3) := by decide +kernel
theorem dX12_statement_100 : decode cX12_statement 100 = .ok (.iconst 0, 1) := by decide +kernel
theorem dX12_statement_101 : decode cX12_statement 101 = .ok (.ireturn, 1) := by decide +kernel
theorem dX12_statement_102 : decode cX12_statement 102 = .ok (.iinc 3 1, 3) := by decide +kernel
theorem dX12_statement_105 : decode cX12_statement 105 = .ok (.goto (-21), 3) := by decide +kernel
theorem dX12_statement_108 : decode cX12_statement 108 = .ok (.aload_n 0, 1) := by decide +kernel
theorem dX12_statement_109 : decode cX12_statement 109 = .ok (.invokevirtual 100, 3) := by decide +kernel
theorem dX12_statement_112 : decode cX12_statement 112 = .ok (.bipush 59, 2) := by decide +kernel
theorem dX12_statement_114 : decode cX12_statement 114 = .ok (.if_icmp .eq 5, 3) := by decide +kernel
theorem dX12_statement_117 : decode cX12_statement 117 = .ok (.iconst 0, 1) := by decide +kernel
theorem dX12_statement_118 : decode cX12_statement 118 = .ok (.ireturn, 1) := by decide +kernel
theorem dX12_statement_119 : decode cX12_statement 119 = .ok (.aload_n 0, 1) := by decide +kernel
theorem dX12_statement_120 : decode cX12_statement 120 = .ok (.dup, 1) := by decide +kernel
theorem dX12_statement_121 : decode cX12_statement 121 = .ok (.getfield 97, 3) := by decide +kernel
theorem dX12_statement_124 : decode cX12_statement 124 = .ok (.iconst 1, 1) := by decide +kernel
theorem dX12_statement_125 : decode cX12_statement 125 = .ok (.iadd, 1) := by decide +kernel
theorem dX12_statement_126 : decode cX12_statement 126 = .ok (.putfield 97, 3) := by decide +kernel
theorem dX12_statement_129 : decode cX12_statement 129 = .ok (.iconst 1, 1) := by decide +kernel
theorem dX12_statement_130 : decode cX12_statement 130 = .ok (.ireturn, 1) := by decide +kernel
theorem dX12_comes_0 : decode cX12_comes 0 = .ok (.iconst 3, 1) := by decide +kernel
theorem dX12_comes_1 : decode cX12_comes 1 = .ok (.iload_n 1, 1) := by decide +kernel
theorem dX12_comes_2 : decode cX12_comes 2 = .ok (.imul, 1) := by decide +kernel
theorem dX12_comes_3 : decode cX12_comes 3 = .ok (.istore_n 2, 1) := by decide +kernel
theorem dX12_comes_4 : decode cX12_comes 4 = .ok (.aload_n 0, 1) := by decide +kernel
theorem dX12_comes_5 : decode cX12_comes 5 = .ok (.getfield 31, 3) := by decide +kernel
theorem dX12_comes_8 : decode cX12_comes 8 = .ok (.iload_n 1, 1) := by decide +kernel
theorem dX12_comes_9 : decode cX12_comes 9 = .ok (.iaload, 1) := by decide +kernel
theorem dX12_comes_10 : decode cX12_comes 10 = .ok (.bipush 99, 2) := by decide +kernel
theorem dX12_comes_12 : decode cX12_comes 12 = .ok (.if_icmp .ne 17, 3) := by decide +kernel
theorem dX12_comes_15 : decode cX12_comes 15 = .ok (.aload_n 0, 1) := by decide +kernel
theorem dX12_comes_16 : decode cX12_comes 16 = .ok (.getfield 25, 3) := by decide +kernel
theorem dX12_comes_19 : decode cX12_comes 19 = .ok (.iconst 0, 1) := by decide +kernel
theorem dX12_comes_20 : decode cX12_comes 20 = .ok (.aload_n 0, 1) := by decide +kernel
theorem dX12_comes_21 : decode cX12_comes 21 = .ok (.getfield 37, 3) := by decide +kernel
theorem dX12_comes_24 : decode cX12_comes 24 = .ok (.iload_n 2, 1) := by decide +kernel
theorem dX12_comes_25 : decode cX12_comes 25 = .ok (.iaload, 1) := by decide +kernel
theorem dX12_comes_26 : decode cX12_comes 26 = .ok (.iastore, 1) := by decide +kernel
theorem dX12_comes_27 : decode cX12_comes 27 = .ok (.iconst 1, 1) := by decide +kernel
theorem dX12_comes_28 : decode cX12_comes 28 = .ok (.ireturn, 1) := by decide +kernel
theorem dX12_comes_29 : decode cX12_comes 29 = .ok (.aload_n 0, 1) := by decide +kernel
theorem dX12_comes_30 : decode cX12_comes 30 = .ok (.getfield 31, 3) := by decide +kernel
theorem dX12_comes_33 : decode cX12_comes 33 = .ok (.iload_n 1, 1) := by decide +kernel
theorem dX12_comes_34 : decode cX12_comes 34 = .ok (.iaload, 1) := by decide +kernel
theorem dX12_comes_35 : decode cX12_comes 35 = .ok (.bipush 108, 2) := by decide +kernel
theorem dX12_comes_37 : decode cX12_comes 37 = .ok (.if_icmp .ne 72, 3) := by decide +kernel
theorem dX12_comes_40 : decode cX12_comes 40 = .ok (.iconst 0, 1) := by decide +kernel
theorem dX12_comes_41 : decode cX12_comes 41 = .ok (.istore_n 3, 1) := by decide +kernel
theorem dX12_comes_42 : decode cX12_comes 42 = .ok (.iload_n 3, 1) := by decide +kernel
theorem dX12_comes_43 : decode cX12_comes 43 = .ok (.iconst 3, 1) := by decide +kernel
theorem dX12_comes_44 : decode cX12_comes 44 = .ok (.if_icmp .ge 25, 3) := by decide +kernel
theorem dX12_comes_47 : decode cX12_comes 47 = .ok (.aload_n 0, 1) := by decide +kernel
theorem dX12_comes_48 : decode cX12_comes 48 = .ok (.getfield 25, 3) := by decide +kernel
theorem dX12_comes_51 : decode cX12_comes 51 = .ok (.iconst 1, 1) := by decide +kernel
theorem dX12_comes_52 : decode cX12_comes 52 = .ok (.iload_n 3, 1) := by decide +kernel
theorem dX12_comes_53 : decode cX12_comes 53 = .ok (.iadd, 1) := by decide +kernel
theorem dX12_comes_54 : decode cX12_comes 54 = .ok (.aload_n 0, 1) := by decide +kernel
theorem dX12_comes_55 : decode cX12_comes 55 = .ok (.getfield 37, 3) := by decide +kernel
theorem dX12_comes_58 : decode cX12_comes 58 = .ok (.iload_n 2, 1) := by decide +kernel
theorem dX12_comes_59 : decode cX12_comes 59 = .ok (.iload_n 3, 1) := by decide +kernel
theorem dX12_comes_60 : decode cX12_comes 60 = .ok (.iadd, 1) := by decide +kernel
theorem dX12_comes_61 : decode cX12_comes 61 = .ok (.iaload, 1) := by decide +kernel
theorem dX12_comes_62 : decode cX12_comes 62 = .ok (.iastore, 1) := by decide +kernel
theorem dX12_comes_63 : decode cX12_comes 63 = .ok (.iinc 3 1, 3) := by decide +kernel
theorem dX12_comes_66 : decode cX12_comes 66 = .ok (.goto (-24), 3) := by decide +kernel
theorem dX12_comes_69 : decode cX12_comes 69 = .ok (.aload_n 0, 1) := by decide +kernel
theorem dX12_comes_70 : decode cX12_comes 70 = .ok (.getfield 37, 3) := by decide +kernel
theorem dX12_comes_73 : decode cX12_comes 73 = .ok (.iload_n 2, 1) := by decide +kernel
theorem dX12_comes_74 : decode cX12_comes 74 = .ok (.iaload, 1) := by decide +kernel
theorem dX12_comes_75 : decode cX12_comes 75 = .ok (.iconst 3, 1) := by decide +kernel
theorem dX12_comes_76 : decode cX12_comes 76 = .ok (.if_icmp .ge 31, 3) := by decide +kernel
theorem dX12_comes_79 : decode cX12_comes 79 = .ok (.aload_n 0, 1) := by decide +kernel
theorem dX12_comes_80 : decode cX12_comes 80 = .ok (.getfield 37, 3) := by decide +kernel
theorem dX12_comes_83 : decode cX12_comes 83 = .ok (.iload_n 2, 1) := by decide +kernel
theorem dX12_comes_84 : decode cX12_comes 84 = .ok (.iconst 1, 1) := by decide +kernel
theorem dX12_comes_85 : decode cX12_comes 85 = .ok (.iadd, 1) := by decide +kernel
theorem dX12_comes_86 : decode cX12_comes 86 = .ok (.iaload, 1) := by decide +kernel
theorem dX12_comes_87 : decode cX12_comes 87 = .ok (.iconst 2, 1) := by decide +kernel
theorem dX12_comes_88 : decode cX12_comes 88 = .ok (.if_icmp .ge 19, 3) := by decide +kernel
theorem dX12_comes_91 : decode cX12_comes 91 = .ok (.aload_n 0, 1) := by decide +kernel
theorem dX12_comes_92 : decode cX12_comes 92 = .ok (.getfield 37, 3) := by decide +kernel
theorem dX12_comes_95 : decode cX12_comes 95 = .ok (.iload_n 2, 1) := by decide +kernel
theorem dX12_comes_96 : decode cX12_comes 96 = .ok (.iconst 2, 1) := by decide +kernel
theorem dX12_comes_97 : decode cX12_comes 97 = .ok (.iadd, 1) := by decide +kernel
theorem dX12_comes_98 : decode cX12_comes 98 = .ok (.iaload, 1) := by decide +kernel
theorem dX12_comes_99 : decode cX12_comes 99 = .ok (.iconst 2, 1) := by decide +kernel
theorem dX12_comes_100 : decode cX12_comes 100 = .ok (.if_icmp .ge 7, 3) := by decide +kernel
theorem dX12_comes_103 : decode cX12_comes 103 = .ok (.iconst 1, 1) := by decide +kernel
theorem dX12_comes_104 : decode cX12_comes 104 = .ok (.goto 4, 3) := by decide +kernel
theorem dX12_comes_107 : decode cX12_comes 107 = .ok (.iconst 0, 1) := by decide +kernel
theorem dX12_comes_108 : decode cX12_comes 108 = .ok (.ireturn, 1) := by decide +kernel
theorem dX12_comes_109 : decode cX12_comes 109 = .ok (.aload_n 0, 1) := by decide +kernel
theorem dX12_comes_110 : decode cX12_comes 110 = .ok (.getfield 37, 3) := by decide +kernel
theorem dX12_comes_113 : decode cX12_comes 113 = .ok (.iload_n 2, 1) := by decide +kernel
theorem dX12_comes_114 : decode cX12_comes 114 = .ok (.iaload, 1) := by decide +kernel
theorem dX12_comes_115 : decode cX12_comes 115 = .ok (.bipush 6, 2) := by decide +kernel
theorem dX12_comes_117 : decode cX12_comes 117 = .ok (.if_icmp .gt 31, 3) := by decide +kernel
theorem dX12_comes_120 : decode cX12_comes 120 = .ok (.aload_n 0, 1) := by decide +kernel
theorem dX12_comes_121 : decode cX12_comes 121 = .ok (.getfield 37, 3) := by decide +kernel
theorem dX12_comes_124 : decode cX12_comes 124 = .ok (.iload_n 2, 1) := by decide +kernel
theorem dX12_comes_125 : decode cX12_comes 125 = .ok (.iconst 2, 1) := by decide +kernel
theorem dX12_comes_126 : decode cX12_comes 126 = .ok (.iadd, 1) := by decide +kernel
theorem dX12_comes_127 : decode cX12_comes 127 = .ok (.iaload, 1) := by decide +kernel
theorem dX12_comes_128 : decode cX12_comes 128 = .ok (.ifCond .eq 20, 3) := by decide +kernel
theorem dX12_comes_131 : decode cX12_comes 131 = .ok (.aload_n 0, 1) := by decide +kernel
theorem dX12_comes_132 : decode cX12_comes 132 = .ok (.getfield 82, 3) := by decide +kernel
theorem dX12_comes_135 : decode cX12_comes 135 = .ok (.bipush 8, 2) := by decide +kernel
theorem dX12_comes_137 : decode cX12_comes 137 = .ok (.if_icmp .eq 11, 3) := by decide +kernel
theorem dX12_comes_140 : decode cX12_comes 140 = .ok (.aload_n 0, 1) := by decide +kernel
theorem dX12_comes_141 : decode cX12_comes 141 = .ok (.getfield 115, 3) := by decide +kernel
theorem dX12_comes_144 : decode cX12_comes 144 = .ok (.iconst 1, 1) := by decide +kernel
theorem dX12_comes_145 : decode cX12_comes 145 = .ok (.if_icmp .ne 5, 3) := by decide +kernel
theorem dX12_comes_148 : decode cX12_comes 148 = .ok (.iconst 0, 1) := by decide +kernel
theorem dX12_comes_149 : decode cX12_comes 149 = .ok (.ireturn, 1) := by decide +kernel
theorem dX12_comes_150 : decode cX12_comes 150 = .ok (.aload_n 0, 1) := by decide +kernel
theorem dX12_comes_151 : decode cX12_comes 151 = .ok (.getfield 13, 3) := by decide +kernel
theorem dX12_comes_154 : decode cX12_comes 154 = .ok (.aload_n 0, 1) := by decide +kernel
theorem dX12_comes_155 : decode cX12_comes 155 = .ok (.getfield 82, 3) := by decide +kernel
theorem dX12_comes_158 : decode cX12_comes 158 = .ok (.aload_n 0, 1) := by decide +kernel
theorem dX12_comes_159 : decode cX12_comes 159 = .ok (.getfield 37, 3) := by decide +kernel
theorem dX12_comes_162 : decode cX12_comes 162 = .ok (.iload_n 2, 1) := by decide +kernel
theorem dX12_comes_163 : decode cX12_comes 163 = .ok (.iaload, 1) := by decide +kernel
theorem dX12_comes_164 : decode cX12_comes 164 = .ok (.iastore, 1) := by decide +kernel
theorem dX12_comes_165 : decode cX12_comes 165 = .ok (.aload_n 0, 1) := by decide +kernel
theorem dX12_comes_166 : decode cX12_comes 166 = .ok (.getfield 16, 3) := by decide +kernel
theorem dX12_comes_169 : decode cX12_comes 169 = .ok (.aload_n 0, 1) := by decide +kernel
theorem dX12_comes_170 : decode cX12_comes 170 = .ok (.getfield 82, 3) := by decide +kernel
theorem dX12_comes_173 : decode cX12_comes 173 = .ok (.aload_n 0, 1) := by decide +kernel
theorem dX12_comes_174 : decode cX12_comes 174 = .ok (.getfield 37, 3) := by decide +kernel
theorem dX12_comes_177 : decode cX12_comes 177 = .ok (.iload_n 2, 1) := by decide +kernel
theorem dX12_comes_178 : decode cX12_comes 178 = .ok (.iconst 1, 1) := by decide +kernel
theorem dX12_comes_179 : decode cX12_comes 179 = .ok (.iadd, 1) := by decide +kernel
theorem dX12_comes_180 : decode cX12_comes 180 = .ok (.iaload, 1) := by decide +kernel
theorem dX12_comes_181 : decode cX12_comes 181 = .ok (.iastore, 1) := by decide +kernel
theorem dX12_comes_182 : decode cX12_comes 182 = .ok (.aload_n 0, 1) := by decide +kernel
theorem dX12_comes_183 : decode cX12_comes 183 = .ok (.getfield 19, 3) := by decide +kernel
theorem dX12_comes_186 : decode cX12_comes 186 = .ok (.aload_n 0, 1) := by decide +kernel
theorem dX12_comes_187 : decode cX12_comes 187 = .ok (.getfield 82, 3) := by decide +kernel
theorem dX12_comes_190 : decode cX12_comes 190 = .ok (.aload_n 0, 1) := by decide +kernel
theorem dX12_comes_191 : decode cX12_comes 191 = .ok (.getfield 37, 3) := by decide +kernel
theorem dX12_comes_194 : decode cX12_comes 194 = .ok (.iload_n 2, 1) := by decide +kernel
theorem dX12_comes_195 : decode cX12_comes 195 = .ok (.iconst 2, 1) := by decide +kernel
theorem dX12_comes_196 : decode cX12_comes 196 = .ok (.iadd, 1) := by decide +kernel
theorem dX12_comes_197 : decode cX12_comes 197 = .ok (.iaload, 1) := by decide +kernel
theorem dX12_comes_198 : decode cX12_comes 198 = .ok (.iastore, 1) := by decide +kernel
theorem dX12_comes_199 : decode cX12_comes 199 = .ok (.aload_n 0, 1) := by decide +kernel
theorem dX12_comes_200 : decode cX12_comes 200 = .ok (.dup, 1) := by decide +kernel
theorem dX12_comes_201 : decode cX12_comes 201 = .ok (.getfield 82, 3) := by decide +kernel
theorem dX12_comes_204 : decode cX12_comes 204 = .ok (.iconst 1, 1) := by decide +kernel
theorem dX12_comes_205 : decode cX12_comes 205 = .ok (.iadd, 1) := by decide +kernel
theorem dX12_comes_206 : decode cX12_comes 206 = .ok (.putfield 82, 3) := by decide +kernel
theorem dX12_comes_209 : decode cX12_comes 209 = .ok (.iconst 1, 1) := by decide +kernel
theorem dX12_comes_210 : decode cX12_comes 210 = .ok (.ireturn, 1) := by decide +kernel
theorem dX12_beach_0 : decode cX12_beach 0 = .ok (.aload_n 0, 1) := by decide +kernel
theorem dX12_beach_1 : decode cX12_beach 1 = .ok (.iconst 0, 1) := by decide +kernel
theorem dX12_beach_2 : decode cX12_beach 2 = .ok (.putfield 97, 3) := by decide +kernel
theorem dX12_beach_5 : decode cX12_beach 5 = .ok (.aload_n 0, 1) := by decide +kernel
theorem dX12_beach_6 : decode cX12_beach 6 = .ok (.iconst 0, 1) := by decide +kernel
theorem dX12_beach_7 : decode cX12_beach 7 = .ok (.putfield 108, 3) := by decide +kernel
theorem dX12_beach_10 : decode cX12_beach 10 = .ok (.iconst 1, 1) := by decide +kernel
theorem dX12_beach_11 : decode cX12_beach 11 = .ok (.istore_n 1, 1) := by decide +kernel
theorem dX12_beach_12 : decode cX12_beach 12 = .ok (.iload_n 1, 1) := by decide +kernel
theorem dX12_beach_13 : decode cX12_beach 13 = .ok (.ifCond .eq 47, 3) := by decide +kernel
theorem dX12_beach_16 : decode cX12_beach 16 = .ok (.aload_n 0, 1) := by decide +kernel
theorem dX12_beach_17 : decode cX12_beach 17 = .ok (.getfield 97, 3) := by decide +kernel
theorem dX12_beach_20 : decode cX12_beach 20 = .ok (.aload_n 0, 1) := by decide +kernel
theorem dX12_beach_21 : decode cX12_beach 21 = .ok (.getfield 90, 3) := by decide +kernel
theorem dX12_beach_24 : decode cX12_beach 24 = .ok (.if_icmp .lt 10, 3) := by decide +kernel
theorem dX12_beach_27 : decode cX12_beach 27 = .ok (.aload_n 0, 1) := by decide +kernel
theorem dX12_beach_28 : decode cX12_beach 28 = .ok (.getfield 108, 3) := by decide +kernel
theorem dX12_beach_31 : decode cX12_beach 31 = .ok (.ifCond .ne 29, 3) := by decide +kernel
theorem dX12_beach_34 : decode cX12_beach 34 = .ok (.aload_n 0, 1) := by decide +kernel
theorem dX12_beach_35 : decode cX12_beach 35 = .ok (.invokevirtual 118, 3) := by decide +kernel
theorem dX12_beach_38 : decode cX12_beach 38 = .ok (.istore_n 1, 1) := by decide +kernel
theorem dX12_beach_39 : decode cX12_beach 39 = .ok (.aload_n 0, 1) := by decide +kernel
theorem dX12_beach_40 : decode cX12_beach 40 = .ok (.dup, 1) := by decide +kernel
theorem dX12_beach_41 : decode cX12_beach 41 = .ok (.getfield 108, 3) := by decide +kernel
theorem dX12_beach_44 : decode cX12_beach 44 = .ok (.iload_n 1, 1) := by decide +kernel
theorem dX12_beach_45 : decode cX12_beach 45 = .ok (.ifCond .eq 7, 3) := by decide +kernel
theorem dX12_beach_48 : decode cX12_beach 48 = .ok (.iconst 1, 1) := by decide +kernel
theorem dX12_beach_49 : decode cX12_beach 49 = .ok (.goto 4, 3) := by decide +kernel
theorem dX12_beach_52 : decode cX12_beach 52 = .ok (.iconst 0, 1) := by decide +kernel
theorem dX12_beach_53 : decode cX12_beach 53 = .ok (.iadd, 1) := by decide +kernel
theorem dX12_beach_54 : decode cX12_beach 54 = .ok (.putfield 108, 3) := by decide +kernel
theorem dX12_beach_57 : decode cX12_beach 57 = .ok (.goto (-45), 3) := by decide +kernel
theorem dX12_beach_60 : decode cX12_beach 60 = .ok (.aload_n 0, 1) := by decide +kernel
theorem dX12_beach_61 : decode cX12_beach 61 = .ok (.iconst 0, 1) := by decide +kernel
theorem dX12_beach_62 : decode cX12_beach 62 = .ok (.putfield 90, 3) := by decide +kernel
theorem dX12_beach_65 : decode cX12_beach 65 = .ok (.iload_n 1, 1) := by decide +kernel
theorem dX12_beach_66 : decode cX12_beach 66 = .ok (.ifCond .ne 12, 3) := by decide +kernel
theorem dX12_beach_69 : decode cX12_beach 69 = .ok (.sipush (-1000), 3) := by decide +kernel
theorem dX12_beach_72 : decode cX12_beach 72 = .ok (.aload_n 0, 1) := by decide +kernel
theorem dX12_beach_73 : decode cX12_beach 73 = .ok (.getfield 97, 3) := by decide +kernel
theorem dX12_beach_76 : decode cX12_beach 76 = .ok (.isub, 1) := by decide +kernel
theorem dX12_beach_77 : decode cX12_beach 77 = .ok (.ireturn, 1) := by decide +kernel
theorem dX12_beach_78 : decode cX12_beach 78 = .ok (.aload_n 0, 1) := by decide +kernel
theorem dX12_beach_79 : decode cX12_beach 79 = .ok (.iconst 1, 1) := by decide +kernel
theorem dX12_beach_80 : decode cX12_beach 80 = .ok (.iconst 1, 1) := by decide +kernel
theorem dX12_beach_81 : decode cX12_beach 81 = .ok (.invokevirtual 122, 3) := by decide +kernel
theorem dX12_beach_84 : decode cX12_beach 84 = .ok (.iconst 0, 1) := by decide +kernel
theorem dX12_beach_85 : decode cX12_beach 85 = .ok (.istore_n 2, 1) := by decide +kernel
theorem dX12_beach_86 : decode cX12_beach 86 = .ok (.iload_n 2, 1) := by decide +kernel
theorem dX12_beach_87 : decode cX12_beach 87 = .ok (.aload_n 0, 1) := by decide +kernel
theorem dX12_beach_88 : decode cX12_beach 88 = .ok (.getfield 108, 3) := by decide +kernel
theorem dX12_beach_91 : decode cX12_beach 91 = .ok (.if_icmp .ge 37, 3) := by decide +kernel
theorem dX12_beach_94 : decode cX12_beach 94 = .ok (.aload_n 0, 1) := by decide +kernel
theorem dX12_beach_95 : decode cX12_beach 95 = .ok (.iload_n 2, 1) := by decide +kernel
theorem dX12_beach_96 : decode cX12_beach 96 = .ok (.invokevirtual 126, 3) := by decide +kernel
theorem dX12_beach_99 : decode cX12_beach 99 = .ok (.ifCond .eq 6, 3) := by decide +kernel
theorem dX12_beach_102 : decode cX12_beach 102 = .ok (.goto 20, 3) := by decide +kernel
theorem dX12_beach_105 : decode cX12_beach 105 = .ok (.aload_n 0, 1) := by decide +kernel
theorem dX12_beach_106 : decode cX12_beach 106 = .ok (.iconst 1, 1) := by decide +kernel
theorem dX12_beach_107 : decode cX12_beach 107 = .ok (.iconst 0, 1) := by decide +kernel
theorem dX12_beach_108 : decode cX12_beach 108 = .ok (.invokevirtual 122, 3) := by decide +kernel
theorem dX12_beach_111 : decode cX12_beach 111 = .ok (.sipush (-2000), 3) := by decide +kernel
theorem dX12_beach_114 : decode cX12_beach 114 = .ok (.aload_n 0, 1) := by decide +kernel
theorem dX12_beach_115 : decode cX12_beach 115 = .ok (.getfield 34, 3) := by decide +kernel
theorem dX12_beach_118 : decode cX12_beach 118 = .ok (.iload_n 2, 1) := by decide +kernel
theorem dX12_beach_119 : decode cX12_beach 119 = .ok (.iaload, 1) := by decide +kernel
theorem dX12_beach_120 : decode cX12_beach 120 = .ok (.isub, 1) := by decide +kernel
theorem dX12_beach_121 : decode cX12_beach 121 = .ok (.ireturn, 1) := by decide +kernel
theorem dX12_beach_122 : decode cX12_beach 122 = .ok (.iinc 2 1, 3) := by decide +kernel
theorem dX12_beach_125 : decode cX12_beach 125 = .ok (.goto (-39), 3) := by decide +kernel
theorem dX12_beach_128 : decode cX12_beach 128 = .ok (.aload_n 0, 1) := by decide +kernel
theorem dX12_beach_129 : decode cX12_beach 129 = .ok (.getfield 108, 3) := by decide +kernel
theorem dX12_beach_132 : decode cX12_beach 132 = .ok (.ireturn, 1) := by decide +kernel
theorem dX12_passes_0 : decode cX12_passes 0 = .ok (.iconst 0, 1) := by decide +kernel
theorem dX12_passes_1 : decode cX12_passes 1 = .ok (.istore_n 2, 1) := by decide +kernel
theorem dX12_passes_2 : decode cX12_passes 2 = .ok (.iload_n 2, 1) := by decide +kernel
theorem dX12_passes_3 : decode cX12_passes 3 = .ok (.aload_n 1, 1) := by decide +kernel
theorem dX12_passes_4 : decode cX12_passes 4 = .ok (.arraylength, 1) := by decide +kernel
theorem dX12_passes_5 : decode cX12_passes 5 = .ok (.if_icmp .ge 53, 3) := by decide +kernel
theorem dX12_passes_8 : decode cX12_passes 8 = .ok (.aload_n 0, 1) := by decide +kernel
theorem dX12_passes_9 : decode cX12_passes 9 = .ok (.getfield 130, 3) := by decide +kernel
theorem dX12_passes_12 : decode cX12_passes 12 = .ok (.ifCond .eq 18, 3) := by decide +kernel
theorem dX12_passes_15 : decode cX12_passes 15 = .ok (.aload_n 0, 1) := by decide +kernel
theorem dX12_passes_16 : decode cX12_passes 16 = .ok (.getfield 40, 3) := by decide +kernel
theorem dX12_passes_19 : decode cX12_passes 19 = .ok (.aload_n 0, 1) := by decide +kernel
theorem dX12_passes_20 : decode cX12_passes 20 = .ok (.getfield 134, 3) := by decide +kernel
theorem dX12_passes_23 : decode cX12_passes 23 = .ok (.aload_n 1, 1) := by decide +kernel
theorem dX12_passes_24 : decode cX12_passes 24 = .ok (.iload_n 2, 1) := by decide +kernel
theorem dX12_passes_25 : decode cX12_passes 25 = .ok (.iaload, 1) := by decide +kernel
theorem dX12_passes_26 : decode cX12_passes 26 = .ok (.iastore, 1) := by decide +kernel
theorem dX12_passes_27 : decode cX12_passes 27 = .ok (.goto 15, 3) := by decide +kernel
theorem dX12_passes_30 : decode cX12_passes 30 = .ok (.aload_n 1, 1) := by decide +kernel
theorem dX12_passes_31 : decode cX12_passes 31 = .ok (.iload_n 2, 1) := by decide +kernel
theorem dX12_passes_32 : decode cX12_passes 32 = .ok (.aload_n 0, 1) := by decide +kernel
theorem dX12_passes_33 : decode cX12_passes 33 = .ok (.getfield 40, 3) := by decide +kernel
theorem dX12_passes_36 : decode cX12_passes 36 = .ok (.aload_n 0, 1) := by decide +kernel
theorem dX12_passes_37 : decode cX12_passes 37 = .ok (.getfield 134, 3) := by decide +kernel
theorem dX12_passes_40 : decode cX12_passes 40 = .ok (.iaload, 1) := by decide +kernel
theorem dX12_passes_41 : decode cX12_passes 41 = .ok (.iastore, 1) := by decide +kernel
theorem dX12_passes_42 : decode cX12_passes 42 = .ok (.aload_n 0, 1) := by decide +kernel
theorem dX12_passes_43 : decode cX12_passes 43 = .ok (.dup, 1) := by decide +kernel
theorem dX12_passes_44 : decode cX12_passes 44 = .ok (.getfield 134, 3) := by decide +kernel
theorem dX12_passes_47 : decode cX12_passes 47 = .ok (.iconst 1, 1) := by decide +kernel
theorem dX12_passes_48 : decode cX12_passes 48 = .ok (.iadd, 1) := by decide +kernel
theorem dX12_passes_49 : decode cX12_passes 49 = .ok (.putfield 134, 3) := by decide +kernel
theorem dX12_passes_52 : decode cX12_passes 52 = .ok (.iinc 2 1, 3) := by decide +kernel
theorem dX12_passes_55 : decode cX12_passes 55 = .ok (.goto (-53), 3) := by decide +kernel
theorem dX12_passes_58 : decode cX12_passes 58 = .ok (.return_, 1) := by decide +kernel
theorem dX12_passOne_0 : decode cX12_passOne 0 = .ok (.aload_n 0, 1) := by decide +kernel
theorem dX12_passOne_1 : decode cX12_passOne 1 = .ok (.getfield 130, 3) := by decide +kernel
theorem dX12_passOne_4 : decode cX12_passOne 4 = .ok (.ifCond .eq 7, 3) := by decide +kernel
theorem dX12_passOne_7 : decode cX12_passOne 7 = .ok (.iload_n 1, 1) := by decide +kernel
theorem dX12_passOne_8 : decode cX12_passOne 8 = .ok (.goto 12, 3) := by decide +kernel
theorem dX12_passOne_11 : decode cX12_passOne 11 = .ok (.aload_n 0, 1) := by decide +kernel
theorem dX12_passOne_12 : decode cX12_passOne 12 = .ok (.getfield 40, 3) := by decide +kernel
theorem dX12_passOne_15 : decode cX12_passOne 15 = .ok (.aload_n 0, 1) := by decide +kernel
theorem dX12_passOne_16 : decode cX12_passOne 16 = .ok (.getfield 134, 3) := by decide +kernel
theorem dX12_passOne_19 : decode cX12_passOne 19 = .ok (.iaload, 1) := by decide +kernel
theorem dX12_passOne_20 : decode cX12_passOne 20 = .ok (.istore_n 2, 1) := by decide +kernel
theorem dX12_passOne_21 : decode cX12_passOne 21 = .ok (.aload_n 0, 1) := by decide +kernel
theorem dX12_passOne_22 : decode cX12_passOne 22 = .ok (.getfield 130, 3) := by decide +kernel
theorem dX12_passOne_25 : decode cX12_passOne 25 = .ok (.ifCond .eq 13, 3) := by decide +kernel
theorem dX12_passOne_28 : decode cX12_passOne 28 = .ok (.aload_n 0, 1) := by decide +kernel
theorem dX12_passOne_29 : decode cX12_passOne 29 = .ok (.getfield 40, 3) := by decide +kernel
theorem dX12_passOne_32 : decode cX12_passOne 32 = .ok (.aload_n 0, 1) := by decide +kernel
theorem dX12_passOne_33 : decode cX12_passOne 33 = .ok (.getfield 134, 3) := by decide +kernel
theorem dX12_passOne_36 : decode cX12_passOne 36 = .ok (.iload_n 1, 1) := by decide +kernel
theorem dX12_passOne_37 : decode cX12_passOne 37 = .ok (.iastore, 1) := by decide +kernel
theorem dX12_passOne_38 : decode cX12_passOne 38 = .ok (.aload_n 0, 1) := by decide +kernel
theorem dX12_passOne_39 : decode cX12_passOne 39 = .ok (.dup, 1) := by decide +kernel
theorem dX12_passOne_40 : decode cX12_passOne 40 = .ok (.getfield 134, 3) := by decide +kernel
theorem dX12_passOne_43 : decode cX12_passOne 43 = .ok (.iconst 1, 1) := by decide +kernel
theorem dX12_passOne_44 : decode cX12_passOne 44 = .ok (.iadd, 1) := by decide +kernel
theorem dX12_passOne_45 : decode cX12_passOne 45 = .ok (.putfield 134, 3) := by decide +kernel
theorem dX12_passOne_48 : decode cX12_passOne 48 = .ok (.iload_n 2, 1) := by decide +kernel
theorem dX12_passOne_49 : decode cX12_passOne 49 = .ok (.ireturn, 1) := by decide +kernel
theorem dX12_passesAll_0 : decode cX12_passesAll 0 = .ok (.aload_n 0, 1) := by decide +kernel
theorem dX12_passesAll_1 : decode cX12_passesAll 1 = .ok (.bipush 50, 2) := by decide +kernel
theorem dX12_passesAll_3 : decode cX12_passesAll 3 = .ok (.iload_n 1, 1) := by decide +kernel
theorem dX12_passesAll_4 : decode cX12_passesAll 4 = .ok (.imul, 1) := by decide +kernel
theorem dX12_passesAll_5 : decode cX12_passesAll 5 = .ok (.putfield 134, 3) := by decide +kernel
theorem dX12_passesAll_8 : decode cX12_passesAll 8 = .ok (.aload_n 0, 1) := by decide +kernel
theorem dX12_passesAll_9 : decode cX12_passesAll 9 = .ok (.iload_n 2, 1) := by decide +kernel
theorem dX12_passesAll_10 : decode cX12_passesAll 10 = .ok (.putfield 130, 3) := by decide +kernel
theorem dX12_passesAll_13 : decode cX12_passesAll 13 = .ok (.aload_n 0, 1) := by decide +kernel
theorem dX12_passesAll_14 : decode cX12_passesAll 14 = .ok (.aload_n 0, 1) := by decide +kernel
theorem dX12_passesAll_15 : decode cX12_passesAll 15 = .ok (.getfield 13, 3) := by decide +kernel
theorem dX12_passesAll_18 : decode cX12_passesAll 18 = .ok (.invokevirtual 137, 3) := by decide +kernel
theorem dX12_passesAll_21 : decode cX12_passesAll 21 = .ok (.aload_n 0, 1) := by decide +kernel
theorem dX12_passesAll_22 : decode cX12_passesAll 22 = .ok (.aload_n 0, 1) := by decide +kernel
theorem dX12_passesAll_23 : decode cX12_passesAll 23 = .ok (.getfield 16, 3) := by decide +kernel
theorem dX12_passesAll_26 : decode cX12_passesAll 26 = .ok (.invokevirtual 137, 3) := by decide +kernel
theorem dX12_passesAll_29 : decode cX12_passesAll 29 = .ok (.aload_n 0, 1) := by decide +kernel
theorem dX12_passesAll_30 : decode cX12_passesAll 30 = .ok (.aload_n 0, 1) := by decide +kernel
theorem dX12_passesAll_31 : decode cX12_passesAll 31 = .ok (.getfield 19, 3) := by decide +kernel
theorem dX12_passesAll_34 : decode cX12_passesAll 34 = .ok (.invokevirtual 137, 3) := by decide +kernel
theorem dX12_passesAll_37 : decode cX12_passesAll 37 = .ok (.aload_n 0, 1) := by decide +kernel
theorem dX12_passesAll_38 : decode cX12_passesAll 38 = .ok (.aload_n 0, 1) := by decide +kernel
theorem dX12_passesAll_39 : decode cX12_passesAll 39 = .ok (.getfield 22, 3) := by decide +kernel
theorem dX12_passesAll_42 : decode cX12_passesAll 42 = .ok (.invokevirtual 137, 3) := by decide +kernel
theorem dX12_passesAll_45 : decode cX12_passesAll 45 = .ok (.aload_n 0, 1) := by decide +kernel
theorem dX12_passesAll_46 : decode cX12_passesAll 46 = .ok (.aload_n 0, 1) := by decide +kernel
theorem dX12_passesAll_47 : decode cX12_passesAll 47 = .ok (.getfield 25, 3) := by decide +kernel
theorem dX12_passesAll_50 : decode cX12_passesAll 50 = .ok (.invokevirtual 137, 3) := by decide +kernel
theorem dX12_passesAll_53 : decode cX12_passesAll 53 = .ok (.aload_n 0, 1) := by decide +kernel
theorem dX12_passesAll_54 : decode cX12_passesAll 54 = .ok (.aload_n 0, 1) := by decide +kernel
theorem dX12_passesAll_55 : decode cX12_passesAll 55 = .ok (.aload_n 0, 1) := by decide +kernel
theorem dX12_passesAll_56 : decode cX12_passesAll 56 = .ok (.getfield 82, 3) := by decide +kernel
theorem dX12_passesAll_59 : decode cX12_passesAll 59 = .ok (.invokevirtual 141, 3) := by decide +kernel
theorem dX12_passesAll_62 : decode cX12_passesAll 62 = .ok (.putfield 82, 3) := by decide +kernel
theorem dX12_passesAll_65 : decode cX12_passesAll 65 = .ok (.aload_n 0, 1) := by decide +kernel
theorem dX12_passesAll_66 : decode cX12_passesAll 66 = .ok (.aload_n 0, 1) := by decide +kernel
theorem dX12_passesAll_67 : decode cX12_passesAll 67 = .ok (.aload_n 0, 1) := by decide +kernel
theorem dX12_passesAll_68 : decode cX12_passesAll 68 = .ok (.getfield 144, 3) := by decide +kernel
theorem dX12_passesAll_71 : decode cX12_passesAll 71 = .ok (.invokevirtual 141, 3) := by decide +kernel
theorem dX12_passesAll_74 : decode cX12_passesAll 74 = .ok (.putfield 144, 3) := by decide +kernel
theorem dX12_passesAll_77 : decode cX12_passesAll 77 = .ok (.aload_n 0, 1) := by decide +kernel
theorem dX12_passesAll_78 : decode cX12_passesAll 78 = .ok (.aload_n 0, 1) := by decide +kernel
theorem dX12_passesAll_79 : decode cX12_passesAll 79 = .ok (.aload_n 0, 1) := by decide +kernel
theorem dX12_passesAll_80 : decode cX12_passesAll 80 = .ok (.getfield 115, 3) := by decide +kernel
theorem dX12_passesAll_83 : decode cX12_passesAll 83 = .ok (.invokevirtual 141, 3) := by decide +kernel
theorem dX12_passesAll_86 : decode cX12_passesAll 86 = .ok (.putfield 115, 3) := by decide +kernel
theorem dX12_passesAll_89 : decode cX12_passesAll 89 = .ok (.return_, 1) := by decide +kernel
theorem dX12_image_0 : decode cX12_image 0 = .ok (.aload_n 0, 1) := by decide +kernel
theorem dX12_image_1 : decode cX12_image 1 = .ok (.iconst 1, 1) := by decide +kernel
theorem dX12_image_2 : decode cX12_image 2 = .ok (.putfield 147, 3) := by decide +kernel
theorem dX12_image_5 : decode cX12_image 5 = .ok (.aload_n 0, 1) := by decide +kernel
theorem dX12_image_6 : decode cX12_image 6 = .ok (.iconst 0, 1) := by decide +kernel
theorem dX12_image_7 : decode cX12_image 7 = .ok (.iconst 1, 1) := by decide +kernel
theorem dX12_image_8 : decode cX12_image 8 = .ok (.invokevirtual 122, 3) := by decide +kernel
theorem dX12_image_11 : decode cX12_image 11 = .ok (.aload_n 0, 1) := by decide +kernel
theorem dX12_image_12 : decode cX12_image 12 = .ok (.getfield 82, 3) := by decide +kernel
theorem dX12_image_15 : decode cX12_image 15 = .ok (.ireturn, 1) := by decide +kernel
theorem dX12_restore_0 : decode cX12_restore 0 = .ok (.aload_n 0, 1) := by decide +kernel
theorem dX12_restore_1 : decode cX12_restore 1 = .ok (.getfield 147, 3) := by decide +kernel
theorem dX12_restore_4 : decode cX12_restore 4 = .ok (.ifCond .ne 10, 3) := by decide +kernel
theorem dX12_restore_7 : decode cX12_restore 7 = .ok (.aload_n 0, 1) := by decide +kernel
theorem dX12_restore_8 : decode cX12_restore 8 = .ok (.bipush (-3), 2) := by decide +kernel
theorem dX12_restore_10 : decode cX12_restore 10 = .ok (.invokevirtual 93, 3) := by decide +kernel
theorem dX12_restore_13 : decode cX12_restore 13 = .ok (.ireturn, 1) := by decide +kernel
theorem dX12_restore_14 : decode cX12_restore 14 = .ok (.aload_n 0, 1) := by decide +kernel
theorem dX12_restore_15 : decode cX12_restore 15 = .ok (.iconst 0, 1) := by decide +kernel
theorem dX12_restore_16 : decode cX12_restore 16 = .ok (.iconst 0, 1) := by decide +kernel
theorem dX12_restore_17 : decode cX12_restore 17 = .ok (.invokevirtual 122, 3) := by decide +kernel
theorem dX12_restore_20 : decode cX12_restore 20 = .ok (.aload_n 0, 1) := by decide +kernel
theorem dX12_restore_21 : decode cX12_restore 21 = .ok (.getfield 82, 3) := by decide +kernel
theorem dX12_restore_24 : decode cX12_restore 24 = .ok (.ireturn, 1) := by decide +kernel
theorem dX12_man_0 : decode cX12_man 0 = .ok (.aload_n 0, 1) := by decide +kernel
theorem dX12_man_1 : decode cX12_man 1 = .ok (.iload_n 1, 1) := by decide +kernel
theorem dX12_man_2 : decode cX12_man 2 = .ok (.invokevirtual 150, 3) := by decide +kernel
theorem dX12_man_5 : decode cX12_man 5 = .ok (.ifCond .ne 9, 3) := by decide +kernel
theorem dX12_man_8 : decode cX12_man 8 = .ok (.aload_n 0, 1) := by decide +kernel
theorem dX12_man_9 : decode cX12_man 9 = .ok (.iconst (-1), 1) := by decide +kernel
theorem dX12_man_10 : decode cX12_man 10 = .ok (.invokevirtual 93, 3) := by decide +kernel
theorem dX12_man_13 : decode cX12_man 13 = .ok (.ireturn, 1) := by decide +kernel
theorem dX12_man_14 : decode cX12_man 14 = .ok (.iload_n 2, 1) := by decide +kernel
theorem dX12_man_15 : decode cX12_man 15 = .ok (.iconst 0, 1) := by decide +kernel
theorem dX12_man_16 : decode cX12_man 16 = .ok (.iconst 2, 1) := by decide +kernel
theorem dX12_man_17 : decode cX12_man 17 = .ok (.invokestatic 104, 3) := by decide +kernel
theorem dX12_man_20 : decode cX12_man 20 = .ok (.ifCond .ne 10, 3) := by decide +kernel
theorem dX12_man_23 : decode cX12_man 23 = .ok (.aload_n 0, 1) := by decide +kernel
theorem dX12_man_24 : decode cX12_man 24 = .ok (.bipush (-2), 2) := by decide +kernel
theorem dX12_man_26 : decode cX12_man 26 = .ok (.invokevirtual 93, 3) := by decide +kernel
theorem dX12_man_29 : decode cX12_man 29 = .ok (.ireturn, 1) := by decide +kernel
theorem dX12_man_30 : decode cX12_man 30 = .ok (.iload_n 2, 1) := by decide +kernel
theorem dX12_man_31 : decode cX12_man 31 = .ok (.ifCond .ne 12, 3) := by decide +kernel
theorem dX12_man_34 : decode cX12_man 34 = .ok (.aload_n 0, 1) := by decide +kernel
theorem dX12_man_35 : decode cX12_man 35 = .ok (.getfield 13, 3) := by decide +kernel
theorem dX12_man_38 : decode cX12_man 38 = .ok (.iload_n 1, 1) := by decide +kernel
theorem dX12_man_39 : decode cX12_man 39 = .ok (.iaload, 1) := by decide +kernel
theorem dX12_man_40 : decode cX12_man 40 = .ok (.goto 23, 3) := by decide +kernel
theorem dX12_man_43 : decode cX12_man 43 = .ok (.iload_n 2, 1) := by decide +kernel
theorem dX12_man_44 : decode cX12_man 44 = .ok (.iconst 1, 1) := by decide +kernel
theorem dX12_man_45 : decode cX12_man 45 = .ok (.if_icmp .ne 12, 3) := by decide +kernel
theorem dX12_man_48 : decode cX12_man 48 = .ok (.aload_n 0, 1) := by decide +kernel
theorem dX12_man_49 : decode cX12_man 49 = .ok (.getfield 16, 3) := by decide +kernel
theorem dX12_man_52 : decode cX12_man 52 = .ok (.iload_n 1, 1) := by decide +kernel
theorem dX12_man_53 : decode cX12_man 53 = .ok (.iaload, 1) := by decide +kernel
theorem dX12_man_54 : decode cX12_man 54 = .ok (.goto 9, 3) := by decide +kernel
theorem dX12_man_57 : decode cX12_man 57 = .ok (.aload_n 0, 1) := by decide +kernel
theorem dX12_man_58 : decode cX12_man 58 = .ok (.getfield 19, 3) := by decide +kernel
theorem dX12_man_61 : decode cX12_man 61 = .ok (.iload_n 1, 1) := by decide +kernel
theorem dX12_man_62 : decode cX12_man 62 = .ok (.iaload, 1) := by decide +kernel
theorem dX12_man_63 : decode cX12_man 63 = .ok (.ireturn, 1) := by decide +kernel
theorem dX12_set_0 : decode cX12_set 0 = .ok (.iload_n 1, 1) := by decide +kernel
theorem dX12_set_1 : decode cX12_set 1 = .ok (.iconst 0, 1) := by decide +kernel
theorem dX12_set_2 : decode cX12_set 2 = .ok (.iconst 4, 1) := by decide +kernel
theorem dX12_set_3 : decode cX12_set 3 = .ok (.invokestatic 104, 3) := by decide +kernel
theorem dX12_set_6 : decode cX12_set 6 = .ok (.ifCond .ne 10, 3) := by decide +kernel
theorem dX12_set_9 : decode cX12_set 9 = .ok (.aload_n 0, 1) := by decide +kernel
theorem dX12_set_10 : decode cX12_set 10 = .ok (.bipush (-2), 2) := by decide +kernel
theorem dX12_set_12 : decode cX12_set 12 = .ok (.invokevirtual 93, 3) := by decide +kernel
theorem dX12_set_15 : decode cX12_set 15 = .ok (.ireturn, 1) := by decide +kernel
theorem dX12_set_16 : decode cX12_set 16 = .ok (.iload_n 2, 1) := by decide +kernel
theorem dX12_set_17 : decode cX12_set 17 = .ok (.iconst 0, 1) := by decide +kernel
theorem dX12_set_18 : decode cX12_set 18 = .ok (.getstatic 153, 3) := by decide +kernel
theorem dX12_set_21 : decode cX12_set 21 = .ok (.iload_n 1, 1) := by decide +kernel
theorem dX12_set_22 : decode cX12_set 22 = .ok (.iaload, 1) := by decide +kernel
theorem dX12_set_23 : decode cX12_set 23 = .ok (.invokestatic 86, 3) := by decide +kernel
theorem dX12_set_26 : decode cX12_set 26 = .ok (.istore_n 3, 1) := by decide +kernel
theorem dX12_set_27 : decode cX12_set 27 = .ok (.iload_n 3, 1) := by decide +kernel
theorem dX12_set_28 : decode cX12_set 28 = .ok (.ifCond .eq 9, 3) := by decide +kernel
theorem dX12_set_31 : decode cX12_set 31 = .ok (.aload_n 0, 1) := by decide +kernel
theorem dX12_set_32 : decode cX12_set 32 = .ok (.iload_n 3, 1) := by decide +kernel
theorem dX12_set_33 : decode cX12_set 33 = .ok (.invokevirtual 93, 3) := by decide +kernel
theorem dX12_set_36 : decode cX12_set 36 = .ok (.ireturn, 1) := by decide +kernel
theorem dX12_set_37 : decode cX12_set 37 = .ok (.aload_n 0, 1) := by decide +kernel
theorem dX12_set_38 : decode cX12_set 38 = .ok (.getfield 25, 3) := by decide +kernel
theorem dX12_set_41 : decode cX12_set 41 = .ok (.iload_n 1, 1) := by decide +kernel
theorem dX12_set_42 : decode cX12_set 42 = .ok (.iaload, 1) := by decide +kernel
theorem dX12_set_43 : decode cX12_set 43 = .ok (.istore 4, 2) := by decide +kernel
theorem dX12_set_45 : decode cX12_set 45 = .ok (.aload_n 0, 1) := by decide +kernel
theorem dX12_set_46 : decode cX12_set 46 = .ok (.getfield 25, 3) := by decide +kernel
theorem dX12_set_49 : decode cX12_set 49 = .ok (.iload_n 1, 1) := by decide +kernel
theorem dX12_set_50 : decode cX12_set 50 = .ok (.iload_n 2, 1) := by decide +kernel
theorem dX12_set_51 : decode cX12_set 51 = .ok (.iastore, 1) := by decide +kernel
theorem dX12_set_52 : decode cX12_set 52 = .ok (.iload 4, 2) := by decide +kernel
theorem dX12_set_54 : decode cX12_set 54 = .ok (.ireturn, 1) := by decide +kernel
theorem dX12_isCarried_0 : decode cX12_isCarried 0 = .ok (.iload_n 0, 1) := by decide +kernel
theorem dX12_isCarried_1 : decode cX12_isCarried 1 = .ok (.ifCond .ne 18, 3) := by decide +kernel
theorem dX12_isCarried_4 : decode cX12_isCarried 4 = .ok (.iconst 2, 1) := by decide +kernel
theorem dX12_isCarried_5 : decode cX12_isCarried 5 = .ok (.iload_n 1, 1) := by decide +kernel
theorem dX12_isCarried_6 : decode cX12_isCarried 6 = .ok (.imul, 1) := by decide +kernel
theorem dX12_isCarried_7 : decode cX12_isCarried 7 = .ok (.iload_n 2, 1) := by decide +kernel
theorem dX12_isCarried_8 : decode cX12_isCarried 8 = .ok (.if_icmp .lt 7, 3) := by decide +kernel
theorem dX12_isCarried_11 : decode cX12_isCarried 11 = .ok (.iconst 1, 1) := by decide +kernel
theorem dX12_isCarried_12 : decode cX12_isCarried 12 = .ok (.goto 41, 3) := by decide +kernel
theorem dX12_isCarried_15 : decode cX12_isCarried 15 = .ok (.iconst 0, 1) := by decide +kernel
theorem dX12_isCarried_16 : decode cX12_isCarried 16 = .ok (.goto 37, 3) := by decide +kernel
theorem dX12_isCarried_19 : decode cX12_isCarried 19 = .ok (.iload_n 0, 1) := by decide +kernel
end
section
theorem dX12_isCarried_20 : decode cX12_isCarried 20 = .ok (.iconst 1, 1) := by decide +kernel
theorem dX12_isCarried_21 : decode cX12_isCarried 21 = .ok (.if_icmp .ne 18, 3) := by decide +kernel
theorem dX12_isCarried_24 : decode cX12_isCarried 24 = .ok (.iconst 2, 1) := by decide +kernel
theorem dX12_isCarried_25 : decode cX12_isCarried 25 = .ok (.iload_n 1, 1) := by decide +kernel
theorem dX12_isCarried_26 : decode cX12_isCarried 26 = .ok (.imul, 1) := by decide +kernel
theorem dX12_isCarried_27 : decode cX12_isCarried 27 = .ok (.iload_n 2, 1) := by decide +kernel
theorem dX12_isCarried_28 : decode cX12_isCarried 28 = .ok (.if_icmp .le 7, 3) := by decide +kernel
theorem dX12_isCarried_31 : decode cX12_isCarried 31 = .ok (.iconst 1, 1) := by decide +kernel
theorem dX12_isCarried_32 : decode cX12_isCarried 32 = .ok (.goto 21, 3) := by decide +kernel
theorem dX12_isCarried_35 : decode cX12_isCarried 35 = .ok (.iconst 0, 1) := by decide +kernel
theorem dX12_isCarried_36 : decode cX12_isCarried 36 = .ok (.goto 17, 3) := by decide +kernel
theorem dX12_isCarried_39 : decode cX12_isCarried 39 = .ok (.iconst 3, 1) := by decide +kernel
theorem dX12_isCarried_40 : decode cX12_isCarried 40 = .ok (.iload_n 1, 1) := by decide +kernel
theorem dX12_isCarried_41 : decode cX12_isCarried 41 = .ok (.imul, 1) := by decide +kernel
theorem dX12_isCarried_42 : decode cX12_isCarried 42 = .ok (.iconst 2, 1) := by decide +kernel
theorem dX12_isCarried_43 : decode cX12_isCarried 43 = .ok (.iload_n 2, 1) := by decide +kernel
theorem dX12_isCarried_44 : decode cX12_isCarried 44 = .ok (.imul, 1) := by decide +kernel
theorem dX12_isCarried_45 : decode cX12_isCarried 45 = .ok (.if_icmp .lt 7, 3) := by decide +kernel
theorem dX12_isCarried_48 : decode cX12_isCarried 48 = .ok (.iconst 1, 1) := by decide +kernel
theorem dX12_isCarried_49 : decode cX12_isCarried 49 = .ok (.goto 4, 3) := by decide +kernel
theorem dX12_isCarried_52 : decode cX12_isCarried 52 = .ok (.iconst 0, 1) := by decide +kernel
theorem dX12_isCarried_53 : decode cX12_isCarried 53 = .ok (.ireturn, 1) := by decide +kernel
theorem dX12_weightOf_0 : decode cX12_weightOf 0 = .ok (.iconst 0, 1) := by decide +kernel
theorem dX12_weightOf_1 : decode cX12_weightOf 1 = .ok (.istore_n 2, 1) := by decide +kernel
theorem dX12_weightOf_2 : decode cX12_weightOf 2 = .ok (.iconst 0, 1) := by decide +kernel
theorem dX12_weightOf_3 : decode cX12_weightOf 3 = .ok (.istore_n 3, 1) := by decide +kernel
theorem dX12_weightOf_4 : decode cX12_weightOf 4 = .ok (.iload_n 3, 1) := by decide +kernel
theorem dX12_weightOf_5 : decode cX12_weightOf 5 = .ok (.aload_n 0, 1) := by decide +kernel
theorem dX12_weightOf_6 : decode cX12_weightOf 6 = .ok (.getfield 82, 3) := by decide +kernel
theorem dX12_weightOf_9 : decode cX12_weightOf 9 = .ok (.if_icmp .ge 24, 3) := by decide +kernel
theorem dX12_weightOf_12 : decode cX12_weightOf 12 = .ok (.iload_n 2, 1) := by decide +kernel
theorem dX12_weightOf_13 : decode cX12_weightOf 13 = .ok (.iload_n 1, 1) := by decide +kernel
theorem dX12_weightOf_14 : decode cX12_weightOf 14 = .ok (.iload_n 3, 1) := by decide +kernel
theorem dX12_weightOf_15 : decode cX12_weightOf 15 = .ok (.ishr, 1) := by decide +kernel
theorem dX12_weightOf_16 : decode cX12_weightOf 16 = .ok (.iconst 1, 1) := by decide +kernel
theorem dX12_weightOf_17 : decode cX12_weightOf 17 = .ok (.iand, 1) := by decide +kernel
theorem dX12_weightOf_18 : decode cX12_weightOf 18 = .ok (.aload_n 0, 1) := by decide +kernel
theorem dX12_weightOf_19 : decode cX12_weightOf 19 = .ok (.getfield 19, 3) := by decide +kernel
theorem dX12_weightOf_22 : decode cX12_weightOf 22 = .ok (.iload_n 3, 1) := by decide +kernel
theorem dX12_weightOf_23 : decode cX12_weightOf 23 = .ok (.iaload, 1) := by decide +kernel
theorem dX12_weightOf_24 : decode cX12_weightOf 24 = .ok (.imul, 1) := by decide +kernel
theorem dX12_weightOf_25 : decode cX12_weightOf 25 = .ok (.iadd, 1) := by decide +kernel
theorem dX12_weightOf_26 : decode cX12_weightOf 26 = .ok (.istore_n 2, 1) := by decide +kernel
theorem dX12_weightOf_27 : decode cX12_weightOf 27 = .ok (.iinc 3 1, 3) := by decide +kernel
theorem dX12_weightOf_30 : decode cX12_weightOf 30 = .ok (.goto (-26), 3) := by decide +kernel
theorem dX12_weightOf_33 : decode cX12_weightOf 33 = .ok (.iload_n 2, 1) := by decide +kernel
theorem dX12_weightOf_34 : decode cX12_weightOf 34 = .ok (.ireturn, 1) := by decide +kernel
theorem dX12_leftFrom_0 : decode cX12_leftFrom 0 = .ok (.iconst 1, 1) := by decide +kernel
theorem dX12_leftFrom_1 : decode cX12_leftFrom 1 = .ok (.aload_n 0, 1) := by decide +kernel
theorem dX12_leftFrom_2 : decode cX12_leftFrom 2 = .ok (.getfield 82, 3) := by decide +kernel
theorem dX12_leftFrom_5 : decode cX12_leftFrom 5 = .ok (.ishl, 1) := by decide +kernel
theorem dX12_leftFrom_6 : decode cX12_leftFrom 6 = .ok (.iconst 1, 1) := by decide +kernel
theorem dX12_leftFrom_7 : decode cX12_leftFrom 7 = .ok (.iload_n 1, 1) := by decide +kernel
theorem dX12_leftFrom_8 : decode cX12_leftFrom 8 = .ok (.ishl, 1) := by decide +kernel
theorem dX12_leftFrom_9 : decode cX12_leftFrom 9 = .ok (.isub, 1) := by decide +kernel
theorem dX12_leftFrom_10 : decode cX12_leftFrom 10 = .ok (.ireturn, 1) := by decide +kernel
theorem dX12_above_0 : decode cX12_above 0 = .ok (.iload_n 0, 1) := by decide +kernel
theorem dX12_above_1 : decode cX12_above 1 = .ok (.ifCond .ge 7, 3) := by decide +kernel
theorem dX12_above_4 : decode cX12_above 4 = .ok (.iconst 0, 1) := by decide +kernel
theorem dX12_above_5 : decode cX12_above 5 = .ok (.goto 4, 3) := by decide +kernel
theorem dX12_above_8 : decode cX12_above 8 = .ok (.iload_n 0, 1) := by decide +kernel
theorem dX12_above_9 : decode cX12_above 9 = .ok (.ireturn, 1) := by decide +kernel
theorem dX12_priceOf_0 : decode cX12_priceOf 0 = .ok (.aload_n 0, 1) := by decide +kernel
theorem dX12_priceOf_1 : decode cX12_priceOf 1 = .ok (.getfield 25, 3) := by decide +kernel
theorem dX12_priceOf_4 : decode cX12_priceOf 4 = .ok (.iconst 2, 1) := by decide +kernel
theorem dX12_priceOf_5 : decode cX12_priceOf 5 = .ok (.iaload, 1) := by decide +kernel
theorem dX12_priceOf_6 : decode cX12_priceOf 6 = .ok (.iconst 1, 1) := by decide +kernel
theorem dX12_priceOf_7 : decode cX12_priceOf 7 = .ok (.if_icmp .ne 7, 3) := by decide +kernel
theorem dX12_priceOf_10 : decode cX12_priceOf 10 = .ok (.iload_n 2, 1) := by decide +kernel
theorem dX12_priceOf_11 : decode cX12_priceOf 11 = .ok (.goto 6, 3) := by decide +kernel
theorem dX12_priceOf_14 : decode cX12_priceOf 14 = .ok (.iload_n 2, 1) := by decide +kernel
theorem dX12_priceOf_15 : decode cX12_priceOf 15 = .ok (.iconst 1, 1) := by decide +kernel
theorem dX12_priceOf_16 : decode cX12_priceOf 16 = .ok (.iadd, 1) := by decide +kernel
theorem dX12_priceOf_17 : decode cX12_priceOf 17 = .ok (.invokestatic 156, 3) := by decide +kernel
theorem dX12_priceOf_20 : decode cX12_priceOf 20 = .ok (.istore_n 3, 1) := by decide +kernel
theorem dX12_priceOf_21 : decode cX12_priceOf 21 = .ok (.iload_n 2, 1) := by decide +kernel
theorem dX12_priceOf_22 : decode cX12_priceOf 22 = .ok (.ifCond .lt 9, 3) := by decide +kernel
theorem dX12_priceOf_25 : decode cX12_priceOf 25 = .ok (.iload_n 3, 1) := by decide +kernel
theorem dX12_priceOf_26 : decode cX12_priceOf 26 = .ok (.iconst 1, 1) := by decide +kernel
theorem dX12_priceOf_27 : decode cX12_priceOf 27 = .ok (.iadd, 1) := by decide +kernel
theorem dX12_priceOf_28 : decode cX12_priceOf 28 = .ok (.goto 4, 3) := by decide +kernel
theorem dX12_priceOf_31 : decode cX12_priceOf 31 = .ok (.iload_n 3, 1) := by decide +kernel
theorem dX12_priceOf_32 : decode cX12_priceOf 32 = .ok (.istore 4, 2) := by decide +kernel
theorem dX12_priceOf_34 : decode cX12_priceOf 34 = .ok (.aload_n 0, 1) := by decide +kernel
theorem dX12_priceOf_35 : decode cX12_priceOf 35 = .ok (.getfield 13, 3) := by decide +kernel
theorem dX12_priceOf_38 : decode cX12_priceOf 38 = .ok (.iload_n 1, 1) := by decide +kernel
theorem dX12_priceOf_39 : decode cX12_priceOf 39 = .ok (.iaload, 1) := by decide +kernel
theorem dX12_priceOf_40 : decode cX12_priceOf 40 = .ok (.tableswitch 67 0 5 #[40, 42, 47, 42, 50, 57], 40) := by decide +kernel
theorem dX12_priceOf_80 : decode cX12_priceOf 80 = .ok (.iload_n 3, 1) := by decide +kernel
theorem dX12_priceOf_81 : decode cX12_priceOf 81 = .ok (.ireturn, 1) := by decide +kernel
theorem dX12_priceOf_82 : decode cX12_priceOf 82 = .ok (.iload_n 2, 1) := by decide +kernel
theorem dX12_priceOf_83 : decode cX12_priceOf 83 = .ok (.invokestatic 156, 3) := by decide +kernel
theorem dX12_priceOf_86 : decode cX12_priceOf 86 = .ok (.ireturn, 1) := by decide +kernel
theorem dX12_priceOf_87 : decode cX12_priceOf 87 = .ok (.iload 4, 2) := by decide +kernel
theorem dX12_priceOf_89 : decode cX12_priceOf 89 = .ok (.ireturn, 1) := by decide +kernel
theorem dX12_priceOf_90 : decode cX12_priceOf 90 = .ok (.aload_n 0, 1) := by decide +kernel
theorem dX12_priceOf_91 : decode cX12_priceOf 91 = .ok (.getfield 16, 3) := by decide +kernel
theorem dX12_priceOf_94 : decode cX12_priceOf 94 = .ok (.iload_n 1, 1) := by decide +kernel
theorem dX12_priceOf_95 : decode cX12_priceOf 95 = .ok (.iaload, 1) := by decide +kernel
theorem dX12_priceOf_96 : decode cX12_priceOf 96 = .ok (.ireturn, 1) := by decide +kernel
theorem dX12_priceOf_97 : decode cX12_priceOf 97 = .ok (.iload 4, 2) := by decide +kernel
theorem dX12_priceOf_99 : decode cX12_priceOf 99 = .ok (.aload_n 0, 1) := by decide +kernel
theorem dX12_priceOf_100 : decode cX12_priceOf 100 = .ok (.getfield 16, 3) := by decide +kernel
theorem dX12_priceOf_103 : decode cX12_priceOf 103 = .ok (.iload_n 1, 1) := by decide +kernel
theorem dX12_priceOf_104 : decode cX12_priceOf 104 = .ok (.iaload, 1) := by decide +kernel
theorem dX12_priceOf_105 : decode cX12_priceOf 105 = .ok (.iadd, 1) := by decide +kernel
theorem dX12_priceOf_106 : decode cX12_priceOf 106 = .ok (.ireturn, 1) := by decide +kernel
theorem dX12_priceOf_107 : decode cX12_priceOf 107 = .ok (.aload_n 0, 1) := by decide +kernel
theorem dX12_priceOf_108 : decode cX12_priceOf 108 = .ok (.getfield 16, 3) := by decide +kernel
theorem dX12_priceOf_111 : decode cX12_priceOf 111 = .ok (.iload_n 1, 1) := by decide +kernel
theorem dX12_priceOf_112 : decode cX12_priceOf 112 = .ok (.iaload, 1) := by decide +kernel
theorem dX12_priceOf_113 : decode cX12_priceOf 113 = .ok (.iconst 2, 1) := by decide +kernel
theorem dX12_priceOf_114 : decode cX12_priceOf 114 = .ok (.idiv, 1) := by decide +kernel
theorem dX12_priceOf_115 : decode cX12_priceOf 115 = .ok (.ireturn, 1) := by decide +kernel
theorem dX12_costOf_0 : decode cX12_costOf 0 = .ok (.iconst 0, 1) := by decide +kernel
theorem dX12_costOf_1 : decode cX12_costOf 1 = .ok (.istore_n 3, 1) := by decide +kernel
theorem dX12_costOf_2 : decode cX12_costOf 2 = .ok (.iload_n 1, 1) := by decide +kernel
theorem dX12_costOf_3 : decode cX12_costOf 3 = .ok (.iconst 1, 1) := by decide +kernel
theorem dX12_costOf_4 : decode cX12_costOf 4 = .ok (.iadd, 1) := by decide +kernel
theorem dX12_costOf_5 : decode cX12_costOf 5 = .ok (.istore 4, 2) := by decide +kernel
theorem dX12_costOf_7 : decode cX12_costOf 7 = .ok (.iload 4, 2) := by decide +kernel
theorem dX12_costOf_9 : decode cX12_costOf 9 = .ok (.aload_n 0, 1) := by decide +kernel
theorem dX12_costOf_10 : decode cX12_costOf 10 = .ok (.getfield 82, 3) := by decide +kernel
theorem dX12_costOf_13 : decode cX12_costOf 13 = .ok (.if_icmp .ge 31, 3) := by decide +kernel
theorem dX12_costOf_16 : decode cX12_costOf 16 = .ok (.iload_n 3, 1) := by decide +kernel
theorem dX12_costOf_17 : decode cX12_costOf 17 = .ok (.iload_n 2, 1) := by decide +kernel
theorem dX12_costOf_18 : decode cX12_costOf 18 = .ok (.iload 4, 2) := by decide +kernel
theorem dX12_costOf_20 : decode cX12_costOf 20 = .ok (.ishr, 1) := by decide +kernel
theorem dX12_costOf_21 : decode cX12_costOf 21 = .ok (.iconst 1, 1) := by decide +kernel
theorem dX12_costOf_22 : decode cX12_costOf 22 = .ok (.iand, 1) := by decide +kernel
theorem dX12_costOf_23 : decode cX12_costOf 23 = .ok (.aload_n 0, 1) := by decide +kernel
theorem dX12_costOf_24 : decode cX12_costOf 24 = .ok (.getfield 43, 3) := by decide +kernel
theorem dX12_costOf_27 : decode cX12_costOf 27 = .ok (.bipush 9, 2) := by decide +kernel
theorem dX12_costOf_29 : decode cX12_costOf 29 = .ok (.iload_n 1, 1) := by decide +kernel
theorem dX12_costOf_30 : decode cX12_costOf 30 = .ok (.imul, 1) := by decide +kernel
theorem dX12_costOf_31 : decode cX12_costOf 31 = .ok (.iload 4, 2) := by decide +kernel
theorem dX12_costOf_33 : decode cX12_costOf 33 = .ok (.iadd, 1) := by decide +kernel
theorem dX12_costOf_34 : decode cX12_costOf 34 = .ok (.iaload, 1) := by decide +kernel
theorem dX12_costOf_35 : decode cX12_costOf 35 = .ok (.imul, 1) := by decide +kernel
theorem dX12_costOf_36 : decode cX12_costOf 36 = .ok (.iadd, 1) := by decide +kernel
theorem dX12_costOf_37 : decode cX12_costOf 37 = .ok (.istore_n 3, 1) := by decide +kernel
theorem dX12_costOf_38 : decode cX12_costOf 38 = .ok (.iinc 4 1, 3) := by decide +kernel
theorem dX12_costOf_41 : decode cX12_costOf 41 = .ok (.goto (-34), 3) := by decide +kernel
theorem dX12_costOf_44 : decode cX12_costOf 44 = .ok (.iload_n 3, 1) := by decide +kernel
theorem dX12_costOf_45 : decode cX12_costOf 45 = .ok (.ireturn, 1) := by decide +kernel
theorem dX12_unbought_0 : decode cX12_unbought 0 = .ok (.iconst 0, 1) := by decide +kernel
theorem dX12_unbought_1 : decode cX12_unbought 1 = .ok (.istore_n 2, 1) := by decide +kernel
theorem dX12_unbought_2 : decode cX12_unbought 2 = .ok (.iload_n 1, 1) := by decide +kernel
theorem dX12_unbought_3 : decode cX12_unbought 3 = .ok (.iconst 1, 1) := by decide +kernel
theorem dX12_unbought_4 : decode cX12_unbought 4 = .ok (.iadd, 1) := by decide +kernel
theorem dX12_unbought_5 : decode cX12_unbought 5 = .ok (.istore_n 3, 1) := by decide +kernel
theorem dX12_unbought_6 : decode cX12_unbought 6 = .ok (.iload_n 3, 1) := by decide +kernel
theorem dX12_unbought_7 : decode cX12_unbought 7 = .ok (.aload_n 0, 1) := by decide +kernel
theorem dX12_unbought_8 : decode cX12_unbought 8 = .ok (.getfield 82, 3) := by decide +kernel
theorem dX12_unbought_11 : decode cX12_unbought 11 = .ok (.if_icmp .ge 33, 3) := by decide +kernel
theorem dX12_unbought_14 : decode cX12_unbought 14 = .ok (.iload_n 2, 1) := by decide +kernel
theorem dX12_unbought_15 : decode cX12_unbought 15 = .ok (.aload_n 0, 1) := by decide +kernel
theorem dX12_unbought_16 : decode cX12_unbought 16 = .ok (.getfield 43, 3) := by decide +kernel
theorem dX12_unbought_19 : decode cX12_unbought 19 = .ok (.bipush 9, 2) := by decide +kernel
theorem dX12_unbought_21 : decode cX12_unbought 21 = .ok (.iload_n 1, 1) := by decide +kernel
theorem dX12_unbought_22 : decode cX12_unbought 22 = .ok (.imul, 1) := by decide +kernel
theorem dX12_unbought_23 : decode cX12_unbought 23 = .ok (.iload_n 3, 1) := by decide +kernel
theorem dX12_unbought_24 : decode cX12_unbought 24 = .ok (.iadd, 1) := by decide +kernel
theorem dX12_unbought_25 : decode cX12_unbought 25 = .ok (.iaload, 1) := by decide +kernel
theorem dX12_unbought_26 : decode cX12_unbought 26 = .ok (.ifCond .ne 9, 3) := by decide +kernel
theorem dX12_unbought_29 : decode cX12_unbought 29 = .ok (.iconst 1, 1) := by decide +kernel
theorem dX12_unbought_30 : decode cX12_unbought 30 = .ok (.iload_n 3, 1) := by decide +kernel
theorem dX12_unbought_31 : decode cX12_unbought 31 = .ok (.ishl, 1) := by decide +kernel
theorem dX12_unbought_32 : decode cX12_unbought 32 = .ok (.goto 4, 3) := by decide +kernel
theorem dX12_unbought_35 : decode cX12_unbought 35 = .ok (.iconst 0, 1) := by decide +kernel
theorem dX12_unbought_36 : decode cX12_unbought 36 = .ok (.ior, 1) := by decide +kernel
theorem dX12_unbought_37 : decode cX12_unbought 37 = .ok (.istore_n 2, 1) := by decide +kernel
theorem dX12_unbought_38 : decode cX12_unbought 38 = .ok (.iinc 3 1, 3) := by decide +kernel
theorem dX12_unbought_41 : decode cX12_unbought 41 = .ok (.goto (-35), 3) := by decide +kernel
theorem dX12_unbought_44 : decode cX12_unbought 44 = .ok (.iload_n 2, 1) := by decide +kernel
theorem dX12_unbought_45 : decode cX12_unbought 45 = .ok (.ireturn, 1) := by decide +kernel
theorem dX12_isAhead_0 : decode cX12_isAhead 0 = .ok (.iload_n 1, 1) := by decide +kernel
theorem dX12_isAhead_1 : decode cX12_isAhead 1 = .ok (.iload_n 2, 1) := by decide +kernel
theorem dX12_isAhead_2 : decode cX12_isAhead 2 = .ok (.ixor, 1) := by decide +kernel
theorem dX12_isAhead_3 : decode cX12_isAhead 3 = .ok (.istore_n 3, 1) := by decide +kernel
theorem dX12_isAhead_4 : decode cX12_isAhead 4 = .ok (.iconst 0, 1) := by decide +kernel
theorem dX12_isAhead_5 : decode cX12_isAhead 5 = .ok (.istore 4, 2) := by decide +kernel
theorem dX12_isAhead_7 : decode cX12_isAhead 7 = .ok (.iload 4, 2) := by decide +kernel
theorem dX12_isAhead_9 : decode cX12_isAhead 9 = .ok (.aload_n 0, 1) := by decide +kernel
theorem dX12_isAhead_10 : decode cX12_isAhead 10 = .ok (.getfield 82, 3) := by decide +kernel
theorem dX12_isAhead_13 : decode cX12_isAhead 13 = .ok (.if_icmp .ge 60, 3) := by decide +kernel
theorem dX12_isAhead_16 : decode cX12_isAhead 16 = .ok (.aload_n 0, 1) := by decide +kernel
theorem dX12_isAhead_17 : decode cX12_isAhead 17 = .ok (.getfield 25, 3) := by decide +kernel
theorem dX12_isAhead_20 : decode cX12_isAhead 20 = .ok (.iconst 3, 1) := by decide +kernel
theorem dX12_isAhead_21 : decode cX12_isAhead 21 = .ok (.iaload, 1) := by decide +kernel
theorem dX12_isAhead_22 : decode cX12_isAhead 22 = .ok (.ifCond .ne 8, 3) := by decide +kernel
theorem dX12_isAhead_25 : decode cX12_isAhead 25 = .ok (.iload 4, 2) := by decide +kernel
theorem dX12_isAhead_27 : decode cX12_isAhead 27 = .ok (.goto 12, 3) := by decide +kernel
theorem dX12_isAhead_30 : decode cX12_isAhead 30 = .ok (.aload_n 0, 1) := by decide +kernel
theorem dX12_isAhead_31 : decode cX12_isAhead 31 = .ok (.getfield 82, 3) := by decide +kernel
theorem dX12_isAhead_34 : decode cX12_isAhead 34 = .ok (.iconst 1, 1) := by decide +kernel
theorem dX12_isAhead_35 : decode cX12_isAhead 35 = .ok (.isub, 1) := by decide +kernel
theorem dX12_isAhead_36 : decode cX12_isAhead 36 = .ok (.iload 4, 2) := by decide +kernel
theorem dX12_isAhead_38 : decode cX12_isAhead 38 = .ok (.isub, 1) := by decide +kernel
theorem dX12_isAhead_39 : decode cX12_isAhead 39 = .ok (.istore 5, 2) := by decide +kernel
theorem dX12_isAhead_41 : decode cX12_isAhead 41 = .ok (.iload_n 3, 1) := by decide +kernel
theorem dX12_isAhead_42 : decode cX12_isAhead 42 = .ok (.iload 5, 2) := by decide +kernel
theorem dX12_isAhead_44 : decode cX12_isAhead 44 = .ok (.ishr, 1) := by decide +kernel
theorem dX12_isAhead_45 : decode cX12_isAhead 45 = .ok (.iconst 1, 1) := by decide +kernel
theorem dX12_isAhead_46 : decode cX12_isAhead 46 = .ok (.iand, 1) := by decide +kernel
theorem dX12_isAhead_47 : decode cX12_isAhead 47 = .ok (.iconst 1, 1) := by decide +kernel
theorem dX12_isAhead_48 : decode cX12_isAhead 48 = .ok (.if_icmp .ne 19, 3) := by decide +kernel
theorem dX12_isAhead_51 : decode cX12_isAhead 51 = .ok (.iload_n 1, 1) := by decide +kernel
theorem dX12_isAhead_52 : decode cX12_isAhead 52 = .ok (.iload 5, 2) := by decide +kernel
theorem dX12_isAhead_54 : decode cX12_isAhead 54 = .ok (.ishr, 1) := by decide +kernel
theorem dX12_isAhead_55 : decode cX12_isAhead 55 = .ok (.iconst 1, 1) := by decide +kernel
theorem dX12_isAhead_56 : decode cX12_isAhead 56 = .ok (.iand, 1) := by decide +kernel
theorem dX12_isAhead_57 : decode cX12_isAhead 57 = .ok (.iconst 1, 1) := by decide +kernel
theorem dX12_isAhead_58 : decode cX12_isAhead 58 = .ok (.if_icmp .ne 7, 3) := by decide +kernel
theorem dX12_isAhead_61 : decode cX12_isAhead 61 = .ok (.iconst 1, 1) := by decide +kernel
theorem dX12_isAhead_62 : decode cX12_isAhead 62 = .ok (.goto 4, 3) := by decide +kernel
theorem dX12_isAhead_65 : decode cX12_isAhead 65 = .ok (.iconst 0, 1) := by decide +kernel
theorem dX12_isAhead_66 : decode cX12_isAhead 66 = .ok (.ireturn, 1) := by decide +kernel
theorem dX12_isAhead_67 : decode cX12_isAhead 67 = .ok (.iinc 4 1, 3) := by decide +kernel
theorem dX12_isAhead_70 : decode cX12_isAhead 70 = .ok (.goto (-63), 3) := by decide +kernel
theorem dX12_isAhead_73 : decode cX12_isAhead 73 = .ok (.iconst 0, 1) := by decide +kernel
theorem dX12_isAhead_74 : decode cX12_isAhead 74 = .ok (.ireturn, 1) := by decide +kernel
theorem dX12_buysBy_0 : decode cX12_buysBy 0 = .ok (.aload_n 0, 1) := by decide +kernel
theorem dX12_buysBy_1 : decode cX12_buysBy 1 = .ok (.iload_n 1, 1) := by decide +kernel
theorem dX12_buysBy_2 : decode cX12_buysBy 2 = .ok (.invokevirtual 159, 3) := by decide +kernel
theorem dX12_buysBy_5 : decode cX12_buysBy 5 = .ok (.iconst 1, 1) := by decide +kernel
theorem dX12_buysBy_6 : decode cX12_buysBy 6 = .ok (.iload_n 1, 1) := by decide +kernel
theorem dX12_buysBy_7 : decode cX12_buysBy 7 = .ok (.ishl, 1) := by decide +kernel
theorem dX12_buysBy_8 : decode cX12_buysBy 8 = .ok (.iconst (-1), 1) := by decide +kernel
theorem dX12_buysBy_9 : decode cX12_buysBy 9 = .ok (.ixor, 1) := by decide +kernel
theorem dX12_buysBy_10 : decode cX12_buysBy 10 = .ok (.iand, 1) := by decide +kernel
theorem dX12_buysBy_11 : decode cX12_buysBy 11 = .ok (.istore_n 2, 1) := by decide +kernel
theorem dX12_buysBy_12 : decode cX12_buysBy 12 = .ok (.bipush (-9), 2) := by decide +kernel
theorem dX12_buysBy_14 : decode cX12_buysBy 14 = .ok (.istore_n 3, 1) := by decide +kernel
theorem dX12_buysBy_15 : decode cX12_buysBy 15 = .ok (.iconst 0, 1) := by decide +kernel
theorem dX12_buysBy_16 : decode cX12_buysBy 16 = .ok (.istore 4, 2) := by decide +kernel
theorem dX12_buysBy_18 : decode cX12_buysBy 18 = .ok (.iload 4, 2) := by decide +kernel
theorem dX12_buysBy_20 : decode cX12_buysBy 20 = .ok (.iconst 1, 1) := by decide +kernel
theorem dX12_buysBy_21 : decode cX12_buysBy 21 = .ok (.aload_n 0, 1) := by decide +kernel
theorem dX12_buysBy_22 : decode cX12_buysBy 22 = .ok (.getfield 82, 3) := by decide +kernel
theorem dX12_buysBy_25 : decode cX12_buysBy 25 = .ok (.ishl, 1) := by decide +kernel
theorem dX12_buysBy_26 : decode cX12_buysBy 26 = .ok (.if_icmp .ge 105, 3) := by decide +kernel
theorem dX12_buysBy_29 : decode cX12_buysBy 29 = .ok (.iload 4, 2) := by decide +kernel
theorem dX12_buysBy_31 : decode cX12_buysBy 31 = .ok (.iload_n 2, 1) := by decide +kernel
theorem dX12_buysBy_32 : decode cX12_buysBy 32 = .ok (.iconst (-1), 1) := by decide +kernel
theorem dX12_buysBy_33 : decode cX12_buysBy 33 = .ok (.ixor, 1) := by decide +kernel
theorem dX12_buysBy_34 : decode cX12_buysBy 34 = .ok (.iand, 1) := by decide +kernel
theorem dX12_buysBy_35 : decode cX12_buysBy 35 = .ok (.ifCond .ne 90, 3) := by decide +kernel
theorem dX12_buysBy_38 : decode cX12_buysBy 38 = .ok (.aload_n 0, 1) := by decide +kernel
theorem dX12_buysBy_39 : decode cX12_buysBy 39 = .ok (.getfield 25, 3) := by decide +kernel
theorem dX12_buysBy_42 : decode cX12_buysBy 42 = .ok (.iconst 1, 1) := by decide +kernel
theorem dX12_buysBy_43 : decode cX12_buysBy 43 = .ok (.iaload, 1) := by decide +kernel
theorem dX12_buysBy_44 : decode cX12_buysBy 44 = .ok (.aload_n 0, 1) := by decide +kernel
theorem dX12_buysBy_45 : decode cX12_buysBy 45 = .ok (.iload 4, 2) := by decide +kernel
theorem dX12_buysBy_47 : decode cX12_buysBy 47 = .ok (.aload_n 0, 1) := by decide +kernel
theorem dX12_buysBy_48 : decode cX12_buysBy 48 = .ok (.iload_n 1, 1) := by decide +kernel
theorem dX12_buysBy_49 : decode cX12_buysBy 49 = .ok (.invokevirtual 162, 3) := by decide +kernel
theorem dX12_buysBy_52 : decode cX12_buysBy 52 = .ok (.ior, 1) := by decide +kernel
theorem dX12_buysBy_53 : decode cX12_buysBy 53 = .ok (.iconst 1, 1) := by decide +kernel
theorem dX12_buysBy_54 : decode cX12_buysBy 54 = .ok (.iload_n 1, 1) := by decide +kernel
theorem dX12_buysBy_55 : decode cX12_buysBy 55 = .ok (.ishl, 1) := by decide +kernel
theorem dX12_buysBy_56 : decode cX12_buysBy 56 = .ok (.ior, 1) := by decide +kernel
theorem dX12_buysBy_57 : decode cX12_buysBy 57 = .ok (.invokevirtual 165, 3) := by decide +kernel
theorem dX12_buysBy_60 : decode cX12_buysBy 60 = .ok (.aload_n 0, 1) := by decide +kernel
theorem dX12_buysBy_61 : decode cX12_buysBy 61 = .ok (.aload_n 0, 1) := by decide +kernel
theorem dX12_buysBy_62 : decode cX12_buysBy 62 = .ok (.iload_n 1, 1) := by decide +kernel
theorem dX12_buysBy_63 : decode cX12_buysBy 63 = .ok (.invokevirtual 159, 3) := by decide +kernel
theorem dX12_buysBy_66 : decode cX12_buysBy 66 = .ok (.invokevirtual 165, 3) := by decide +kernel
theorem dX12_buysBy_69 : decode cX12_buysBy 69 = .ok (.invokestatic 168, 3) := by decide +kernel
theorem dX12_buysBy_72 : decode cX12_buysBy 72 = .ok (.ifCond .ne 6, 3) := by decide +kernel
theorem dX12_buysBy_75 : decode cX12_buysBy 75 = .ok (.goto 50, 3) := by decide +kernel
theorem dX12_buysBy_78 : decode cX12_buysBy 78 = .ok (.iload_n 3, 1) := by decide +kernel
theorem dX12_buysBy_79 : decode cX12_buysBy 79 = .ok (.ifCond .ge 7, 3) := by decide +kernel
theorem dX12_buysBy_82 : decode cX12_buysBy 82 = .ok (.iconst (-1), 1) := by decide +kernel
theorem dX12_buysBy_83 : decode cX12_buysBy 83 = .ok (.goto 17, 3) := by decide +kernel
theorem dX12_buysBy_86 : decode cX12_buysBy 86 = .ok (.aload_n 0, 1) := by decide +kernel
theorem dX12_buysBy_87 : decode cX12_buysBy 87 = .ok (.iload_n 1, 1) := by decide +kernel
theorem dX12_buysBy_88 : decode cX12_buysBy 88 = .ok (.iload 4, 2) := by decide +kernel
theorem dX12_buysBy_90 : decode cX12_buysBy 90 = .ok (.invokevirtual 171, 3) := by decide +kernel
theorem dX12_buysBy_93 : decode cX12_buysBy 93 = .ok (.aload_n 0, 1) := by decide +kernel
theorem dX12_buysBy_94 : decode cX12_buysBy 94 = .ok (.iload_n 1, 1) := by decide +kernel
theorem dX12_buysBy_95 : decode cX12_buysBy 95 = .ok (.iload_n 3, 1) := by decide +kernel
theorem dX12_buysBy_96 : decode cX12_buysBy 96 = .ok (.invokevirtual 171, 3) := by decide +kernel
theorem dX12_buysBy_99 : decode cX12_buysBy 99 = .ok (.isub, 1) := by decide +kernel
theorem dX12_buysBy_100 : decode cX12_buysBy 100 = .ok (.istore 5, 2) := by decide +kernel
theorem dX12_buysBy_102 : decode cX12_buysBy 102 = .ok (.iload 5, 2) := by decide +kernel
theorem dX12_buysBy_104 : decode cX12_buysBy 104 = .ok (.ifCond .lt 18, 3) := by decide +kernel
theorem dX12_buysBy_107 : decode cX12_buysBy 107 = .ok (.iload 5, 2) := by decide +kernel
theorem dX12_buysBy_109 : decode cX12_buysBy 109 = .ok (.ifCond .ne 16, 3) := by decide +kernel
theorem dX12_buysBy_112 : decode cX12_buysBy 112 = .ok (.aload_n 0, 1) := by decide +kernel
theorem dX12_buysBy_113 : decode cX12_buysBy 113 = .ok (.iload 4, 2) := by decide +kernel
theorem dX12_buysBy_115 : decode cX12_buysBy 115 = .ok (.iload_n 3, 1) := by decide +kernel
theorem dX12_buysBy_116 : decode cX12_buysBy 116 = .ok (.invokevirtual 175, 3) := by decide +kernel
theorem dX12_buysBy_119 : decode cX12_buysBy 119 = .ok (.ifCond .eq 6, 3) := by decide +kernel
theorem dX12_buysBy_122 : decode cX12_buysBy 122 = .ok (.iload 4, 2) := by decide +kernel
theorem dX12_buysBy_124 : decode cX12_buysBy 124 = .ok (.istore_n 3, 1) := by decide +kernel
theorem dX12_buysBy_125 : decode cX12_buysBy 125 = .ok (.iinc 4 1, 3) := by decide +kernel
theorem dX12_buysBy_128 : decode cX12_buysBy 128 = .ok (.goto (-110), 3) := by decide +kernel
theorem dX12_buysBy_131 : decode cX12_buysBy 131 = .ok (.iload_n 3, 1) := by decide +kernel
theorem dX12_buysBy_132 : decode cX12_buysBy 132 = .ok (.ifCond .lt 22, 3) := by decide +kernel
theorem dX12_buysBy_135 : decode cX12_buysBy 135 = .ok (.aload_n 0, 1) := by decide +kernel
theorem dX12_buysBy_136 : decode cX12_buysBy 136 = .ok (.iload_n 1, 1) := by decide +kernel
theorem dX12_buysBy_137 : decode cX12_buysBy 137 = .ok (.iload_n 3, 1) := by decide +kernel
theorem dX12_buysBy_138 : decode cX12_buysBy 138 = .ok (.invokevirtual 171, 3) := by decide +kernel
theorem dX12_buysBy_141 : decode cX12_buysBy 141 = .ok (.aload_n 0, 1) := by decide +kernel
theorem dX12_buysBy_142 : decode cX12_buysBy 142 = .ok (.getfield 25, 3) := by decide +kernel
theorem dX12_buysBy_145 : decode cX12_buysBy 145 = .ok (.iconst 0, 1) := by decide +kernel
theorem dX12_buysBy_146 : decode cX12_buysBy 146 = .ok (.iaload, 1) := by decide +kernel
theorem dX12_buysBy_147 : decode cX12_buysBy 147 = .ok (.if_icmp .gt 7, 3) := by decide +kernel
theorem dX12_buysBy_150 : decode cX12_buysBy 150 = .ok (.iload_n 3, 1) := by decide +kernel
theorem dX12_buysBy_151 : decode cX12_buysBy 151 = .ok (.goto 5, 3) := by decide +kernel
theorem dX12_buysBy_154 : decode cX12_buysBy 154 = .ok (.bipush (-9), 2) := by decide +kernel
theorem dX12_buysBy_156 : decode cX12_buysBy 156 = .ok (.ireturn, 1) := by decide +kernel
theorem dX12_offersEach_0 : decode cX12_offersEach 0 = .ok (.aload_n 0, 1) := by decide +kernel
theorem dX12_offersEach_1 : decode cX12_offersEach 1 = .ok (.getfield 46, 3) := by decide +kernel
theorem dX12_offersEach_4 : decode cX12_offersEach 4 = .ok (.bipush 9, 2) := by decide +kernel
theorem dX12_offersEach_6 : decode cX12_offersEach 6 = .ok (.iload_n 1, 1) := by decide +kernel
theorem dX12_offersEach_7 : decode cX12_offersEach 7 = .ok (.imul, 1) := by decide +kernel
theorem dX12_offersEach_8 : decode cX12_offersEach 8 = .ok (.iload_n 2, 1) := by decide +kernel
theorem dX12_offersEach_9 : decode cX12_offersEach 9 = .ok (.iadd, 1) := by decide +kernel
theorem dX12_offersEach_10 : decode cX12_offersEach 10 = .ok (.iload_n 3, 1) := by decide +kernel
theorem dX12_offersEach_11 : decode cX12_offersEach 11 = .ok (.iastore, 1) := by decide +kernel
theorem dX12_offersEach_12 : decode cX12_offersEach 12 = .ok (.aload_n 0, 1) := by decide +kernel
theorem dX12_offersEach_13 : decode cX12_offersEach 13 = .ok (.getfield 46, 3) := by decide +kernel
theorem dX12_offersEach_16 : decode cX12_offersEach 16 = .ok (.bipush 9, 2) := by decide +kernel
theorem dX12_offersEach_18 : decode cX12_offersEach 18 = .ok (.iload_n 1, 1) := by decide +kernel
theorem dX12_offersEach_19 : decode cX12_offersEach 19 = .ok (.imul, 1) := by decide +kernel
theorem dX12_offersEach_20 : decode cX12_offersEach 20 = .ok (.iload_n 1, 1) := by decide +kernel
theorem dX12_offersEach_21 : decode cX12_offersEach 21 = .ok (.iadd, 1) := by decide +kernel
theorem dX12_offersEach_22 : decode cX12_offersEach 22 = .ok (.dup2, 1) := by decide +kernel
theorem dX12_offersEach_23 : decode cX12_offersEach 23 = .ok (.iaload, 1) := by decide +kernel
theorem dX12_offersEach_24 : decode cX12_offersEach 24 = .ok (.iload_n 3, 1) := by decide +kernel
theorem dX12_offersEach_25 : decode cX12_offersEach 25 = .ok (.isub, 1) := by decide +kernel
theorem dX12_offersEach_26 : decode cX12_offersEach 26 = .ok (.iastore, 1) := by decide +kernel
theorem dX12_offersEach_27 : decode cX12_offersEach 27 = .ok (.return_, 1) := by decide +kernel
theorem dX12_offersFools_0 : decode cX12_offersFools 0 = .ok (.iload_n 1, 1) := by decide +kernel
theorem dX12_offersFools_1 : decode cX12_offersFools 1 = .ok (.iconst 1, 1) := by decide +kernel
theorem dX12_offersFools_2 : decode cX12_offersFools 2 = .ok (.iadd, 1) := by decide +kernel
theorem dX12_offersFools_3 : decode cX12_offersFools 3 = .ok (.istore_n 3, 1) := by decide +kernel
theorem dX12_offersFools_4 : decode cX12_offersFools 4 = .ok (.iload_n 3, 1) := by decide +kernel
theorem dX12_offersFools_5 : decode cX12_offersFools 5 = .ok (.aload_n 0, 1) := by decide +kernel
theorem dX12_offersFools_6 : decode cX12_offersFools 6 = .ok (.getfield 82, 3) := by decide +kernel
theorem dX12_offersFools_9 : decode cX12_offersFools 9 = .ok (.if_icmp .ge 57, 3) := by decide +kernel
theorem dX12_offersFools_12 : decode cX12_offersFools 12 = .ok (.aload_n 0, 1) := by decide +kernel
theorem dX12_offersFools_13 : decode cX12_offersFools 13 = .ok (.getfield 46, 3) := by decide +kernel
theorem dX12_offersFools_16 : decode cX12_offersFools 16 = .ok (.bipush 9, 2) := by decide +kernel
theorem dX12_offersFools_18 : decode cX12_offersFools 18 = .ok (.iload_n 1, 1) := by decide +kernel
theorem dX12_offersFools_19 : decode cX12_offersFools 19 = .ok (.imul, 1) := by decide +kernel
theorem dX12_offersFools_20 : decode cX12_offersFools 20 = .ok (.iload_n 1, 1) := by decide +kernel
theorem dX12_offersFools_21 : decode cX12_offersFools 21 = .ok (.iadd, 1) := by decide +kernel
theorem dX12_offersFools_22 : decode cX12_offersFools 22 = .ok (.iaload, 1) := by decide +kernel
theorem dX12_offersFools_23 : decode cX12_offersFools 23 = .ok (.aload_n 0, 1) := by decide +kernel
theorem dX12_offersFools_24 : decode cX12_offersFools 24 = .ok (.getfield 16, 3) := by decide +kernel
theorem dX12_offersFools_27 : decode cX12_offersFools 27 = .ok (.iload_n 1, 1) := by decide +kernel
theorem dX12_offersFools_28 : decode cX12_offersFools 28 = .ok (.iaload, 1) := by decide +kernel
theorem dX12_offersFools_29 : decode cX12_offersFools 29 = .ok (.if_icmp .ge 4, 3) := by decide +kernel
theorem dX12_offersFools_32 : decode cX12_offersFools 32 = .ok (.return_, 1) := by decide +kernel
theorem dX12_offersFools_33 : decode cX12_offersFools 33 = .ok (.aload_n 0, 1) := by decide +kernel
theorem dX12_offersFools_34 : decode cX12_offersFools 34 = .ok (.iload_n 1, 1) := by decide +kernel
theorem dX12_offersFools_35 : decode cX12_offersFools 35 = .ok (.iload_n 2, 1) := by decide +kernel
theorem dX12_offersFools_36 : decode cX12_offersFools 36 = .ok (.ifCond .eq 14, 3) := by decide +kernel
theorem dX12_offersFools_39 : decode cX12_offersFools 39 = .ok (.aload_n 0, 1) := by decide +kernel
theorem dX12_offersFools_40 : decode cX12_offersFools 40 = .ok (.getfield 82, 3) := by decide +kernel
theorem dX12_offersFools_43 : decode cX12_offersFools 43 = .ok (.iload_n 1, 1) := by decide +kernel
theorem dX12_offersFools_44 : decode cX12_offersFools 44 = .ok (.iadd, 1) := by decide +kernel
theorem dX12_offersFools_45 : decode cX12_offersFools 45 = .ok (.iload_n 3, 1) := by decide +kernel
theorem dX12_offersFools_46 : decode cX12_offersFools 46 = .ok (.isub, 1) := by decide +kernel
theorem dX12_offersFools_47 : decode cX12_offersFools 47 = .ok (.goto 4, 3) := by decide +kernel
theorem dX12_offersFools_50 : decode cX12_offersFools 50 = .ok (.iload_n 3, 1) := by decide +kernel
theorem dX12_offersFools_51 : decode cX12_offersFools 51 = .ok (.aload_n 0, 1) := by decide +kernel
theorem dX12_offersFools_52 : decode cX12_offersFools 52 = .ok (.getfield 16, 3) := by decide +kernel
theorem dX12_offersFools_55 : decode cX12_offersFools 55 = .ok (.iload_n 1, 1) := by decide +kernel
theorem dX12_offersFools_56 : decode cX12_offersFools 56 = .ok (.iaload, 1) := by decide +kernel
theorem dX12_offersFools_57 : decode cX12_offersFools 57 = .ok (.invokevirtual 178, 3) := by decide +kernel
theorem dX12_offersFools_60 : decode cX12_offersFools 60 = .ok (.iinc 3 1, 3) := by decide +kernel
theorem dX12_offersFools_63 : decode cX12_offersFools 63 = .ok (.goto (-59), 3) := by decide +kernel
theorem dX12_offersFools_66 : decode cX12_offersFools 66 = .ok (.return_, 1) := by decide +kernel
theorem dX12_doesBuy_0 : decode cX12_doesBuy 0 = .ok (.iload_n 0, 1) := by decide +kernel
theorem dX12_doesBuy_1 : decode cX12_doesBuy 1 = .ok (.iconst 3, 1) := by decide +kernel
theorem dX12_doesBuy_2 : decode cX12_doesBuy 2 = .ok (.if_icmp .lt 8, 3) := by decide +kernel
theorem dX12_doesBuy_5 : decode cX12_doesBuy 5 = .ok (.iload_n 0, 1) := by decide +kernel
theorem dX12_doesBuy_6 : decode cX12_doesBuy 6 = .ok (.iconst 5, 1) := by decide +kernel
theorem dX12_doesBuy_7 : decode cX12_doesBuy 7 = .ok (.if_icmp .ne 7, 3) := by decide +kernel
theorem dX12_doesBuy_10 : decode cX12_doesBuy 10 = .ok (.iconst 1, 1) := by decide +kernel
theorem dX12_doesBuy_11 : decode cX12_doesBuy 11 = .ok (.goto 4, 3) := by decide +kernel
theorem dX12_doesBuy_14 : decode cX12_doesBuy 14 = .ok (.iconst 0, 1) := by decide +kernel
theorem dX12_doesBuy_15 : decode cX12_doesBuy 15 = .ok (.ireturn, 1) := by decide +kernel
theorem dX12_findOffer_0 : decode cX12_findOffer 0 = .ok (.iconst 0, 1) := by decide +kernel
theorem dX12_findOffer_1 : decode cX12_findOffer 1 = .ok (.istore_n 2, 1) := by decide +kernel
theorem dX12_findOffer_2 : decode cX12_findOffer 2 = .ok (.iload_n 2, 1) := by decide +kernel
theorem dX12_findOffer_3 : decode cX12_findOffer 3 = .ok (.aload_n 0, 1) := by decide +kernel
theorem dX12_findOffer_4 : decode cX12_findOffer 4 = .ok (.getfield 82, 3) := by decide +kernel
theorem dX12_findOffer_7 : decode cX12_findOffer 7 = .ok (.if_icmp .ge 21, 3) := by decide +kernel
theorem dX12_findOffer_10 : decode cX12_findOffer 10 = .ok (.aload_n 0, 1) := by decide +kernel
theorem dX12_findOffer_11 : decode cX12_findOffer 11 = .ok (.getfield 46, 3) := by decide +kernel
theorem dX12_findOffer_14 : decode cX12_findOffer 14 = .ok (.bipush 9, 2) := by decide +kernel
theorem dX12_findOffer_16 : decode cX12_findOffer 16 = .ok (.iload_n 1, 1) := by decide +kernel
theorem dX12_findOffer_17 : decode cX12_findOffer 17 = .ok (.imul, 1) := by decide +kernel
theorem dX12_findOffer_18 : decode cX12_findOffer 18 = .ok (.iload_n 2, 1) := by decide +kernel
theorem dX12_findOffer_19 : decode cX12_findOffer 19 = .ok (.iadd, 1) := by decide +kernel
theorem dX12_findOffer_20 : decode cX12_findOffer 20 = .ok (.iconst 0, 1) := by decide +kernel
theorem dX12_findOffer_21 : decode cX12_findOffer 21 = .ok (.iastore, 1) := by decide +kernel
theorem dX12_findOffer_22 : decode cX12_findOffer 22 = .ok (.iinc 2 1, 3) := by decide +kernel
theorem dX12_findOffer_25 : decode cX12_findOffer 25 = .ok (.goto (-23), 3) := by decide +kernel
theorem dX12_findOffer_28 : decode cX12_findOffer 28 = .ok (.aload_n 0, 1) := by decide +kernel
theorem dX12_findOffer_29 : decode cX12_findOffer 29 = .ok (.getfield 46, 3) := by decide +kernel
theorem dX12_findOffer_32 : decode cX12_findOffer 32 = .ok (.bipush 9, 2) := by decide +kernel
theorem dX12_findOffer_34 : decode cX12_findOffer 34 = .ok (.iload_n 1, 1) := by decide +kernel
theorem dX12_findOffer_35 : decode cX12_findOffer 35 = .ok (.imul, 1) := by decide +kernel
theorem dX12_findOffer_36 : decode cX12_findOffer 36 = .ok (.iload_n 1, 1) := by decide +kernel
theorem dX12_findOffer_37 : decode cX12_findOffer 37 = .ok (.iadd, 1) := by decide +kernel
theorem dX12_findOffer_38 : decode cX12_findOffer 38 = .ok (.aload_n 0, 1) := by decide +kernel
theorem dX12_findOffer_39 : decode cX12_findOffer 39 = .ok (.getfield 25, 3) := by decide +kernel
theorem dX12_findOffer_42 : decode cX12_findOffer 42 = .ok (.iconst 0, 1) := by decide +kernel
theorem dX12_findOffer_43 : decode cX12_findOffer 43 = .ok (.iaload, 1) := by decide +kernel
theorem dX12_findOffer_44 : decode cX12_findOffer 44 = .ok (.iastore, 1) := by decide +kernel
theorem dX12_findOffer_45 : decode cX12_findOffer 45 = .ok (.aload_n 0, 1) := by decide +kernel
theorem dX12_findOffer_46 : decode cX12_findOffer 46 = .ok (.getfield 55, 3) := by decide +kernel
theorem dX12_findOffer_49 : decode cX12_findOffer 49 = .ok (.iload_n 1, 1) := by decide +kernel
theorem dX12_findOffer_50 : decode cX12_findOffer 50 = .ok (.bipush (-9), 2) := by decide +kernel
theorem dX12_findOffer_52 : decode cX12_findOffer 52 = .ok (.iastore, 1) := by decide +kernel
theorem dX12_findOffer_53 : decode cX12_findOffer 53 = .ok (.aload_n 0, 1) := by decide +kernel
theorem dX12_findOffer_54 : decode cX12_findOffer 54 = .ok (.getfield 13, 3) := by decide +kernel
theorem dX12_findOffer_57 : decode cX12_findOffer 57 = .ok (.iload_n 1, 1) := by decide +kernel
theorem dX12_findOffer_58 : decode cX12_findOffer 58 = .ok (.iaload, 1) := by decide +kernel
theorem dX12_findOffer_59 : decode cX12_findOffer 59 = .ok (.invokestatic 182, 3) := by decide +kernel
theorem dX12_findOffer_62 : decode cX12_findOffer 62 = .ok (.ifCond .eq 75, 3) := by decide +kernel
theorem dX12_findOffer_65 : decode cX12_findOffer 65 = .ok (.aload_n 0, 1) := by decide +kernel
theorem dX12_findOffer_66 : decode cX12_findOffer 66 = .ok (.getfield 55, 3) := by decide +kernel
theorem dX12_findOffer_69 : decode cX12_findOffer 69 = .ok (.iload_n 1, 1) := by decide +kernel
theorem dX12_findOffer_70 : decode cX12_findOffer 70 = .ok (.aload_n 0, 1) := by decide +kernel
theorem dX12_findOffer_71 : decode cX12_findOffer 71 = .ok (.iload_n 1, 1) := by decide +kernel
theorem dX12_findOffer_72 : decode cX12_findOffer 72 = .ok (.invokevirtual 185, 3) := by decide +kernel
theorem dX12_findOffer_75 : decode cX12_findOffer 75 = .ok (.iastore, 1) := by decide +kernel
theorem dX12_findOffer_76 : decode cX12_findOffer 76 = .ok (.iload_n 1, 1) := by decide +kernel
theorem dX12_findOffer_77 : decode cX12_findOffer 77 = .ok (.iconst 1, 1) := by decide +kernel
theorem dX12_findOffer_78 : decode cX12_findOffer 78 = .ok (.iadd, 1) := by decide +kernel
theorem dX12_findOffer_79 : decode cX12_findOffer 79 = .ok (.istore_n 2, 1) := by decide +kernel
theorem dX12_findOffer_80 : decode cX12_findOffer 80 = .ok (.iload_n 2, 1) := by decide +kernel
theorem dX12_findOffer_81 : decode cX12_findOffer 81 = .ok (.aload_n 0, 1) := by decide +kernel
theorem dX12_findOffer_82 : decode cX12_findOffer 82 = .ok (.getfield 82, 3) := by decide +kernel
theorem dX12_findOffer_85 : decode cX12_findOffer 85 = .ok (.if_icmp .ge 49, 3) := by decide +kernel
theorem dX12_findOffer_88 : decode cX12_findOffer 88 = .ok (.aload_n 0, 1) := by decide +kernel
theorem dX12_findOffer_89 : decode cX12_findOffer 89 = .ok (.getfield 55, 3) := by decide +kernel
theorem dX12_findOffer_92 : decode cX12_findOffer 92 = .ok (.iload_n 1, 1) := by decide +kernel
theorem dX12_findOffer_93 : decode cX12_findOffer 93 = .ok (.iaload, 1) := by decide +kernel
theorem dX12_findOffer_94 : decode cX12_findOffer 94 = .ok (.ifCond .lt 40, 3) := by decide +kernel
theorem dX12_findOffer_97 : decode cX12_findOffer 97 = .ok (.aload_n 0, 1) := by decide +kernel
theorem dX12_findOffer_98 : decode cX12_findOffer 98 = .ok (.getfield 55, 3) := by decide +kernel
theorem dX12_findOffer_101 : decode cX12_findOffer 101 = .ok (.iload_n 1, 1) := by decide +kernel
theorem dX12_findOffer_102 : decode cX12_findOffer 102 = .ok (.iaload, 1) := by decide +kernel
theorem dX12_findOffer_103 : decode cX12_findOffer 103 = .ok (.iload_n 2, 1) := by decide +kernel
theorem dX12_findOffer_104 : decode cX12_findOffer 104 = .ok (.ishr, 1) := by decide +kernel
theorem dX12_findOffer_105 : decode cX12_findOffer 105 = .ok (.iconst 1, 1) := by decide +kernel
theorem dX12_findOffer_106 : decode cX12_findOffer 106 = .ok (.iand, 1) := by decide +kernel
theorem dX12_findOffer_107 : decode cX12_findOffer 107 = .ok (.iconst 1, 1) := by decide +kernel
theorem dX12_findOffer_108 : decode cX12_findOffer 108 = .ok (.if_icmp .ne 20, 3) := by decide +kernel
theorem dX12_findOffer_111 : decode cX12_findOffer 111 = .ok (.aload_n 0, 1) := by decide +kernel
theorem dX12_findOffer_112 : decode cX12_findOffer 112 = .ok (.iload_n 1, 1) := by decide +kernel
theorem dX12_findOffer_113 : decode cX12_findOffer 113 = .ok (.iload_n 2, 1) := by decide +kernel
theorem dX12_findOffer_114 : decode cX12_findOffer 114 = .ok (.aload_n 0, 1) := by decide +kernel
theorem dX12_findOffer_115 : decode cX12_findOffer 115 = .ok (.getfield 43, 3) := by decide +kernel
theorem dX12_findOffer_118 : decode cX12_findOffer 118 = .ok (.bipush 9, 2) := by decide +kernel
theorem dX12_findOffer_120 : decode cX12_findOffer 120 = .ok (.iload_n 1, 1) := by decide +kernel
theorem dX12_findOffer_121 : decode cX12_findOffer 121 = .ok (.imul, 1) := by decide +kernel
theorem dX12_findOffer_122 : decode cX12_findOffer 122 = .ok (.iload_n 2, 1) := by decide +kernel
theorem dX12_findOffer_123 : decode cX12_findOffer 123 = .ok (.iadd, 1) := by decide +kernel
theorem dX12_findOffer_124 : decode cX12_findOffer 124 = .ok (.iaload, 1) := by decide +kernel
theorem dX12_findOffer_125 : decode cX12_findOffer 125 = .ok (.invokevirtual 178, 3) := by decide +kernel
theorem dX12_findOffer_128 : decode cX12_findOffer 128 = .ok (.iinc 2 1, 3) := by decide +kernel
theorem dX12_findOffer_131 : decode cX12_findOffer 131 = .ok (.goto (-51), 3) := by decide +kernel
theorem dX12_findOffer_134 : decode cX12_findOffer 134 = .ok (.goto 74, 3) := by decide +kernel
theorem dX12_findOffer_137 : decode cX12_findOffer 137 = .ok (.aload_n 0, 1) := by decide +kernel
theorem dX12_findOffer_138 : decode cX12_findOffer 138 = .ok (.getfield 13, 3) := by decide +kernel
theorem dX12_findOffer_141 : decode cX12_findOffer 141 = .ok (.iload_n 1, 1) := by decide +kernel
theorem dX12_findOffer_142 : decode cX12_findOffer 142 = .ok (.iaload, 1) := by decide +kernel
theorem dX12_findOffer_143 : decode cX12_findOffer 143 = .ok (.iconst 3, 1) := by decide +kernel
theorem dX12_findOffer_144 : decode cX12_findOffer 144 = .ok (.if_icmp .ne 43, 3) := by decide +kernel
theorem dX12_findOffer_147 : decode cX12_findOffer 147 = .ok (.iload_n 1, 1) := by decide +kernel
theorem dX12_findOffer_148 : decode cX12_findOffer 148 = .ok (.iconst 1, 1) := by decide +kernel
theorem dX12_findOffer_149 : decode cX12_findOffer 149 = .ok (.iadd, 1) := by decide +kernel
theorem dX12_findOffer_150 : decode cX12_findOffer 150 = .ok (.istore_n 2, 1) := by decide +kernel
theorem dX12_findOffer_151 : decode cX12_findOffer 151 = .ok (.iload_n 2, 1) := by decide +kernel
theorem dX12_findOffer_152 : decode cX12_findOffer 152 = .ok (.aload_n 0, 1) := by decide +kernel
theorem dX12_findOffer_153 : decode cX12_findOffer 153 = .ok (.getfield 82, 3) := by decide +kernel
theorem dX12_findOffer_156 : decode cX12_findOffer 156 = .ok (.if_icmp .ge 28, 3) := by decide +kernel
theorem dX12_findOffer_159 : decode cX12_findOffer 159 = .ok (.aload_n 0, 1) := by decide +kernel
theorem dX12_findOffer_160 : decode cX12_findOffer 160 = .ok (.iload_n 1, 1) := by decide +kernel
theorem dX12_findOffer_161 : decode cX12_findOffer 161 = .ok (.iload_n 2, 1) := by decide +kernel
theorem dX12_findOffer_162 : decode cX12_findOffer 162 = .ok (.aload_n 0, 1) := by decide +kernel
theorem dX12_findOffer_163 : decode cX12_findOffer 163 = .ok (.getfield 25, 3) := by decide +kernel
theorem dX12_findOffer_166 : decode cX12_findOffer 166 = .ok (.iconst 0, 1) := by decide +kernel
theorem dX12_findOffer_167 : decode cX12_findOffer 167 = .ok (.iaload, 1) := by decide +kernel
theorem dX12_findOffer_168 : decode cX12_findOffer 168 = .ok (.aload_n 0, 1) := by decide +kernel
theorem dX12_findOffer_169 : decode cX12_findOffer 169 = .ok (.getfield 82, 3) := by decide +kernel
theorem dX12_findOffer_172 : decode cX12_findOffer 172 = .ok (.iload_n 1, 1) := by decide +kernel
theorem dX12_findOffer_173 : decode cX12_findOffer 173 = .ok (.isub, 1) := by decide +kernel
theorem dX12_findOffer_174 : decode cX12_findOffer 174 = .ok (.idiv, 1) := by decide +kernel
theorem dX12_findOffer_175 : decode cX12_findOffer 175 = .ok (.invokevirtual 178, 3) := by decide +kernel
theorem dX12_findOffer_178 : decode cX12_findOffer 178 = .ok (.iinc 2 1, 3) := by decide +kernel
theorem dX12_findOffer_181 : decode cX12_findOffer 181 = .ok (.goto (-30), 3) := by decide +kernel
theorem dX12_findOffer_184 : decode cX12_findOffer 184 = .ok (.goto 24, 3) := by decide +kernel
theorem dX12_findOffer_187 : decode cX12_findOffer 187 = .ok (.aload_n 0, 1) := by decide +kernel
theorem dX12_findOffer_188 : decode cX12_findOffer 188 = .ok (.iload_n 1, 1) := by decide +kernel
theorem dX12_findOffer_189 : decode cX12_findOffer 189 = .ok (.aload_n 0, 1) := by decide +kernel
theorem dX12_findOffer_190 : decode cX12_findOffer 190 = .ok (.getfield 13, 3) := by decide +kernel
theorem dX12_findOffer_193 : decode cX12_findOffer 193 = .ok (.iload_n 1, 1) := by decide +kernel
theorem dX12_findOffer_194 : decode cX12_findOffer 194 = .ok (.iaload, 1) := by decide +kernel
theorem dX12_findOffer_195 : decode cX12_findOffer 195 = .ok (.bipush 6, 2) := by decide +kernel
theorem dX12_findOffer_197 : decode cX12_findOffer 197 = .ok (.if_icmp .ne 7, 3) := by decide +kernel
theorem dX12_findOffer_200 : decode cX12_findOffer 200 = .ok (.iconst 1, 1) := by decide +kernel
theorem dX12_findOffer_201 : decode cX12_findOffer 201 = .ok (.goto 4, 3) := by decide +kernel
theorem dX12_findOffer_204 : decode cX12_findOffer 204 = .ok (.iconst 0, 1) := by decide +kernel
theorem dX12_findOffer_205 : decode cX12_findOffer 205 = .ok (.invokevirtual 188, 3) := by decide +kernel
theorem dX12_findOffer_208 : decode cX12_findOffer 208 = .ok (.return_, 1) := by decide +kernel
theorem dX12_solves_0 : decode cX12_solves 0 = .ok (.iload_n 1, 1) := by decide +kernel
theorem dX12_solves_1 : decode cX12_solves 1 = .ok (.iconst 1, 1) := by decide +kernel
theorem dX12_solves_2 : decode cX12_solves 2 = .ok (.iadd, 1) := by decide +kernel
theorem dX12_solves_3 : decode cX12_solves 3 = .ok (.istore_n 2, 1) := by decide +kernel
theorem dX12_solves_4 : decode cX12_solves 4 = .ok (.iload_n 2, 1) := by decide +kernel
theorem dX12_solves_5 : decode cX12_solves 5 = .ok (.aload_n 0, 1) := by decide +kernel
theorem dX12_solves_6 : decode cX12_solves 6 = .ok (.getfield 82, 3) := by decide +kernel
theorem dX12_solves_9 : decode cX12_solves 9 = .ok (.if_icmp .ge 38, 3) := by decide +kernel
theorem dX12_solves_12 : decode cX12_solves 12 = .ok (.aload_n 0, 1) := by decide +kernel
theorem dX12_solves_13 : decode cX12_solves 13 = .ok (.getfield 43, 3) := by decide +kernel
theorem dX12_solves_16 : decode cX12_solves 16 = .ok (.bipush 9, 2) := by decide +kernel
theorem dX12_solves_18 : decode cX12_solves 18 = .ok (.iload_n 1, 1) := by decide +kernel
theorem dX12_solves_19 : decode cX12_solves 19 = .ok (.imul, 1) := by decide +kernel
theorem dX12_solves_20 : decode cX12_solves 20 = .ok (.iload_n 2, 1) := by decide +kernel
theorem dX12_solves_21 : decode cX12_solves 21 = .ok (.iadd, 1) := by decide +kernel
theorem dX12_solves_22 : decode cX12_solves 22 = .ok (.aload_n 0, 1) := by decide +kernel
theorem dX12_solves_23 : decode cX12_solves 23 = .ok (.iload_n 2, 1) := by decide +kernel
theorem dX12_solves_24 : decode cX12_solves 24 = .ok (.aload_n 0, 1) := by decide +kernel
theorem dX12_solves_25 : decode cX12_solves 25 = .ok (.getfield 49, 3) := by decide +kernel
theorem dX12_solves_28 : decode cX12_solves 28 = .ok (.bipush 9, 2) := by decide +kernel
theorem dX12_solves_30 : decode cX12_solves 30 = .ok (.iload_n 1, 1) := by decide +kernel
theorem dX12_solves_31 : decode cX12_solves 31 = .ok (.iconst 1, 1) := by decide +kernel
theorem dX12_solves_32 : decode cX12_solves 32 = .ok (.iadd, 1) := by decide +kernel
theorem dX12_solves_33 : decode cX12_solves 33 = .ok (.imul, 1) := by decide +kernel
theorem dX12_solves_34 : decode cX12_solves 34 = .ok (.iload_n 2, 1) := by decide +kernel
theorem dX12_solves_35 : decode cX12_solves 35 = .ok (.iadd, 1) := by decide +kernel
theorem dX12_solves_36 : decode cX12_solves 36 = .ok (.iaload, 1) := by decide +kernel
theorem dX12_solves_37 : decode cX12_solves 37 = .ok (.invokevirtual 191, 3) := by decide +kernel
theorem dX12_solves_40 : decode cX12_solves 40 = .ok (.iastore, 1) := by decide +kernel
theorem dX12_solves_41 : decode cX12_solves 41 = .ok (.iinc 2 1, 3) := by decide +kernel
theorem dX12_solves_44 : decode cX12_solves 44 = .ok (.goto (-40), 3) := by decide +kernel
theorem dX12_solves_47 : decode cX12_solves 47 = .ok (.aload_n 0, 1) := by decide +kernel
theorem dX12_solves_48 : decode cX12_solves 48 = .ok (.iload_n 1, 1) := by decide +kernel
theorem dX12_solves_49 : decode cX12_solves 49 = .ok (.invokevirtual 194, 3) := by decide +kernel
theorem dX12_solves_52 : decode cX12_solves 52 = .ok (.aload_n 0, 1) := by decide +kernel
theorem dX12_solves_53 : decode cX12_solves 53 = .ok (.getfield 52, 3) := by decide +kernel
theorem dX12_solves_56 : decode cX12_solves 56 = .ok (.iload_n 1, 1) := by decide +kernel
theorem dX12_solves_57 : decode cX12_solves 57 = .ok (.iconst 1, 1) := by decide +kernel
theorem dX12_solves_58 : decode cX12_solves 58 = .ok (.iload_n 1, 1) := by decide +kernel
theorem dX12_solves_59 : decode cX12_solves 59 = .ok (.ishl, 1) := by decide +kernel
theorem dX12_solves_60 : decode cX12_solves 60 = .ok (.iastore, 1) := by decide +kernel
theorem dX12_solves_61 : decode cX12_solves 61 = .ok (.iload_n 1, 1) := by decide +kernel
theorem dX12_solves_62 : decode cX12_solves 62 = .ok (.iconst 1, 1) := by decide +kernel
theorem dX12_solves_63 : decode cX12_solves 63 = .ok (.iadd, 1) := by decide +kernel
theorem dX12_solves_64 : decode cX12_solves 64 = .ok (.istore_n 2, 1) := by decide +kernel
theorem dX12_solves_65 : decode cX12_solves 65 = .ok (.iload_n 2, 1) := by decide +kernel
theorem dX12_solves_66 : decode cX12_solves 66 = .ok (.aload_n 0, 1) := by decide +kernel
theorem dX12_solves_67 : decode cX12_solves 67 = .ok (.getfield 82, 3) := by decide +kernel
theorem dX12_solves_70 : decode cX12_solves 70 = .ok (.if_icmp .ge 50, 3) := by decide +kernel
theorem dX12_solves_73 : decode cX12_solves 73 = .ok (.aload_n 0, 1) := by decide +kernel
theorem dX12_solves_74 : decode cX12_solves 74 = .ok (.getfield 52, 3) := by decide +kernel
theorem dX12_solves_77 : decode cX12_solves 77 = .ok (.iload_n 1, 1) := by decide +kernel
theorem dX12_solves_78 : decode cX12_solves 78 = .ok (.dup2, 1) := by decide +kernel
theorem dX12_solves_79 : decode cX12_solves 79 = .ok (.iaload, 1) := by decide +kernel
theorem dX12_solves_80 : decode cX12_solves 80 = .ok (.aload_n 0, 1) := by decide +kernel
theorem dX12_solves_81 : decode cX12_solves 81 = .ok (.getfield 46, 3) := by decide +kernel
theorem dX12_solves_84 : decode cX12_solves 84 = .ok (.bipush 9, 2) := by decide +kernel
theorem dX12_solves_86 : decode cX12_solves 86 = .ok (.iload_n 1, 1) := by decide +kernel
theorem dX12_solves_87 : decode cX12_solves 87 = .ok (.imul, 1) := by decide +kernel
theorem dX12_solves_88 : decode cX12_solves 88 = .ok (.iload_n 2, 1) := by decide +kernel
theorem dX12_solves_89 : decode cX12_solves 89 = .ok (.iadd, 1) := by decide +kernel
theorem dX12_solves_90 : decode cX12_solves 90 = .ok (.iaload, 1) := by decide +kernel
theorem dX12_solves_91 : decode cX12_solves 91 = .ok (.aload_n 0, 1) := by decide +kernel
theorem dX12_solves_92 : decode cX12_solves 92 = .ok (.getfield 43, 3) := by decide +kernel
theorem dX12_solves_95 : decode cX12_solves 95 = .ok (.bipush 9, 2) := by decide +kernel
theorem dX12_solves_97 : decode cX12_solves 97 = .ok (.iload_n 1, 1) := by decide +kernel
theorem dX12_solves_98 : decode cX12_solves 98 = .ok (.imul, 1) := by decide +kernel
theorem dX12_solves_99 : decode cX12_solves 99 = .ok (.iload_n 2, 1) := by decide +kernel
theorem dX12_solves_100 : decode cX12_solves 100 = .ok (.iadd, 1) := by decide +kernel
theorem dX12_solves_101 : decode cX12_solves 101 = .ok (.iaload, 1) := by decide +kernel
theorem dX12_solves_102 : decode cX12_solves 102 = .ok (.if_icmp .lt 9, 3) := by decide +kernel
theorem dX12_solves_105 : decode cX12_solves 105 = .ok (.iconst 1, 1) := by decide +kernel
theorem dX12_solves_106 : decode cX12_solves 106 = .ok (.iload_n 2, 1) := by decide +kernel
theorem dX12_solves_107 : decode cX12_solves 107 = .ok (.ishl, 1) := by decide +kernel
theorem dX12_solves_108 : decode cX12_solves 108 = .ok (.goto 4, 3) := by decide +kernel
theorem dX12_solves_111 : decode cX12_solves 111 = .ok (.iconst 0, 1) := by decide +kernel
theorem dX12_solves_112 : decode cX12_solves 112 = .ok (.ior, 1) := by decide +kernel
theorem dX12_solves_113 : decode cX12_solves 113 = .ok (.iastore, 1) := by decide +kernel
theorem dX12_solves_114 : decode cX12_solves 114 = .ok (.iinc 2 1, 3) := by decide +kernel
theorem dX12_solves_117 : decode cX12_solves 117 = .ok (.goto (-52), 3) := by decide +kernel
theorem dX12_solves_120 : decode cX12_solves 120 = .ok (.aload_n 0, 1) := by decide +kernel
theorem dX12_solves_121 : decode cX12_solves 121 = .ok (.getfield 61, 3) := by decide +kernel
theorem dX12_solves_124 : decode cX12_solves 124 = .ok (.iload_n 1, 1) := by decide +kernel
theorem dX12_solves_125 : decode cX12_solves 125 = .ok (.aload_n 0, 1) := by decide +kernel
theorem dX12_solves_126 : decode cX12_solves 126 = .ok (.getfield 25, 3) := by decide +kernel
theorem dX12_solves_129 : decode cX12_solves 129 = .ok (.iconst 1, 1) := by decide +kernel
theorem dX12_solves_130 : decode cX12_solves 130 = .ok (.iaload, 1) := by decide +kernel
theorem dX12_solves_131 : decode cX12_solves 131 = .ok (.aload_n 0, 1) := by decide +kernel
theorem dX12_solves_132 : decode cX12_solves 132 = .ok (.aload_n 0, 1) := by decide +kernel
theorem dX12_solves_133 : decode cX12_solves 133 = .ok (.getfield 52, 3) := by decide +kernel
theorem dX12_solves_136 : decode cX12_solves 136 = .ok (.iload_n 1, 1) := by decide +kernel
theorem dX12_solves_137 : decode cX12_solves 137 = .ok (.iaload, 1) := by decide +kernel
theorem dX12_solves_138 : decode cX12_solves 138 = .ok (.invokevirtual 165, 3) := by decide +kernel
theorem dX12_solves_141 : decode cX12_solves 141 = .ok (.aload_n 0, 1) := by decide +kernel
theorem dX12_solves_142 : decode cX12_solves 142 = .ok (.aload_n 0, 1) := by decide +kernel
theorem dX12_solves_143 : decode cX12_solves 143 = .ok (.iload_n 1, 1) := by decide +kernel
theorem dX12_solves_144 : decode cX12_solves 144 = .ok (.invokevirtual 159, 3) := by decide +kernel
theorem dX12_solves_147 : decode cX12_solves 147 = .ok (.invokevirtual 165, 3) := by decide +kernel
theorem dX12_solves_150 : decode cX12_solves 150 = .ok (.invokestatic 168, 3) := by decide +kernel
theorem dX12_solves_153 : decode cX12_solves 153 = .ok (.ifCond .eq 7, 3) := by decide +kernel
theorem dX12_solves_156 : decode cX12_solves 156 = .ok (.iconst 1, 1) := by decide +kernel
theorem dX12_solves_157 : decode cX12_solves 157 = .ok (.goto 4, 3) := by decide +kernel
theorem dX12_solves_160 : decode cX12_solves 160 = .ok (.iconst 0, 1) := by decide +kernel
theorem dX12_solves_161 : decode cX12_solves 161 = .ok (.iastore, 1) := by decide +kernel
theorem dX12_solves_162 : decode cX12_solves 162 = .ok (.aload_n 0, 1) := by decide +kernel
theorem dX12_solves_163 : decode cX12_solves 163 = .ok (.getfield 58, 3) := by decide +kernel
theorem dX12_solves_166 : decode cX12_solves 166 = .ok (.iload_n 1, 1) := by decide +kernel
theorem dX12_solves_167 : decode cX12_solves 167 = .ok (.aload_n 0, 1) := by decide +kernel
theorem dX12_solves_168 : decode cX12_solves 168 = .ok (.getfield 61, 3) := by decide +kernel
theorem dX12_solves_171 : decode cX12_solves 171 = .ok (.iload_n 1, 1) := by decide +kernel
theorem dX12_solves_172 : decode cX12_solves 172 = .ok (.iaload, 1) := by decide +kernel
theorem dX12_solves_173 : decode cX12_solves 173 = .ok (.iconst 1, 1) := by decide +kernel
theorem dX12_solves_174 : decode cX12_solves 174 = .ok (.if_icmp .ne 7, 3) := by decide +kernel
theorem dX12_solves_177 : decode cX12_solves 177 = .ok (.iload_n 1, 1) := by decide +kernel
theorem dX12_solves_178 : decode cX12_solves 178 = .ok (.goto 11, 3) := by decide +kernel
theorem dX12_solves_181 : decode cX12_solves 181 = .ok (.aload_n 0, 1) := by decide +kernel
theorem dX12_solves_182 : decode cX12_solves 182 = .ok (.getfield 58, 3) := by decide +kernel
theorem dX12_solves_185 : decode cX12_solves 185 = .ok (.iload_n 1, 1) := by decide +kernel
theorem dX12_solves_186 : decode cX12_solves 186 = .ok (.iconst 1, 1) := by decide +kernel
theorem dX12_solves_187 : decode cX12_solves 187 = .ok (.iadd, 1) := by decide +kernel
theorem dX12_solves_188 : decode cX12_solves 188 = .ok (.iaload, 1) := by decide +kernel
theorem dX12_solves_189 : decode cX12_solves 189 = .ok (.iastore, 1) := by decide +kernel
theorem dX12_solves_190 : decode cX12_solves 190 = .ok (.iload_n 1, 1) := by decide +kernel
theorem dX12_solves_191 : decode cX12_solves 191 = .ok (.istore_n 2, 1) := by decide +kernel
theorem dX12_solves_192 : decode cX12_solves 192 = .ok (.iload_n 2, 1) := by decide +kernel
theorem dX12_solves_193 : decode cX12_solves 193 = .ok (.aload_n 0, 1) := by decide +kernel
theorem dX12_solves_194 : decode cX12_solves 194 = .ok (.getfield 82, 3) := by decide +kernel
theorem dX12_solves_197 : decode cX12_solves 197 = .ok (.if_icmp .ge 66, 3) := by decide +kernel
theorem dX12_solves_200 : decode cX12_solves 200 = .ok (.aload_n 0, 1) := by decide +kernel
theorem dX12_solves_201 : decode cX12_solves 201 = .ok (.getfield 49, 3) := by decide +kernel
theorem dX12_solves_204 : decode cX12_solves 204 = .ok (.bipush 9, 2) := by decide +kernel
theorem dX12_solves_206 : decode cX12_solves 206 = .ok (.iload_n 1, 1) := by decide +kernel
theorem dX12_solves_207 : decode cX12_solves 207 = .ok (.imul, 1) := by decide +kernel
theorem dX12_solves_208 : decode cX12_solves 208 = .ok (.iload_n 2, 1) := by decide +kernel
theorem dX12_solves_209 : decode cX12_solves 209 = .ok (.iadd, 1) := by decide +kernel
theorem dX12_solves_210 : decode cX12_solves 210 = .ok (.aload_n 0, 1) := by decide +kernel
theorem dX12_solves_211 : decode cX12_solves 211 = .ok (.getfield 61, 3) := by decide +kernel
theorem dX12_solves_214 : decode cX12_solves 214 = .ok (.iload_n 1, 1) := by decide +kernel
theorem dX12_solves_215 : decode cX12_solves 215 = .ok (.iaload, 1) := by decide +kernel
theorem dX12_solves_216 : decode cX12_solves 216 = .ok (.iconst 1, 1) := by decide +kernel
theorem dX12_solves_217 : decode cX12_solves 217 = .ok (.if_icmp .ne 17, 3) := by decide +kernel
theorem dX12_solves_220 : decode cX12_solves 220 = .ok (.aload_n 0, 1) := by decide +kernel
theorem dX12_solves_221 : decode cX12_solves 221 = .ok (.getfield 46, 3) := by decide +kernel
theorem dX12_solves_224 : decode cX12_solves 224 = .ok (.bipush 9, 2) := by decide +kernel
theorem dX12_solves_226 : decode cX12_solves 226 = .ok (.iload_n 1, 1) := by decide +kernel
theorem dX12_solves_227 : decode cX12_solves 227 = .ok (.imul, 1) := by decide +kernel
theorem dX12_solves_228 : decode cX12_solves 228 = .ok (.iload_n 2, 1) := by decide +kernel
theorem dX12_solves_229 : decode cX12_solves 229 = .ok (.iadd, 1) := by decide +kernel
theorem dX12_solves_230 : decode cX12_solves 230 = .ok (.iaload, 1) := by decide +kernel
theorem dX12_solves_231 : decode cX12_solves 231 = .ok (.goto 25, 3) := by decide +kernel
theorem dX12_solves_234 : decode cX12_solves 234 = .ok (.iload_n 2, 1) := by decide +kernel
theorem dX12_solves_235 : decode cX12_solves 235 = .ok (.iload_n 1, 1) := by decide +kernel
theorem dX12_solves_236 : decode cX12_solves 236 = .ok (.if_icmp .ne 7, 3) := by decide +kernel
theorem dX12_solves_239 : decode cX12_solves 239 = .ok (.iconst (-1), 1) := by decide +kernel
theorem dX12_solves_240 : decode cX12_solves 240 = .ok (.goto 16, 3) := by decide +kernel
theorem dX12_solves_243 : decode cX12_solves 243 = .ok (.aload_n 0, 1) := by decide +kernel
theorem dX12_solves_244 : decode cX12_solves 244 = .ok (.getfield 49, 3) := by decide +kernel
theorem dX12_solves_247 : decode cX12_solves 247 = .ok (.bipush 9, 2) := by decide +kernel
theorem dX12_solves_249 : decode cX12_solves 249 = .ok (.iload_n 1, 1) := by decide +kernel
theorem dX12_solves_250 : decode cX12_solves 250 = .ok (.iconst 1, 1) := by decide +kernel
theorem dX12_solves_251 : decode cX12_solves 251 = .ok (.iadd, 1) := by decide +kernel
theorem dX12_solves_252 : decode cX12_solves 252 = .ok (.imul, 1) := by decide +kernel
theorem dX12_solves_253 : decode cX12_solves 253 = .ok (.iload_n 2, 1) := by decide +kernel
theorem dX12_solves_254 : decode cX12_solves 254 = .ok (.iadd, 1) := by decide +kernel
theorem dX12_solves_255 : decode cX12_solves 255 = .ok (.iaload, 1) := by decide +kernel
theorem dX12_solves_256 : decode cX12_solves 256 = .ok (.iastore, 1) := by decide +kernel
theorem dX12_solves_257 : decode cX12_solves 257 = .ok (.iinc 2 1, 3) := by decide +kernel
theorem dX12_solves_260 : decode cX12_solves 260 = .ok (.goto (-68), 3) := by decide +kernel
theorem dX12_solves_263 : decode cX12_solves 263 = .ok (.return_, 1) := by decide +kernel
theorem dX12_solvesAll_0 : decode cX12_solvesAll 0 = .ok (.aload_n 0, 1) := by decide +kernel
theorem dX12_solvesAll_1 : decode cX12_solvesAll 1 = .ok (.getfield 82, 3) := by decide +kernel
theorem dX12_solvesAll_4 : decode cX12_solvesAll 4 = .ok (.iconst 1, 1) := by decide +kernel
theorem dX12_solvesAll_5 : decode cX12_solvesAll 5 = .ok (.isub, 1) := by decide +kernel
theorem dX12_solvesAll_6 : decode cX12_solvesAll 6 = .ok (.istore_n 1, 1) := by decide +kernel
theorem dX12_solvesAll_7 : decode cX12_solvesAll 7 = .ok (.iload_n 1, 1) := by decide +kernel
theorem dX12_solvesAll_8 : decode cX12_solvesAll 8 = .ok (.ifCond .lt 14, 3) := by decide +kernel
theorem dX12_solvesAll_11 : decode cX12_solvesAll 11 = .ok (.aload_n 0, 1) := by decide +kernel
theorem dX12_solvesAll_12 : decode cX12_solvesAll 12 = .ok (.iload_n 1, 1) := by decide +kernel
theorem dX12_solvesAll_13 : decode cX12_solvesAll 13 = .ok (.invokevirtual 198, 3) := by decide +kernel
theorem dX12_solvesAll_16 : decode cX12_solvesAll 16 = .ok (.iinc 1 (-1), 3) := by decide +kernel
theorem dX12_solvesAll_19 : decode cX12_solvesAll 19 = .ok (.goto (-12), 3) := by decide +kernel
theorem dX12_solvesAll_22 : decode cX12_solvesAll 22 = .ok (.return_, 1) := by decide +kernel
theorem dX12_areInOrder_0 : decode cX12_areInOrder 0 = .ok (.aload_n 0, 1) := by decide +kernel
theorem dX12_areInOrder_1 : decode cX12_areInOrder 1 = .ok (.iload_n 1, 1) := by decide +kernel
theorem dX12_areInOrder_2 : decode cX12_areInOrder 2 = .ok (.invokevirtual 150, 3) := by decide +kernel
theorem dX12_areInOrder_5 : decode cX12_areInOrder 5 = .ok (.ifCond .eq 20, 3) := by decide +kernel
theorem dX12_areInOrder_8 : decode cX12_areInOrder 8 = .ok (.aload_n 0, 1) := by decide +kernel
theorem dX12_areInOrder_9 : decode cX12_areInOrder 9 = .ok (.iload_n 2, 1) := by decide +kernel
theorem dX12_areInOrder_10 : decode cX12_areInOrder 10 = .ok (.invokevirtual 150, 3) := by decide +kernel
theorem dX12_areInOrder_13 : decode cX12_areInOrder 13 = .ok (.ifCond .eq 12, 3) := by decide +kernel
theorem dX12_areInOrder_16 : decode cX12_areInOrder 16 = .ok (.iload_n 2, 1) := by decide +kernel
theorem dX12_areInOrder_17 : decode cX12_areInOrder 17 = .ok (.iload_n 1, 1) := by decide +kernel
theorem dX12_areInOrder_18 : decode cX12_areInOrder 18 = .ok (.if_icmp .lt 7, 3) := by decide +kernel
theorem dX12_areInOrder_21 : decode cX12_areInOrder 21 = .ok (.iconst 1, 1) := by decide +kernel
theorem dX12_areInOrder_22 : decode cX12_areInOrder 22 = .ok (.goto 4, 3) := by decide +kernel
theorem dX12_areInOrder_25 : decode cX12_areInOrder 25 = .ok (.iconst 0, 1) := by decide +kernel
theorem dX12_areInOrder_26 : decode cX12_areInOrder 26 = .ok (.ireturn, 1) := by decide +kernel
theorem dX12_offered_0 : decode cX12_offered 0 = .ok (.aload_n 0, 1) := by decide +kernel
theorem dX12_offered_1 : decode cX12_offered 1 = .ok (.iload_n 1, 1) := by decide +kernel
theorem dX12_offered_2 : decode cX12_offered 2 = .ok (.iload_n 2, 1) := by decide +kernel
theorem dX12_offered_3 : decode cX12_offered 3 = .ok (.invokevirtual 201, 3) := by decide +kernel
theorem dX12_offered_6 : decode cX12_offered 6 = .ok (.ifCond .ne 9, 3) := by decide +kernel
theorem dX12_offered_9 : decode cX12_offered 9 = .ok (.aload_n 0, 1) := by decide +kernel
theorem dX12_offered_10 : decode cX12_offered 10 = .ok (.iconst (-1), 1) := by decide +kernel
theorem dX12_offered_11 : decode cX12_offered 11 = .ok (.invokevirtual 93, 3) := by decide +kernel
theorem dX12_offered_14 : decode cX12_offered 14 = .ok (.ireturn, 1) := by decide +kernel
theorem dX12_offered_15 : decode cX12_offered 15 = .ok (.aload_n 0, 1) := by decide +kernel
theorem dX12_offered_16 : decode cX12_offered 16 = .ok (.invokevirtual 204, 3) := by decide +kernel
theorem dX12_offered_19 : decode cX12_offered 19 = .ok (.aload_n 0, 1) := by decide +kernel
theorem dX12_offered_20 : decode cX12_offered 20 = .ok (.getfield 46, 3) := by decide +kernel
theorem dX12_offered_23 : decode cX12_offered 23 = .ok (.bipush 9, 2) := by decide +kernel
theorem dX12_offered_25 : decode cX12_offered 25 = .ok (.iload_n 1, 1) := by decide +kernel
theorem dX12_offered_26 : decode cX12_offered 26 = .ok (.imul, 1) := by decide +kernel
theorem dX12_offered_27 : decode cX12_offered 27 = .ok (.iload_n 2, 1) := by decide +kernel
theorem dX12_offered_28 : decode cX12_offered 28 = .ok (.iadd, 1) := by decide +kernel
theorem dX12_offered_29 : decode cX12_offered 29 = .ok (.iaload, 1) := by decide +kernel
theorem dX12_offered_30 : decode cX12_offered 30 = .ok (.ireturn, 1) := by decide +kernel
theorem dX12_price_0 : decode cX12_price 0 = .ok (.aload_n 0, 1) := by decide +kernel
theorem dX12_price_1 : decode cX12_price 1 = .ok (.iload_n 1, 1) := by decide +kernel
theorem dX12_price_2 : decode cX12_price 2 = .ok (.invokevirtual 150, 3) := by decide +kernel
theorem dX12_price_5 : decode cX12_price 5 = .ok (.ifCond .eq 11, 3) := by decide +kernel
theorem dX12_price_8 : decode cX12_price 8 = .ok (.aload_n 0, 1) := by decide +kernel
theorem dX12_price_9 : decode cX12_price 9 = .ok (.iload_n 2, 1) := by decide +kernel
theorem dX12_price_10 : decode cX12_price 10 = .ok (.invokevirtual 150, 3) := by decide +kernel
theorem dX12_price_13 : decode cX12_price 13 = .ok (.ifCond .ne 9, 3) := by decide +kernel
theorem dX12_price_16 : decode cX12_price 16 = .ok (.aload_n 0, 1) := by decide +kernel
theorem dX12_price_17 : decode cX12_price 17 = .ok (.iconst (-1), 1) := by decide +kernel
theorem dX12_price_18 : decode cX12_price 18 = .ok (.invokevirtual 93, 3) := by decide +kernel
theorem dX12_price_21 : decode cX12_price 21 = .ok (.ireturn, 1) := by decide +kernel
theorem dX12_price_22 : decode cX12_price 22 = .ok (.aload_n 0, 1) := by decide +kernel
theorem dX12_price_23 : decode cX12_price 23 = .ok (.invokevirtual 204, 3) := by decide +kernel
theorem dX12_price_26 : decode cX12_price 26 = .ok (.iload_n 2, 1) := by decide +kernel
theorem dX12_price_27 : decode cX12_price 27 = .ok (.iload_n 1, 1) := by decide +kernel
theorem dX12_price_28 : decode cX12_price 28 = .ok (.if_icmp .gt 8, 3) := by decide +kernel
theorem dX12_price_31 : decode cX12_price 31 = .ok (.bipush (-9), 2) := by decide +kernel
theorem dX12_price_33 : decode cX12_price 33 = .ok (.goto 14, 3) := by decide +kernel
theorem dX12_price_36 : decode cX12_price 36 = .ok (.aload_n 0, 1) := by decide +kernel
theorem dX12_price_37 : decode cX12_price 37 = .ok (.getfield 43, 3) := by decide +kernel
theorem dX12_price_40 : decode cX12_price 40 = .ok (.bipush 9, 2) := by decide +kernel
theorem dX12_price_42 : decode cX12_price 42 = .ok (.iload_n 1, 1) := by decide +kernel
theorem dX12_price_43 : decode cX12_price 43 = .ok (.imul, 1) := by decide +kernel
theorem dX12_price_44 : decode cX12_price 44 = .ok (.iload_n 2, 1) := by decide +kernel
theorem dX12_price_45 : decode cX12_price 45 = .ok (.iadd, 1) := by decide +kernel
theorem dX12_price_46 : decode cX12_price 46 = .ok (.iaload, 1) := by decide +kernel
theorem dX12_price_47 : decode cX12_price 47 = .ok (.ireturn, 1) := by decide +kernel
theorem dX12_votes_0 : decode cX12_votes 0 = .ok (.aload_n 0, 1) := by decide +kernel
theorem dX12_votes_1 : decode cX12_votes 1 = .ok (.iload_n 1, 1) := by decide +kernel
theorem dX12_votes_2 : decode cX12_votes 2 = .ok (.invokevirtual 150, 3) := by decide +kernel
theorem dX12_votes_5 : decode cX12_votes 5 = .ok (.ifCond .ne 9, 3) := by decide +kernel
theorem dX12_votes_8 : decode cX12_votes 8 = .ok (.aload_n 0, 1) := by decide +kernel
theorem dX12_votes_9 : decode cX12_votes 9 = .ok (.iconst (-1), 1) := by decide +kernel
theorem dX12_votes_10 : decode cX12_votes 10 = .ok (.invokevirtual 93, 3) := by decide +kernel
theorem dX12_votes_13 : decode cX12_votes 13 = .ok (.ireturn, 1) := by decide +kernel
theorem dX12_votes_14 : decode cX12_votes 14 = .ok (.aload_n 0, 1) := by decide +kernel
theorem dX12_votes_15 : decode cX12_votes 15 = .ok (.invokevirtual 204, 3) := by decide +kernel
theorem dX12_votes_18 : decode cX12_votes 18 = .ok (.aload_n 0, 1) := by decide +kernel
theorem dX12_votes_19 : decode cX12_votes 19 = .ok (.getfield 52, 3) := by decide +kernel
theorem dX12_votes_22 : decode cX12_votes 22 = .ok (.iload_n 1, 1) := by decide +kernel
theorem dX12_votes_23 : decode cX12_votes 23 = .ok (.iaload, 1) := by decide +kernel
theorem dX12_votes_24 : decode cX12_votes 24 = .ok (.ireturn, 1) := by decide +kernel
theorem dX12_carries_0 : decode cX12_carries 0 = .ok (.aload_n 0, 1) := by decide +kernel
theorem dX12_carries_1 : decode cX12_carries 1 = .ok (.iload_n 1, 1) := by decide +kernel
theorem dX12_carries_2 : decode cX12_carries 2 = .ok (.invokevirtual 150, 3) := by decide +kernel
end
section
theorem dX12_carries_5 : decode cX12_carries 5 = .ok (.ifCond .ne 9, 3) := by decide +kernel
theorem dX12_carries_8 : decode cX12_carries 8 = .ok (.aload_n 0, 1) := by decide +kernel
theorem dX12_carries_9 : decode cX12_carries 9 = .ok (.iconst (-1), 1) := by decide +kernel
theorem dX12_carries_10 : decode cX12_carries 10 = .ok (.invokevirtual 93, 3) := by decide +kernel
theorem dX12_carries_13 : decode cX12_carries 13 = .ok (.ireturn, 1) := by decide +kernel
theorem dX12_carries_14 : decode cX12_carries 14 = .ok (.aload_n 0, 1) := by decide +kernel
theorem dX12_carries_15 : decode cX12_carries 15 = .ok (.invokevirtual 204, 3) := by decide +kernel
theorem dX12_carries_18 : decode cX12_carries 18 = .ok (.aload_n 0, 1) := by decide +kernel
theorem dX12_carries_19 : decode cX12_carries 19 = .ok (.getfield 61, 3) := by decide +kernel
theorem dX12_carries_22 : decode cX12_carries 22 = .ok (.iload_n 1, 1) := by decide +kernel
theorem dX12_carries_23 : decode cX12_carries 23 = .ok (.iaload, 1) := by decide +kernel
theorem dX12_carries_24 : decode cX12_carries 24 = .ok (.ireturn, 1) := by decide +kernel
theorem dX12_ends_0 : decode cX12_ends 0 = .ok (.aload_n 0, 1) := by decide +kernel
theorem dX12_ends_1 : decode cX12_ends 1 = .ok (.iload_n 1, 1) := by decide +kernel
theorem dX12_ends_2 : decode cX12_ends 2 = .ok (.invokevirtual 150, 3) := by decide +kernel
theorem dX12_ends_5 : decode cX12_ends 5 = .ok (.ifCond .ne 9, 3) := by decide +kernel
theorem dX12_ends_8 : decode cX12_ends 8 = .ok (.aload_n 0, 1) := by decide +kernel
theorem dX12_ends_9 : decode cX12_ends 9 = .ok (.iconst (-1), 1) := by decide +kernel
theorem dX12_ends_10 : decode cX12_ends 10 = .ok (.invokevirtual 93, 3) := by decide +kernel
theorem dX12_ends_13 : decode cX12_ends 13 = .ok (.ireturn, 1) := by decide +kernel
theorem dX12_ends_14 : decode cX12_ends 14 = .ok (.aload_n 0, 1) := by decide +kernel
theorem dX12_ends_15 : decode cX12_ends 15 = .ok (.invokevirtual 204, 3) := by decide +kernel
theorem dX12_ends_18 : decode cX12_ends 18 = .ok (.aload_n 0, 1) := by decide +kernel
theorem dX12_ends_19 : decode cX12_ends 19 = .ok (.getfield 58, 3) := by decide +kernel
theorem dX12_ends_22 : decode cX12_ends 22 = .ok (.iload_n 1, 1) := by decide +kernel
theorem dX12_ends_23 : decode cX12_ends 23 = .ok (.iaload, 1) := by decide +kernel
theorem dX12_ends_24 : decode cX12_ends 24 = .ok (.ireturn, 1) := by decide +kernel
theorem dX12_gets_0 : decode cX12_gets 0 = .ok (.aload_n 0, 1) := by decide +kernel
theorem dX12_gets_1 : decode cX12_gets 1 = .ok (.iload_n 1, 1) := by decide +kernel
theorem dX12_gets_2 : decode cX12_gets 2 = .ok (.iload_n 2, 1) := by decide +kernel
theorem dX12_gets_3 : decode cX12_gets 3 = .ok (.invokevirtual 201, 3) := by decide +kernel
theorem dX12_gets_6 : decode cX12_gets 6 = .ok (.ifCond .ne 9, 3) := by decide +kernel
theorem dX12_gets_9 : decode cX12_gets 9 = .ok (.aload_n 0, 1) := by decide +kernel
theorem dX12_gets_10 : decode cX12_gets 10 = .ok (.iconst (-1), 1) := by decide +kernel
theorem dX12_gets_11 : decode cX12_gets 11 = .ok (.invokevirtual 207, 3) := by decide +kernel
theorem dX12_gets_14 : decode cX12_gets 14 = .ok (.ireturn, 1) := by decide +kernel
theorem dX12_gets_15 : decode cX12_gets 15 = .ok (.aload_n 0, 1) := by decide +kernel
theorem dX12_gets_16 : decode cX12_gets 16 = .ok (.invokevirtual 204, 3) := by decide +kernel
theorem dX12_gets_19 : decode cX12_gets 19 = .ok (.aload_n 0, 1) := by decide +kernel
theorem dX12_gets_20 : decode cX12_gets 20 = .ok (.getfield 49, 3) := by decide +kernel
theorem dX12_gets_23 : decode cX12_gets 23 = .ok (.bipush 9, 2) := by decide +kernel
theorem dX12_gets_25 : decode cX12_gets 25 = .ok (.iload_n 1, 1) := by decide +kernel
theorem dX12_gets_26 : decode cX12_gets 26 = .ok (.imul, 1) := by decide +kernel
theorem dX12_gets_27 : decode cX12_gets 27 = .ok (.iload_n 2, 1) := by decide +kernel
theorem dX12_gets_28 : decode cX12_gets 28 = .ok (.iadd, 1) := by decide +kernel
theorem dX12_gets_29 : decode cX12_gets 29 = .ok (.iaload, 1) := by decide +kernel
theorem dX12_gets_30 : decode cX12_gets 30 = .ok (.ireturn, 1) := by decide +kernel
theorem dX12_bought_0 : decode cX12_bought 0 = .ok (.aload_n 0, 1) := by decide +kernel
theorem dX12_bought_1 : decode cX12_bought 1 = .ok (.iload_n 1, 1) := by decide +kernel
theorem dX12_bought_2 : decode cX12_bought 2 = .ok (.invokevirtual 150, 3) := by decide +kernel
theorem dX12_bought_5 : decode cX12_bought 5 = .ok (.ifCond .ne 9, 3) := by decide +kernel
theorem dX12_bought_8 : decode cX12_bought 8 = .ok (.aload_n 0, 1) := by decide +kernel
theorem dX12_bought_9 : decode cX12_bought 9 = .ok (.iconst (-1), 1) := by decide +kernel
theorem dX12_bought_10 : decode cX12_bought 10 = .ok (.invokevirtual 93, 3) := by decide +kernel
theorem dX12_bought_13 : decode cX12_bought 13 = .ok (.ireturn, 1) := by decide +kernel
theorem dX12_bought_14 : decode cX12_bought 14 = .ok (.aload_n 0, 1) := by decide +kernel
theorem dX12_bought_15 : decode cX12_bought 15 = .ok (.invokevirtual 204, 3) := by decide +kernel
theorem dX12_bought_18 : decode cX12_bought 18 = .ok (.aload_n 0, 1) := by decide +kernel
theorem dX12_bought_19 : decode cX12_bought 19 = .ok (.getfield 55, 3) := by decide +kernel
theorem dX12_bought_22 : decode cX12_bought 22 = .ok (.iload_n 1, 1) := by decide +kernel
theorem dX12_bought_23 : decode cX12_bought 23 = .ok (.iaload, 1) := by decide +kernel
theorem dX12_bought_24 : decode cX12_bought 24 = .ok (.ireturn, 1) := by decide +kernel
theorem dX12_row_0 : decode cX12_row 0 = .ok (.iload_n 1, 1) := by decide +kernel
theorem dX12_row_1 : decode cX12_row 1 = .ok (.iconst 0, 1) := by decide +kernel
theorem dX12_row_2 : decode cX12_row 2 = .ok (.bipush 99, 2) := by decide +kernel
theorem dX12_row_4 : decode cX12_row 4 = .ok (.invokestatic 86, 3) := by decide +kernel
theorem dX12_row_7 : decode cX12_row 7 = .ok (.istore_n 2, 1) := by decide +kernel
theorem dX12_row_8 : decode cX12_row 8 = .ok (.iload_n 2, 1) := by decide +kernel
theorem dX12_row_9 : decode cX12_row 9 = .ok (.ifCond .ne 15, 3) := by decide +kernel
theorem dX12_row_12 : decode cX12_row 12 = .ok (.aload_n 0, 1) := by decide +kernel
theorem dX12_row_13 : decode cX12_row 13 = .ok (.getfield 210, 3) := by decide +kernel
theorem dX12_row_16 : decode cX12_row 16 = .ok (.bipush 8, 2) := by decide +kernel
theorem dX12_row_18 : decode cX12_row 18 = .ok (.if_icmp .ne 6, 3) := by decide +kernel
theorem dX12_row_21 : decode cX12_row 21 = .ok (.bipush (-6), 2) := by decide +kernel
theorem dX12_row_23 : decode cX12_row 23 = .ok (.istore_n 2, 1) := by decide +kernel
theorem dX12_row_24 : decode cX12_row 24 = .ok (.iload_n 2, 1) := by decide +kernel
theorem dX12_row_25 : decode cX12_row 25 = .ok (.ifCond .eq 9, 3) := by decide +kernel
theorem dX12_row_28 : decode cX12_row 28 = .ok (.aload_n 0, 1) := by decide +kernel
theorem dX12_row_29 : decode cX12_row 29 = .ok (.iload_n 2, 1) := by decide +kernel
theorem dX12_row_30 : decode cX12_row 30 = .ok (.invokevirtual 93, 3) := by decide +kernel
theorem dX12_row_33 : decode cX12_row 33 = .ok (.ireturn, 1) := by decide +kernel
theorem dX12_row_34 : decode cX12_row 34 = .ok (.aload_n 0, 1) := by decide +kernel
theorem dX12_row_35 : decode cX12_row 35 = .ok (.getfield 64, 3) := by decide +kernel
theorem dX12_row_38 : decode cX12_row 38 = .ok (.aload_n 0, 1) := by decide +kernel
theorem dX12_row_39 : decode cX12_row 39 = .ok (.getfield 210, 3) := by decide +kernel
theorem dX12_row_42 : decode cX12_row 42 = .ok (.iload_n 1, 1) := by decide +kernel
theorem dX12_row_43 : decode cX12_row 43 = .ok (.iastore, 1) := by decide +kernel
theorem dX12_row_44 : decode cX12_row 44 = .ok (.aload_n 0, 1) := by decide +kernel
theorem dX12_row_45 : decode cX12_row 45 = .ok (.dup, 1) := by decide +kernel
theorem dX12_row_46 : decode cX12_row 46 = .ok (.getfield 210, 3) := by decide +kernel
theorem dX12_row_49 : decode cX12_row 49 = .ok (.iconst 1, 1) := by decide +kernel
theorem dX12_row_50 : decode cX12_row 50 = .ok (.iadd, 1) := by decide +kernel
theorem dX12_row_51 : decode cX12_row 51 = .ok (.putfield 210, 3) := by decide +kernel
theorem dX12_row_54 : decode cX12_row 54 = .ok (.aload_n 0, 1) := by decide +kernel
theorem dX12_row_55 : decode cX12_row 55 = .ok (.getfield 210, 3) := by decide +kernel
theorem dX12_row_58 : decode cX12_row 58 = .ok (.ireturn, 1) := by decide +kernel
theorem dX12_clear_0 : decode cX12_clear 0 = .ok (.aload_n 0, 1) := by decide +kernel
theorem dX12_clear_1 : decode cX12_clear 1 = .ok (.getfield 210, 3) := by decide +kernel
theorem dX12_clear_4 : decode cX12_clear 4 = .ok (.istore_n 1, 1) := by decide +kernel
theorem dX12_clear_5 : decode cX12_clear 5 = .ok (.aload_n 0, 1) := by decide +kernel
theorem dX12_clear_6 : decode cX12_clear 6 = .ok (.iconst 0, 1) := by decide +kernel
theorem dX12_clear_7 : decode cX12_clear 7 = .ok (.putfield 210, 3) := by decide +kernel
theorem dX12_clear_10 : decode cX12_clear 10 = .ok (.iload_n 1, 1) := by decide +kernel
theorem dX12_clear_11 : decode cX12_clear 11 = .ok (.ireturn, 1) := by decide +kernel
theorem dX12_isOver_0 : decode cX12_isOver 0 = .ok (.aload_n 0, 1) := by decide +kernel
theorem dX12_isOver_1 : decode cX12_isOver 1 = .ok (.getfield 82, 3) := by decide +kernel
theorem dX12_isOver_4 : decode cX12_isOver 4 = .ok (.ifCond .eq 11, 3) := by decide +kernel
theorem dX12_isOver_7 : decode cX12_isOver 7 = .ok (.aload_n 0, 1) := by decide +kernel
theorem dX12_isOver_8 : decode cX12_isOver 8 = .ok (.getfield 115, 3) := by decide +kernel
theorem dX12_isOver_11 : decode cX12_isOver 11 = .ok (.iconst 1, 1) := by decide +kernel
theorem dX12_isOver_12 : decode cX12_isOver 12 = .ok (.if_icmp .ne 7, 3) := by decide +kernel
theorem dX12_isOver_15 : decode cX12_isOver 15 = .ok (.iconst 1, 1) := by decide +kernel
theorem dX12_isOver_16 : decode cX12_isOver 16 = .ok (.goto 4, 3) := by decide +kernel
theorem dX12_isOver_19 : decode cX12_isOver 19 = .ok (.iconst 0, 1) := by decide +kernel
theorem dX12_isOver_20 : decode cX12_isOver 20 = .ok (.ireturn, 1) := by decide +kernel
theorem dX12_isOffer_0 : decode cX12_isOffer 0 = .ok (.iconst 0, 1) := by decide +kernel
theorem dX12_isOffer_1 : decode cX12_isOffer 1 = .ok (.istore_n 1, 1) := by decide +kernel
theorem dX12_isOffer_2 : decode cX12_isOffer 2 = .ok (.iconst 0, 1) := by decide +kernel
theorem dX12_isOffer_3 : decode cX12_isOffer 3 = .ok (.istore_n 2, 1) := by decide +kernel
theorem dX12_isOffer_4 : decode cX12_isOffer 4 = .ok (.iload_n 2, 1) := by decide +kernel
theorem dX12_isOffer_5 : decode cX12_isOffer 5 = .ok (.aload_n 0, 1) := by decide +kernel
theorem dX12_isOffer_6 : decode cX12_isOffer 6 = .ok (.getfield 210, 3) := by decide +kernel
theorem dX12_isOffer_9 : decode cX12_isOffer 9 = .ok (.if_icmp .ge 18, 3) := by decide +kernel
theorem dX12_isOffer_12 : decode cX12_isOffer 12 = .ok (.iload_n 1, 1) := by decide +kernel
theorem dX12_isOffer_13 : decode cX12_isOffer 13 = .ok (.aload_n 0, 1) := by decide +kernel
theorem dX12_isOffer_14 : decode cX12_isOffer 14 = .ok (.getfield 64, 3) := by decide +kernel
theorem dX12_isOffer_17 : decode cX12_isOffer 17 = .ok (.iload_n 2, 1) := by decide +kernel
theorem dX12_isOffer_18 : decode cX12_isOffer 18 = .ok (.iaload, 1) := by decide +kernel
theorem dX12_isOffer_19 : decode cX12_isOffer 19 = .ok (.iadd, 1) := by decide +kernel
theorem dX12_isOffer_20 : decode cX12_isOffer 20 = .ok (.istore_n 1, 1) := by decide +kernel
theorem dX12_isOffer_21 : decode cX12_isOffer 21 = .ok (.iinc 2 1, 3) := by decide +kernel
theorem dX12_isOffer_24 : decode cX12_isOffer 24 = .ok (.goto (-20), 3) := by decide +kernel
theorem dX12_isOffer_27 : decode cX12_isOffer 27 = .ok (.aload_n 0, 1) := by decide +kernel
theorem dX12_isOffer_28 : decode cX12_isOffer 28 = .ok (.getfield 210, 3) := by decide +kernel
theorem dX12_isOffer_31 : decode cX12_isOffer 31 = .ok (.aload_n 0, 1) := by decide +kernel
theorem dX12_isOffer_32 : decode cX12_isOffer 32 = .ok (.getfield 82, 3) := by decide +kernel
theorem dX12_isOffer_35 : decode cX12_isOffer 35 = .ok (.aload_n 0, 1) := by decide +kernel
theorem dX12_isOffer_36 : decode cX12_isOffer 36 = .ok (.getfield 144, 3) := by decide +kernel
theorem dX12_isOffer_39 : decode cX12_isOffer 39 = .ok (.isub, 1) := by decide +kernel
theorem dX12_isOffer_40 : decode cX12_isOffer 40 = .ok (.if_icmp .ne 17, 3) := by decide +kernel
theorem dX12_isOffer_43 : decode cX12_isOffer 43 = .ok (.iload_n 1, 1) := by decide +kernel
theorem dX12_isOffer_44 : decode cX12_isOffer 44 = .ok (.aload_n 0, 1) := by decide +kernel
theorem dX12_isOffer_45 : decode cX12_isOffer 45 = .ok (.getfield 25, 3) := by decide +kernel
theorem dX12_isOffer_48 : decode cX12_isOffer 48 = .ok (.iconst 0, 1) := by decide +kernel
theorem dX12_isOffer_49 : decode cX12_isOffer 49 = .ok (.iaload, 1) := by decide +kernel
theorem dX12_isOffer_50 : decode cX12_isOffer 50 = .ok (.if_icmp .ne 7, 3) := by decide +kernel
theorem dX12_isOffer_53 : decode cX12_isOffer 53 = .ok (.iconst 1, 1) := by decide +kernel
theorem dX12_isOffer_54 : decode cX12_isOffer 54 = .ok (.goto 4, 3) := by decide +kernel
theorem dX12_isOffer_57 : decode cX12_isOffer 57 = .ok (.iconst 0, 1) := by decide +kernel
theorem dX12_isOffer_58 : decode cX12_isOffer 58 = .ok (.ireturn, 1) := by decide +kernel
theorem dX12_judge_0 : decode cX12_judge 0 = .ok (.aload_n 0, 1) := by decide +kernel
theorem dX12_judge_1 : decode cX12_judge 1 = .ok (.invokevirtual 213, 3) := by decide +kernel
theorem dX12_judge_4 : decode cX12_judge 4 = .ok (.ifCond .eq 10, 3) := by decide +kernel
theorem dX12_judge_7 : decode cX12_judge 7 = .ok (.aload_n 0, 1) := by decide +kernel
theorem dX12_judge_8 : decode cX12_judge 8 = .ok (.bipush (-3), 2) := by decide +kernel
theorem dX12_judge_10 : decode cX12_judge 10 = .ok (.invokevirtual 93, 3) := by decide +kernel
theorem dX12_judge_13 : decode cX12_judge 13 = .ok (.ireturn, 1) := by decide +kernel
theorem dX12_judge_14 : decode cX12_judge 14 = .ok (.iload_n 1, 1) := by decide +kernel
theorem dX12_judge_15 : decode cX12_judge 15 = .ok (.ifCond .ge 10, 3) := by decide +kernel
theorem dX12_judge_18 : decode cX12_judge 18 = .ok (.aload_n 0, 1) := by decide +kernel
theorem dX12_judge_19 : decode cX12_judge 19 = .ok (.bipush (-4), 2) := by decide +kernel
theorem dX12_judge_21 : decode cX12_judge 21 = .ok (.invokevirtual 93, 3) := by decide +kernel
theorem dX12_judge_24 : decode cX12_judge 24 = .ok (.ireturn, 1) := by decide +kernel
theorem dX12_judge_25 : decode cX12_judge 25 = .ok (.aload_n 0, 1) := by decide +kernel
theorem dX12_judge_26 : decode cX12_judge 26 = .ok (.invokevirtual 216, 3) := by decide +kernel
theorem dX12_judge_29 : decode cX12_judge 29 = .ok (.ifCond .ne 5, 3) := by decide +kernel
theorem dX12_judge_32 : decode cX12_judge 32 = .ok (.iconst 0, 1) := by decide +kernel
theorem dX12_judge_33 : decode cX12_judge 33 = .ok (.ireturn, 1) := by decide +kernel
theorem dX12_judge_34 : decode cX12_judge 34 = .ok (.aload_n 0, 1) := by decide +kernel
theorem dX12_judge_35 : decode cX12_judge 35 = .ok (.invokevirtual 204, 3) := by decide +kernel
theorem dX12_judge_38 : decode cX12_judge 38 = .ok (.iconst 0, 1) := by decide +kernel
theorem dX12_judge_39 : decode cX12_judge 39 = .ok (.istore_n 2, 1) := by decide +kernel
theorem dX12_judge_40 : decode cX12_judge 40 = .ok (.iload_n 2, 1) := by decide +kernel
theorem dX12_judge_41 : decode cX12_judge 41 = .ok (.aload_n 0, 1) := by decide +kernel
theorem dX12_judge_42 : decode cX12_judge 42 = .ok (.getfield 210, 3) := by decide +kernel
theorem dX12_judge_45 : decode cX12_judge 45 = .ok (.if_icmp .ge 73, 3) := by decide +kernel
theorem dX12_judge_48 : decode cX12_judge 48 = .ok (.aload_n 0, 1) := by decide +kernel
theorem dX12_judge_49 : decode cX12_judge 49 = .ok (.getfield 144, 3) := by decide +kernel
theorem dX12_judge_52 : decode cX12_judge 52 = .ok (.iload_n 2, 1) := by decide +kernel
theorem dX12_judge_53 : decode cX12_judge 53 = .ok (.iadd, 1) := by decide +kernel
theorem dX12_judge_54 : decode cX12_judge 54 = .ok (.istore_n 3, 1) := by decide +kernel
theorem dX12_judge_55 : decode cX12_judge 55 = .ok (.iload_n 2, 1) := by decide +kernel
theorem dX12_judge_56 : decode cX12_judge 56 = .ok (.ifCond .eq 26, 3) := by decide +kernel
theorem dX12_judge_59 : decode cX12_judge 59 = .ok (.aload_n 0, 1) := by decide +kernel
theorem dX12_judge_60 : decode cX12_judge 60 = .ok (.getfield 64, 3) := by decide +kernel
theorem dX12_judge_63 : decode cX12_judge 63 = .ok (.iload_n 2, 1) := by decide +kernel
theorem dX12_judge_64 : decode cX12_judge 64 = .ok (.iaload, 1) := by decide +kernel
theorem dX12_judge_65 : decode cX12_judge 65 = .ok (.aload_n 0, 1) := by decide +kernel
theorem dX12_judge_66 : decode cX12_judge 66 = .ok (.getfield 43, 3) := by decide +kernel
theorem dX12_judge_69 : decode cX12_judge 69 = .ok (.bipush 9, 2) := by decide +kernel
theorem dX12_judge_71 : decode cX12_judge 71 = .ok (.aload_n 0, 1) := by decide +kernel
theorem dX12_judge_72 : decode cX12_judge 72 = .ok (.getfield 144, 3) := by decide +kernel
theorem dX12_judge_75 : decode cX12_judge 75 = .ok (.imul, 1) := by decide +kernel
theorem dX12_judge_76 : decode cX12_judge 76 = .ok (.iload_n 3, 1) := by decide +kernel
theorem dX12_judge_77 : decode cX12_judge 77 = .ok (.iadd, 1) := by decide +kernel
theorem dX12_judge_78 : decode cX12_judge 78 = .ok (.iaload, 1) := by decide +kernel
theorem dX12_judge_79 : decode cX12_judge 79 = .ok (.if_icmp .lt 7, 3) := by decide +kernel
theorem dX12_judge_82 : decode cX12_judge 82 = .ok (.iconst 1, 1) := by decide +kernel
theorem dX12_judge_83 : decode cX12_judge 83 = .ok (.goto 4, 3) := by decide +kernel
theorem dX12_judge_86 : decode cX12_judge 86 = .ok (.iconst 0, 1) := by decide +kernel
theorem dX12_judge_87 : decode cX12_judge 87 = .ok (.istore 4, 2) := by decide +kernel
theorem dX12_judge_89 : decode cX12_judge 89 = .ok (.iload 4, 2) := by decide +kernel
theorem dX12_judge_91 : decode cX12_judge 91 = .ok (.iload_n 1, 1) := by decide +kernel
theorem dX12_judge_92 : decode cX12_judge 92 = .ok (.iload_n 3, 1) := by decide +kernel
theorem dX12_judge_93 : decode cX12_judge 93 = .ok (.ishr, 1) := by decide +kernel
theorem dX12_judge_94 : decode cX12_judge 94 = .ok (.iconst 1, 1) := by decide +kernel
theorem dX12_judge_95 : decode cX12_judge 95 = .ok (.iand, 1) := by decide +kernel
theorem dX12_judge_96 : decode cX12_judge 96 = .ok (.iconst 1, 1) := by decide +kernel
theorem dX12_judge_97 : decode cX12_judge 97 = .ok (.if_icmp .ne 7, 3) := by decide +kernel
theorem dX12_judge_100 : decode cX12_judge 100 = .ok (.iconst 1, 1) := by decide +kernel
theorem dX12_judge_101 : decode cX12_judge 101 = .ok (.goto 4, 3) := by decide +kernel
theorem dX12_judge_104 : decode cX12_judge 104 = .ok (.iconst 0, 1) := by decide +kernel
theorem dX12_judge_105 : decode cX12_judge 105 = .ok (.if_icmp .eq 7, 3) := by decide +kernel
theorem dX12_judge_108 : decode cX12_judge 108 = .ok (.iload_n 2, 1) := by decide +kernel
theorem dX12_judge_109 : decode cX12_judge 109 = .ok (.iconst 1, 1) := by decide +kernel
theorem dX12_judge_110 : decode cX12_judge 110 = .ok (.iadd, 1) := by decide +kernel
theorem dX12_judge_111 : decode cX12_judge 111 = .ok (.ireturn, 1) := by decide +kernel
theorem dX12_judge_112 : decode cX12_judge 112 = .ok (.iinc 2 1, 3) := by decide +kernel
theorem dX12_judge_115 : decode cX12_judge 115 = .ok (.goto (-75), 3) := by decide +kernel
theorem dX12_judge_118 : decode cX12_judge 118 = .ok (.bipush (-9), 2) := by decide +kernel
theorem dX12_judge_120 : decode cX12_judge 120 = .ok (.ireturn, 1) := by decide +kernel
theorem dX12_decides_0 : decode cX12_decides 0 = .ok (.aload_n 0, 1) := by decide +kernel
theorem dX12_decides_1 : decode cX12_decides 1 = .ok (.aload_n 0, 1) := by decide +kernel
theorem dX12_decides_2 : decode cX12_decides 2 = .ok (.getfield 144, 3) := by decide +kernel
theorem dX12_decides_5 : decode cX12_decides 5 = .ok (.invokevirtual 159, 3) := by decide +kernel
theorem dX12_decides_8 : decode cX12_decides 8 = .ok (.istore_n 2, 1) := by decide +kernel
theorem dX12_decides_9 : decode cX12_decides 9 = .ok (.aload_n 0, 1) := by decide +kernel
theorem dX12_decides_10 : decode cX12_decides 10 = .ok (.getfield 25, 3) := by decide +kernel
theorem dX12_decides_13 : decode cX12_decides 13 = .ok (.iconst 1, 1) := by decide +kernel
theorem dX12_decides_14 : decode cX12_decides 14 = .ok (.iaload, 1) := by decide +kernel
theorem dX12_decides_15 : decode cX12_decides 15 = .ok (.aload_n 0, 1) := by decide +kernel
theorem dX12_decides_16 : decode cX12_decides 16 = .ok (.iload_n 1, 1) := by decide +kernel
theorem dX12_decides_17 : decode cX12_decides 17 = .ok (.iload_n 2, 1) := by decide +kernel
theorem dX12_decides_18 : decode cX12_decides 18 = .ok (.iand, 1) := by decide +kernel
theorem dX12_decides_19 : decode cX12_decides 19 = .ok (.invokevirtual 165, 3) := by decide +kernel
theorem dX12_decides_22 : decode cX12_decides 22 = .ok (.aload_n 0, 1) := by decide +kernel
theorem dX12_decides_23 : decode cX12_decides 23 = .ok (.iload_n 2, 1) := by decide +kernel
theorem dX12_decides_24 : decode cX12_decides 24 = .ok (.invokevirtual 165, 3) := by decide +kernel
theorem dX12_decides_27 : decode cX12_decides 27 = .ok (.invokestatic 168, 3) := by decide +kernel
theorem dX12_decides_30 : decode cX12_decides 30 = .ok (.istore_n 3, 1) := by decide +kernel
theorem dX12_decides_31 : decode cX12_decides 31 = .ok (.iload_n 3, 1) := by decide +kernel
theorem dX12_decides_32 : decode cX12_decides 32 = .ok (.ifCond .eq 48, 3) := by decide +kernel
theorem dX12_decides_35 : decode cX12_decides 35 = .ok (.iconst 0, 1) := by decide +kernel
theorem dX12_decides_36 : decode cX12_decides 36 = .ok (.istore 4, 2) := by decide +kernel
theorem dX12_decides_38 : decode cX12_decides 38 = .ok (.iload 4, 2) := by decide +kernel
theorem dX12_decides_40 : decode cX12_decides 40 = .ok (.aload_n 0, 1) := by decide +kernel
theorem dX12_decides_41 : decode cX12_decides 41 = .ok (.getfield 210, 3) := by decide +kernel
theorem dX12_decides_44 : decode cX12_decides 44 = .ok (.if_icmp .ge 28, 3) := by decide +kernel
theorem dX12_decides_47 : decode cX12_decides 47 = .ok (.aload_n 0, 1) := by decide +kernel
theorem dX12_decides_48 : decode cX12_decides 48 = .ok (.getfield 22, 3) := by decide +kernel
theorem dX12_decides_51 : decode cX12_decides 51 = .ok (.aload_n 0, 1) := by decide +kernel
theorem dX12_decides_52 : decode cX12_decides 52 = .ok (.getfield 144, 3) := by decide +kernel
theorem dX12_decides_55 : decode cX12_decides 55 = .ok (.iload 4, 2) := by decide +kernel
theorem dX12_decides_57 : decode cX12_decides 57 = .ok (.iadd, 1) := by decide +kernel
theorem dX12_decides_58 : decode cX12_decides 58 = .ok (.aload_n 0, 1) := by decide +kernel
theorem dX12_decides_59 : decode cX12_decides 59 = .ok (.getfield 64, 3) := by decide +kernel
theorem dX12_decides_62 : decode cX12_decides 62 = .ok (.iload 4, 2) := by decide +kernel
theorem dX12_decides_64 : decode cX12_decides 64 = .ok (.iaload, 1) := by decide +kernel
theorem dX12_decides_65 : decode cX12_decides 65 = .ok (.iastore, 1) := by decide +kernel
theorem dX12_decides_66 : decode cX12_decides 66 = .ok (.iinc 4 1, 3) := by decide +kernel
theorem dX12_decides_69 : decode cX12_decides 69 = .ok (.goto (-31), 3) := by decide +kernel
theorem dX12_decides_72 : decode cX12_decides 72 = .ok (.aload_n 0, 1) := by decide +kernel
theorem dX12_decides_73 : decode cX12_decides 73 = .ok (.iconst 1, 1) := by decide +kernel
theorem dX12_decides_74 : decode cX12_decides 74 = .ok (.putfield 115, 3) := by decide +kernel
theorem dX12_decides_77 : decode cX12_decides 77 = .ok (.goto 44, 3) := by decide +kernel
theorem dX12_decides_80 : decode cX12_decides 80 = .ok (.aload_n 0, 1) := by decide +kernel
theorem dX12_decides_81 : decode cX12_decides 81 = .ok (.getfield 22, 3) := by decide +kernel
theorem dX12_decides_84 : decode cX12_decides 84 = .ok (.aload_n 0, 1) := by decide +kernel
theorem dX12_decides_85 : decode cX12_decides 85 = .ok (.getfield 144, 3) := by decide +kernel
theorem dX12_decides_88 : decode cX12_decides 88 = .ok (.iconst (-1), 1) := by decide +kernel
theorem dX12_decides_89 : decode cX12_decides 89 = .ok (.iastore, 1) := by decide +kernel
theorem dX12_decides_90 : decode cX12_decides 90 = .ok (.aload_n 0, 1) := by decide +kernel
theorem dX12_decides_91 : decode cX12_decides 91 = .ok (.getfield 144, 3) := by decide +kernel
theorem dX12_decides_94 : decode cX12_decides 94 = .ok (.aload_n 0, 1) := by decide +kernel
theorem dX12_decides_95 : decode cX12_decides 95 = .ok (.getfield 82, 3) := by decide +kernel
theorem dX12_decides_98 : decode cX12_decides 98 = .ok (.iconst 1, 1) := by decide +kernel
theorem dX12_decides_99 : decode cX12_decides 99 = .ok (.isub, 1) := by decide +kernel
theorem dX12_decides_100 : decode cX12_decides 100 = .ok (.if_icmp .ne 11, 3) := by decide +kernel
theorem dX12_decides_103 : decode cX12_decides 103 = .ok (.aload_n 0, 1) := by decide +kernel
theorem dX12_decides_104 : decode cX12_decides 104 = .ok (.iconst 1, 1) := by decide +kernel
theorem dX12_decides_105 : decode cX12_decides 105 = .ok (.putfield 115, 3) := by decide +kernel
theorem dX12_decides_108 : decode cX12_decides 108 = .ok (.goto 13, 3) := by decide +kernel
theorem dX12_decides_111 : decode cX12_decides 111 = .ok (.aload_n 0, 1) := by decide +kernel
theorem dX12_decides_112 : decode cX12_decides 112 = .ok (.dup, 1) := by decide +kernel
theorem dX12_decides_113 : decode cX12_decides 113 = .ok (.getfield 144, 3) := by decide +kernel
theorem dX12_decides_116 : decode cX12_decides 116 = .ok (.iconst 1, 1) := by decide +kernel
theorem dX12_decides_117 : decode cX12_decides 117 = .ok (.iadd, 1) := by decide +kernel
theorem dX12_decides_118 : decode cX12_decides 118 = .ok (.putfield 144, 3) := by decide +kernel
theorem dX12_decides_121 : decode cX12_decides 121 = .ok (.aload_n 0, 1) := by decide +kernel
theorem dX12_decides_122 : decode cX12_decides 122 = .ok (.iconst 0, 1) := by decide +kernel
theorem dX12_decides_123 : decode cX12_decides 123 = .ok (.putfield 210, 3) := by decide +kernel
theorem dX12_decides_126 : decode cX12_decides 126 = .ok (.iload_n 3, 1) := by decide +kernel
theorem dX12_decides_127 : decode cX12_decides 127 = .ok (.ifCond .eq 7, 3) := by decide +kernel
theorem dX12_decides_130 : decode cX12_decides 130 = .ok (.iconst 1, 1) := by decide +kernel
theorem dX12_decides_131 : decode cX12_decides 131 = .ok (.goto 4, 3) := by decide +kernel
theorem dX12_decides_134 : decode cX12_decides 134 = .ok (.iconst 0, 1) := by decide +kernel
theorem dX12_decides_135 : decode cX12_decides 135 = .ok (.ireturn, 1) := by decide +kernel
theorem dX12_goes_0 : decode cX12_goes 0 = .ok (.aload_n 0, 1) := by decide +kernel
theorem dX12_goes_1 : decode cX12_goes 1 = .ok (.invokevirtual 213, 3) := by decide +kernel
theorem dX12_goes_4 : decode cX12_goes 4 = .ok (.ifCond .ne 10, 3) := by decide +kernel
theorem dX12_goes_7 : decode cX12_goes 7 = .ok (.aload_n 0, 1) := by decide +kernel
theorem dX12_goes_8 : decode cX12_goes 8 = .ok (.invokevirtual 216, 3) := by decide +kernel
theorem dX12_goes_11 : decode cX12_goes 11 = .ok (.ifCond .ne 10, 3) := by decide +kernel
theorem dX12_goes_14 : decode cX12_goes 14 = .ok (.aload_n 0, 1) := by decide +kernel
theorem dX12_goes_15 : decode cX12_goes 15 = .ok (.bipush (-3), 2) := by decide +kernel
theorem dX12_goes_17 : decode cX12_goes 17 = .ok (.invokevirtual 93, 3) := by decide +kernel
theorem dX12_goes_20 : decode cX12_goes 20 = .ok (.ireturn, 1) := by decide +kernel
theorem dX12_goes_21 : decode cX12_goes 21 = .ok (.iload_n 1, 1) := by decide +kernel
theorem dX12_goes_22 : decode cX12_goes 22 = .ok (.ifCond .ge 12, 3) := by decide +kernel
theorem dX12_goes_25 : decode cX12_goes 25 = .ok (.aload_n 0, 1) := by decide +kernel
theorem dX12_goes_26 : decode cX12_goes 26 = .ok (.bipush (-4), 2) := by decide +kernel
theorem dX12_goes_28 : decode cX12_goes 28 = .ok (.invokevirtual 93, 3) := by decide +kernel
theorem dX12_goes_31 : decode cX12_goes 31 = .ok (.goto 8, 3) := by decide +kernel
theorem dX12_goes_34 : decode cX12_goes 34 = .ok (.aload_n 0, 1) := by decide +kernel
theorem dX12_goes_35 : decode cX12_goes 35 = .ok (.iload_n 1, 1) := by decide +kernel
theorem dX12_goes_36 : decode cX12_goes 36 = .ok (.invokevirtual 219, 3) := by decide +kernel
theorem dX12_goes_39 : decode cX12_goes 39 = .ok (.ireturn, 1) := by decide +kernel
theorem dX12_says_0 : decode cX12_says 0 = .ok (.aload_n 0, 1) := by decide +kernel
theorem dX12_says_1 : decode cX12_says 1 = .ok (.invokevirtual 213, 3) := by decide +kernel
theorem dX12_says_4 : decode cX12_says 4 = .ok (.ifCond .eq 10, 3) := by decide +kernel
theorem dX12_says_7 : decode cX12_says 7 = .ok (.aload_n 0, 1) := by decide +kernel
theorem dX12_says_8 : decode cX12_says 8 = .ok (.bipush (-3), 2) := by decide +kernel
theorem dX12_says_10 : decode cX12_says 10 = .ok (.invokevirtual 93, 3) := by decide +kernel
theorem dX12_says_13 : decode cX12_says 13 = .ok (.ireturn, 1) := by decide +kernel
theorem dX12_says_14 : decode cX12_says 14 = .ok (.aload_n 0, 1) := by decide +kernel
theorem dX12_says_15 : decode cX12_says 15 = .ok (.invokevirtual 204, 3) := by decide +kernel
theorem dX12_says_18 : decode cX12_says 18 = .ok (.aload_n 0, 1) := by decide +kernel
theorem dX12_says_19 : decode cX12_says 19 = .ok (.getfield 210, 3) := by decide +kernel
theorem dX12_says_22 : decode cX12_says 22 = .ok (.istore_n 1, 1) := by decide +kernel
theorem dX12_says_23 : decode cX12_says 23 = .ok (.iconst 0, 1) := by decide +kernel
theorem dX12_says_24 : decode cX12_says 24 = .ok (.istore_n 2, 1) := by decide +kernel
theorem dX12_says_25 : decode cX12_says 25 = .ok (.iload_n 2, 1) := by decide +kernel
theorem dX12_says_26 : decode cX12_says 26 = .ok (.bipush 8, 2) := by decide +kernel
theorem dX12_says_28 : decode cX12_says 28 = .ok (.if_icmp .ge 21, 3) := by decide +kernel
theorem dX12_says_31 : decode cX12_says 31 = .ok (.aload_n 0, 1) := by decide +kernel
theorem dX12_says_32 : decode cX12_says 32 = .ok (.getfield 67, 3) := by decide +kernel
theorem dX12_says_35 : decode cX12_says 35 = .ok (.iload_n 2, 1) := by decide +kernel
theorem dX12_says_36 : decode cX12_says 36 = .ok (.aload_n 0, 1) := by decide +kernel
theorem dX12_says_37 : decode cX12_says 37 = .ok (.getfield 64, 3) := by decide +kernel
theorem dX12_says_40 : decode cX12_says 40 = .ok (.iload_n 2, 1) := by decide +kernel
theorem dX12_says_41 : decode cX12_says 41 = .ok (.iaload, 1) := by decide +kernel
theorem dX12_says_42 : decode cX12_says 42 = .ok (.iastore, 1) := by decide +kernel
theorem dX12_says_43 : decode cX12_says 43 = .ok (.iinc 2 1, 3) := by decide +kernel
theorem dX12_says_46 : decode cX12_says 46 = .ok (.goto (-21), 3) := by decide +kernel
theorem dX12_says_49 : decode cX12_says 49 = .ok (.aload_n 0, 1) := by decide +kernel
theorem dX12_says_50 : decode cX12_says 50 = .ok (.aload_n 0, 1) := by decide +kernel
theorem dX12_says_51 : decode cX12_says 51 = .ok (.getfield 82, 3) := by decide +kernel
theorem dX12_says_54 : decode cX12_says 54 = .ok (.aload_n 0, 1) := by decide +kernel
theorem dX12_says_55 : decode cX12_says 55 = .ok (.getfield 144, 3) := by decide +kernel
theorem dX12_says_58 : decode cX12_says 58 = .ok (.isub, 1) := by decide +kernel
theorem dX12_says_59 : decode cX12_says 59 = .ok (.putfield 210, 3) := by decide +kernel
theorem dX12_says_62 : decode cX12_says 62 = .ok (.iconst 0, 1) := by decide +kernel
theorem dX12_says_63 : decode cX12_says 63 = .ok (.istore_n 2, 1) := by decide +kernel
theorem dX12_says_64 : decode cX12_says 64 = .ok (.iload_n 2, 1) := by decide +kernel
theorem dX12_says_65 : decode cX12_says 65 = .ok (.aload_n 0, 1) := by decide +kernel
theorem dX12_says_66 : decode cX12_says 66 = .ok (.getfield 210, 3) := by decide +kernel
theorem dX12_says_69 : decode cX12_says 69 = .ok (.if_icmp .ge 34, 3) := by decide +kernel
theorem dX12_says_72 : decode cX12_says 72 = .ok (.aload_n 0, 1) := by decide +kernel
theorem dX12_says_73 : decode cX12_says 73 = .ok (.getfield 64, 3) := by decide +kernel
theorem dX12_says_76 : decode cX12_says 76 = .ok (.iload_n 2, 1) := by decide +kernel
theorem dX12_says_77 : decode cX12_says 77 = .ok (.aload_n 0, 1) := by decide +kernel
theorem dX12_says_78 : decode cX12_says 78 = .ok (.getfield 46, 3) := by decide +kernel
theorem dX12_says_81 : decode cX12_says 81 = .ok (.bipush 9, 2) := by decide +kernel
theorem dX12_says_83 : decode cX12_says 83 = .ok (.aload_n 0, 1) := by decide +kernel
theorem dX12_says_84 : decode cX12_says 84 = .ok (.getfield 144, 3) := by decide +kernel
theorem dX12_says_87 : decode cX12_says 87 = .ok (.imul, 1) := by decide +kernel
theorem dX12_says_88 : decode cX12_says 88 = .ok (.aload_n 0, 1) := by decide +kernel
theorem dX12_says_89 : decode cX12_says 89 = .ok (.getfield 144, 3) := by decide +kernel
theorem dX12_says_92 : decode cX12_says 92 = .ok (.iadd, 1) := by decide +kernel
theorem dX12_says_93 : decode cX12_says 93 = .ok (.iload_n 2, 1) := by decide +kernel
theorem dX12_says_94 : decode cX12_says 94 = .ok (.iadd, 1) := by decide +kernel
theorem dX12_says_95 : decode cX12_says 95 = .ok (.iaload, 1) := by decide +kernel
theorem dX12_says_96 : decode cX12_says 96 = .ok (.iastore, 1) := by decide +kernel
theorem dX12_says_97 : decode cX12_says 97 = .ok (.iinc 2 1, 3) := by decide +kernel
theorem dX12_says_100 : decode cX12_says 100 = .ok (.goto (-36), 3) := by decide +kernel
theorem dX12_says_103 : decode cX12_says 103 = .ok (.aload_n 0, 1) := by decide +kernel
theorem dX12_says_104 : decode cX12_says 104 = .ok (.aload_n 0, 1) := by decide +kernel
theorem dX12_says_105 : decode cX12_says 105 = .ok (.getfield 52, 3) := by decide +kernel
theorem dX12_says_108 : decode cX12_says 108 = .ok (.aload_n 0, 1) := by decide +kernel
theorem dX12_says_109 : decode cX12_says 109 = .ok (.getfield 144, 3) := by decide +kernel
theorem dX12_says_112 : decode cX12_says 112 = .ok (.iaload, 1) := by decide +kernel
theorem dX12_says_113 : decode cX12_says 113 = .ok (.invokevirtual 219, 3) := by decide +kernel
theorem dX12_says_116 : decode cX12_says 116 = .ok (.istore_n 2, 1) := by decide +kernel
theorem dX12_says_117 : decode cX12_says 117 = .ok (.iconst 0, 1) := by decide +kernel
theorem dX12_says_118 : decode cX12_says 118 = .ok (.istore_n 3, 1) := by decide +kernel
theorem dX12_says_119 : decode cX12_says 119 = .ok (.iload_n 3, 1) := by decide +kernel
theorem dX12_says_120 : decode cX12_says 120 = .ok (.bipush 8, 2) := by decide +kernel
theorem dX12_says_122 : decode cX12_says 122 = .ok (.if_icmp .ge 21, 3) := by decide +kernel
theorem dX12_says_125 : decode cX12_says 125 = .ok (.aload_n 0, 1) := by decide +kernel
theorem dX12_says_126 : decode cX12_says 126 = .ok (.getfield 64, 3) := by decide +kernel
theorem dX12_says_129 : decode cX12_says 129 = .ok (.iload_n 3, 1) := by decide +kernel
theorem dX12_says_130 : decode cX12_says 130 = .ok (.aload_n 0, 1) := by decide +kernel
theorem dX12_says_131 : decode cX12_says 131 = .ok (.getfield 67, 3) := by decide +kernel
theorem dX12_says_134 : decode cX12_says 134 = .ok (.iload_n 3, 1) := by decide +kernel
theorem dX12_says_135 : decode cX12_says 135 = .ok (.iaload, 1) := by decide +kernel
theorem dX12_says_136 : decode cX12_says 136 = .ok (.iastore, 1) := by decide +kernel
theorem dX12_says_137 : decode cX12_says 137 = .ok (.iinc 3 1, 3) := by decide +kernel
theorem dX12_says_140 : decode cX12_says 140 = .ok (.goto (-21), 3) := by decide +kernel
theorem dX12_says_143 : decode cX12_says 143 = .ok (.aload_n 0, 1) := by decide +kernel
theorem dX12_says_144 : decode cX12_says 144 = .ok (.iload_n 1, 1) := by decide +kernel
theorem dX12_says_145 : decode cX12_says 145 = .ok (.putfield 210, 3) := by decide +kernel
theorem dX12_says_148 : decode cX12_says 148 = .ok (.iload_n 2, 1) := by decide +kernel
theorem dX12_says_149 : decode cX12_says 149 = .ok (.ireturn, 1) := by decide +kernel
theorem dX12_got_0 : decode cX12_got 0 = .ok (.aload_n 0, 1) := by decide +kernel
theorem dX12_got_1 : decode cX12_got 1 = .ok (.iload_n 1, 1) := by decide +kernel
theorem dX12_got_2 : decode cX12_got 2 = .ok (.invokevirtual 150, 3) := by decide +kernel
theorem dX12_got_5 : decode cX12_got 5 = .ok (.ifCond .eq 12, 3) := by decide +kernel
theorem dX12_got_8 : decode cX12_got 8 = .ok (.aload_n 0, 1) := by decide +kernel
theorem dX12_got_9 : decode cX12_got 9 = .ok (.getfield 22, 3) := by decide +kernel
theorem dX12_got_12 : decode cX12_got 12 = .ok (.iload_n 1, 1) := by decide +kernel
theorem dX12_got_13 : decode cX12_got 13 = .ok (.iaload, 1) := by decide +kernel
theorem dX12_got_14 : decode cX12_got 14 = .ok (.goto 8, 3) := by decide +kernel
theorem dX12_got_17 : decode cX12_got 17 = .ok (.aload_n 0, 1) := by decide +kernel
theorem dX12_got_18 : decode cX12_got 18 = .ok (.iconst (-1), 1) := by decide +kernel
theorem dX12_got_19 : decode cX12_got 19 = .ok (.invokevirtual 207, 3) := by decide +kernel
theorem dX12_got_22 : decode cX12_got 22 = .ok (.ireturn, 1) := by decide +kernel
theorem dX12_enough_0 : decode cX12_enough 0 = .ok (.iconst 0, 1) := by decide +kernel
theorem dX12_enough_1 : decode cX12_enough 1 = .ok (.istore_n 2, 1) := by decide +kernel
theorem dX12_enough_2 : decode cX12_enough 2 = .ok (.aload_n 0, 1) := by decide +kernel
theorem dX12_enough_3 : decode cX12_enough 3 = .ok (.getfield 25, 3) := by decide +kernel
theorem dX12_enough_6 : decode cX12_enough 6 = .ok (.iconst 1, 1) := by decide +kernel
theorem dX12_enough_7 : decode cX12_enough 7 = .ok (.iaload, 1) := by decide +kernel
theorem dX12_enough_8 : decode cX12_enough 8 = .ok (.iload_n 2, 1) := by decide +kernel
theorem dX12_enough_9 : decode cX12_enough 9 = .ok (.iload_n 1, 1) := by decide +kernel
theorem dX12_enough_10 : decode cX12_enough 10 = .ok (.invokestatic 168, 3) := by decide +kernel
theorem dX12_enough_13 : decode cX12_enough 13 = .ok (.ifCond .ne 9, 3) := by decide +kernel
theorem dX12_enough_16 : decode cX12_enough 16 = .ok (.iinc 2 1, 3) := by decide +kernel
theorem dX12_enough_19 : decode cX12_enough 19 = .ok (.goto (-17), 3) := by decide +kernel
theorem dX12_enough_22 : decode cX12_enough 22 = .ok (.iload_n 2, 1) := by decide +kernel
theorem dX12_enough_23 : decode cX12_enough 23 = .ok (.ireturn, 1) := by decide +kernel
theorem dX12_withPrice_0 : decode cX12_withPrice 0 = .ok (.iconst 0, 1) := by decide +kernel
theorem dX12_withPrice_1 : decode cX12_withPrice 1 = .ok (.istore 4, 2) := by decide +kernel
theorem dX12_withPrice_3 : decode cX12_withPrice 3 = .ok (.iload_n 1, 1) := by decide +kernel
theorem dX12_withPrice_4 : decode cX12_withPrice 4 = .ok (.istore 5, 2) := by decide +kernel
theorem dX12_withPrice_6 : decode cX12_withPrice 6 = .ok (.iload 5, 2) := by decide +kernel
theorem dX12_withPrice_8 : decode cX12_withPrice 8 = .ok (.iload_n 2, 1) := by decide +kernel
theorem dX12_withPrice_9 : decode cX12_withPrice 9 = .ok (.if_icmp .ge 30, 3) := by decide +kernel
theorem dX12_withPrice_12 : decode cX12_withPrice 12 = .ok (.iload 4, 2) := by decide +kernel
theorem dX12_withPrice_14 : decode cX12_withPrice 14 = .ok (.aload_n 0, 1) := by decide +kernel
theorem dX12_withPrice_15 : decode cX12_withPrice 15 = .ok (.getfield 73, 3) := by decide +kernel
theorem dX12_withPrice_18 : decode cX12_withPrice 18 = .ok (.iload 5, 2) := by decide +kernel
theorem dX12_withPrice_20 : decode cX12_withPrice 20 = .ok (.iaload, 1) := by decide +kernel
theorem dX12_withPrice_21 : decode cX12_withPrice 21 = .ok (.iload_n 3, 1) := by decide +kernel
theorem dX12_withPrice_22 : decode cX12_withPrice 22 = .ok (.if_icmp .ne 7, 3) := by decide +kernel
theorem dX12_withPrice_25 : decode cX12_withPrice 25 = .ok (.iconst 1, 1) := by decide +kernel
theorem dX12_withPrice_26 : decode cX12_withPrice 26 = .ok (.goto 4, 3) := by decide +kernel
theorem dX12_withPrice_29 : decode cX12_withPrice 29 = .ok (.iconst 0, 1) := by decide +kernel
theorem dX12_withPrice_30 : decode cX12_withPrice 30 = .ok (.iadd, 1) := by decide +kernel
theorem dX12_withPrice_31 : decode cX12_withPrice 31 = .ok (.istore 4, 2) := by decide +kernel
theorem dX12_withPrice_33 : decode cX12_withPrice 33 = .ok (.iinc 5 1, 3) := by decide +kernel
theorem dX12_withPrice_36 : decode cX12_withPrice 36 = .ok (.goto (-30), 3) := by decide +kernel
theorem dX12_withPrice_39 : decode cX12_withPrice 39 = .ok (.iload 4, 2) := by decide +kernel
theorem dX12_withPrice_41 : decode cX12_withPrice 41 = .ok (.ireturn, 1) := by decide +kernel
theorem dX12_likeSays_0 : decode cX12_likeSays 0 = .ok (.aload_n 0, 1) := by decide +kernel
theorem dX12_likeSays_1 : decode cX12_likeSays 1 = .ok (.iload_n 2, 1) := by decide +kernel
theorem dX12_likeSays_2 : decode cX12_likeSays 2 = .ok (.iload_n 1, 1) := by decide +kernel
theorem dX12_likeSays_3 : decode cX12_likeSays 3 = .ok (.isub, 1) := by decide +kernel
theorem dX12_likeSays_4 : decode cX12_likeSays 4 = .ok (.invokevirtual 222, 3) := by decide +kernel
theorem dX12_likeSays_7 : decode cX12_likeSays 7 = .ok (.iconst 1, 1) := by decide +kernel
theorem dX12_likeSays_8 : decode cX12_likeSays 8 = .ok (.isub, 1) := by decide +kernel
theorem dX12_likeSays_9 : decode cX12_likeSays 9 = .ok (.istore 4, 2) := by decide +kernel
theorem dX12_likeSays_11 : decode cX12_likeSays 11 = .ok (.iload_n 1, 1) := by decide +kernel
theorem dX12_likeSays_12 : decode cX12_likeSays 12 = .ok (.iconst 1, 1) := by decide +kernel
theorem dX12_likeSays_13 : decode cX12_likeSays 13 = .ok (.iadd, 1) := by decide +kernel
theorem dX12_likeSays_14 : decode cX12_likeSays 14 = .ok (.istore 5, 2) := by decide +kernel
theorem dX12_likeSays_16 : decode cX12_likeSays 16 = .ok (.iload 5, 2) := by decide +kernel
theorem dX12_likeSays_18 : decode cX12_likeSays 18 = .ok (.iload_n 2, 1) := by decide +kernel
theorem dX12_likeSays_19 : decode cX12_likeSays 19 = .ok (.if_icmp .ge 48, 3) := by decide +kernel
theorem dX12_likeSays_22 : decode cX12_likeSays 22 = .ok (.aload_n 0, 1) := by decide +kernel
theorem dX12_likeSays_23 : decode cX12_likeSays 23 = .ok (.getfield 73, 3) := by decide +kernel
theorem dX12_likeSays_26 : decode cX12_likeSays 26 = .ok (.iload 5, 2) := by decide +kernel
theorem dX12_likeSays_28 : decode cX12_likeSays 28 = .ok (.aload_n 0, 1) := by decide +kernel
theorem dX12_likeSays_29 : decode cX12_likeSays 29 = .ok (.getfield 25, 3) := by decide +kernel
theorem dX12_likeSays_32 : decode cX12_likeSays 32 = .ok (.iconst 2, 1) := by decide +kernel
theorem dX12_likeSays_33 : decode cX12_likeSays 33 = .ok (.iaload, 1) := by decide +kernel
theorem dX12_likeSays_34 : decode cX12_likeSays 34 = .ok (.iconst 1, 1) := by decide +kernel
theorem dX12_likeSays_35 : decode cX12_likeSays 35 = .ok (.if_icmp .ne 13, 3) := by decide +kernel
theorem dX12_likeSays_38 : decode cX12_likeSays 38 = .ok (.aload_n 0, 1) := by decide +kernel
theorem dX12_likeSays_39 : decode cX12_likeSays 39 = .ok (.getfield 70, 3) := by decide +kernel
theorem dX12_likeSays_42 : decode cX12_likeSays 42 = .ok (.iload 5, 2) := by decide +kernel
theorem dX12_likeSays_44 : decode cX12_likeSays 44 = .ok (.iaload, 1) := by decide +kernel
theorem dX12_likeSays_45 : decode cX12_likeSays 45 = .ok (.goto 12, 3) := by decide +kernel
theorem dX12_likeSays_48 : decode cX12_likeSays 48 = .ok (.aload_n 0, 1) := by decide +kernel
theorem dX12_likeSays_49 : decode cX12_likeSays 49 = .ok (.getfield 70, 3) := by decide +kernel
theorem dX12_likeSays_52 : decode cX12_likeSays 52 = .ok (.iload 5, 2) := by decide +kernel
theorem dX12_likeSays_54 : decode cX12_likeSays 54 = .ok (.iaload, 1) := by decide +kernel
theorem dX12_likeSays_55 : decode cX12_likeSays 55 = .ok (.iconst 1, 1) := by decide +kernel
theorem dX12_likeSays_56 : decode cX12_likeSays 56 = .ok (.iadd, 1) := by decide +kernel
theorem dX12_likeSays_57 : decode cX12_likeSays 57 = .ok (.invokestatic 156, 3) := by decide +kernel
theorem dX12_likeSays_60 : decode cX12_likeSays 60 = .ok (.iastore, 1) := by decide +kernel
theorem dX12_likeSays_61 : decode cX12_likeSays 61 = .ok (.iinc 5 1, 3) := by decide +kernel
theorem dX12_likeSays_64 : decode cX12_likeSays 64 = .ok (.goto (-48), 3) := by decide +kernel
theorem dX12_likeSays_67 : decode cX12_likeSays 67 = .ok (.iload 4, 2) := by decide +kernel
theorem dX12_likeSays_69 : decode cX12_likeSays 69 = .ok (.aload_n 0, 1) := by decide +kernel
theorem dX12_likeSays_70 : decode cX12_likeSays 70 = .ok (.iload_n 1, 1) := by decide +kernel
theorem dX12_likeSays_71 : decode cX12_likeSays 71 = .ok (.iconst 1, 1) := by decide +kernel
theorem dX12_likeSays_72 : decode cX12_likeSays 72 = .ok (.iadd, 1) := by decide +kernel
theorem dX12_likeSays_73 : decode cX12_likeSays 73 = .ok (.iload_n 2, 1) := by decide +kernel
theorem dX12_likeSays_74 : decode cX12_likeSays 74 = .ok (.iconst 0, 1) := by decide +kernel
theorem dX12_likeSays_75 : decode cX12_likeSays 75 = .ok (.invokevirtual 225, 3) := by decide +kernel
theorem dX12_likeSays_78 : decode cX12_likeSays 78 = .ok (.isub, 1) := by decide +kernel
theorem dX12_likeSays_79 : decode cX12_likeSays 79 = .ok (.istore 4, 2) := by decide +kernel
theorem dX12_likeSays_81 : decode cX12_likeSays 81 = .ok (.iconst 0, 1) := by decide +kernel
theorem dX12_likeSays_82 : decode cX12_likeSays 82 = .ok (.istore 5, 2) := by decide +kernel
theorem dX12_likeSays_84 : decode cX12_likeSays 84 = .ok (.iconst 0, 1) := by decide +kernel
theorem dX12_likeSays_85 : decode cX12_likeSays 85 = .ok (.istore 6, 2) := by decide +kernel
theorem dX12_likeSays_87 : decode cX12_likeSays 87 = .ok (.iload 4, 2) := by decide +kernel
theorem dX12_likeSays_89 : decode cX12_likeSays 89 = .ok (.invokestatic 156, 3) := by decide +kernel
theorem dX12_likeSays_92 : decode cX12_likeSays 92 = .ok (.istore 7, 2) := by decide +kernel
theorem dX12_likeSays_94 : decode cX12_likeSays 94 = .ok (.iload 7, 2) := by decide +kernel
theorem dX12_likeSays_96 : decode cX12_likeSays 96 = .ok (.ifCond .le 69, 3) := by decide +kernel
theorem dX12_likeSays_99 : decode cX12_likeSays 99 = .ok (.iload 5, 2) := by decide +kernel
theorem dX12_likeSays_101 : decode cX12_likeSays 101 = .ok (.iload_n 3, 1) := by decide +kernel
theorem dX12_likeSays_102 : decode cX12_likeSays 102 = .ok (.if_icmp .gt 63, 3) := by decide +kernel
theorem dX12_likeSays_105 : decode cX12_likeSays 105 = .ok (.iinc 6 1, 3) := by decide +kernel
theorem dX12_likeSays_108 : decode cX12_likeSays 108 = .ok (.aload_n 0, 1) := by decide +kernel
theorem dX12_likeSays_109 : decode cX12_likeSays 109 = .ok (.iload_n 1, 1) := by decide +kernel
theorem dX12_likeSays_110 : decode cX12_likeSays 110 = .ok (.iconst 1, 1) := by decide +kernel
theorem dX12_likeSays_111 : decode cX12_likeSays 111 = .ok (.iadd, 1) := by decide +kernel
theorem dX12_likeSays_112 : decode cX12_likeSays 112 = .ok (.iload_n 2, 1) := by decide +kernel
theorem dX12_likeSays_113 : decode cX12_likeSays 113 = .ok (.iload 6, 2) := by decide +kernel
theorem dX12_likeSays_115 : decode cX12_likeSays 115 = .ok (.invokevirtual 225, 3) := by decide +kernel
theorem dX12_likeSays_118 : decode cX12_likeSays 118 = .ok (.istore 8, 2) := by decide +kernel
theorem dX12_likeSays_120 : decode cX12_likeSays 120 = .ok (.iload 8, 2) := by decide +kernel
theorem dX12_likeSays_122 : decode cX12_likeSays 122 = .ok (.iload 7, 2) := by decide +kernel
theorem dX12_likeSays_124 : decode cX12_likeSays 124 = .ok (.if_icmp .ge 8, 3) := by decide +kernel
theorem dX12_likeSays_127 : decode cX12_likeSays 127 = .ok (.iload 8, 2) := by decide +kernel
theorem dX12_likeSays_129 : decode cX12_likeSays 129 = .ok (.goto 5, 3) := by decide +kernel
theorem dX12_likeSays_132 : decode cX12_likeSays 132 = .ok (.iload 7, 2) := by decide +kernel
theorem dX12_likeSays_134 : decode cX12_likeSays 134 = .ok (.istore 9, 2) := by decide +kernel
theorem dX12_likeSays_136 : decode cX12_likeSays 136 = .ok (.iload 5, 2) := by decide +kernel
theorem dX12_likeSays_138 : decode cX12_likeSays 138 = .ok (.iload 6, 2) := by decide +kernel
theorem dX12_likeSays_140 : decode cX12_likeSays 140 = .ok (.iload 9, 2) := by decide +kernel
theorem dX12_likeSays_142 : decode cX12_likeSays 142 = .ok (.imul, 1) := by decide +kernel
theorem dX12_likeSays_143 : decode cX12_likeSays 143 = .ok (.iadd, 1) := by decide +kernel
theorem dX12_likeSays_144 : decode cX12_likeSays 144 = .ok (.istore 5, 2) := by decide +kernel
theorem dX12_likeSays_146 : decode cX12_likeSays 146 = .ok (.iload 7, 2) := by decide +kernel
theorem dX12_likeSays_148 : decode cX12_likeSays 148 = .ok (.iload 9, 2) := by decide +kernel
theorem dX12_likeSays_150 : decode cX12_likeSays 150 = .ok (.isub, 1) := by decide +kernel
theorem dX12_likeSays_151 : decode cX12_likeSays 151 = .ok (.istore 7, 2) := by decide +kernel
theorem dX12_likeSays_153 : decode cX12_likeSays 153 = .ok (.iload 6, 2) := by decide +kernel
theorem dX12_likeSays_155 : decode cX12_likeSays 155 = .ok (.bipush 100, 2) := by decide +kernel
theorem dX12_likeSays_157 : decode cX12_likeSays 157 = .ok (.if_icmp .le 5, 3) := by decide +kernel
theorem dX12_likeSays_160 : decode cX12_likeSays 160 = .ok (.iconst 0, 1) := by decide +kernel
theorem dX12_likeSays_161 : decode cX12_likeSays 161 = .ok (.ireturn, 1) := by decide +kernel
theorem dX12_likeSays_162 : decode cX12_likeSays 162 = .ok (.goto (-68), 3) := by decide +kernel
theorem dX12_likeSays_165 : decode cX12_likeSays 165 = .ok (.iload 5, 2) := by decide +kernel
theorem dX12_likeSays_167 : decode cX12_likeSays 167 = .ok (.iload_n 3, 1) := by decide +kernel
theorem dX12_likeSays_168 : decode cX12_likeSays 168 = .ok (.if_icmp .le 5, 3) := by decide +kernel
theorem dX12_likeSays_171 : decode cX12_likeSays 171 = .ok (.iconst 0, 1) := by decide +kernel
theorem dX12_likeSays_172 : decode cX12_likeSays 172 = .ok (.ireturn, 1) := by decide +kernel
theorem dX12_likeSays_173 : decode cX12_likeSays 173 = .ok (.aload_n 0, 1) := by decide +kernel
theorem dX12_likeSays_174 : decode cX12_likeSays 174 = .ok (.iload_n 1, 1) := by decide +kernel
theorem dX12_likeSays_175 : decode cX12_likeSays 175 = .ok (.iload_n 2, 1) := by decide +kernel
theorem dX12_likeSays_176 : decode cX12_likeSays 176 = .ok (.iload 6, 2) := by decide +kernel
theorem dX12_likeSays_178 : decode cX12_likeSays 178 = .ok (.iload 4, 2) := by decide +kernel
theorem dX12_likeSays_180 : decode cX12_likeSays 180 = .ok (.invokestatic 156, 3) := by decide +kernel
theorem dX12_likeSays_183 : decode cX12_likeSays 183 = .ok (.invokevirtual 228, 3) := by decide +kernel
theorem dX12_likeSays_186 : decode cX12_likeSays 186 = .ok (.aload_n 0, 1) := by decide +kernel
theorem dX12_likeSays_187 : decode cX12_likeSays 187 = .ok (.getfield 70, 3) := by decide +kernel
theorem dX12_likeSays_190 : decode cX12_likeSays 190 = .ok (.iload_n 1, 1) := by decide +kernel
theorem dX12_likeSays_191 : decode cX12_likeSays 191 = .ok (.iload_n 3, 1) := by decide +kernel
theorem dX12_likeSays_192 : decode cX12_likeSays 192 = .ok (.iload 5, 2) := by decide +kernel
theorem dX12_likeSays_194 : decode cX12_likeSays 194 = .ok (.isub, 1) := by decide +kernel
theorem dX12_likeSays_195 : decode cX12_likeSays 195 = .ok (.iastore, 1) := by decide +kernel
theorem dX12_likeSays_196 : decode cX12_likeSays 196 = .ok (.iconst 1, 1) := by decide +kernel
theorem dX12_likeSays_197 : decode cX12_likeSays 197 = .ok (.ireturn, 1) := by decide +kernel
theorem dX12_likeTakes_0 : decode cX12_likeTakes 0 = .ok (.iload 4, 2) := by decide +kernel
theorem dX12_likeTakes_2 : decode cX12_likeTakes 2 = .ok (.istore 5, 2) := by decide +kernel
theorem dX12_likeTakes_4 : decode cX12_likeTakes 4 = .ok (.iconst 1, 1) := by decide +kernel
theorem dX12_likeTakes_5 : decode cX12_likeTakes 5 = .ok (.istore 6, 2) := by decide +kernel
theorem dX12_likeTakes_7 : decode cX12_likeTakes 7 = .ok (.iload 6, 2) := by decide +kernel
theorem dX12_likeTakes_9 : decode cX12_likeTakes 9 = .ok (.iload_n 3, 1) := by decide +kernel
theorem dX12_likeTakes_10 : decode cX12_likeTakes 10 = .ok (.if_icmp .ge 24, 3) := by decide +kernel
theorem dX12_likeTakes_13 : decode cX12_likeTakes 13 = .ok (.iload 5, 2) := by decide +kernel
theorem dX12_likeTakes_15 : decode cX12_likeTakes 15 = .ok (.aload_n 0, 1) := by decide +kernel
theorem dX12_likeTakes_16 : decode cX12_likeTakes 16 = .ok (.iload_n 1, 1) := by decide +kernel
theorem dX12_likeTakes_17 : decode cX12_likeTakes 17 = .ok (.iconst 1, 1) := by decide +kernel
theorem dX12_likeTakes_18 : decode cX12_likeTakes 18 = .ok (.iadd, 1) := by decide +kernel
theorem dX12_likeTakes_19 : decode cX12_likeTakes 19 = .ok (.iload_n 2, 1) := by decide +kernel
theorem dX12_likeTakes_20 : decode cX12_likeTakes 20 = .ok (.iload 6, 2) := by decide +kernel
theorem dX12_likeTakes_22 : decode cX12_likeTakes 22 = .ok (.invokevirtual 225, 3) := by decide +kernel
theorem dX12_likeTakes_25 : decode cX12_likeTakes 25 = .ok (.isub, 1) := by decide +kernel
theorem dX12_likeTakes_26 : decode cX12_likeTakes 26 = .ok (.istore 5, 2) := by decide +kernel
theorem dX12_likeTakes_28 : decode cX12_likeTakes 28 = .ok (.iinc 6 1, 3) := by decide +kernel
theorem dX12_likeTakes_31 : decode cX12_likeTakes 31 = .ok (.goto (-24), 3) := by decide +kernel
theorem dX12_likeTakes_34 : decode cX12_likeTakes 34 = .ok (.iload_n 1, 1) := by decide +kernel
theorem dX12_likeTakes_35 : decode cX12_likeTakes 35 = .ok (.iconst 1, 1) := by decide +kernel
theorem dX12_likeTakes_36 : decode cX12_likeTakes 36 = .ok (.iadd, 1) := by decide +kernel
theorem dX12_likeTakes_37 : decode cX12_likeTakes 37 = .ok (.istore 6, 2) := by decide +kernel
theorem dX12_likeTakes_39 : decode cX12_likeTakes 39 = .ok (.iload 6, 2) := by decide +kernel
theorem dX12_likeTakes_41 : decode cX12_likeTakes 41 = .ok (.iload_n 2, 1) := by decide +kernel
theorem dX12_likeTakes_42 : decode cX12_likeTakes 42 = .ok (.if_icmp .ge 108, 3) := by decide +kernel
theorem dX12_likeTakes_45 : decode cX12_likeTakes 45 = .ok (.aload_n 0, 1) := by decide +kernel
theorem dX12_likeTakes_46 : decode cX12_likeTakes 46 = .ok (.getfield 25, 3) := by decide +kernel
theorem dX12_likeTakes_49 : decode cX12_likeTakes 49 = .ok (.iconst 3, 1) := by decide +kernel
theorem dX12_likeTakes_50 : decode cX12_likeTakes 50 = .ok (.iaload, 1) := by decide +kernel
theorem dX12_likeTakes_51 : decode cX12_likeTakes 51 = .ok (.ifCond .ne 8, 3) := by decide +kernel
theorem dX12_likeTakes_54 : decode cX12_likeTakes 54 = .ok (.iload 6, 2) := by decide +kernel
theorem dX12_likeTakes_56 : decode cX12_likeTakes 56 = .ok (.goto 9, 3) := by decide +kernel
theorem dX12_likeTakes_59 : decode cX12_likeTakes 59 = .ok (.iload_n 2, 1) := by decide +kernel
theorem dX12_likeTakes_60 : decode cX12_likeTakes 60 = .ok (.iload_n 1, 1) := by decide +kernel
theorem dX12_likeTakes_61 : decode cX12_likeTakes 61 = .ok (.iadd, 1) := by decide +kernel
theorem dX12_likeTakes_62 : decode cX12_likeTakes 62 = .ok (.iload 6, 2) := by decide +kernel
theorem dX12_likeTakes_64 : decode cX12_likeTakes 64 = .ok (.isub, 1) := by decide +kernel
theorem dX12_likeTakes_65 : decode cX12_likeTakes 65 = .ok (.istore 7, 2) := by decide +kernel
theorem dX12_likeTakes_67 : decode cX12_likeTakes 67 = .ok (.aload_n 0, 1) := by decide +kernel
theorem dX12_likeTakes_68 : decode cX12_likeTakes 68 = .ok (.getfield 73, 3) := by decide +kernel
theorem dX12_likeTakes_71 : decode cX12_likeTakes 71 = .ok (.iload 7, 2) := by decide +kernel
theorem dX12_likeTakes_73 : decode cX12_likeTakes 73 = .ok (.iaload, 1) := by decide +kernel
theorem dX12_likeTakes_74 : decode cX12_likeTakes 74 = .ok (.ifCond .le 18, 3) := by decide +kernel
theorem dX12_likeTakes_77 : decode cX12_likeTakes 77 = .ok (.aload_n 0, 1) := by decide +kernel
theorem dX12_likeTakes_78 : decode cX12_likeTakes 78 = .ok (.getfield 73, 3) := by decide +kernel
theorem dX12_likeTakes_81 : decode cX12_likeTakes 81 = .ok (.iload 7, 2) := by decide +kernel
theorem dX12_likeTakes_83 : decode cX12_likeTakes 83 = .ok (.iaload, 1) := by decide +kernel
theorem dX12_likeTakes_84 : decode cX12_likeTakes 84 = .ok (.iload_n 3, 1) := by decide +kernel
theorem dX12_likeTakes_85 : decode cX12_likeTakes 85 = .ok (.if_icmp .ge 7, 3) := by decide +kernel
theorem dX12_likeTakes_88 : decode cX12_likeTakes 88 = .ok (.iconst 1, 1) := by decide +kernel
theorem dX12_likeTakes_89 : decode cX12_likeTakes 89 = .ok (.goto 4, 3) := by decide +kernel
theorem dX12_likeTakes_92 : decode cX12_likeTakes 92 = .ok (.iconst 0, 1) := by decide +kernel
theorem dX12_likeTakes_93 : decode cX12_likeTakes 93 = .ok (.istore 8, 2) := by decide +kernel
theorem dX12_likeTakes_95 : decode cX12_likeTakes 95 = .ok (.aload_n 0, 1) := by decide +kernel
theorem dX12_likeTakes_96 : decode cX12_likeTakes 96 = .ok (.getfield 73, 3) := by decide +kernel
theorem dX12_likeTakes_99 : decode cX12_likeTakes 99 = .ok (.iload 7, 2) := by decide +kernel
theorem dX12_likeTakes_101 : decode cX12_likeTakes 101 = .ok (.iaload, 1) := by decide +kernel
theorem dX12_likeTakes_102 : decode cX12_likeTakes 102 = .ok (.iload_n 3, 1) := by decide +kernel
theorem dX12_likeTakes_103 : decode cX12_likeTakes 103 = .ok (.if_icmp .ne 18, 3) := by decide +kernel
theorem dX12_likeTakes_106 : decode cX12_likeTakes 106 = .ok (.iload_n 3, 1) := by decide +kernel
theorem dX12_likeTakes_107 : decode cX12_likeTakes 107 = .ok (.ifCond .le 14, 3) := by decide +kernel
theorem dX12_likeTakes_110 : decode cX12_likeTakes 110 = .ok (.iload 5, 2) := by decide +kernel
theorem dX12_likeTakes_112 : decode cX12_likeTakes 112 = .ok (.ifCond .le 9, 3) := by decide +kernel
theorem dX12_likeTakes_115 : decode cX12_likeTakes 115 = .ok (.iconst 1, 1) := by decide +kernel
theorem dX12_likeTakes_116 : decode cX12_likeTakes 116 = .ok (.istore 8, 2) := by decide +kernel
theorem dX12_likeTakes_118 : decode cX12_likeTakes 118 = .ok (.iinc 5 (-1), 3) := by decide +kernel
theorem dX12_likeTakes_121 : decode cX12_likeTakes 121 = .ok (.aload_n 0, 1) := by decide +kernel
theorem dX12_likeTakes_122 : decode cX12_likeTakes 122 = .ok (.getfield 70, 3) := by decide +kernel
theorem dX12_likeTakes_125 : decode cX12_likeTakes 125 = .ok (.iload 7, 2) := by decide +kernel
theorem dX12_likeTakes_127 : decode cX12_likeTakes 127 = .ok (.iload 8, 2) := by decide +kernel
theorem dX12_likeTakes_129 : decode cX12_likeTakes 129 = .ok (.ifCond .eq 13, 3) := by decide +kernel
theorem dX12_likeTakes_132 : decode cX12_likeTakes 132 = .ok (.aload_n 0, 1) := by decide +kernel
theorem dX12_likeTakes_133 : decode cX12_likeTakes 133 = .ok (.getfield 73, 3) := by decide +kernel
theorem dX12_likeTakes_136 : decode cX12_likeTakes 136 = .ok (.iload 7, 2) := by decide +kernel
theorem dX12_likeTakes_138 : decode cX12_likeTakes 138 = .ok (.iaload, 1) := by decide +kernel
theorem dX12_likeTakes_139 : decode cX12_likeTakes 139 = .ok (.goto 4, 3) := by decide +kernel
theorem dX12_likeTakes_142 : decode cX12_likeTakes 142 = .ok (.iconst 0, 1) := by decide +kernel
theorem dX12_likeTakes_143 : decode cX12_likeTakes 143 = .ok (.iastore, 1) := by decide +kernel
theorem dX12_likeTakes_144 : decode cX12_likeTakes 144 = .ok (.iinc 6 1, 3) := by decide +kernel
theorem dX12_likeTakes_147 : decode cX12_likeTakes 147 = .ok (.goto (-108), 3) := by decide +kernel
theorem dX12_likeTakes_150 : decode cX12_likeTakes 150 = .ok (.return_, 1) := by decide +kernel
theorem dX12_alike_0 : decode cX12_alike 0 = .ok (.iload_n 1, 1) := by decide +kernel
theorem dX12_alike_1 : decode cX12_alike 1 = .ok (.iconst 1, 1) := by decide +kernel
theorem dX12_alike_2 : decode cX12_alike 2 = .ok (.if_icmp .lt 11, 3) := by decide +kernel
theorem dX12_alike_5 : decode cX12_alike 5 = .ok (.iload_n 2, 1) := by decide +kernel
theorem dX12_alike_6 : decode cX12_alike 6 = .ok (.ifCond .lt 7, 3) := by decide +kernel
theorem dX12_alike_9 : decode cX12_alike 9 = .ok (.iload_n 3, 1) := by decide +kernel
theorem dX12_alike_10 : decode cX12_alike 10 = .ok (.ifCond .ge 8, 3) := by decide +kernel
theorem dX12_alike_13 : decode cX12_alike 13 = .ok (.bipush (-4), 2) := by decide +kernel
theorem dX12_alike_15 : decode cX12_alike 15 = .ok (.goto 26, 3) := by decide +kernel
theorem dX12_alike_18 : decode cX12_alike 18 = .ok (.iload_n 1, 1) := by decide +kernel
theorem dX12_alike_19 : decode cX12_alike 19 = .ok (.bipush 60, 2) := by decide +kernel
theorem dX12_alike_21 : decode cX12_alike 21 = .ok (.if_icmp .gt 14, 3) := by decide +kernel
theorem dX12_alike_24 : decode cX12_alike 24 = .ok (.iload_n 2, 1) := by decide +kernel
theorem dX12_alike_25 : decode cX12_alike 25 = .ok (.bipush 99, 2) := by decide +kernel
theorem dX12_alike_27 : decode cX12_alike 27 = .ok (.if_icmp .gt 8, 3) := by decide +kernel
theorem dX12_alike_30 : decode cX12_alike 30 = .ok (.iload_n 3, 1) := by decide +kernel
theorem dX12_alike_31 : decode cX12_alike 31 = .ok (.iload_n 1, 1) := by decide +kernel
theorem dX12_alike_32 : decode cX12_alike 32 = .ok (.if_icmp .lt 8, 3) := by decide +kernel
theorem dX12_alike_35 : decode cX12_alike 35 = .ok (.bipush (-6), 2) := by decide +kernel
theorem dX12_alike_37 : decode cX12_alike 37 = .ok (.goto 4, 3) := by decide +kernel
theorem dX12_alike_40 : decode cX12_alike 40 = .ok (.iconst 0, 1) := by decide +kernel
theorem dX12_alike_41 : decode cX12_alike 41 = .ok (.istore 5, 2) := by decide +kernel
theorem dX12_alike_43 : decode cX12_alike 43 = .ok (.iload 5, 2) := by decide +kernel
theorem dX12_alike_45 : decode cX12_alike 45 = .ok (.ifCond .eq 10, 3) := by decide +kernel
theorem dX12_alike_48 : decode cX12_alike 48 = .ok (.aload_n 0, 1) := by decide +kernel
theorem dX12_alike_49 : decode cX12_alike 49 = .ok (.iload 5, 2) := by decide +kernel
theorem dX12_alike_51 : decode cX12_alike 51 = .ok (.invokevirtual 207, 3) := by decide +kernel
theorem dX12_alike_54 : decode cX12_alike 54 = .ok (.ireturn, 1) := by decide +kernel
theorem dX12_alike_55 : decode cX12_alike 55 = .ok (.iconst 0, 1) := by decide +kernel
theorem dX12_alike_56 : decode cX12_alike 56 = .ok (.istore 6, 2) := by decide +kernel
theorem dX12_alike_58 : decode cX12_alike 58 = .ok (.iload_n 1, 1) := by decide +kernel
theorem dX12_alike_59 : decode cX12_alike 59 = .ok (.iconst 1, 1) := by decide +kernel
theorem dX12_alike_60 : decode cX12_alike 60 = .ok (.isub, 1) := by decide +kernel
theorem dX12_alike_61 : decode cX12_alike 61 = .ok (.istore 7, 2) := by decide +kernel
theorem dX12_alike_63 : decode cX12_alike 63 = .ok (.iload 7, 2) := by decide +kernel
theorem dX12_alike_65 : decode cX12_alike 65 = .ok (.ifCond .lt 32, 3) := by decide +kernel
theorem dX12_alike_68 : decode cX12_alike 68 = .ok (.aload_n 0, 1) := by decide +kernel
theorem dX12_alike_69 : decode cX12_alike 69 = .ok (.iload 7, 2) := by decide +kernel
theorem dX12_alike_71 : decode cX12_alike 71 = .ok (.iload_n 1, 1) := by decide +kernel
theorem dX12_alike_72 : decode cX12_alike 72 = .ok (.iload_n 2, 1) := by decide +kernel
theorem dX12_alike_73 : decode cX12_alike 73 = .ok (.invokevirtual 232, 3) := by decide +kernel
theorem dX12_alike_76 : decode cX12_alike 76 = .ok (.istore 6, 2) := by decide +kernel
theorem dX12_alike_78 : decode cX12_alike 78 = .ok (.iload 6, 2) := by decide +kernel
theorem dX12_alike_80 : decode cX12_alike 80 = .ok (.ifCond .ne 11, 3) := by decide +kernel
theorem dX12_alike_83 : decode cX12_alike 83 = .ok (.aload_n 0, 1) := by decide +kernel
theorem dX12_alike_84 : decode cX12_alike 84 = .ok (.getfield 70, 3) := by decide +kernel
theorem dX12_alike_87 : decode cX12_alike 87 = .ok (.iload 7, 2) := by decide +kernel
theorem dX12_alike_89 : decode cX12_alike 89 = .ok (.iconst (-1), 1) := by decide +kernel
theorem dX12_alike_90 : decode cX12_alike 90 = .ok (.iastore, 1) := by decide +kernel
theorem dX12_alike_91 : decode cX12_alike 91 = .ok (.iinc 7 (-1), 3) := by decide +kernel
theorem dX12_alike_94 : decode cX12_alike 94 = .ok (.goto (-31), 3) := by decide +kernel
theorem dX12_alike_97 : decode cX12_alike 97 = .ok (.iload 4, 2) := by decide +kernel
theorem dX12_alike_99 : decode cX12_alike 99 = .ok (.ifCond .eq 16, 3) := by decide +kernel
theorem dX12_alike_102 : decode cX12_alike 102 = .ok (.iload 6, 2) := by decide +kernel
theorem dX12_alike_104 : decode cX12_alike 104 = .ok (.ifCond .eq 7, 3) := by decide +kernel
theorem dX12_alike_107 : decode cX12_alike 107 = .ok (.iconst 1, 1) := by decide +kernel
theorem dX12_alike_108 : decode cX12_alike 108 = .ok (.goto 13, 3) := by decide +kernel
theorem dX12_alike_111 : decode cX12_alike 111 = .ok (.iconst 0, 1) := by decide +kernel
theorem dX12_alike_112 : decode cX12_alike 112 = .ok (.goto 9, 3) := by decide +kernel
theorem dX12_alike_115 : decode cX12_alike 115 = .ok (.aload_n 0, 1) := by decide +kernel
theorem dX12_alike_116 : decode cX12_alike 116 = .ok (.getfield 70, 3) := by decide +kernel
theorem dX12_alike_119 : decode cX12_alike 119 = .ok (.iload_n 3, 1) := by decide +kernel
theorem dX12_alike_120 : decode cX12_alike 120 = .ok (.iaload, 1) := by decide +kernel
theorem dX12_alike_121 : decode cX12_alike 121 = .ok (.ireturn, 1) := by decide +kernel
theorem dX12_fewest_0 : decode cX12_fewest 0 = .ok (.aload_n 0, 1) := by decide +kernel
theorem dX12_fewest_1 : decode cX12_fewest 1 = .ok (.invokevirtual 213, 3) := by decide +kernel
theorem dX12_fewest_4 : decode cX12_fewest 4 = .ok (.ifCond .eq 10, 3) := by decide +kernel
theorem dX12_fewest_7 : decode cX12_fewest 7 = .ok (.aload_n 0, 1) := by decide +kernel
theorem dX12_fewest_8 : decode cX12_fewest 8 = .ok (.bipush (-3), 2) := by decide +kernel
theorem dX12_fewest_10 : decode cX12_fewest 10 = .ok (.invokevirtual 93, 3) := by decide +kernel
theorem dX12_fewest_13 : decode cX12_fewest 13 = .ok (.ireturn, 1) := by decide +kernel
theorem dX12_fewest_14 : decode cX12_fewest 14 = .ok (.aload_n 0, 1) := by decide +kernel
theorem dX12_fewest_15 : decode cX12_fewest 15 = .ok (.getfield 25, 3) := by decide +kernel
theorem dX12_fewest_18 : decode cX12_fewest 18 = .ok (.iconst 0, 1) := by decide +kernel
theorem dX12_fewest_19 : decode cX12_fewest 19 = .ok (.iaload, 1) := by decide +kernel
theorem dX12_fewest_20 : decode cX12_fewest 20 = .ok (.istore_n 1, 1) := by decide +kernel
theorem dX12_fewest_21 : decode cX12_fewest 21 = .ok (.bipush (-9), 2) := by decide +kernel
theorem dX12_fewest_23 : decode cX12_fewest 23 = .ok (.istore_n 2, 1) := by decide +kernel
theorem dX12_fewest_24 : decode cX12_fewest 24 = .ok (.iconst 0, 1) := by decide +kernel
theorem dX12_fewest_25 : decode cX12_fewest 25 = .ok (.istore_n 3, 1) := by decide +kernel
theorem dX12_fewest_26 : decode cX12_fewest 26 = .ok (.iload_n 3, 1) := by decide +kernel
theorem dX12_fewest_27 : decode cX12_fewest 27 = .ok (.bipush 99, 2) := by decide +kernel
theorem dX12_fewest_29 : decode cX12_fewest 29 = .ok (.if_icmp .gt 39, 3) := by decide +kernel
theorem dX12_fewest_32 : decode cX12_fewest 32 = .ok (.iload_n 2, 1) := by decide +kernel
theorem dX12_fewest_33 : decode cX12_fewest 33 = .ok (.ifCond .ge 35, 3) := by decide +kernel
theorem dX12_fewest_36 : decode cX12_fewest 36 = .ok (.aload_n 0, 1) := by decide +kernel
theorem dX12_fewest_37 : decode cX12_fewest 37 = .ok (.getfield 25, 3) := by decide +kernel
theorem dX12_fewest_40 : decode cX12_fewest 40 = .ok (.iconst 0, 1) := by decide +kernel
theorem dX12_fewest_41 : decode cX12_fewest 41 = .ok (.iload_n 3, 1) := by decide +kernel
theorem dX12_fewest_42 : decode cX12_fewest 42 = .ok (.iastore, 1) := by decide +kernel
theorem dX12_fewest_43 : decode cX12_fewest 43 = .ok (.aload_n 0, 1) := by decide +kernel
theorem dX12_fewest_44 : decode cX12_fewest 44 = .ok (.invokevirtual 204, 3) := by decide +kernel
theorem dX12_fewest_47 : decode cX12_fewest 47 = .ok (.aload_n 0, 1) := by decide +kernel
theorem dX12_fewest_48 : decode cX12_fewest 48 = .ok (.getfield 61, 3) := by decide +kernel
theorem dX12_fewest_51 : decode cX12_fewest 51 = .ok (.aload_n 0, 1) := by decide +kernel
theorem dX12_fewest_52 : decode cX12_fewest 52 = .ok (.getfield 144, 3) := by decide +kernel
theorem dX12_fewest_55 : decode cX12_fewest 55 = .ok (.iaload, 1) := by decide +kernel
theorem dX12_fewest_56 : decode cX12_fewest 56 = .ok (.iconst 1, 1) := by decide +kernel
theorem dX12_fewest_57 : decode cX12_fewest 57 = .ok (.if_icmp .ne 5, 3) := by decide +kernel
theorem dX12_fewest_60 : decode cX12_fewest 60 = .ok (.iload_n 3, 1) := by decide +kernel
theorem dX12_fewest_61 : decode cX12_fewest 61 = .ok (.istore_n 2, 1) := by decide +kernel
theorem dX12_fewest_62 : decode cX12_fewest 62 = .ok (.iinc 3 1, 3) := by decide +kernel
theorem dX12_fewest_65 : decode cX12_fewest 65 = .ok (.goto (-39), 3) := by decide +kernel
theorem dX12_fewest_68 : decode cX12_fewest 68 = .ok (.aload_n 0, 1) := by decide +kernel
theorem dX12_fewest_69 : decode cX12_fewest 69 = .ok (.getfield 25, 3) := by decide +kernel
theorem dX12_fewest_72 : decode cX12_fewest 72 = .ok (.iconst 0, 1) := by decide +kernel
theorem dX12_fewest_73 : decode cX12_fewest 73 = .ok (.iload_n 1, 1) := by decide +kernel
theorem dX12_fewest_74 : decode cX12_fewest 74 = .ok (.iastore, 1) := by decide +kernel
theorem dX12_fewest_75 : decode cX12_fewest 75 = .ok (.iload_n 2, 1) := by decide +kernel
theorem dX12_fewest_76 : decode cX12_fewest 76 = .ok (.ireturn, 1) := by decide +kernel
theorem dX12_byLaw_0 : decode cX12_byLaw 0 = .ok (.iload_n 1, 1) := by decide +kernel
theorem dX12_byLaw_1 : decode cX12_byLaw 1 = .ok (.iconst 0, 1) := by decide +kernel
theorem dX12_byLaw_2 : decode cX12_byLaw 2 = .ok (.iconst 2, 1) := by decide +kernel
theorem dX12_byLaw_3 : decode cX12_byLaw 3 = .ok (.invokestatic 104, 3) := by decide +kernel
theorem dX12_byLaw_6 : decode cX12_byLaw 6 = .ok (.ifCond .eq 12, 3) := by decide +kernel
theorem dX12_byLaw_9 : decode cX12_byLaw 9 = .ok (.iload_n 2, 1) := by decide +kernel
theorem dX12_byLaw_10 : decode cX12_byLaw 10 = .ok (.iconst 0, 1) := by decide +kernel
theorem dX12_byLaw_11 : decode cX12_byLaw 11 = .ok (.iconst 1, 1) := by decide +kernel
theorem dX12_byLaw_12 : decode cX12_byLaw 12 = .ok (.invokestatic 104, 3) := by decide +kernel
theorem dX12_byLaw_15 : decode cX12_byLaw 15 = .ok (.ifCond .ne 10, 3) := by decide +kernel
theorem dX12_byLaw_18 : decode cX12_byLaw 18 = .ok (.aload_n 0, 1) := by decide +kernel
theorem dX12_byLaw_19 : decode cX12_byLaw 19 = .ok (.bipush (-2), 2) := by decide +kernel
theorem dX12_byLaw_21 : decode cX12_byLaw 21 = .ok (.invokevirtual 207, 3) := by decide +kernel
theorem dX12_byLaw_24 : decode cX12_byLaw 24 = .ok (.ireturn, 1) := by decide +kernel
theorem dX12_byLaw_25 : decode cX12_byLaw 25 = .ok (.aload_n 0, 1) := by decide +kernel
theorem dX12_byLaw_26 : decode cX12_byLaw 26 = .ok (.iload_n 3, 1) := by decide +kernel
theorem dX12_byLaw_27 : decode cX12_byLaw 27 = .ok (.invokevirtual 150, 3) := by decide +kernel
theorem dX12_byLaw_30 : decode cX12_byLaw 30 = .ok (.ifCond .eq 11, 3) := by decide +kernel
theorem dX12_byLaw_33 : decode cX12_byLaw 33 = .ok (.iload_n 3, 1) := by decide +kernel
end
section
theorem dX12_byLaw_34 : decode cX12_byLaw 34 = .ok (.aload_n 0, 1) := by decide +kernel
theorem dX12_byLaw_35 : decode cX12_byLaw 35 = .ok (.getfield 144, 3) := by decide +kernel
theorem dX12_byLaw_38 : decode cX12_byLaw 38 = .ok (.if_icmp .ge 9, 3) := by decide +kernel
theorem dX12_byLaw_41 : decode cX12_byLaw 41 = .ok (.aload_n 0, 1) := by decide +kernel
theorem dX12_byLaw_42 : decode cX12_byLaw 42 = .ok (.iconst (-1), 1) := by decide +kernel
theorem dX12_byLaw_43 : decode cX12_byLaw 43 = .ok (.invokevirtual 207, 3) := by decide +kernel
theorem dX12_byLaw_46 : decode cX12_byLaw 46 = .ok (.ireturn, 1) := by decide +kernel
theorem dX12_byLaw_47 : decode cX12_byLaw 47 = .ok (.aload_n 0, 1) := by decide +kernel
theorem dX12_byLaw_48 : decode cX12_byLaw 48 = .ok (.getfield 115, 3) := by decide +kernel
theorem dX12_byLaw_51 : decode cX12_byLaw 51 = .ok (.iconst 1, 1) := by decide +kernel
theorem dX12_byLaw_52 : decode cX12_byLaw 52 = .ok (.if_icmp .ne 10, 3) := by decide +kernel
theorem dX12_byLaw_55 : decode cX12_byLaw 55 = .ok (.aload_n 0, 1) := by decide +kernel
theorem dX12_byLaw_56 : decode cX12_byLaw 56 = .ok (.bipush (-3), 2) := by decide +kernel
theorem dX12_byLaw_58 : decode cX12_byLaw 58 = .ok (.invokevirtual 207, 3) := by decide +kernel
theorem dX12_byLaw_61 : decode cX12_byLaw 61 = .ok (.ireturn, 1) := by decide +kernel
theorem dX12_byLaw_62 : decode cX12_byLaw 62 = .ok (.aload_n 0, 1) := by decide +kernel
theorem dX12_byLaw_63 : decode cX12_byLaw 63 = .ok (.getfield 25, 3) := by decide +kernel
theorem dX12_byLaw_66 : decode cX12_byLaw 66 = .ok (.iconst 1, 1) := by decide +kernel
theorem dX12_byLaw_67 : decode cX12_byLaw 67 = .ok (.iaload, 1) := by decide +kernel
theorem dX12_byLaw_68 : decode cX12_byLaw 68 = .ok (.istore 4, 2) := by decide +kernel
theorem dX12_byLaw_70 : decode cX12_byLaw 70 = .ok (.aload_n 0, 1) := by decide +kernel
theorem dX12_byLaw_71 : decode cX12_byLaw 71 = .ok (.getfield 25, 3) := by decide +kernel
theorem dX12_byLaw_74 : decode cX12_byLaw 74 = .ok (.iconst 2, 1) := by decide +kernel
theorem dX12_byLaw_75 : decode cX12_byLaw 75 = .ok (.iaload, 1) := by decide +kernel
theorem dX12_byLaw_76 : decode cX12_byLaw 76 = .ok (.istore 5, 2) := by decide +kernel
theorem dX12_byLaw_78 : decode cX12_byLaw 78 = .ok (.aload_n 0, 1) := by decide +kernel
theorem dX12_byLaw_79 : decode cX12_byLaw 79 = .ok (.getfield 25, 3) := by decide +kernel
theorem dX12_byLaw_82 : decode cX12_byLaw 82 = .ok (.iconst 1, 1) := by decide +kernel
theorem dX12_byLaw_83 : decode cX12_byLaw 83 = .ok (.iload_n 1, 1) := by decide +kernel
theorem dX12_byLaw_84 : decode cX12_byLaw 84 = .ok (.iastore, 1) := by decide +kernel
theorem dX12_byLaw_85 : decode cX12_byLaw 85 = .ok (.aload_n 0, 1) := by decide +kernel
theorem dX12_byLaw_86 : decode cX12_byLaw 86 = .ok (.getfield 25, 3) := by decide +kernel
theorem dX12_byLaw_89 : decode cX12_byLaw 89 = .ok (.iconst 2, 1) := by decide +kernel
theorem dX12_byLaw_90 : decode cX12_byLaw 90 = .ok (.iload_n 2, 1) := by decide +kernel
theorem dX12_byLaw_91 : decode cX12_byLaw 91 = .ok (.iastore, 1) := by decide +kernel
theorem dX12_byLaw_92 : decode cX12_byLaw 92 = .ok (.aload_n 0, 1) := by decide +kernel
theorem dX12_byLaw_93 : decode cX12_byLaw 93 = .ok (.invokevirtual 204, 3) := by decide +kernel
theorem dX12_byLaw_96 : decode cX12_byLaw 96 = .ok (.aload_n 0, 1) := by decide +kernel
theorem dX12_byLaw_97 : decode cX12_byLaw 97 = .ok (.getfield 25, 3) := by decide +kernel
theorem dX12_byLaw_100 : decode cX12_byLaw 100 = .ok (.iconst 1, 1) := by decide +kernel
theorem dX12_byLaw_101 : decode cX12_byLaw 101 = .ok (.iload 4, 2) := by decide +kernel
theorem dX12_byLaw_103 : decode cX12_byLaw 103 = .ok (.iastore, 1) := by decide +kernel
theorem dX12_byLaw_104 : decode cX12_byLaw 104 = .ok (.aload_n 0, 1) := by decide +kernel
theorem dX12_byLaw_105 : decode cX12_byLaw 105 = .ok (.getfield 25, 3) := by decide +kernel
theorem dX12_byLaw_108 : decode cX12_byLaw 108 = .ok (.iconst 2, 1) := by decide +kernel
theorem dX12_byLaw_109 : decode cX12_byLaw 109 = .ok (.iload 5, 2) := by decide +kernel
theorem dX12_byLaw_111 : decode cX12_byLaw 111 = .ok (.iastore, 1) := by decide +kernel
theorem dX12_byLaw_112 : decode cX12_byLaw 112 = .ok (.aload_n 0, 1) := by decide +kernel
theorem dX12_byLaw_113 : decode cX12_byLaw 113 = .ok (.getfield 49, 3) := by decide +kernel
theorem dX12_byLaw_116 : decode cX12_byLaw 116 = .ok (.bipush 9, 2) := by decide +kernel
theorem dX12_byLaw_118 : decode cX12_byLaw 118 = .ok (.aload_n 0, 1) := by decide +kernel
theorem dX12_byLaw_119 : decode cX12_byLaw 119 = .ok (.getfield 144, 3) := by decide +kernel
theorem dX12_byLaw_122 : decode cX12_byLaw 122 = .ok (.imul, 1) := by decide +kernel
theorem dX12_byLaw_123 : decode cX12_byLaw 123 = .ok (.iload_n 3, 1) := by decide +kernel
theorem dX12_byLaw_124 : decode cX12_byLaw 124 = .ok (.iadd, 1) := by decide +kernel
theorem dX12_byLaw_125 : decode cX12_byLaw 125 = .ok (.iaload, 1) := by decide +kernel
theorem dX12_byLaw_126 : decode cX12_byLaw 126 = .ok (.ireturn, 1) := by decide +kernel
theorem dX12_gains_0 : decode cX12_gains 0 = .ok (.aload_n 0, 1) := by decide +kernel
theorem dX12_gains_1 : decode cX12_gains 1 = .ok (.getfield 82, 3) := by decide +kernel
theorem dX12_gains_4 : decode cX12_gains 4 = .ok (.ifCond .eq 12, 3) := by decide +kernel
theorem dX12_gains_7 : decode cX12_gains 7 = .ok (.aload_n 0, 1) := by decide +kernel
theorem dX12_gains_8 : decode cX12_gains 8 = .ok (.getfield 82, 3) := by decide +kernel
theorem dX12_gains_11 : decode cX12_gains 11 = .ok (.bipush 8, 2) := by decide +kernel
theorem dX12_gains_13 : decode cX12_gains 13 = .ok (.if_icmp .ne 5, 3) := by decide +kernel
theorem dX12_gains_16 : decode cX12_gains 16 = .ok (.iconst 0, 1) := by decide +kernel
theorem dX12_gains_17 : decode cX12_gains 17 = .ok (.ireturn, 1) := by decide +kernel
theorem dX12_gains_18 : decode cX12_gains 18 = .ok (.aload_n 0, 1) := by decide +kernel
theorem dX12_gains_19 : decode cX12_gains 19 = .ok (.invokevirtual 204, 3) := by decide +kernel
theorem dX12_gains_22 : decode cX12_gains 22 = .ok (.iconst 0, 1) := by decide +kernel
theorem dX12_gains_23 : decode cX12_gains 23 = .ok (.istore_n 1, 1) := by decide +kernel
theorem dX12_gains_24 : decode cX12_gains 24 = .ok (.iload_n 1, 1) := by decide +kernel
theorem dX12_gains_25 : decode cX12_gains 25 = .ok (.aload_n 0, 1) := by decide +kernel
theorem dX12_gains_26 : decode cX12_gains 26 = .ok (.getfield 82, 3) := by decide +kernel
theorem dX12_gains_29 : decode cX12_gains 29 = .ok (.if_icmp .ge 21, 3) := by decide +kernel
theorem dX12_gains_32 : decode cX12_gains 32 = .ok (.aload_n 0, 1) := by decide +kernel
theorem dX12_gains_33 : decode cX12_gains 33 = .ok (.getfield 76, 3) := by decide +kernel
theorem dX12_gains_36 : decode cX12_gains 36 = .ok (.iload_n 1, 1) := by decide +kernel
theorem dX12_gains_37 : decode cX12_gains 37 = .ok (.aload_n 0, 1) := by decide +kernel
theorem dX12_gains_38 : decode cX12_gains 38 = .ok (.getfield 49, 3) := by decide +kernel
theorem dX12_gains_41 : decode cX12_gains 41 = .ok (.iload_n 1, 1) := by decide +kernel
theorem dX12_gains_42 : decode cX12_gains 42 = .ok (.iaload, 1) := by decide +kernel
theorem dX12_gains_43 : decode cX12_gains 43 = .ok (.iastore, 1) := by decide +kernel
theorem dX12_gains_44 : decode cX12_gains 44 = .ok (.iinc 1 1, 3) := by decide +kernel
theorem dX12_gains_47 : decode cX12_gains 47 = .ok (.goto (-23), 3) := by decide +kernel
theorem dX12_gains_50 : decode cX12_gains 50 = .ok (.aload_n 0, 1) := by decide +kernel
theorem dX12_gains_51 : decode cX12_gains 51 = .ok (.iconst 1, 1) := by decide +kernel
theorem dX12_gains_52 : decode cX12_gains 52 = .ok (.iconst 1, 1) := by decide +kernel
theorem dX12_gains_53 : decode cX12_gains 53 = .ok (.invokevirtual 122, 3) := by decide +kernel
theorem dX12_gains_56 : decode cX12_gains 56 = .ok (.aload_n 0, 1) := by decide +kernel
theorem dX12_gains_57 : decode cX12_gains 57 = .ok (.getfield 82, 3) := by decide +kernel
theorem dX12_gains_60 : decode cX12_gains 60 = .ok (.istore_n 1, 1) := by decide +kernel
theorem dX12_gains_61 : decode cX12_gains 61 = .ok (.iload_n 1, 1) := by decide +kernel
theorem dX12_gains_62 : decode cX12_gains 62 = .ok (.ifCond .le 17, 3) := by decide +kernel
theorem dX12_gains_65 : decode cX12_gains 65 = .ok (.aload_n 0, 1) := by decide +kernel
theorem dX12_gains_66 : decode cX12_gains 66 = .ok (.iload_n 1, 1) := by decide +kernel
theorem dX12_gains_67 : decode cX12_gains 67 = .ok (.iconst 1, 1) := by decide +kernel
theorem dX12_gains_68 : decode cX12_gains 68 = .ok (.isub, 1) := by decide +kernel
theorem dX12_gains_69 : decode cX12_gains 69 = .ok (.iload_n 1, 1) := by decide +kernel
theorem dX12_gains_70 : decode cX12_gains 70 = .ok (.invokevirtual 235, 3) := by decide +kernel
theorem dX12_gains_73 : decode cX12_gains 73 = .ok (.iinc 1 (-1), 3) := by decide +kernel
theorem dX12_gains_76 : decode cX12_gains 76 = .ok (.goto (-15), 3) := by decide +kernel
theorem dX12_gains_79 : decode cX12_gains 79 = .ok (.aload_n 0, 1) := by decide +kernel
theorem dX12_gains_80 : decode cX12_gains 80 = .ok (.getfield 13, 3) := by decide +kernel
theorem dX12_gains_83 : decode cX12_gains 83 = .ok (.iconst 0, 1) := by decide +kernel
theorem dX12_gains_84 : decode cX12_gains 84 = .ok (.iconst 0, 1) := by decide +kernel
theorem dX12_gains_85 : decode cX12_gains 85 = .ok (.iastore, 1) := by decide +kernel
theorem dX12_gains_86 : decode cX12_gains 86 = .ok (.aload_n 0, 1) := by decide +kernel
theorem dX12_gains_87 : decode cX12_gains 87 = .ok (.getfield 16, 3) := by decide +kernel
theorem dX12_gains_90 : decode cX12_gains 90 = .ok (.iconst 0, 1) := by decide +kernel
theorem dX12_gains_91 : decode cX12_gains 91 = .ok (.iconst 0, 1) := by decide +kernel
theorem dX12_gains_92 : decode cX12_gains 92 = .ok (.iastore, 1) := by decide +kernel
theorem dX12_gains_93 : decode cX12_gains 93 = .ok (.aload_n 0, 1) := by decide +kernel
theorem dX12_gains_94 : decode cX12_gains 94 = .ok (.getfield 19, 3) := by decide +kernel
theorem dX12_gains_97 : decode cX12_gains 97 = .ok (.iconst 0, 1) := by decide +kernel
theorem dX12_gains_98 : decode cX12_gains 98 = .ok (.iconst 1, 1) := by decide +kernel
theorem dX12_gains_99 : decode cX12_gains 99 = .ok (.iastore, 1) := by decide +kernel
theorem dX12_gains_100 : decode cX12_gains 100 = .ok (.aload_n 0, 1) := by decide +kernel
theorem dX12_gains_101 : decode cX12_gains 101 = .ok (.dup, 1) := by decide +kernel
theorem dX12_gains_102 : decode cX12_gains 102 = .ok (.getfield 82, 3) := by decide +kernel
theorem dX12_gains_105 : decode cX12_gains 105 = .ok (.iconst 1, 1) := by decide +kernel
theorem dX12_gains_106 : decode cX12_gains 106 = .ok (.iadd, 1) := by decide +kernel
theorem dX12_gains_107 : decode cX12_gains 107 = .ok (.putfield 82, 3) := by decide +kernel
theorem dX12_gains_110 : decode cX12_gains 110 = .ok (.aload_n 0, 1) := by decide +kernel
theorem dX12_gains_111 : decode cX12_gains 111 = .ok (.invokevirtual 204, 3) := by decide +kernel
theorem dX12_gains_114 : decode cX12_gains 114 = .ok (.iconst 0, 1) := by decide +kernel
theorem dX12_gains_115 : decode cX12_gains 115 = .ok (.istore_n 1, 1) := by decide +kernel
theorem dX12_gains_116 : decode cX12_gains 116 = .ok (.iconst 1, 1) := by decide +kernel
theorem dX12_gains_117 : decode cX12_gains 117 = .ok (.istore_n 2, 1) := by decide +kernel
theorem dX12_gains_118 : decode cX12_gains 118 = .ok (.iload_n 2, 1) := by decide +kernel
theorem dX12_gains_119 : decode cX12_gains 119 = .ok (.aload_n 0, 1) := by decide +kernel
theorem dX12_gains_120 : decode cX12_gains 120 = .ok (.getfield 82, 3) := by decide +kernel
theorem dX12_gains_123 : decode cX12_gains 123 = .ok (.if_icmp .ge 38, 3) := by decide +kernel
theorem dX12_gains_126 : decode cX12_gains 126 = .ok (.iload_n 1, 1) := by decide +kernel
theorem dX12_gains_127 : decode cX12_gains 127 = .ok (.aload_n 0, 1) := by decide +kernel
theorem dX12_gains_128 : decode cX12_gains 128 = .ok (.getfield 49, 3) := by decide +kernel
theorem dX12_gains_131 : decode cX12_gains 131 = .ok (.iload_n 2, 1) := by decide +kernel
theorem dX12_gains_132 : decode cX12_gains 132 = .ok (.iaload, 1) := by decide +kernel
theorem dX12_gains_133 : decode cX12_gains 133 = .ok (.aload_n 0, 1) := by decide +kernel
theorem dX12_gains_134 : decode cX12_gains 134 = .ok (.getfield 76, 3) := by decide +kernel
theorem dX12_gains_137 : decode cX12_gains 137 = .ok (.iload_n 2, 1) := by decide +kernel
theorem dX12_gains_138 : decode cX12_gains 138 = .ok (.iconst 1, 1) := by decide +kernel
theorem dX12_gains_139 : decode cX12_gains 139 = .ok (.isub, 1) := by decide +kernel
theorem dX12_gains_140 : decode cX12_gains 140 = .ok (.iaload, 1) := by decide +kernel
theorem dX12_gains_141 : decode cX12_gains 141 = .ok (.if_icmp .le 11, 3) := by decide +kernel
theorem dX12_gains_144 : decode cX12_gains 144 = .ok (.iconst 1, 1) := by decide +kernel
theorem dX12_gains_145 : decode cX12_gains 145 = .ok (.iload_n 2, 1) := by decide +kernel
theorem dX12_gains_146 : decode cX12_gains 146 = .ok (.iconst 1, 1) := by decide +kernel
theorem dX12_gains_147 : decode cX12_gains 147 = .ok (.isub, 1) := by decide +kernel
theorem dX12_gains_148 : decode cX12_gains 148 = .ok (.ishl, 1) := by decide +kernel
theorem dX12_gains_149 : decode cX12_gains 149 = .ok (.goto 4, 3) := by decide +kernel
theorem dX12_gains_152 : decode cX12_gains 152 = .ok (.iconst 0, 1) := by decide +kernel
theorem dX12_gains_153 : decode cX12_gains 153 = .ok (.ior, 1) := by decide +kernel
theorem dX12_gains_154 : decode cX12_gains 154 = .ok (.istore_n 1, 1) := by decide +kernel
theorem dX12_gains_155 : decode cX12_gains 155 = .ok (.iinc 2 1, 3) := by decide +kernel
theorem dX12_gains_158 : decode cX12_gains 158 = .ok (.goto (-40), 3) := by decide +kernel
theorem dX12_gains_161 : decode cX12_gains 161 = .ok (.aload_n 0, 1) := by decide +kernel
theorem dX12_gains_162 : decode cX12_gains 162 = .ok (.iconst 1, 1) := by decide +kernel
theorem dX12_gains_163 : decode cX12_gains 163 = .ok (.iconst 0, 1) := by decide +kernel
theorem dX12_gains_164 : decode cX12_gains 164 = .ok (.invokevirtual 122, 3) := by decide +kernel
theorem dX12_gains_167 : decode cX12_gains 167 = .ok (.iload_n 1, 1) := by decide +kernel
theorem dX12_gains_168 : decode cX12_gains 168 = .ok (.ireturn, 1) := by decide +kernel
theorem dX12_moves_0 : decode cX12_moves 0 = .ok (.aload_n 0, 1) := by decide +kernel
theorem dX12_moves_1 : decode cX12_moves 1 = .ok (.getfield 13, 3) := by decide +kernel
theorem dX12_moves_4 : decode cX12_moves 4 = .ok (.iload_n 2, 1) := by decide +kernel
theorem dX12_moves_5 : decode cX12_moves 5 = .ok (.aload_n 0, 1) := by decide +kernel
theorem dX12_moves_6 : decode cX12_moves 6 = .ok (.getfield 13, 3) := by decide +kernel
theorem dX12_moves_9 : decode cX12_moves 9 = .ok (.iload_n 1, 1) := by decide +kernel
theorem dX12_moves_10 : decode cX12_moves 10 = .ok (.iaload, 1) := by decide +kernel
theorem dX12_moves_11 : decode cX12_moves 11 = .ok (.iastore, 1) := by decide +kernel
theorem dX12_moves_12 : decode cX12_moves 12 = .ok (.aload_n 0, 1) := by decide +kernel
theorem dX12_moves_13 : decode cX12_moves 13 = .ok (.getfield 16, 3) := by decide +kernel
theorem dX12_moves_16 : decode cX12_moves 16 = .ok (.iload_n 2, 1) := by decide +kernel
theorem dX12_moves_17 : decode cX12_moves 17 = .ok (.aload_n 0, 1) := by decide +kernel
theorem dX12_moves_18 : decode cX12_moves 18 = .ok (.getfield 16, 3) := by decide +kernel
theorem dX12_moves_21 : decode cX12_moves 21 = .ok (.iload_n 1, 1) := by decide +kernel
theorem dX12_moves_22 : decode cX12_moves 22 = .ok (.iaload, 1) := by decide +kernel
theorem dX12_moves_23 : decode cX12_moves 23 = .ok (.iastore, 1) := by decide +kernel
theorem dX12_moves_24 : decode cX12_moves 24 = .ok (.aload_n 0, 1) := by decide +kernel
theorem dX12_moves_25 : decode cX12_moves 25 = .ok (.getfield 19, 3) := by decide +kernel
theorem dX12_moves_28 : decode cX12_moves 28 = .ok (.iload_n 2, 1) := by decide +kernel
theorem dX12_moves_29 : decode cX12_moves 29 = .ok (.aload_n 0, 1) := by decide +kernel
theorem dX12_moves_30 : decode cX12_moves 30 = .ok (.getfield 19, 3) := by decide +kernel
theorem dX12_moves_33 : decode cX12_moves 33 = .ok (.iload_n 1, 1) := by decide +kernel
theorem dX12_moves_34 : decode cX12_moves 34 = .ok (.iaload, 1) := by decide +kernel
theorem dX12_moves_35 : decode cX12_moves 35 = .ok (.iastore, 1) := by decide +kernel
theorem dX12_moves_36 : decode cX12_moves 36 = .ok (.return_, 1) := by decide +kernel
theorem dX12_swaps_0 : decode cX12_swaps 0 = .ok (.aload_n 0, 1) := by decide +kernel
theorem dX12_swaps_1 : decode cX12_swaps 1 = .ok (.iload_n 1, 1) := by decide +kernel
theorem dX12_swaps_2 : decode cX12_swaps 2 = .ok (.bipush 8, 2) := by decide +kernel
theorem dX12_swaps_4 : decode cX12_swaps 4 = .ok (.invokevirtual 235, 3) := by decide +kernel
theorem dX12_swaps_7 : decode cX12_swaps 7 = .ok (.aload_n 0, 1) := by decide +kernel
theorem dX12_swaps_8 : decode cX12_swaps 8 = .ok (.iload_n 2, 1) := by decide +kernel
theorem dX12_swaps_9 : decode cX12_swaps 9 = .ok (.iload_n 1, 1) := by decide +kernel
theorem dX12_swaps_10 : decode cX12_swaps 10 = .ok (.invokevirtual 235, 3) := by decide +kernel
theorem dX12_swaps_13 : decode cX12_swaps 13 = .ok (.aload_n 0, 1) := by decide +kernel
theorem dX12_swaps_14 : decode cX12_swaps 14 = .ok (.bipush 8, 2) := by decide +kernel
theorem dX12_swaps_16 : decode cX12_swaps 16 = .ok (.iload_n 2, 1) := by decide +kernel
theorem dX12_swaps_17 : decode cX12_swaps 17 = .ok (.invokevirtual 235, 3) := by decide +kernel
theorem dX12_swaps_20 : decode cX12_swaps 20 = .ok (.return_, 1) := by decide +kernel
theorem dX12_swap_0 : decode cX12_swap 0 = .ok (.aload_n 0, 1) := by decide +kernel
theorem dX12_swap_1 : decode cX12_swap 1 = .ok (.iload_n 1, 1) := by decide +kernel
theorem dX12_swap_2 : decode cX12_swap 2 = .ok (.invokevirtual 150, 3) := by decide +kernel
theorem dX12_swap_5 : decode cX12_swap 5 = .ok (.ifCond .eq 16, 3) := by decide +kernel
theorem dX12_swap_8 : decode cX12_swap 8 = .ok (.aload_n 0, 1) := by decide +kernel
theorem dX12_swap_9 : decode cX12_swap 9 = .ok (.iload_n 2, 1) := by decide +kernel
theorem dX12_swap_10 : decode cX12_swap 10 = .ok (.invokevirtual 150, 3) := by decide +kernel
theorem dX12_swap_13 : decode cX12_swap 13 = .ok (.ifCond .eq 8, 3) := by decide +kernel
theorem dX12_swap_16 : decode cX12_swap 16 = .ok (.iload_n 1, 1) := by decide +kernel
theorem dX12_swap_17 : decode cX12_swap 17 = .ok (.iload_n 2, 1) := by decide +kernel
theorem dX12_swap_18 : decode cX12_swap 18 = .ok (.if_icmp .ne 9, 3) := by decide +kernel
theorem dX12_swap_21 : decode cX12_swap 21 = .ok (.aload_n 0, 1) := by decide +kernel
theorem dX12_swap_22 : decode cX12_swap 22 = .ok (.iconst (-1), 1) := by decide +kernel
theorem dX12_swap_23 : decode cX12_swap 23 = .ok (.invokevirtual 93, 3) := by decide +kernel
theorem dX12_swap_26 : decode cX12_swap 26 = .ok (.ireturn, 1) := by decide +kernel
theorem dX12_swap_27 : decode cX12_swap 27 = .ok (.aload_n 0, 1) := by decide +kernel
theorem dX12_swap_28 : decode cX12_swap 28 = .ok (.getfield 144, 3) := by decide +kernel
theorem dX12_swap_31 : decode cX12_swap 31 = .ok (.ifCond .gt 11, 3) := by decide +kernel
theorem dX12_swap_34 : decode cX12_swap 34 = .ok (.aload_n 0, 1) := by decide +kernel
theorem dX12_swap_35 : decode cX12_swap 35 = .ok (.getfield 115, 3) := by decide +kernel
theorem dX12_swap_38 : decode cX12_swap 38 = .ok (.iconst 1, 1) := by decide +kernel
theorem dX12_swap_39 : decode cX12_swap 39 = .ok (.if_icmp .ne 10, 3) := by decide +kernel
theorem dX12_swap_42 : decode cX12_swap 42 = .ok (.aload_n 0, 1) := by decide +kernel
theorem dX12_swap_43 : decode cX12_swap 43 = .ok (.bipush (-3), 2) := by decide +kernel
theorem dX12_swap_45 : decode cX12_swap 45 = .ok (.invokevirtual 93, 3) := by decide +kernel
theorem dX12_swap_48 : decode cX12_swap 48 = .ok (.ireturn, 1) := by decide +kernel
theorem dX12_swap_49 : decode cX12_swap 49 = .ok (.aload_n 0, 1) := by decide +kernel
theorem dX12_swap_50 : decode cX12_swap 50 = .ok (.iload_n 1, 1) := by decide +kernel
theorem dX12_swap_51 : decode cX12_swap 51 = .ok (.iload_n 2, 1) := by decide +kernel
theorem dX12_swap_52 : decode cX12_swap 52 = .ok (.invokevirtual 239, 3) := by decide +kernel
theorem dX12_swap_55 : decode cX12_swap 55 = .ok (.iconst 1, 1) := by decide +kernel
theorem dX12_swap_56 : decode cX12_swap 56 = .ok (.ireturn, 1) := by decide +kernel
theorem dX12_bestAge_0 : decode cX12_bestAge 0 = .ok (.aload_n 0, 1) := by decide +kernel
theorem dX12_bestAge_1 : decode cX12_bestAge 1 = .ok (.iload_n 1, 1) := by decide +kernel
theorem dX12_bestAge_2 : decode cX12_bestAge 2 = .ok (.invokevirtual 150, 3) := by decide +kernel
theorem dX12_bestAge_5 : decode cX12_bestAge 5 = .ok (.ifCond .ne 9, 3) := by decide +kernel
theorem dX12_bestAge_8 : decode cX12_bestAge 8 = .ok (.aload_n 0, 1) := by decide +kernel
theorem dX12_bestAge_9 : decode cX12_bestAge 9 = .ok (.iconst (-1), 1) := by decide +kernel
theorem dX12_bestAge_10 : decode cX12_bestAge 10 = .ok (.invokevirtual 93, 3) := by decide +kernel
theorem dX12_bestAge_13 : decode cX12_bestAge 13 = .ok (.ireturn, 1) := by decide +kernel
theorem dX12_bestAge_14 : decode cX12_bestAge 14 = .ok (.iconst 0, 1) := by decide +kernel
theorem dX12_bestAge_15 : decode cX12_bestAge 15 = .ok (.istore_n 2, 1) := by decide +kernel
theorem dX12_bestAge_16 : decode cX12_bestAge 16 = .ok (.bipush (-2), 2) := by decide +kernel
theorem dX12_bestAge_18 : decode cX12_bestAge 18 = .ok (.istore_n 3, 1) := by decide +kernel
theorem dX12_bestAge_19 : decode cX12_bestAge 19 = .ok (.iconst 0, 1) := by decide +kernel
theorem dX12_bestAge_20 : decode cX12_bestAge 20 = .ok (.istore 4, 2) := by decide +kernel
theorem dX12_bestAge_22 : decode cX12_bestAge 22 = .ok (.iload 4, 2) := by decide +kernel
theorem dX12_bestAge_24 : decode cX12_bestAge 24 = .ok (.aload_n 0, 1) := by decide +kernel
theorem dX12_bestAge_25 : decode cX12_bestAge 25 = .ok (.getfield 82, 3) := by decide +kernel
theorem dX12_bestAge_28 : decode cX12_bestAge 28 = .ok (.if_icmp .ge 99, 3) := by decide +kernel
theorem dX12_bestAge_31 : decode cX12_bestAge 31 = .ok (.aload_n 0, 1) := by decide +kernel
theorem dX12_bestAge_32 : decode cX12_bestAge 32 = .ok (.iconst 1, 1) := by decide +kernel
theorem dX12_bestAge_33 : decode cX12_bestAge 33 = .ok (.iconst 1, 1) := by decide +kernel
theorem dX12_bestAge_34 : decode cX12_bestAge 34 = .ok (.invokevirtual 122, 3) := by decide +kernel
theorem dX12_bestAge_37 : decode cX12_bestAge 37 = .ok (.iload_n 1, 1) := by decide +kernel
theorem dX12_bestAge_38 : decode cX12_bestAge 38 = .ok (.istore 5, 2) := by decide +kernel
theorem dX12_bestAge_40 : decode cX12_bestAge 40 = .ok (.iload 5, 2) := by decide +kernel
theorem dX12_bestAge_42 : decode cX12_bestAge 42 = .ok (.iload 4, 2) := by decide +kernel
theorem dX12_bestAge_44 : decode cX12_bestAge 44 = .ok (.if_icmp .ge 19, 3) := by decide +kernel
theorem dX12_bestAge_47 : decode cX12_bestAge 47 = .ok (.aload_n 0, 1) := by decide +kernel
theorem dX12_bestAge_48 : decode cX12_bestAge 48 = .ok (.iload 5, 2) := by decide +kernel
theorem dX12_bestAge_50 : decode cX12_bestAge 50 = .ok (.iload 5, 2) := by decide +kernel
theorem dX12_bestAge_52 : decode cX12_bestAge 52 = .ok (.iconst 1, 1) := by decide +kernel
theorem dX12_bestAge_53 : decode cX12_bestAge 53 = .ok (.iadd, 1) := by decide +kernel
theorem dX12_bestAge_54 : decode cX12_bestAge 54 = .ok (.invokevirtual 239, 3) := by decide +kernel
theorem dX12_bestAge_57 : decode cX12_bestAge 57 = .ok (.iinc 5 1, 3) := by decide +kernel
theorem dX12_bestAge_60 : decode cX12_bestAge 60 = .ok (.goto (-20), 3) := by decide +kernel
theorem dX12_bestAge_63 : decode cX12_bestAge 63 = .ok (.iload_n 1, 1) := by decide +kernel
theorem dX12_bestAge_64 : decode cX12_bestAge 64 = .ok (.istore 5, 2) := by decide +kernel
theorem dX12_bestAge_66 : decode cX12_bestAge 66 = .ok (.iload 5, 2) := by decide +kernel
theorem dX12_bestAge_68 : decode cX12_bestAge 68 = .ok (.iload 4, 2) := by decide +kernel
theorem dX12_bestAge_70 : decode cX12_bestAge 70 = .ok (.if_icmp .le 19, 3) := by decide +kernel
theorem dX12_bestAge_73 : decode cX12_bestAge 73 = .ok (.aload_n 0, 1) := by decide +kernel
theorem dX12_bestAge_74 : decode cX12_bestAge 74 = .ok (.iload 5, 2) := by decide +kernel
theorem dX12_bestAge_76 : decode cX12_bestAge 76 = .ok (.iload 5, 2) := by decide +kernel
theorem dX12_bestAge_78 : decode cX12_bestAge 78 = .ok (.iconst 1, 1) := by decide +kernel
theorem dX12_bestAge_79 : decode cX12_bestAge 79 = .ok (.isub, 1) := by decide +kernel
theorem dX12_bestAge_80 : decode cX12_bestAge 80 = .ok (.invokevirtual 239, 3) := by decide +kernel
theorem dX12_bestAge_83 : decode cX12_bestAge 83 = .ok (.iinc 5 (-1), 3) := by decide +kernel
theorem dX12_bestAge_86 : decode cX12_bestAge 86 = .ok (.goto (-20), 3) := by decide +kernel
theorem dX12_bestAge_89 : decode cX12_bestAge 89 = .ok (.aload_n 0, 1) := by decide +kernel
theorem dX12_bestAge_90 : decode cX12_bestAge 90 = .ok (.invokevirtual 204, 3) := by decide +kernel
theorem dX12_bestAge_93 : decode cX12_bestAge 93 = .ok (.aload_n 0, 1) := by decide +kernel
theorem dX12_bestAge_94 : decode cX12_bestAge 94 = .ok (.getfield 49, 3) := by decide +kernel
theorem dX12_bestAge_97 : decode cX12_bestAge 97 = .ok (.iload 4, 2) := by decide +kernel
theorem dX12_bestAge_99 : decode cX12_bestAge 99 = .ok (.iaload, 1) := by decide +kernel
theorem dX12_bestAge_100 : decode cX12_bestAge 100 = .ok (.iload_n 3, 1) := by decide +kernel
theorem dX12_bestAge_101 : decode cX12_bestAge 101 = .ok (.if_icmp .le 14, 3) := by decide +kernel
theorem dX12_bestAge_104 : decode cX12_bestAge 104 = .ok (.iload 4, 2) := by decide +kernel
theorem dX12_bestAge_106 : decode cX12_bestAge 106 = .ok (.istore_n 2, 1) := by decide +kernel
theorem dX12_bestAge_107 : decode cX12_bestAge 107 = .ok (.aload_n 0, 1) := by decide +kernel
theorem dX12_bestAge_108 : decode cX12_bestAge 108 = .ok (.getfield 49, 3) := by decide +kernel
theorem dX12_bestAge_111 : decode cX12_bestAge 111 = .ok (.iload 4, 2) := by decide +kernel
theorem dX12_bestAge_113 : decode cX12_bestAge 113 = .ok (.iaload, 1) := by decide +kernel
theorem dX12_bestAge_114 : decode cX12_bestAge 114 = .ok (.istore_n 3, 1) := by decide +kernel
theorem dX12_bestAge_115 : decode cX12_bestAge 115 = .ok (.aload_n 0, 1) := by decide +kernel
theorem dX12_bestAge_116 : decode cX12_bestAge 116 = .ok (.iconst 1, 1) := by decide +kernel
theorem dX12_bestAge_117 : decode cX12_bestAge 117 = .ok (.iconst 0, 1) := by decide +kernel
theorem dX12_bestAge_118 : decode cX12_bestAge 118 = .ok (.invokevirtual 122, 3) := by decide +kernel
theorem dX12_bestAge_121 : decode cX12_bestAge 121 = .ok (.iinc 4 1, 3) := by decide +kernel
theorem dX12_bestAge_124 : decode cX12_bestAge 124 = .ok (.goto (-102), 3) := by decide +kernel
theorem dX12_bestAge_127 : decode cX12_bestAge 127 = .ok (.iload_n 2, 1) := by decide +kernel
theorem dX12_bestAge_128 : decode cX12_bestAge 128 = .ok (.ireturn, 1) := by decide +kernel
theorem dX12_isFree_0 : decode cX12_isFree 0 = .ok (.aload_n 0, 1) := by decide +kernel
theorem dX12_isFree_1 : decode cX12_isFree 1 = .ok (.getfield 144, 3) := by decide +kernel
theorem dX12_isFree_4 : decode cX12_isFree 4 = .ok (.iconst 1, 1) := by decide +kernel
theorem dX12_isFree_5 : decode cX12_isFree 5 = .ok (.iadd, 1) := by decide +kernel
theorem dX12_isFree_6 : decode cX12_isFree 6 = .ok (.istore_n 2, 1) := by decide +kernel
theorem dX12_isFree_7 : decode cX12_isFree 7 = .ok (.iload_n 2, 1) := by decide +kernel
theorem dX12_isFree_8 : decode cX12_isFree 8 = .ok (.aload_n 0, 1) := by decide +kernel
theorem dX12_isFree_9 : decode cX12_isFree 9 = .ok (.getfield 82, 3) := by decide +kernel
theorem dX12_isFree_12 : decode cX12_isFree 12 = .ok (.if_icmp .ge 37, 3) := by decide +kernel
theorem dX12_isFree_15 : decode cX12_isFree 15 = .ok (.iload_n 1, 1) := by decide +kernel
theorem dX12_isFree_16 : decode cX12_isFree 16 = .ok (.iload_n 2, 1) := by decide +kernel
theorem dX12_isFree_17 : decode cX12_isFree 17 = .ok (.ishr, 1) := by decide +kernel
theorem dX12_isFree_18 : decode cX12_isFree 18 = .ok (.iconst 1, 1) := by decide +kernel
theorem dX12_isFree_19 : decode cX12_isFree 19 = .ok (.iand, 1) := by decide +kernel
theorem dX12_isFree_20 : decode cX12_isFree 20 = .ok (.iconst 1, 1) := by decide +kernel
theorem dX12_isFree_21 : decode cX12_isFree 21 = .ok (.if_icmp .ne 22, 3) := by decide +kernel
theorem dX12_isFree_24 : decode cX12_isFree 24 = .ok (.aload_n 0, 1) := by decide +kernel
theorem dX12_isFree_25 : decode cX12_isFree 25 = .ok (.getfield 43, 3) := by decide +kernel
theorem dX12_isFree_28 : decode cX12_isFree 28 = .ok (.bipush 9, 2) := by decide +kernel
theorem dX12_isFree_30 : decode cX12_isFree 30 = .ok (.aload_n 0, 1) := by decide +kernel
theorem dX12_isFree_31 : decode cX12_isFree 31 = .ok (.getfield 144, 3) := by decide +kernel
theorem dX12_isFree_34 : decode cX12_isFree 34 = .ok (.imul, 1) := by decide +kernel
theorem dX12_isFree_35 : decode cX12_isFree 35 = .ok (.iload_n 2, 1) := by decide +kernel
theorem dX12_isFree_36 : decode cX12_isFree 36 = .ok (.iadd, 1) := by decide +kernel
theorem dX12_isFree_37 : decode cX12_isFree 37 = .ok (.iaload, 1) := by decide +kernel
theorem dX12_isFree_38 : decode cX12_isFree 38 = .ok (.ifCond .le 5, 3) := by decide +kernel
theorem dX12_isFree_41 : decode cX12_isFree 41 = .ok (.iconst 0, 1) := by decide +kernel
theorem dX12_isFree_42 : decode cX12_isFree 42 = .ok (.ireturn, 1) := by decide +kernel
theorem dX12_isFree_43 : decode cX12_isFree 43 = .ok (.iinc 2 1, 3) := by decide +kernel
theorem dX12_isFree_46 : decode cX12_isFree 46 = .ok (.goto (-39), 3) := by decide +kernel
theorem dX12_isFree_49 : decode cX12_isFree 49 = .ok (.iconst 1, 1) := by decide +kernel
theorem dX12_isFree_50 : decode cX12_isFree 50 = .ok (.ireturn, 1) := by decide +kernel
theorem dX12_bits_0 : decode cX12_bits 0 = .ok (.iconst 0, 1) := by decide +kernel
theorem dX12_bits_1 : decode cX12_bits 1 = .ok (.istore_n 1, 1) := by decide +kernel
theorem dX12_bits_2 : decode cX12_bits 2 = .ok (.iconst 0, 1) := by decide +kernel
theorem dX12_bits_3 : decode cX12_bits 3 = .ok (.istore_n 2, 1) := by decide +kernel
theorem dX12_bits_4 : decode cX12_bits 4 = .ok (.iload_n 2, 1) := by decide +kernel
theorem dX12_bits_5 : decode cX12_bits 5 = .ok (.bipush 31, 2) := by decide +kernel
theorem dX12_bits_7 : decode cX12_bits 7 = .ok (.if_icmp .ge 17, 3) := by decide +kernel
theorem dX12_bits_10 : decode cX12_bits 10 = .ok (.iload_n 1, 1) := by decide +kernel
theorem dX12_bits_11 : decode cX12_bits 11 = .ok (.iload_n 0, 1) := by decide +kernel
theorem dX12_bits_12 : decode cX12_bits 12 = .ok (.iload_n 2, 1) := by decide +kernel
theorem dX12_bits_13 : decode cX12_bits 13 = .ok (.ishr, 1) := by decide +kernel
theorem dX12_bits_14 : decode cX12_bits 14 = .ok (.iconst 1, 1) := by decide +kernel
theorem dX12_bits_15 : decode cX12_bits 15 = .ok (.iand, 1) := by decide +kernel
theorem dX12_bits_16 : decode cX12_bits 16 = .ok (.iadd, 1) := by decide +kernel
theorem dX12_bits_17 : decode cX12_bits 17 = .ok (.istore_n 1, 1) := by decide +kernel
theorem dX12_bits_18 : decode cX12_bits 18 = .ok (.iinc 2 1, 3) := by decide +kernel
theorem dX12_bits_21 : decode cX12_bits 21 = .ok (.goto (-17), 3) := by decide +kernel
theorem dX12_bits_24 : decode cX12_bits 24 = .ok (.iload_n 1, 1) := by decide +kernel
theorem dX12_bits_25 : decode cX12_bits 25 = .ok (.ireturn, 1) := by decide +kernel
theorem dX12_league_0 : decode cX12_league 0 = .ok (.aload_n 0, 1) := by decide +kernel
theorem dX12_league_1 : decode cX12_league 1 = .ok (.invokevirtual 213, 3) := by decide +kernel
theorem dX12_league_4 : decode cX12_league 4 = .ok (.ifCond .eq 10, 3) := by decide +kernel
theorem dX12_league_7 : decode cX12_league 7 = .ok (.aload_n 0, 1) := by decide +kernel
theorem dX12_league_8 : decode cX12_league 8 = .ok (.bipush (-3), 2) := by decide +kernel
theorem dX12_league_10 : decode cX12_league 10 = .ok (.invokevirtual 93, 3) := by decide +kernel
theorem dX12_league_13 : decode cX12_league 13 = .ok (.ireturn, 1) := by decide +kernel
theorem dX12_league_14 : decode cX12_league 14 = .ok (.aload_n 0, 1) := by decide +kernel
theorem dX12_league_15 : decode cX12_league 15 = .ok (.aload_n 0, 1) := by decide +kernel
theorem dX12_league_16 : decode cX12_league 16 = .ok (.getfield 144, 3) := by decide +kernel
theorem dX12_league_19 : decode cX12_league 19 = .ok (.invokevirtual 159, 3) := by decide +kernel
theorem dX12_league_22 : decode cX12_league 22 = .ok (.iconst 1, 1) := by decide +kernel
theorem dX12_league_23 : decode cX12_league 23 = .ok (.aload_n 0, 1) := by decide +kernel
theorem dX12_league_24 : decode cX12_league 24 = .ok (.getfield 144, 3) := by decide +kernel
theorem dX12_league_27 : decode cX12_league 27 = .ok (.ishl, 1) := by decide +kernel
theorem dX12_league_28 : decode cX12_league 28 = .ok (.iconst (-1), 1) := by decide +kernel
theorem dX12_league_29 : decode cX12_league 29 = .ok (.ixor, 1) := by decide +kernel
theorem dX12_league_30 : decode cX12_league 30 = .ok (.iand, 1) := by decide +kernel
theorem dX12_league_31 : decode cX12_league 31 = .ok (.istore_n 2, 1) := by decide +kernel
theorem dX12_league_32 : decode cX12_league 32 = .ok (.iload_n 1, 1) := by decide +kernel
theorem dX12_league_33 : decode cX12_league 33 = .ok (.ifCond .lt 19, 3) := by decide +kernel
theorem dX12_league_36 : decode cX12_league 36 = .ok (.iload_n 1, 1) := by decide +kernel
theorem dX12_league_37 : decode cX12_league 37 = .ok (.iload_n 2, 1) := by decide +kernel
theorem dX12_league_38 : decode cX12_league 38 = .ok (.iconst (-1), 1) := by decide +kernel
theorem dX12_league_39 : decode cX12_league 39 = .ok (.ixor, 1) := by decide +kernel
theorem dX12_league_40 : decode cX12_league 40 = .ok (.iand, 1) := by decide +kernel
theorem dX12_league_41 : decode cX12_league 41 = .ok (.ifCond .ne 11, 3) := by decide +kernel
theorem dX12_league_44 : decode cX12_league 44 = .ok (.iload_n 1, 1) := by decide +kernel
theorem dX12_league_45 : decode cX12_league 45 = .ok (.invokestatic 242, 3) := by decide +kernel
theorem dX12_league_48 : decode cX12_league 48 = .ok (.iconst 2, 1) := by decide +kernel
theorem dX12_league_49 : decode cX12_league 49 = .ok (.if_icmp .ge 9, 3) := by decide +kernel
theorem dX12_league_52 : decode cX12_league 52 = .ok (.aload_n 0, 1) := by decide +kernel
theorem dX12_league_53 : decode cX12_league 53 = .ok (.iconst (-1), 1) := by decide +kernel
theorem dX12_league_54 : decode cX12_league 54 = .ok (.invokevirtual 93, 3) := by decide +kernel
theorem dX12_league_57 : decode cX12_league 57 = .ok (.ireturn, 1) := by decide +kernel
theorem dX12_league_58 : decode cX12_league 58 = .ok (.aload_n 0, 1) := by decide +kernel
theorem dX12_league_59 : decode cX12_league 59 = .ok (.invokevirtual 204, 3) := by decide +kernel
theorem dX12_league_62 : decode cX12_league 62 = .ok (.aload_n 0, 1) := by decide +kernel
theorem dX12_league_63 : decode cX12_league 63 = .ok (.aload_n 0, 1) := by decide +kernel
theorem dX12_league_64 : decode cX12_league 64 = .ok (.getfield 144, 3) := by decide +kernel
theorem dX12_league_67 : decode cX12_league 67 = .ok (.invokevirtual 162, 3) := by decide +kernel
theorem dX12_league_70 : decode cX12_league 70 = .ok (.iload_n 1, 1) := by decide +kernel
theorem dX12_league_71 : decode cX12_league 71 = .ok (.iconst (-1), 1) := by decide +kernel
theorem dX12_league_72 : decode cX12_league 72 = .ok (.ixor, 1) := by decide +kernel
theorem dX12_league_73 : decode cX12_league 73 = .ok (.iand, 1) := by decide +kernel
theorem dX12_league_74 : decode cX12_league 74 = .ok (.istore_n 3, 1) := by decide +kernel
theorem dX12_league_75 : decode cX12_league 75 = .ok (.iconst 0, 1) := by decide +kernel
theorem dX12_league_76 : decode cX12_league 76 = .ok (.istore 4, 2) := by decide +kernel
theorem dX12_league_78 : decode cX12_league 78 = .ok (.iload 4, 2) := by decide +kernel
theorem dX12_league_80 : decode cX12_league 80 = .ok (.iconst 1, 1) := by decide +kernel
theorem dX12_league_81 : decode cX12_league 81 = .ok (.aload_n 0, 1) := by decide +kernel
theorem dX12_league_82 : decode cX12_league 82 = .ok (.getfield 82, 3) := by decide +kernel
theorem dX12_league_85 : decode cX12_league 85 = .ok (.ishl, 1) := by decide +kernel
theorem dX12_league_86 : decode cX12_league 86 = .ok (.if_icmp .ge 115, 3) := by decide +kernel
theorem dX12_league_89 : decode cX12_league 89 = .ok (.iload 4, 2) := by decide +kernel
theorem dX12_league_91 : decode cX12_league 91 = .ok (.iload_n 2, 1) := by decide +kernel
theorem dX12_league_92 : decode cX12_league 92 = .ok (.iconst (-1), 1) := by decide +kernel
theorem dX12_league_93 : decode cX12_league 93 = .ok (.ixor, 1) := by decide +kernel
theorem dX12_league_94 : decode cX12_league 94 = .ok (.iand, 1) := by decide +kernel
theorem dX12_league_95 : decode cX12_league 95 = .ok (.ifCond .ne 100, 3) := by decide +kernel
theorem dX12_league_98 : decode cX12_league 98 = .ok (.iload 4, 2) := by decide +kernel
theorem dX12_league_100 : decode cX12_league 100 = .ok (.iload_n 1, 1) := by decide +kernel
theorem dX12_league_101 : decode cX12_league 101 = .ok (.iand, 1) := by decide +kernel
theorem dX12_league_102 : decode cX12_league 102 = .ok (.ifCond .eq 15, 3) := by decide +kernel
theorem dX12_league_105 : decode cX12_league 105 = .ok (.iload_n 1, 1) := by decide +kernel
theorem dX12_league_106 : decode cX12_league 106 = .ok (.iload 4, 2) := by decide +kernel
theorem dX12_league_108 : decode cX12_league 108 = .ok (.iconst (-1), 1) := by decide +kernel
theorem dX12_league_109 : decode cX12_league 109 = .ok (.ixor, 1) := by decide +kernel
theorem dX12_league_110 : decode cX12_league 110 = .ok (.iand, 1) := by decide +kernel
theorem dX12_league_111 : decode cX12_league 111 = .ok (.ifCond .eq 6, 3) := by decide +kernel
theorem dX12_league_114 : decode cX12_league 114 = .ok (.goto 81, 3) := by decide +kernel
theorem dX12_league_117 : decode cX12_league 117 = .ok (.iload 4, 2) := by decide +kernel
theorem dX12_league_119 : decode cX12_league 119 = .ok (.iload_n 3, 1) := by decide +kernel
theorem dX12_league_120 : decode cX12_league 120 = .ok (.ior, 1) := by decide +kernel
theorem dX12_league_121 : decode cX12_league 121 = .ok (.iconst 1, 1) := by decide +kernel
theorem dX12_league_122 : decode cX12_league 122 = .ok (.aload_n 0, 1) := by decide +kernel
theorem dX12_league_123 : decode cX12_league 123 = .ok (.getfield 144, 3) := by decide +kernel
theorem dX12_league_126 : decode cX12_league 126 = .ok (.ishl, 1) := by decide +kernel
theorem dX12_league_127 : decode cX12_league 127 = .ok (.ior, 1) := by decide +kernel
theorem dX12_league_128 : decode cX12_league 128 = .ok (.aload_n 0, 1) := by decide +kernel
theorem dX12_league_129 : decode cX12_league 129 = .ok (.iload_n 1, 1) := by decide +kernel
theorem dX12_league_130 : decode cX12_league 130 = .ok (.invokevirtual 245, 3) := by decide +kernel
theorem dX12_league_133 : decode cX12_league 133 = .ok (.ifCond .eq 7, 3) := by decide +kernel
theorem dX12_league_136 : decode cX12_league 136 = .ok (.iload_n 1, 1) := by decide +kernel
theorem dX12_league_137 : decode cX12_league 137 = .ok (.goto 4, 3) := by decide +kernel
theorem dX12_league_140 : decode cX12_league 140 = .ok (.iconst 0, 1) := by decide +kernel
theorem dX12_league_141 : decode cX12_league 141 = .ok (.ior, 1) := by decide +kernel
theorem dX12_league_142 : decode cX12_league 142 = .ok (.istore 5, 2) := by decide +kernel
theorem dX12_league_144 : decode cX12_league 144 = .ok (.aload_n 0, 1) := by decide +kernel
theorem dX12_league_145 : decode cX12_league 145 = .ok (.aload_n 0, 1) := by decide +kernel
theorem dX12_league_146 : decode cX12_league 146 = .ok (.getfield 144, 3) := by decide +kernel
theorem dX12_league_149 : decode cX12_league 149 = .ok (.iload 4, 2) := by decide +kernel
theorem dX12_league_151 : decode cX12_league 151 = .ok (.invokevirtual 171, 3) := by decide +kernel
theorem dX12_league_154 : decode cX12_league 154 = .ok (.aload_n 0, 1) := by decide +kernel
theorem dX12_league_155 : decode cX12_league 155 = .ok (.getfield 25, 3) := by decide +kernel
theorem dX12_league_158 : decode cX12_league 158 = .ok (.iconst 0, 1) := by decide +kernel
theorem dX12_league_159 : decode cX12_league 159 = .ok (.iaload, 1) := by decide +kernel
theorem dX12_league_160 : decode cX12_league 160 = .ok (.if_icmp .gt 35, 3) := by decide +kernel
theorem dX12_league_163 : decode cX12_league 163 = .ok (.aload_n 0, 1) := by decide +kernel
theorem dX12_league_164 : decode cX12_league 164 = .ok (.getfield 25, 3) := by decide +kernel
theorem dX12_league_167 : decode cX12_league 167 = .ok (.iconst 1, 1) := by decide +kernel
theorem dX12_league_168 : decode cX12_league 168 = .ok (.iaload, 1) := by decide +kernel
theorem dX12_league_169 : decode cX12_league 169 = .ok (.aload_n 0, 1) := by decide +kernel
theorem dX12_league_170 : decode cX12_league 170 = .ok (.iload 5, 2) := by decide +kernel
theorem dX12_league_172 : decode cX12_league 172 = .ok (.invokevirtual 165, 3) := by decide +kernel
theorem dX12_league_175 : decode cX12_league 175 = .ok (.aload_n 0, 1) := by decide +kernel
theorem dX12_league_176 : decode cX12_league 176 = .ok (.aload_n 0, 1) := by decide +kernel
theorem dX12_league_177 : decode cX12_league 177 = .ok (.aload_n 0, 1) := by decide +kernel
theorem dX12_league_178 : decode cX12_league 178 = .ok (.getfield 144, 3) := by decide +kernel
theorem dX12_league_181 : decode cX12_league 181 = .ok (.invokevirtual 159, 3) := by decide +kernel
theorem dX12_league_184 : decode cX12_league 184 = .ok (.invokevirtual 165, 3) := by decide +kernel
theorem dX12_league_187 : decode cX12_league 187 = .ok (.invokestatic 168, 3) := by decide +kernel
theorem dX12_league_190 : decode cX12_league 190 = .ok (.ifCond .eq 5, 3) := by decide +kernel
theorem dX12_league_193 : decode cX12_league 193 = .ok (.iconst 1, 1) := by decide +kernel
theorem dX12_league_194 : decode cX12_league 194 = .ok (.ireturn, 1) := by decide +kernel
theorem dX12_league_195 : decode cX12_league 195 = .ok (.iinc 4 1, 3) := by decide +kernel
theorem dX12_league_198 : decode cX12_league 198 = .ok (.goto (-120), 3) := by decide +kernel
theorem dX12_league_201 : decode cX12_league 201 = .ok (.iconst 0, 1) := by decide +kernel
theorem dX12_league_202 : decode cX12_league 202 = .ok (.ireturn, 1) := by decide +kernel
theorem dX12_divisor_0 : decode cX12_divisor 0 = .ok (.lload_n 0, 1) := by decide +kernel
theorem dX12_divisor_1 : decode cX12_divisor 1 = .ok (.lstore 4, 2) := by decide +kernel
theorem dX12_divisor_3 : decode cX12_divisor 3 = .ok (.lload_n 2, 1) := by decide +kernel
theorem dX12_divisor_4 : decode cX12_divisor 4 = .ok (.lstore 6, 2) := by decide +kernel
theorem dX12_divisor_6 : decode cX12_divisor 6 = .ok (.lload 6, 2) := by decide +kernel
theorem dX12_divisor_8 : decode cX12_divisor 8 = .ok (.lconst 0, 1) := by decide +kernel
theorem dX12_divisor_9 : decode cX12_divisor 9 = .ok (.lcmp, 1) := by decide +kernel
theorem dX12_divisor_10 : decode cX12_divisor 10 = .ok (.ifCond .eq 21, 3) := by decide +kernel
theorem dX12_divisor_13 : decode cX12_divisor 13 = .ok (.lload 4, 2) := by decide +kernel
theorem dX12_divisor_15 : decode cX12_divisor 15 = .ok (.lload 6, 2) := by decide +kernel
theorem dX12_divisor_17 : decode cX12_divisor 17 = .ok (.lrem, 1) := by decide +kernel
theorem dX12_divisor_18 : decode cX12_divisor 18 = .ok (.lstore 8, 2) := by decide +kernel
theorem dX12_divisor_20 : decode cX12_divisor 20 = .ok (.lload 6, 2) := by decide +kernel
theorem dX12_divisor_22 : decode cX12_divisor 22 = .ok (.lstore 4, 2) := by decide +kernel
theorem dX12_divisor_24 : decode cX12_divisor 24 = .ok (.lload 8, 2) := by decide +kernel
theorem dX12_divisor_26 : decode cX12_divisor 26 = .ok (.lstore 6, 2) := by decide +kernel
theorem dX12_divisor_28 : decode cX12_divisor 28 = .ok (.goto (-22), 3) := by decide +kernel
theorem dX12_divisor_31 : decode cX12_divisor 31 = .ok (.lload 4, 2) := by decide +kernel
theorem dX12_divisor_33 : decode cX12_divisor 33 = .ok (.lreturn, 1) := by decide +kernel
theorem dX12_shaken_0 : decode cX12_shaken 0 = .ok (.iload_n 1, 1) := by decide +kernel
theorem dX12_shaken_1 : decode cX12_shaken 1 = .ok (.iconst 0, 1) := by decide +kernel
theorem dX12_shaken_2 : decode cX12_shaken 2 = .ok (.iconst 1, 1) := by decide +kernel
theorem dX12_shaken_3 : decode cX12_shaken 3 = .ok (.invokestatic 104, 3) := by decide +kernel
theorem dX12_shaken_6 : decode cX12_shaken 6 = .ok (.ifCond .ne 10, 3) := by decide +kernel
theorem dX12_shaken_9 : decode cX12_shaken 9 = .ok (.aload_n 0, 1) := by decide +kernel
theorem dX12_shaken_10 : decode cX12_shaken 10 = .ok (.bipush (-2), 2) := by decide +kernel
theorem dX12_shaken_12 : decode cX12_shaken 12 = .ok (.invokevirtual 248, 3) := by decide +kernel
theorem dX12_shaken_15 : decode cX12_shaken 15 = .ok (.lreturn, 1) := by decide +kernel
theorem dX12_shaken_16 : decode cX12_shaken 16 = .ok (.aload_n 0, 1) := by decide +kernel
theorem dX12_shaken_17 : decode cX12_shaken 17 = .ok (.invokevirtual 213, 3) := by decide +kernel
theorem dX12_shaken_20 : decode cX12_shaken 20 = .ok (.ifCond .eq 10, 3) := by decide +kernel
theorem dX12_shaken_23 : decode cX12_shaken 23 = .ok (.aload_n 0, 1) := by decide +kernel
theorem dX12_shaken_24 : decode cX12_shaken 24 = .ok (.bipush (-3), 2) := by decide +kernel
theorem dX12_shaken_26 : decode cX12_shaken 26 = .ok (.invokevirtual 248, 3) := by decide +kernel
theorem dX12_shaken_29 : decode cX12_shaken 29 = .ok (.lreturn, 1) := by decide +kernel
theorem dX12_shaken_30 : decode cX12_shaken 30 = .ok (.aload_n 0, 1) := by decide +kernel
theorem dX12_shaken_31 : decode cX12_shaken 31 = .ok (.invokevirtual 204, 3) := by decide +kernel
theorem dX12_shaken_34 : decode cX12_shaken 34 = .ok (.aload_n 0, 1) := by decide +kernel
theorem dX12_shaken_35 : decode cX12_shaken 35 = .ok (.aload_n 0, 1) := by decide +kernel
theorem dX12_shaken_36 : decode cX12_shaken 36 = .ok (.getfield 144, 3) := by decide +kernel
theorem dX12_shaken_39 : decode cX12_shaken 39 = .ok (.invokevirtual 159, 3) := by decide +kernel
theorem dX12_shaken_42 : decode cX12_shaken 42 = .ok (.iconst 1, 1) := by decide +kernel
theorem dX12_shaken_43 : decode cX12_shaken 43 = .ok (.aload_n 0, 1) := by decide +kernel
theorem dX12_shaken_44 : decode cX12_shaken 44 = .ok (.getfield 144, 3) := by decide +kernel
theorem dX12_shaken_47 : decode cX12_shaken 47 = .ok (.ishl, 1) := by decide +kernel
theorem dX12_shaken_48 : decode cX12_shaken 48 = .ok (.iconst (-1), 1) := by decide +kernel
theorem dX12_shaken_49 : decode cX12_shaken 49 = .ok (.ixor, 1) := by decide +kernel
theorem dX12_shaken_50 : decode cX12_shaken 50 = .ok (.iand, 1) := by decide +kernel
theorem dX12_shaken_51 : decode cX12_shaken 51 = .ok (.istore_n 2, 1) := by decide +kernel
theorem dX12_shaken_52 : decode cX12_shaken 52 = .ok (.lconst 0, 1) := by decide +kernel
theorem dX12_shaken_53 : decode cX12_shaken 53 = .ok (.lstore_n 3, 1) := by decide +kernel
theorem dX12_shaken_54 : decode cX12_shaken 54 = .ok (.lconst 1, 1) := by decide +kernel
theorem dX12_shaken_55 : decode cX12_shaken 55 = .ok (.lstore 5, 2) := by decide +kernel
theorem dX12_shaken_57 : decode cX12_shaken 57 = .ok (.aload_n 0, 1) := by decide +kernel
theorem dX12_shaken_58 : decode cX12_shaken 58 = .ok (.getfield 144, 3) := by decide +kernel
theorem dX12_shaken_61 : decode cX12_shaken 61 = .ok (.iconst 1, 1) := by decide +kernel
theorem dX12_shaken_62 : decode cX12_shaken 62 = .ok (.iadd, 1) := by decide +kernel
theorem dX12_shaken_63 : decode cX12_shaken 63 = .ok (.istore 7, 2) := by decide +kernel
theorem dX12_shaken_65 : decode cX12_shaken 65 = .ok (.iload 7, 2) := by decide +kernel
theorem dX12_shaken_67 : decode cX12_shaken 67 = .ok (.aload_n 0, 1) := by decide +kernel
theorem dX12_shaken_68 : decode cX12_shaken 68 = .ok (.getfield 82, 3) := by decide +kernel
theorem dX12_shaken_71 : decode cX12_shaken 71 = .ok (.if_icmp .ge 17, 3) := by decide +kernel
theorem dX12_shaken_74 : decode cX12_shaken 74 = .ok (.lload 5, 2) := by decide +kernel
theorem dX12_shaken_76 : decode cX12_shaken 76 = .ok (.ldc2_w 252, 3) := by decide +kernel
theorem dX12_shaken_79 : decode cX12_shaken 79 = .ok (.lmul, 1) := by decide +kernel
theorem dX12_shaken_80 : decode cX12_shaken 80 = .ok (.lstore 5, 2) := by decide +kernel
theorem dX12_shaken_82 : decode cX12_shaken 82 = .ok (.iinc 7 1, 3) := by decide +kernel
theorem dX12_shaken_85 : decode cX12_shaken 85 = .ok (.goto (-20), 3) := by decide +kernel
theorem dX12_shaken_88 : decode cX12_shaken 88 = .ok (.iconst 0, 1) := by decide +kernel
theorem dX12_shaken_89 : decode cX12_shaken 89 = .ok (.istore 7, 2) := by decide +kernel
theorem dX12_shaken_91 : decode cX12_shaken 91 = .ok (.iload 7, 2) := by decide +kernel
theorem dX12_shaken_93 : decode cX12_shaken 93 = .ok (.iconst 1, 1) := by decide +kernel
theorem dX12_shaken_94 : decode cX12_shaken 94 = .ok (.aload_n 0, 1) := by decide +kernel
theorem dX12_shaken_95 : decode cX12_shaken 95 = .ok (.getfield 82, 3) := by decide +kernel
theorem dX12_shaken_98 : decode cX12_shaken 98 = .ok (.ishl, 1) := by decide +kernel
theorem dX12_shaken_99 : decode cX12_shaken 99 = .ok (.if_icmp .ge 128, 3) := by decide +kernel
theorem dX12_shaken_102 : decode cX12_shaken 102 = .ok (.iload 7, 2) := by decide +kernel
theorem dX12_shaken_104 : decode cX12_shaken 104 = .ok (.iload_n 2, 1) := by decide +kernel
theorem dX12_shaken_105 : decode cX12_shaken 105 = .ok (.iconst (-1), 1) := by decide +kernel
theorem dX12_shaken_106 : decode cX12_shaken 106 = .ok (.ixor, 1) := by decide +kernel
theorem dX12_shaken_107 : decode cX12_shaken 107 = .ok (.iand, 1) := by decide +kernel
theorem dX12_shaken_108 : decode cX12_shaken 108 = .ok (.ifCond .ne 113, 3) := by decide +kernel
theorem dX12_shaken_111 : decode cX12_shaken 111 = .ok (.aload_n 0, 1) := by decide +kernel
theorem dX12_shaken_112 : decode cX12_shaken 112 = .ok (.getfield 25, 3) := by decide +kernel
theorem dX12_shaken_115 : decode cX12_shaken 115 = .ok (.iconst 1, 1) := by decide +kernel
theorem dX12_shaken_116 : decode cX12_shaken 116 = .ok (.iaload, 1) := by decide +kernel
theorem dX12_shaken_117 : decode cX12_shaken 117 = .ok (.aload_n 0, 1) := by decide +kernel
theorem dX12_shaken_118 : decode cX12_shaken 118 = .ok (.aload_n 0, 1) := by decide +kernel
theorem dX12_shaken_119 : decode cX12_shaken 119 = .ok (.getfield 52, 3) := by decide +kernel
theorem dX12_shaken_122 : decode cX12_shaken 122 = .ok (.aload_n 0, 1) := by decide +kernel
theorem dX12_shaken_123 : decode cX12_shaken 123 = .ok (.getfield 144, 3) := by decide +kernel
theorem dX12_shaken_126 : decode cX12_shaken 126 = .ok (.iaload, 1) := by decide +kernel
theorem dX12_shaken_127 : decode cX12_shaken 127 = .ok (.iload 7, 2) := by decide +kernel
theorem dX12_shaken_129 : decode cX12_shaken 129 = .ok (.ixor, 1) := by decide +kernel
theorem dX12_shaken_130 : decode cX12_shaken 130 = .ok (.invokevirtual 165, 3) := by decide +kernel
theorem dX12_shaken_133 : decode cX12_shaken 133 = .ok (.aload_n 0, 1) := by decide +kernel
theorem dX12_shaken_134 : decode cX12_shaken 134 = .ok (.aload_n 0, 1) := by decide +kernel
theorem dX12_shaken_135 : decode cX12_shaken 135 = .ok (.aload_n 0, 1) := by decide +kernel
theorem dX12_shaken_136 : decode cX12_shaken 136 = .ok (.getfield 144, 3) := by decide +kernel
theorem dX12_shaken_139 : decode cX12_shaken 139 = .ok (.invokevirtual 159, 3) := by decide +kernel
theorem dX12_shaken_142 : decode cX12_shaken 142 = .ok (.invokevirtual 165, 3) := by decide +kernel
theorem dX12_shaken_145 : decode cX12_shaken 145 = .ok (.invokestatic 168, 3) := by decide +kernel
theorem dX12_shaken_148 : decode cX12_shaken 148 = .ok (.ifCond .ne 6, 3) := by decide +kernel
theorem dX12_shaken_151 : decode cX12_shaken 151 = .ok (.goto 70, 3) := by decide +kernel
theorem dX12_shaken_154 : decode cX12_shaken 154 = .ok (.lconst 1, 1) := by decide +kernel
theorem dX12_shaken_155 : decode cX12_shaken 155 = .ok (.lstore 8, 2) := by decide +kernel
theorem dX12_shaken_157 : decode cX12_shaken 157 = .ok (.aload_n 0, 1) := by decide +kernel
theorem dX12_shaken_158 : decode cX12_shaken 158 = .ok (.getfield 144, 3) := by decide +kernel
theorem dX12_shaken_161 : decode cX12_shaken 161 = .ok (.iconst 1, 1) := by decide +kernel
theorem dX12_shaken_162 : decode cX12_shaken 162 = .ok (.iadd, 1) := by decide +kernel
theorem dX12_shaken_163 : decode cX12_shaken 163 = .ok (.istore 10, 2) := by decide +kernel
theorem dX12_shaken_165 : decode cX12_shaken 165 = .ok (.iload 10, 2) := by decide +kernel
theorem dX12_shaken_167 : decode cX12_shaken 167 = .ok (.aload_n 0, 1) := by decide +kernel
theorem dX12_shaken_168 : decode cX12_shaken 168 = .ok (.getfield 82, 3) := by decide +kernel
theorem dX12_shaken_171 : decode cX12_shaken 171 = .ok (.if_icmp .ge 45, 3) := by decide +kernel
theorem dX12_shaken_174 : decode cX12_shaken 174 = .ok (.lload 8, 2) := by decide +kernel
theorem dX12_shaken_176 : decode cX12_shaken 176 = .ok (.iload 7, 2) := by decide +kernel
theorem dX12_shaken_178 : decode cX12_shaken 178 = .ok (.iload 10, 2) := by decide +kernel
theorem dX12_shaken_180 : decode cX12_shaken 180 = .ok (.ishr, 1) := by decide +kernel
theorem dX12_shaken_181 : decode cX12_shaken 181 = .ok (.iconst 1, 1) := by decide +kernel
theorem dX12_shaken_182 : decode cX12_shaken 182 = .ok (.iand, 1) := by decide +kernel
theorem dX12_shaken_183 : decode cX12_shaken 183 = .ok (.iconst 1, 1) := by decide +kernel
theorem dX12_shaken_184 : decode cX12_shaken 184 = .ok (.if_icmp .ne 13, 3) := by decide +kernel
theorem dX12_shaken_187 : decode cX12_shaken 187 = .ok (.aload_n 0, 1) := by decide +kernel
theorem dX12_shaken_188 : decode cX12_shaken 188 = .ok (.getfield 25, 3) := by decide +kernel
theorem dX12_shaken_191 : decode cX12_shaken 191 = .ok (.iconst 4, 1) := by decide +kernel
theorem dX12_shaken_192 : decode cX12_shaken 192 = .ok (.iaload, 1) := by decide +kernel
theorem dX12_shaken_193 : decode cX12_shaken 193 = .ok (.i2l, 1) := by decide +kernel
theorem dX12_shaken_194 : decode cX12_shaken 194 = .ok (.goto 13, 3) := by decide +kernel
theorem dX12_shaken_197 : decode cX12_shaken 197 = .ok (.bipush 100, 2) := by decide +kernel
theorem dX12_shaken_199 : decode cX12_shaken 199 = .ok (.aload_n 0, 1) := by decide +kernel
theorem dX12_shaken_200 : decode cX12_shaken 200 = .ok (.getfield 25, 3) := by decide +kernel
theorem dX12_shaken_203 : decode cX12_shaken 203 = .ok (.iconst 4, 1) := by decide +kernel
theorem dX12_shaken_204 : decode cX12_shaken 204 = .ok (.iaload, 1) := by decide +kernel
theorem dX12_shaken_205 : decode cX12_shaken 205 = .ok (.isub, 1) := by decide +kernel
theorem dX12_shaken_206 : decode cX12_shaken 206 = .ok (.i2l, 1) := by decide +kernel
theorem dX12_shaken_207 : decode cX12_shaken 207 = .ok (.lmul, 1) := by decide +kernel
theorem dX12_shaken_208 : decode cX12_shaken 208 = .ok (.lstore 8, 2) := by decide +kernel
theorem dX12_shaken_210 : decode cX12_shaken 210 = .ok (.iinc 10 1, 3) := by decide +kernel
theorem dX12_shaken_213 : decode cX12_shaken 213 = .ok (.goto (-48), 3) := by decide +kernel
theorem dX12_shaken_216 : decode cX12_shaken 216 = .ok (.lload_n 3, 1) := by decide +kernel
theorem dX12_shaken_217 : decode cX12_shaken 217 = .ok (.lload 8, 2) := by decide +kernel
theorem dX12_shaken_219 : decode cX12_shaken 219 = .ok (.ladd, 1) := by decide +kernel
theorem dX12_shaken_220 : decode cX12_shaken 220 = .ok (.lstore_n 3, 1) := by decide +kernel
theorem dX12_shaken_221 : decode cX12_shaken 221 = .ok (.iinc 7 1, 3) := by decide +kernel
theorem dX12_shaken_224 : decode cX12_shaken 224 = .ok (.goto (-133), 3) := by decide +kernel
theorem dX12_shaken_227 : decode cX12_shaken 227 = .ok (.iload_n 1, 1) := by decide +kernel
theorem dX12_shaken_228 : decode cX12_shaken 228 = .ok (.ifCond .ne 7, 3) := by decide +kernel
theorem dX12_shaken_231 : decode cX12_shaken 231 = .ok (.lload_n 3, 1) := by decide +kernel
theorem dX12_shaken_232 : decode cX12_shaken 232 = .ok (.goto 5, 3) := by decide +kernel
theorem dX12_shaken_235 : decode cX12_shaken 235 = .ok (.lload 5, 2) := by decide +kernel
theorem dX12_shaken_237 : decode cX12_shaken 237 = .ok (.lload_n 3, 1) := by decide +kernel
theorem dX12_shaken_238 : decode cX12_shaken 238 = .ok (.lload 5, 2) := by decide +kernel
theorem dX12_shaken_240 : decode cX12_shaken 240 = .ok (.invokestatic 254, 3) := by decide +kernel
theorem dX12_shaken_243 : decode cX12_shaken 243 = .ok (.ldiv, 1) := by decide +kernel
theorem dX12_shaken_244 : decode cX12_shaken 244 = .ok (.lreturn, 1) := by decide +kernel
theorem dX12_seeds_0 : decode cX12_seeds 0 = .ok (.aload_n 0, 1) := by decide +kernel
theorem dX12_seeds_1 : decode cX12_seeds 1 = .ok (.iload_n 1, 1) := by decide +kernel
theorem dX12_seeds_2 : decode cX12_seeds 2 = .ok (.invokevirtual 150, 3) := by decide +kernel
theorem dX12_seeds_5 : decode cX12_seeds 5 = .ok (.ifCond .ne 9, 3) := by decide +kernel
theorem dX12_seeds_8 : decode cX12_seeds 8 = .ok (.aload_n 0, 1) := by decide +kernel
theorem dX12_seeds_9 : decode cX12_seeds 9 = .ok (.iconst (-1), 1) := by decide +kernel
theorem dX12_seeds_10 : decode cX12_seeds 10 = .ok (.invokevirtual 93, 3) := by decide +kernel
theorem dX12_seeds_13 : decode cX12_seeds 13 = .ok (.ireturn, 1) := by decide +kernel
theorem dX12_seeds_14 : decode cX12_seeds 14 = .ok (.iload_n 2, 1) := by decide +kernel
theorem dX12_seeds_15 : decode cX12_seeds 15 = .ok (.iconst 1, 1) := by decide +kernel
theorem dX12_seeds_16 : decode cX12_seeds 16 = .ok (.bipush 30, 2) := by decide +kernel
theorem dX12_seeds_18 : decode cX12_seeds 18 = .ok (.invokestatic 86, 3) := by decide +kernel
theorem dX12_seeds_21 : decode cX12_seeds 21 = .ok (.istore 4, 2) := by decide +kernel
theorem dX12_seeds_23 : decode cX12_seeds 23 = .ok (.iload 4, 2) := by decide +kernel
theorem dX12_seeds_25 : decode cX12_seeds 25 = .ok (.ifCond .eq 10, 3) := by decide +kernel
theorem dX12_seeds_28 : decode cX12_seeds 28 = .ok (.aload_n 0, 1) := by decide +kernel
theorem dX12_seeds_29 : decode cX12_seeds 29 = .ok (.iload 4, 2) := by decide +kernel
theorem dX12_seeds_31 : decode cX12_seeds 31 = .ok (.invokevirtual 93, 3) := by decide +kernel
theorem dX12_seeds_34 : decode cX12_seeds 34 = .ok (.ireturn, 1) := by decide +kernel
theorem dX12_seeds_35 : decode cX12_seeds 35 = .ok (.iload_n 3, 1) := by decide +kernel
theorem dX12_seeds_36 : decode cX12_seeds 36 = .ok (.istore 5, 2) := by decide +kernel
theorem dX12_seeds_38 : decode cX12_seeds 38 = .ok (.iconst 0, 1) := by decide +kernel
theorem dX12_seeds_39 : decode cX12_seeds 39 = .ok (.istore 6, 2) := by decide +kernel
theorem dX12_seeds_41 : decode cX12_seeds 41 = .ok (.iconst 0, 1) := by decide +kernel
theorem dX12_seeds_42 : decode cX12_seeds 42 = .ok (.istore 7, 2) := by decide +kernel
theorem dX12_seeds_44 : decode cX12_seeds 44 = .ok (.iload 7, 2) := by decide +kernel
theorem dX12_seeds_46 : decode cX12_seeds 46 = .ok (.iload_n 2, 1) := by decide +kernel
theorem dX12_seeds_47 : decode cX12_seeds 47 = .ok (.if_icmp .ge 134, 3) := by decide +kernel
theorem dX12_seeds_50 : decode cX12_seeds 50 = .ok (.aload_n 0, 1) := by decide +kernel
theorem dX12_seeds_51 : decode cX12_seeds 51 = .ok (.iconst 1, 1) := by decide +kernel
theorem dX12_seeds_52 : decode cX12_seeds 52 = .ok (.iconst 1, 1) := by decide +kernel
theorem dX12_seeds_53 : decode cX12_seeds 53 = .ok (.invokevirtual 122, 3) := by decide +kernel
theorem dX12_seeds_56 : decode cX12_seeds 56 = .ok (.iload_n 1, 1) := by decide +kernel
theorem dX12_seeds_57 : decode cX12_seeds 57 = .ok (.istore 8, 2) := by decide +kernel
theorem dX12_seeds_59 : decode cX12_seeds 59 = .ok (.aload_n 0, 1) := by decide +kernel
theorem dX12_seeds_60 : decode cX12_seeds 60 = .ok (.getfield 82, 3) := by decide +kernel
theorem dX12_seeds_63 : decode cX12_seeds 63 = .ok (.iconst 1, 1) := by decide +kernel
theorem dX12_seeds_64 : decode cX12_seeds 64 = .ok (.isub, 1) := by decide +kernel
theorem dX12_seeds_65 : decode cX12_seeds 65 = .ok (.istore 9, 2) := by decide +kernel
theorem dX12_seeds_67 : decode cX12_seeds 67 = .ok (.iload 9, 2) := by decide +kernel
theorem dX12_seeds_69 : decode cX12_seeds 69 = .ok (.ifCond .le 81, 3) := by decide +kernel
theorem dX12_seeds_72 : decode cX12_seeds 72 = .ok (.iload 5, 2) := by decide +kernel
theorem dX12_seeds_74 : decode cX12_seeds 74 = .ok (.ldc_w 258, 3) := by decide +kernel
theorem dX12_seeds_77 : decode cX12_seeds 77 = .ok (.imul, 1) := by decide +kernel
theorem dX12_seeds_78 : decode cX12_seeds 78 = .ok (.sipush 12345, 3) := by decide +kernel
theorem dX12_seeds_81 : decode cX12_seeds 81 = .ok (.iadd, 1) := by decide +kernel
theorem dX12_seeds_82 : decode cX12_seeds 82 = .ok (.istore 5, 2) := by decide +kernel
theorem dX12_seeds_84 : decode cX12_seeds 84 = .ok (.iload 5, 2) := by decide +kernel
theorem dX12_seeds_86 : decode cX12_seeds 86 = .ok (.ldc_w 259, 3) := by decide +kernel
theorem dX12_seeds_89 : decode cX12_seeds 89 = .ok (.iand, 1) := by decide +kernel
theorem dX12_seeds_90 : decode cX12_seeds 90 = .ok (.ldc_w 260, 3) := by decide +kernel
theorem dX12_seeds_93 : decode cX12_seeds 93 = .ok (.idiv, 1) := by decide +kernel
theorem dX12_seeds_94 : decode cX12_seeds 94 = .ok (.iload 9, 2) := by decide +kernel
theorem dX12_seeds_96 : decode cX12_seeds 96 = .ok (.iconst 1, 1) := by decide +kernel
theorem dX12_seeds_97 : decode cX12_seeds 97 = .ok (.iadd, 1) := by decide +kernel
theorem dX12_seeds_98 : decode cX12_seeds 98 = .ok (.irem, 1) := by decide +kernel
theorem dX12_seeds_99 : decode cX12_seeds 99 = .ok (.istore 10, 2) := by decide +kernel
theorem dX12_seeds_101 : decode cX12_seeds 101 = .ok (.iload 9, 2) := by decide +kernel
theorem dX12_seeds_103 : decode cX12_seeds 103 = .ok (.iload 10, 2) := by decide +kernel
theorem dX12_seeds_105 : decode cX12_seeds 105 = .ok (.if_icmp .eq 11, 3) := by decide +kernel
theorem dX12_seeds_108 : decode cX12_seeds 108 = .ok (.aload_n 0, 1) := by decide +kernel
theorem dX12_seeds_109 : decode cX12_seeds 109 = .ok (.iload 9, 2) := by decide +kernel
theorem dX12_seeds_111 : decode cX12_seeds 111 = .ok (.iload 10, 2) := by decide +kernel
theorem dX12_seeds_113 : decode cX12_seeds 113 = .ok (.invokevirtual 239, 3) := by decide +kernel
theorem dX12_seeds_116 : decode cX12_seeds 116 = .ok (.iload 8, 2) := by decide +kernel
theorem dX12_seeds_118 : decode cX12_seeds 118 = .ok (.iload 9, 2) := by decide +kernel
theorem dX12_seeds_120 : decode cX12_seeds 120 = .ok (.if_icmp .ne 8, 3) := by decide +kernel
theorem dX12_seeds_123 : decode cX12_seeds 123 = .ok (.iload 10, 2) := by decide +kernel
theorem dX12_seeds_125 : decode cX12_seeds 125 = .ok (.goto 17, 3) := by decide +kernel
theorem dX12_seeds_128 : decode cX12_seeds 128 = .ok (.iload 8, 2) := by decide +kernel
theorem dX12_seeds_130 : decode cX12_seeds 130 = .ok (.iload 10, 2) := by decide +kernel
theorem dX12_seeds_132 : decode cX12_seeds 132 = .ok (.if_icmp .ne 8, 3) := by decide +kernel
theorem dX12_seeds_135 : decode cX12_seeds 135 = .ok (.iload 9, 2) := by decide +kernel
theorem dX12_seeds_137 : decode cX12_seeds 137 = .ok (.goto 5, 3) := by decide +kernel
theorem dX12_seeds_140 : decode cX12_seeds 140 = .ok (.iload 8, 2) := by decide +kernel
theorem dX12_seeds_142 : decode cX12_seeds 142 = .ok (.istore 8, 2) := by decide +kernel
theorem dX12_seeds_144 : decode cX12_seeds 144 = .ok (.iinc 9 (-1), 3) := by decide +kernel
theorem dX12_seeds_147 : decode cX12_seeds 147 = .ok (.goto (-80), 3) := by decide +kernel
theorem dX12_seeds_150 : decode cX12_seeds 150 = .ok (.aload_n 0, 1) := by decide +kernel
theorem dX12_seeds_151 : decode cX12_seeds 151 = .ok (.invokevirtual 204, 3) := by decide +kernel
theorem dX12_seeds_154 : decode cX12_seeds 154 = .ok (.iload 6, 2) := by decide +kernel
theorem dX12_seeds_156 : decode cX12_seeds 156 = .ok (.aload_n 0, 1) := by decide +kernel
theorem dX12_seeds_157 : decode cX12_seeds 157 = .ok (.getfield 49, 3) := by decide +kernel
theorem dX12_seeds_160 : decode cX12_seeds 160 = .ok (.iload 8, 2) := by decide +kernel
theorem dX12_seeds_162 : decode cX12_seeds 162 = .ok (.iaload, 1) := by decide +kernel
theorem dX12_seeds_163 : decode cX12_seeds 163 = .ok (.invokestatic 156, 3) := by decide +kernel
theorem dX12_seeds_166 : decode cX12_seeds 166 = .ok (.iadd, 1) := by decide +kernel
theorem dX12_seeds_167 : decode cX12_seeds 167 = .ok (.istore 6, 2) := by decide +kernel
theorem dX12_seeds_169 : decode cX12_seeds 169 = .ok (.aload_n 0, 1) := by decide +kernel
theorem dX12_seeds_170 : decode cX12_seeds 170 = .ok (.iconst 1, 1) := by decide +kernel
theorem dX12_seeds_171 : decode cX12_seeds 171 = .ok (.iconst 0, 1) := by decide +kernel
theorem dX12_seeds_172 : decode cX12_seeds 172 = .ok (.invokevirtual 122, 3) := by decide +kernel
theorem dX12_seeds_175 : decode cX12_seeds 175 = .ok (.iinc 7 1, 3) := by decide +kernel
theorem dX12_seeds_178 : decode cX12_seeds 178 = .ok (.goto (-134), 3) := by decide +kernel
theorem dX12_seeds_181 : decode cX12_seeds 181 = .ok (.iload 6, 2) := by decide +kernel
theorem dX12_seeds_183 : decode cX12_seeds 183 = .ok (.ireturn, 1) := by decide +kernel
theorem dX12_count_0 : decode cX12_count 0 = .ok (.iload_n 1, 1) := by decide +kernel
theorem dX12_count_1 : decode cX12_count 1 = .ok (.bipush 11, 2) := by decide +kernel
theorem dX12_count_3 : decode cX12_count 3 = .ok (.bipush 16, 2) := by decide +kernel
theorem dX12_count_5 : decode cX12_count 5 = .ok (.invokestatic 104, 3) := by decide +kernel
theorem dX12_count_8 : decode cX12_count 8 = .ok (.ifCond .eq 13, 3) := by decide +kernel
theorem dX12_count_11 : decode cX12_count 11 = .ok (.aload_n 0, 1) := by decide +kernel
theorem dX12_count_12 : decode cX12_count 12 = .ok (.getfield 7, 3) := by decide +kernel
theorem dX12_count_15 : decode cX12_count 15 = .ok (.iload_n 1, 1) := by decide +kernel
theorem dX12_count_16 : decode cX12_count 16 = .ok (.bipush 10, 2) := by decide +kernel
theorem dX12_count_18 : decode cX12_count 18 = .ok (.isub, 1) := by decide +kernel
theorem dX12_count_19 : decode cX12_count 19 = .ok (.iaload, 1) := by decide +kernel
theorem dX12_count_20 : decode cX12_count 20 = .ok (.ireturn, 1) := by decide +kernel
theorem dX12_count_21 : decode cX12_count 21 = .ok (.iload_n 1, 1) := by decide +kernel
theorem dX12_count_22 : decode cX12_count 22 = .ok (.tableswitch 108 0 6 #[42, 47, 52, 57, 70, 75, 80], 42) := by decide +kernel
theorem dX12_count_64 : decode cX12_count 64 = .ok (.aload_n 0, 1) := by decide +kernel
theorem dX12_count_65 : decode cX12_count 65 = .ok (.getfield 82, 3) := by decide +kernel
theorem dX12_count_68 : decode cX12_count 68 = .ok (.ireturn, 1) := by decide +kernel
theorem dX12_count_69 : decode cX12_count 69 = .ok (.aload_n 0, 1) := by decide +kernel
theorem dX12_count_70 : decode cX12_count 70 = .ok (.getfield 144, 3) := by decide +kernel
theorem dX12_count_73 : decode cX12_count 73 = .ok (.ireturn, 1) := by decide +kernel
theorem dX12_count_74 : decode cX12_count 74 = .ok (.aload_n 0, 1) := by decide +kernel
theorem dX12_count_75 : decode cX12_count 75 = .ok (.getfield 115, 3) := by decide +kernel
theorem dX12_count_78 : decode cX12_count 78 = .ok (.ireturn, 1) := by decide +kernel
theorem dX12_count_79 : decode cX12_count 79 = .ok (.aload_n 0, 1) := by decide +kernel
theorem dX12_count_80 : decode cX12_count 80 = .ok (.aload_n 0, 1) := by decide +kernel
theorem dX12_count_81 : decode cX12_count 81 = .ok (.aload_n 0, 1) := by decide +kernel
theorem dX12_count_82 : decode cX12_count 82 = .ok (.getfield 144, 3) := by decide +kernel
theorem dX12_count_85 : decode cX12_count 85 = .ok (.invokevirtual 159, 3) := by decide +kernel
theorem dX12_count_88 : decode cX12_count 88 = .ok (.invokevirtual 165, 3) := by decide +kernel
theorem dX12_count_91 : decode cX12_count 91 = .ok (.ireturn, 1) := by decide +kernel
theorem dX12_count_92 : decode cX12_count 92 = .ok (.aload_n 0, 1) := by decide +kernel
theorem dX12_count_93 : decode cX12_count 93 = .ok (.getfield 90, 3) := by decide +kernel
theorem dX12_count_96 : decode cX12_count 96 = .ok (.ireturn, 1) := by decide +kernel
theorem dX12_count_97 : decode cX12_count 97 = .ok (.aload_n 0, 1) := by decide +kernel
theorem dX12_count_98 : decode cX12_count 98 = .ok (.getfield 210, 3) := by decide +kernel
theorem dX12_count_101 : decode cX12_count 101 = .ok (.ireturn, 1) := by decide +kernel
theorem dX12_count_102 : decode cX12_count 102 = .ok (.aload_n 0, 1) := by decide +kernel
theorem dX12_count_103 : decode cX12_count 103 = .ok (.invokevirtual 213, 3) := by decide +kernel
theorem dX12_count_106 : decode cX12_count 106 = .ok (.ifCond .eq 5, 3) := by decide +kernel
theorem dX12_count_109 : decode cX12_count 109 = .ok (.iconst 0, 1) := by decide +kernel
theorem dX12_count_110 : decode cX12_count 110 = .ok (.ireturn, 1) := by decide +kernel
theorem dX12_count_111 : decode cX12_count 111 = .ok (.aload_n 0, 1) := by decide +kernel
theorem dX12_count_112 : decode cX12_count 112 = .ok (.invokevirtual 204, 3) := by decide +kernel
theorem dX12_count_115 : decode cX12_count 115 = .ok (.aload_n 0, 1) := by decide +kernel
theorem dX12_count_116 : decode cX12_count 116 = .ok (.getfield 58, 3) := by decide +kernel
theorem dX12_count_119 : decode cX12_count 119 = .ok (.aload_n 0, 1) := by decide +kernel
theorem dX12_count_120 : decode cX12_count 120 = .ok (.getfield 144, 3) := by decide +kernel
theorem dX12_count_123 : decode cX12_count 123 = .ok (.iaload, 1) := by decide +kernel
theorem dX12_count_124 : decode cX12_count 124 = .ok (.aload_n 0, 1) := by decide +kernel
theorem dX12_count_125 : decode cX12_count 125 = .ok (.getfield 144, 3) := by decide +kernel
theorem dX12_count_128 : decode cX12_count 128 = .ok (.isub, 1) := by decide +kernel
theorem dX12_count_129 : decode cX12_count 129 = .ok (.ireturn, 1) := by decide +kernel
theorem dX12_count_130 : decode cX12_count 130 = .ok (.bipush (-9), 2) := by decide +kernel
theorem dX12_count_132 : decode cX12_count 132 = .ok (.ireturn, 1) := by decide +kernel
end
section
set_option maxHeartbeats 4000000 in
set_option maxRecDepth 100000 in
/-- refuse(w): w is counted -/
theorem c_X11_refuse (l : Launch) (dC : Nat → ClassId) (dI : Nat → Nat → Nat) (aC : Nat → ClassId) (sz : Nat) (h0 : Nat) (xp : Nat) (xtp : Nat) (xn : Nat) (xt : Nat) (xk : Nat) (xl : Nat) (xc : Nat) (xo : Nat) (xto : Nat) (xr : Nat) (xch : Nat) (ts : Int32) (ik : Int32) (st : Int32) (w : Int32) (k : Nat) (rf : Nat → Int32) (hw1 : w < 0) (hw2 : -6 ≤ w) (hk : (-w).toNatClampNeg = k) (hki : vp_in (-w) 7) : Met l yX11_refuse (wW yX11_refuse cX11_refuse 2 (some .int)) ({ frames := 0, cells := 0, slots := 0, locals := 0 } : Room) (va_Pc [.ref h0, .int w] (fun U => U.heap.size = sz ∧ va_P (dC, dI) classes [(h0, .inr (11, [.ref xp, .ref xtp, .ref xn, .ref xt, .ref xk, .ref xl, .ref xc, .ref xo, .ref xto, .ref xr, .ref xch, .int ts, .int ik, .int st])), (xr, .inl (aC 0, 7, .inl rf))] U.heap ∧ va_K (dC, dI) classes (TY aC) U ∧ va_D (fun _ => True) [(h0, .inr (11, [.ref xp, .ref xtp, .ref xn, .ref xt, .ref xk, .ref xl, .ref xc, .ref xo, .ref xto, .ref xr, .ref xch, .int ts, .int ik, .int st])), (xr, .inl (aC 0, 7, .inl rf))] ∧ NX U)) (va_Qi (fun (r : Int32) (rf2 : Nat → Int32) => r = w ∧ rf2 = upd rf k (rf k + 1)) (fun (rf2 : Nat → Int32) (t : State) => va_P (dC, dI) classes [(h0, .inr (11, [.ref xp, .ref xtp, .ref xn, .ref xt, .ref xk, .ref xl, .ref xc, .ref xo, .ref xto, .ref xr, .ref xch, .int ts, .int ik, .int st])), (xr, .inl (aC 0, 7, .inl rf2))] t.heap ∧ va_K (dC, dI) classes (TY aC) t ∧ va_D (va_A [(h0, .inr (11, [.ref xp, .ref xtp, .ref xn, .ref xt, .ref xk, .ref xl, .ref xc, .ref xo, .ref xto, .ref xr, .ref xch, .int ts, .int ik, .int st])), (xr, .inl (aC 0, 7, .inl rf))] sz) [(h0, .inr (11, [.ref xp, .ref xtp, .ref xn, .ref xt, .ref xk, .ref xl, .ref xc, .ref xo, .ref xto, .ref xr, .ref xch, .int ts, .int ik, .int st])), (xr, .inl (aC 0, 7, .inl rf2))]) (va_A [(h0, .inr (11, [.ref xp, .ref xtp, .ref xn, .ref xt, .ref xk, .ref xl, .ref xc, .ref xo, .ref xto, .ref xr, .ref xch, .int ts, .int ik, .int st])), (xr, .inl (aC 0, 7, .inl rf))] sz)) 0 0 (va_A [(h0, .inr (11, [.ref xp, .ref xtp, .ref xn, .ref xt, .ref xk, .ref xl, .ref xc, .ref xo, .ref xto, .ref xr, .ref xch, .int ts, .int ik, .int st])), (xr, .inl (aC 0, 7, .inl rf))] sz) := by
  refine Met.ofW (cc := cX11_refuse) (maxL := 2) (ret := (some .int)) (by decide) rfl ?_
  intro p e s m args below meth c s₁ B hml hv
  obtain ⟨rfl, hsz, hP, hK, hD0, hN⟩ := hv
  have hx := B.exec
  have hb := B.bytes
  have hr := B.returns
  have hts0 := atoms_spec (ws := (wW yX11_refuse cX11_refuse 2 (some .int))) B.pre
  have hts : ∀ w ∈ lw_G, w.before ([.ref h0, .int w] : List Value).toArray s = true := fun w h => hts0 w (List.mem_cons_of_mem _ h)
  have hown : s.vm.findClass RX11 = some m.cls := findClass_of_methodNamed B.named
  have hlocks := B.notSynchronized
  subst hsz
  have hD := hD0.self (sz := s.heap.size)
  generalize hAe : va_A [(h0, .inr (11, [.ref xp, .ref xtp, .ref xn, .ref xt, .ref xk, .ref xl, .ref xc, .ref xo, .ref xto, .ref xr, .ref xch, .int ts, .int ik, .int st])), (xr, .inl (aC 0, 7, .inl rf))] s.heap.size = A at hD ⊢
  have hA : ∀ q : Nat, s.heap.size ≤ q → A q := fun q h => by rw [← hAe]; exact Or.inr h
  obtain ⟨H, hHe⟩ : ∃ H : Heap, H = s.heap := ⟨_, rfl⟩
  have hS : va_S A s.heap H [] := by rw [hHe]; exact va_S.rf
  have hP : va_P (dC, dI) classes [(h0, .inr (11, [.ref xp, .ref xtp, .ref xn, .ref xt, .ref xk, .ref xl, .ref xc, .ref xo, .ref xto, .ref xr, .ref xch, .int ts, .int ik, .int st])), (xr, .inl (aC 0, 7, .inl rf))] H := by rw [hHe]; exact hP
  have hl := lv_entry ([.ref h0, .int w]) (n := 2) (Nat.le_of_ble_eq_true rfl)
  rw [lg_entry_eq]
  generalize (lg_sl ([.ref h0, .int w]) ++ List.replicate (2 - (lg_sl ([.ref h0, .int w])).length) Slot.unset).toArray = ls at hl ⊢
  have hl : lv_has ls 2 [(0, .ref h0), (1, .int w)] := hl
  rw [← hHe]
  refine lv_iload_n hx hb dX11_refuse_0 rfl (lv_at hl 1 rfl) ?_
  refine lv_if_ge (tgt := 21) hx hb dX11_refuse_1 (by decide) (fun c_1 => ?_) (fun c_1 => ?_)
  · exact absurd hw1 (by first | exact c_1 | exact Int32.not_lt.mpr c_1)
  · refine lv_iload_n hx hb dX11_refuse_4 rfl (lv_at hl 1 rfl) ?_
    refine lv_bipush (v := -6) hx hb dX11_refuse_5 (by decide) ?_
    refine lv_icmp_lt (tgt := 21) hx hb dX11_refuse_7 (by decide) (fun c_2 => ?_) (fun c_2 => ?_)
    · exact absurd hw2 c_2
    · refine lv_aload_n hx hb dX11_refuse_10 rfl (lv_at hl 0 rfl) ?_
      refine va_get (D := (dC, dI)) (ci := 11) (v := .ref xr) (C := RX11) (T := TX11) (N := 14) hx hb hts inX11 hown hK hP 0 rfl rfl 9 (by decide) (hts _ (gw kw_235 rfl)) (fun _ h9 => h9) rfl dX11_refuse_11 ?_
      refine lv_iload_n hx hb dX11_refuse_14 rfl (lv_at hl 1 rfl) ?_
      refine lv_ineg hx hb dX11_refuse_15 ?_
      refine lv_topi (fun x_3 e_3 => ?_)
      refine lv_dup2_11 hx hb dX11_refuse_16 rfl rfl ?_
      have h_4 : vp_in x_3 7 := by first | assumption | (unfold vp_in; decide) | exact vp_in_nI (by omega) (by omega) | (subst_vars; first | (unfold vp_in; decide) | exact vp_in_nI (by omega) (by omega))
      refine va_iald hx hb hK hP 1 0 rfl rfl h_4 dX11_refuse_17 ?_
      refine lv_topi (fun x_5 e_5 => ?_)
      refine lv_iconst (v := 1) hx hb dX11_refuse_18 (by decide) ?_
      refine lv_iadd hx hb dX11_refuse_19 ?_
      refine lv_topi (fun x_6 e_6 => ?_)
      have h_7 : vp_in x_3 7 := by first | assumption | (unfold vp_in; decide) | exact vp_in_nI (by omega) (by omega) | (subst_vars; first | (unfold vp_in; decide) | exact vp_in_nI (by omega) (by omega))
      refine va_iast hx hb hK hP hD hS 1 0 rfl rfl h_7 dX11_refuse_20 (fun H locs hP hD hS => ?_)
      obtain ⟨f_8, e_f_8⟩ : ∃ y : Nat → Int32, y = upd rf (x_3 : Int32).toNatClampNeg x_6 := ⟨_, rfl⟩
      have hP : va_P (dC, dI) classes [(h0, .inr (11, [.ref xp, .ref xtp, .ref xn, .ref xt, .ref xk, .ref xl, .ref xc, .ref xo, .ref xto, .ref xr, .ref xch, .int ts, .int ik, .int st])), (xr, .inl (aC 0, 7, .inl f_8))] H := by rw [e_f_8]; exact hP
      have hD : va_D A [(h0, .inr (11, [.ref xp, .ref xtp, .ref xn, .ref xt, .ref xk, .ref xl, .ref xc, .ref xo, .ref xto, .ref xr, .ref xch, .int ts, .int ik, .int st])), (xr, .inl (aC 0, 7, .inl f_8))] := by rw [e_f_8]; exact hD
      refine lv_iload_n hx hb dX11_refuse_21 rfl (lv_at hl 1 rfl) ?_
      have hP9 := hP.sub (ws' := [(h0, .inr (11, [.ref xp, .ref xtp, .ref xn, .ref xt, .ref xk, .ref xl, .ref xc, .ref xo, .ref xto, .ref xr, .ref xch, .int ts, .int ik, .int st])), (xr, .inl (aC 0, 7, .inl f_8))]) [0, 1] rfl
      have hD9 := hD.sub (ws' := [(h0, .inr (11, [.ref xp, .ref xtp, .ref xn, .ref xt, .ref xk, .ref xl, .ref xc, .ref xo, .ref xto, .ref xr, .ref xch, .int ts, .int ik, .int st])), (xr, .inl (aC 0, 7, .inl f_8))]) [0, 1] (by decide) rfl
      refine W.widen (k := 0) (n := 0) (by omega) (by omega) ?_
      exact W.iret (v := w) hx hb hr (fun t ht hW => ⟨⟨w, (f_8), rfl, ⟨rfl, by subst e_f_8; subst e_6; subst e_5; subst e_3; rw [hk]⟩, by rw [ht]; exact hP9, va_K.moved hW.alike hK, hD9⟩, hS.F ht⟩) hS.2.2 dX11_refuse_22

set_option maxHeartbeats 4000000 in
set_option maxRecDepth 100000 in
/-- X4_has -/
theorem c_X4_has (l : Launch) (dC : Nat → ClassId) (dI : Nat → Nat → Nat) (aC : Nat → ClassId) (sz : Nat) (h1 : Nat) (ek : Nat) (ef : Nat) (ew : Nat) (ep : Nat) (es : Nat) (sz0 : Int32) (sy : Int32) (dn : Int32) (i : Int32)  : Met l yX4_has (wW yX4_has cX4_has 2 (some .boolean)) ({ frames := 0, cells := 0, slots := 0, locals := 0 } : Room) (va_Pc [.ref h1, .int i] (fun U => U.heap.size = sz ∧ va_P (dC, dI) classes [(h1, .inr (4, [.ref ek, .ref ef, .ref ew, .ref ep, .ref es, .int sz0, .int sy, .int dn]))] U.heap ∧ va_K (dC, dI) classes (TY aC) U ∧ va_D (fun _ => True) [(h1, .inr (4, [.ref ek, .ref ef, .ref ew, .ref ep, .ref es, .int sz0, .int sy, .int dn]))] ∧ NX U)) (va_Qi (fun (r : Int32) (_ : Unit) => r = if 0 ≤ i ∧ i < sz0 then 1 else 0) (fun (_ : Unit) (t : State) => va_P (dC, dI) classes [(h1, .inr (4, [.ref ek, .ref ef, .ref ew, .ref ep, .ref es, .int sz0, .int sy, .int dn]))] t.heap ∧ va_K (dC, dI) classes (TY aC) t ∧ va_D (va_A [(h1, .inr (4, [.ref ek, .ref ef, .ref ew, .ref ep, .ref es, .int sz0, .int sy, .int dn]))] sz) [(h1, .inr (4, [.ref ek, .ref ef, .ref ew, .ref ep, .ref es, .int sz0, .int sy, .int dn]))]) (va_A [(h1, .inr (4, [.ref ek, .ref ef, .ref ew, .ref ep, .ref es, .int sz0, .int sy, .int dn]))] sz)) 0 0 (va_A [(h1, .inr (4, [.ref ek, .ref ef, .ref ew, .ref ep, .ref es, .int sz0, .int sy, .int dn]))] sz) := by
  refine Met.ofW (cc := cX4_has) (maxL := 2) (ret := (some .boolean)) (by decide) rfl ?_
  intro p e s m args below meth c s₁ B hml hv
  obtain ⟨rfl, hsz, hP, hK, hD0, hN⟩ := hv
  have hx := B.exec
  have hb := B.bytes
  have hr := B.returns
  have hts0 := atoms_spec (ws := (wW yX4_has cX4_has 2 (some .boolean))) B.pre
  have hts : ∀ w ∈ lw_G, w.before ([.ref h1, .int i] : List Value).toArray s = true := fun w h => hts0 w (List.mem_cons_of_mem _ h)
  have hown : s.vm.findClass RX4 = some m.cls := findClass_of_methodNamed B.named
  have hlocks := B.notSynchronized
  subst hsz
  have hD := hD0.self (sz := s.heap.size)
  generalize hAe : va_A [(h1, .inr (4, [.ref ek, .ref ef, .ref ew, .ref ep, .ref es, .int sz0, .int sy, .int dn]))] s.heap.size = A at hD ⊢
  have hA : ∀ q : Nat, s.heap.size ≤ q → A q := fun q h => by rw [← hAe]; exact Or.inr h
  obtain ⟨H, hHe⟩ : ∃ H : Heap, H = s.heap := ⟨_, rfl⟩
  have hS : va_S A s.heap H [] := by rw [hHe]; exact va_S.rf
  have hP : va_P (dC, dI) classes [(h1, .inr (4, [.ref ek, .ref ef, .ref ew, .ref ep, .ref es, .int sz0, .int sy, .int dn]))] H := by rw [hHe]; exact hP
  have hl := lv_entry ([.ref h1, .int i]) (n := 2) (Nat.le_of_ble_eq_true rfl)
  rw [lg_entry_eq]
  generalize (lg_sl ([.ref h1, .int i]) ++ List.replicate (2 - (lg_sl ([.ref h1, .int i])).length) Slot.unset).toArray = ls at hl ⊢
  have hl : lv_has ls 2 [(0, .ref h1), (1, .int i)] := hl
  rw [← hHe]
  refine lv_iload_n hx hb dX4_has_0 rfl (lv_at hl 1 rfl) ?_
  refine lv_if_lt (tgt := 16) hx hb dX4_has_1 (by decide) (fun c_1 => ?_) (fun c_1 => ?_)
  · refine lv_iconst (v := 0) hx hb dX4_has_16 (by decide) ?_
    have hP9 := hP.sub (ws' := [(h1, .inr (4, [.ref ek, .ref ef, .ref ew, .ref ep, .ref es, .int sz0, .int sy, .int dn]))]) [0] rfl
    have hD9 := hD.sub (ws' := [(h1, .inr (4, [.ref ek, .ref ef, .ref ew, .ref ep, .ref es, .int sz0, .int sy, .int dn]))]) [0] (by decide) rfl
    refine W.widen (k := 0) (n := 0) (by omega) (by omega) ?_
    exact W.zret (v := 0) hx hb hr rfl (fun t ht hW => ⟨⟨0, (), rfl, by simp_all, by rw [ht]; exact hP9, va_K.moved hW.alike hK, hD9⟩, hS.F ht⟩) hS.2.2 dX4_has_17
  · refine lv_iload_n hx hb dX4_has_4 rfl (lv_at hl 1 rfl) ?_
    refine lv_aload_n hx hb dX4_has_5 rfl (lv_at hl 0 rfl) ?_
    refine va_get (D := (dC, dI)) (ci := 4) (v := .int sz0) (C := RX4) (T := TX4) (N := 8) hx hb hts inX4 hown hK hP 0 rfl rfl 5 (by decide) (hts _ (gw kw_48 rfl)) (fun _ h9 => h9) rfl dX4_has_6 ?_
    refine lv_icmp_ge (tgt := 16) hx hb dX4_has_9 (by decide) (fun c_2 => ?_) (fun c_2 => ?_)
    · refine lv_iconst (v := 0) hx hb dX4_has_16 (by decide) ?_
      have hP9 := hP.sub (ws' := [(h1, .inr (4, [.ref ek, .ref ef, .ref ew, .ref ep, .ref es, .int sz0, .int sy, .int dn]))]) [0] rfl
      have hD9 := hD.sub (ws' := [(h1, .inr (4, [.ref ek, .ref ef, .ref ew, .ref ep, .ref es, .int sz0, .int sy, .int dn]))]) [0] (by decide) rfl
      refine W.widen (k := 0) (n := 0) (by omega) (by omega) ?_
      exact W.zret (v := 0) hx hb hr rfl (fun t ht hW => ⟨⟨0, (), rfl, by simp_all, by rw [ht]; exact hP9, va_K.moved hW.alike hK, hD9⟩, hS.F ht⟩) hS.2.2 dX4_has_17
    · refine lv_iconst (v := 1) hx hb dX4_has_12 (by decide) ?_
      refine lv_goto (tgt := 17) hx hb dX4_has_13 (by decide) ?_
      have hP9 := hP.sub (ws' := [(h1, .inr (4, [.ref ek, .ref ef, .ref ew, .ref ep, .ref es, .int sz0, .int sy, .int dn]))]) [0] rfl
      have hD9 := hD.sub (ws' := [(h1, .inr (4, [.ref ek, .ref ef, .ref ew, .ref ep, .ref es, .int sz0, .int sy, .int dn]))]) [0] (by decide) rfl
      refine W.widen (k := 0) (n := 0) (by omega) (by omega) ?_
      exact W.zret (v := 1) hx hb hr rfl (fun t ht hW => ⟨⟨1, (), rfl, by simp_all, by rw [ht]; exact hP9, va_K.moved hW.alike hK, hD9⟩, hS.F ht⟩) hS.2.2 dX4_has_17

set_option maxHeartbeats 4000000 in
set_option maxRecDepth 100000 in
/-- X4_isOver -/
theorem c_X4_isOver (l : Launch) (dC : Nat → ClassId) (dI : Nat → Nat → Nat) (aC : Nat → ClassId) (sz : Nat) (h1 : Nat) (ek : Nat) (ef : Nat) (ew : Nat) (ep : Nat) (es : Nat) (sz0 : Int32) (sy : Int32) (dn : Int32)  : Met l yX4_isOver (wW yX4_isOver cX4_isOver 1 (some .boolean)) ({ frames := 0, cells := 0, slots := 0, locals := 0 } : Room) (va_Pc [.ref h1] (fun U => U.heap.size = sz ∧ va_P (dC, dI) classes [(h1, .inr (4, [.ref ek, .ref ef, .ref ew, .ref ep, .ref es, .int sz0, .int sy, .int dn]))] U.heap ∧ va_K (dC, dI) classes (TY aC) U ∧ va_D (fun _ => True) [(h1, .inr (4, [.ref ek, .ref ef, .ref ew, .ref ep, .ref es, .int sz0, .int sy, .int dn]))] ∧ NX U)) (va_Qi (fun (r : Int32) (_ : Unit) => r = if sz0 = 0 ∨ ¬ dn = 0 then 1 else 0) (fun (_ : Unit) (t : State) => va_P (dC, dI) classes [(h1, .inr (4, [.ref ek, .ref ef, .ref ew, .ref ep, .ref es, .int sz0, .int sy, .int dn]))] t.heap ∧ va_K (dC, dI) classes (TY aC) t ∧ va_D (va_A [(h1, .inr (4, [.ref ek, .ref ef, .ref ew, .ref ep, .ref es, .int sz0, .int sy, .int dn]))] sz) [(h1, .inr (4, [.ref ek, .ref ef, .ref ew, .ref ep, .ref es, .int sz0, .int sy, .int dn]))]) (va_A [(h1, .inr (4, [.ref ek, .ref ef, .ref ew, .ref ep, .ref es, .int sz0, .int sy, .int dn]))] sz)) 0 0 (va_A [(h1, .inr (4, [.ref ek, .ref ef, .ref ew, .ref ep, .ref es, .int sz0, .int sy, .int dn]))] sz) := by
  refine Met.ofW (cc := cX4_isOver) (maxL := 1) (ret := (some .boolean)) (by decide) rfl ?_
  intro p e s m args below meth c s₁ B hml hv
  obtain ⟨rfl, hsz, hP, hK, hD0, hN⟩ := hv
  have hx := B.exec
  have hb := B.bytes
  have hr := B.returns
  have hts0 := atoms_spec (ws := (wW yX4_isOver cX4_isOver 1 (some .boolean))) B.pre
  have hts : ∀ w ∈ lw_G, w.before ([.ref h1] : List Value).toArray s = true := fun w h => hts0 w (List.mem_cons_of_mem _ h)
  have hown : s.vm.findClass RX4 = some m.cls := findClass_of_methodNamed B.named
  have hlocks := B.notSynchronized
  subst hsz
  have hD := hD0.self (sz := s.heap.size)
  generalize hAe : va_A [(h1, .inr (4, [.ref ek, .ref ef, .ref ew, .ref ep, .ref es, .int sz0, .int sy, .int dn]))] s.heap.size = A at hD ⊢
  have hA : ∀ q : Nat, s.heap.size ≤ q → A q := fun q h => by rw [← hAe]; exact Or.inr h
  obtain ⟨H, hHe⟩ : ∃ H : Heap, H = s.heap := ⟨_, rfl⟩
  have hS : va_S A s.heap H [] := by rw [hHe]; exact va_S.rf
  have hP : va_P (dC, dI) classes [(h1, .inr (4, [.ref ek, .ref ef, .ref ew, .ref ep, .ref es, .int sz0, .int sy, .int dn]))] H := by rw [hHe]; exact hP
  have hl := lv_entry ([.ref h1]) (n := 1) (Nat.le_of_ble_eq_true rfl)
  rw [lg_entry_eq]
  generalize (lg_sl ([.ref h1]) ++ List.replicate (1 - (lg_sl ([.ref h1])).length) Slot.unset).toArray = ls at hl ⊢
  have hl : lv_has ls 1 [(0, .ref h1)] := hl
  rw [← hHe]
  refine lv_aload_n hx hb dX4_isOver_0 rfl (lv_at hl 0 rfl) ?_
  refine va_get (D := (dC, dI)) (ci := 4) (v := .int sz0) (C := RX4) (T := TX4) (N := 8) hx hb hts inX4 hown hK hP 0 rfl rfl 5 (by decide) (hts _ (gw kw_48 rfl)) (fun _ h9 => h9) rfl dX4_isOver_1 ?_
  refine lv_if_eq (tgt := 14) hx hb dX4_isOver_4 (by decide) (fun c_1 => ?_) (fun c_1 => ?_)
  · refine lv_iconst (v := 1) hx hb dX4_isOver_14 (by decide) ?_
    refine lv_goto (tgt := 19) hx hb dX4_isOver_15 (by decide) ?_
    have hP9 := hP.sub (ws' := [(h1, .inr (4, [.ref ek, .ref ef, .ref ew, .ref ep, .ref es, .int sz0, .int sy, .int dn]))]) [0] rfl
    have hD9 := hD.sub (ws' := [(h1, .inr (4, [.ref ek, .ref ef, .ref ew, .ref ep, .ref es, .int sz0, .int sy, .int dn]))]) [0] (by decide) rfl
    refine W.widen (k := 0) (n := 0) (by omega) (by omega) ?_
    exact W.zret (v := 1) hx hb hr rfl (fun t ht hW => ⟨⟨1, (), rfl, by simp_all, by rw [ht]; exact hP9, va_K.moved hW.alike hK, hD9⟩, hS.F ht⟩) hS.2.2 dX4_isOver_19
  · refine lv_aload_n hx hb dX4_isOver_7 rfl (lv_at hl 0 rfl) ?_
    refine va_get (D := (dC, dI)) (ci := 4) (v := .int dn) (C := RX4) (T := TX4) (N := 8) hx hb hts inX4 hown hK hP 0 rfl rfl 7 (by decide) (hts _ (gw kw_53 rfl)) (fun _ h9 => h9) rfl dX4_isOver_8 ?_
    refine lv_if_eq (tgt := 18) hx hb dX4_isOver_11 (by decide) (fun c_2 => ?_) (fun c_2 => ?_)
    · refine lv_iconst (v := 0) hx hb dX4_isOver_18 (by decide) ?_
      have hP9 := hP.sub (ws' := [(h1, .inr (4, [.ref ek, .ref ef, .ref ew, .ref ep, .ref es, .int sz0, .int sy, .int dn]))]) [0] rfl
      have hD9 := hD.sub (ws' := [(h1, .inr (4, [.ref ek, .ref ef, .ref ew, .ref ep, .ref es, .int sz0, .int sy, .int dn]))]) [0] (by decide) rfl
      refine W.widen (k := 0) (n := 0) (by omega) (by omega) ?_
      exact W.zret (v := 0) hx hb hr rfl (fun t ht hW => ⟨⟨0, (), rfl, by simp_all, by rw [ht]; exact hP9, va_K.moved hW.alike hK, hD9⟩, hS.F ht⟩) hS.2.2 dX4_isOver_19
    · refine lv_iconst (v := 1) hx hb dX4_isOver_14 (by decide) ?_
      refine lv_goto (tgt := 19) hx hb dX4_isOver_15 (by decide) ?_
      have hP9 := hP.sub (ws' := [(h1, .inr (4, [.ref ek, .ref ef, .ref ew, .ref ep, .ref es, .int sz0, .int sy, .int dn]))]) [0] rfl
      have hD9 := hD.sub (ws' := [(h1, .inr (4, [.ref ek, .ref ef, .ref ew, .ref ep, .ref es, .int sz0, .int sy, .int dn]))]) [0] (by decide) rfl
      refine W.widen (k := 0) (n := 0) (by omega) (by omega) ?_
      exact W.zret (v := 1) hx hb hr rfl (fun t ht hW => ⟨⟨1, (), rfl, by simp_all, by rw [ht]; exact hP9, va_K.moved hW.alike hK, hD9⟩, hS.F ht⟩) hS.2.2 dX4_isOver_19
end
