theorem kw_595 : (Jvm.Cond.methodLink "EldestSays" (186 : Nat) ({ cls := "EldestSays$Evening", name := "copy", desc := "(LEldestSays$Evening;)V" } : Jvm.MethodName)) ∈ lw_tbl := lw_mem3 115 rfl
theorem kw_596 : (Jvm.Cond.instanceMethod ({ cls := "EldestSays$Evening", name := "copy", desc := "(LEldestSays$Evening;)V" } : Jvm.MethodName)) ∈ lw_tbl := lw_mem3 116 rfl
theorem kw_597 : (Jvm.Cond.selects "EldestSays$Evening" ({ cls := "EldestSays$Evening", name := "copy", desc := "(LEldestSays$Evening;)V" } : Jvm.MethodName) ({ cls := "EldestSays$Evening", name := "copy", desc := "(LEldestSays$Evening;)V" } : Jvm.MethodName)) ∈ lw_tbl := lw_mem3 117 rfl
theorem kw_598 : (Jvm.Cond.code ({ cls := "EldestSays$Evening", name := "copy", desc := "(LEldestSays$Evening;)V" } : Jvm.MethodName) prog_6_method_2_code (2 : Nat) (Option.none : Option Jvm.ClassFile.FieldType)) ∈ lw_tbl := lw_mem3 118 rfl
theorem kw_599 : (Jvm.Cond.methodLink "EldestSays$Evening" (27 : Nat) ({ cls := "java/lang/System", name := "arraycopy", desc := "(Ljava/lang/Object;ILjava/lang/Object;II)V" } : Jvm.MethodName)) ∈ lw_tbl := lw_mem3 119 rfl
theorem kw_600 : (Jvm.Cond.fieldLinkNest "EldestSays$Evening" (33 : Nat) "EldestSays" "GREATEST" "[I" "EldestSays") ∈ lw_tbl := lw_mem3 120 rfl
theorem kw_601 : (Jvm.Cond.methodLink "EldestSaysLaw" (89 : Nat) ({ cls := "EldestSays", name := "byLaw", desc := "(III)I" } : Jvm.MethodName)) ∈ lw_tbl := lw_mem3 121 rfl
theorem kw_602 : (Jvm.Cond.instanceMethod ({ cls := "EldestSays", name := "byLaw", desc := "(III)I" } : Jvm.MethodName)) ∈ lw_tbl := lw_mem3 122 rfl
theorem kw_603 : (Jvm.Cond.selects "EldestSays" ({ cls := "EldestSays", name := "byLaw", desc := "(III)I" } : Jvm.MethodName) ({ cls := "EldestSays", name := "byLaw", desc := "(III)I" } : Jvm.MethodName)) ∈ lw_tbl := lw_mem3 123 rfl
theorem kw_604 : (Jvm.Cond.code ({ cls := "EldestSays", name := "byLaw", desc := "(III)I" } : Jvm.MethodName) prog_1_method_20_code (4 : Nat) (Option.some Jvm.ClassFile.FieldType.int)) ∈ lw_tbl := lw_mem3 124 rfl
theorem kw_605 : (Jvm.Cond.methodLink "EldestSaysLaw" (94 : Nat) ({ cls := "EldestSays", name := "gains", desc := "()I" } : Jvm.MethodName)) ∈ lw_tbl := lw_mem3 125 rfl
theorem kw_606 : (Jvm.Cond.instanceMethod ({ cls := "EldestSays", name := "gains", desc := "()I" } : Jvm.MethodName)) ∈ lw_tbl := lw_mem3 126 rfl
theorem kw_607 : (Jvm.Cond.selects "EldestSays" ({ cls := "EldestSays", name := "gains", desc := "()I" } : Jvm.MethodName) ({ cls := "EldestSays", name := "gains", desc := "()I" } : Jvm.MethodName)) ∈ lw_tbl := lw_mem3 127 rfl
theorem kw_608 : (Jvm.Cond.code ({ cls := "EldestSays", name := "gains", desc := "()I" } : Jvm.MethodName) prog_1_method_21_code (4 : Nat) (Option.some Jvm.ClassFile.FieldType.int)) ∈ lw_tbl := lw_mem3 128 rfl
theorem kw_609 : (Jvm.Cond.methodLink "EldestSays" (196 : Nat) ({ cls := "EldestSays$Evening", name := "add", desc := "(III)V" } : Jvm.MethodName)) ∈ lw_tbl := lw_mem3 129 rfl
theorem kw_610 : (Jvm.Cond.methodLink "EldestSaysLaw" (98 : Nat) ({ cls := "EldestSays", name := "swap", desc := "(II)I" } : Jvm.MethodName)) ∈ lw_tbl := lw_mem3 130 rfl
theorem kw_611 : (Jvm.Cond.instanceMethod ({ cls := "EldestSays", name := "swap", desc := "(II)I" } : Jvm.MethodName)) ∈ lw_tbl := lw_mem3 131 rfl
theorem kw_612 : (Jvm.Cond.selects "EldestSays" ({ cls := "EldestSays", name := "swap", desc := "(II)I" } : Jvm.MethodName) ({ cls := "EldestSays", name := "swap", desc := "(II)I" } : Jvm.MethodName)) ∈ lw_tbl := lw_mem3 132 rfl
theorem kw_613 : (Jvm.Cond.code ({ cls := "EldestSays", name := "swap", desc := "(II)I" } : Jvm.MethodName) prog_1_method_22_code (3 : Nat) (Option.some Jvm.ClassFile.FieldType.int)) ∈ lw_tbl := lw_mem3 133 rfl
theorem kw_614 : (Jvm.Cond.methodLink "EldestSays" (199 : Nat) ({ cls := "EldestSays", name := "orderAsIs", desc := "()V" } : Jvm.MethodName)) ∈ lw_tbl := lw_mem3 134 rfl
theorem kw_615 : (Jvm.Cond.privateMethod ({ cls := "EldestSays", name := "orderAsIs", desc := "()V" } : Jvm.MethodName)) ∈ lw_tbl := lw_mem3 135 rfl
theorem kw_616 : (Jvm.Cond.instanceMethod ({ cls := "EldestSays", name := "orderAsIs", desc := "()V" } : Jvm.MethodName)) ∈ lw_tbl := lw_mem3 136 rfl
theorem kw_617 : (Jvm.Cond.code ({ cls := "EldestSays", name := "orderAsIs", desc := "()V" } : Jvm.MethodName) prog_1_method_36_code (2 : Nat) (Option.none : Option Jvm.ClassFile.FieldType)) ∈ lw_tbl := lw_mem3 137 rfl
theorem kw_618 : (Jvm.Cond.methodLink "EldestSays" (202 : Nat) ({ cls := "EldestSays", name := "seat", desc := "()V" } : Jvm.MethodName)) ∈ lw_tbl := lw_mem3 138 rfl
theorem kw_619 : (Jvm.Cond.privateMethod ({ cls := "EldestSays", name := "seat", desc := "()V" } : Jvm.MethodName)) ∈ lw_tbl := lw_mem3 139 rfl
theorem kw_620 : (Jvm.Cond.instanceMethod ({ cls := "EldestSays", name := "seat", desc := "()V" } : Jvm.MethodName)) ∈ lw_tbl := lw_mem3 140 rfl
theorem kw_621 : (Jvm.Cond.code ({ cls := "EldestSays", name := "seat", desc := "()V" } : Jvm.MethodName) prog_1_method_40_code (3 : Nat) (Option.none : Option Jvm.ClassFile.FieldType)) ∈ lw_tbl := lw_mem3 141 rfl
theorem kw_622 : (Jvm.Cond.methodLink "EldestSaysLaw" (102 : Nat) ({ cls := "EldestSays", name := "bestAge", desc := "(I)I" } : Jvm.MethodName)) ∈ lw_tbl := lw_mem3 142 rfl
theorem kw_623 : (Jvm.Cond.instanceMethod ({ cls := "EldestSays", name := "bestAge", desc := "(I)I" } : Jvm.MethodName)) ∈ lw_tbl := lw_mem3 143 rfl
theorem kw_624 : (Jvm.Cond.selects "EldestSays" ({ cls := "EldestSays", name := "bestAge", desc := "(I)I" } : Jvm.MethodName) ({ cls := "EldestSays", name := "bestAge", desc := "(I)I" } : Jvm.MethodName)) ∈ lw_tbl := lw_mem3 144 rfl
theorem kw_625 : (Jvm.Cond.code ({ cls := "EldestSays", name := "bestAge", desc := "(I)I" } : Jvm.MethodName) prog_1_method_23_code (5 : Nat) (Option.some Jvm.ClassFile.FieldType.int)) ∈ lw_tbl := lw_mem3 145 rfl
theorem kw_626 : (Jvm.Cond.methodLink "EldestSays" (205 : Nat) ({ cls := "EldestSays", name := "orderWith", desc := "(II)V" } : Jvm.MethodName)) ∈ lw_tbl := lw_mem3 146 rfl
theorem kw_627 : (Jvm.Cond.privateMethod ({ cls := "EldestSays", name := "orderWith", desc := "(II)V" } : Jvm.MethodName)) ∈ lw_tbl := lw_mem3 147 rfl
theorem kw_628 : (Jvm.Cond.instanceMethod ({ cls := "EldestSays", name := "orderWith", desc := "(II)V" } : Jvm.MethodName)) ∈ lw_tbl := lw_mem3 148 rfl
theorem kw_629 : (Jvm.Cond.code ({ cls := "EldestSays", name := "orderWith", desc := "(II)V" } : Jvm.MethodName) prog_1_method_37_code (5 : Nat) (Option.none : Option Jvm.ClassFile.FieldType)) ∈ lw_tbl := lw_mem3 149 rfl
theorem kw_630 : (Jvm.Cond.methodLink "EldestSaysLaw" (106 : Nat) ({ cls := "EldestSays", name := "league", desc := "(I)I" } : Jvm.MethodName)) ∈ lw_tbl := lw_mem3 150 rfl
theorem kw_631 : (Jvm.Cond.instanceMethod ({ cls := "EldestSays", name := "league", desc := "(I)I" } : Jvm.MethodName)) ∈ lw_tbl := lw_mem3 151 rfl
theorem kw_632 : (Jvm.Cond.selects "EldestSays" ({ cls := "EldestSays", name := "league", desc := "(I)I" } : Jvm.MethodName) ({ cls := "EldestSays", name := "league", desc := "(I)I" } : Jvm.MethodName)) ∈ lw_tbl := lw_mem3 152 rfl
theorem kw_633 : (Jvm.Cond.code ({ cls := "EldestSays", name := "league", desc := "(I)I" } : Jvm.MethodName) prog_1_method_24_code (3 : Nat) (Option.some Jvm.ClassFile.FieldType.int)) ∈ lw_tbl := lw_mem3 153 rfl
theorem kw_634 : (Jvm.Cond.methodLink "EldestSays" (209 : Nat) ({ cls := "java/lang/Integer", name := "bitCount", desc := "(I)I" } : Jvm.MethodName)) ∈ lw_tbl := lw_mem3 154 rfl
theorem kw_635 : (Jvm.Cond.static ({ cls := "java/lang/Integer", name := "bitCount", desc := "(I)I" } : Jvm.MethodName)) ∈ lw_tbl := lw_mem3 155 rfl
theorem kw_636 : (Jvm.Cond.code ({ cls := "java/lang/Integer", name := "bitCount", desc := "(I)I" } : Jvm.MethodName) prog_15_method_49_code (1 : Nat) (Option.some Jvm.ClassFile.FieldType.int)) ∈ lw_tbl := lw_mem3 156 rfl
theorem kw_637 : (Jvm.Cond.constant "java/lang/Integer" (265 : Nat) (1431655765 : Int32)) ∈ lw_tbl := lw_mem3 157 rfl
theorem kw_638 : (Jvm.Cond.constant "java/lang/Integer" (266 : Nat) (858993459 : Int32)) ∈ lw_tbl := lw_mem3 158 rfl
theorem kw_639 : (Jvm.Cond.constant "java/lang/Integer" (267 : Nat) (252645135 : Int32)) ∈ lw_tbl := lw_mem3 159 rfl
theorem kw_640 : (Jvm.Cond.methodLink "EldestSays" (214 : Nat) ({ cls := "EldestSays$Plans", name := "canBuy", desc := "(II)Z" } : Jvm.MethodName)) ∈ lw_tbl := lw_mem3 160 rfl
theorem kw_641 : (Jvm.Cond.instanceMethod ({ cls := "EldestSays$Plans", name := "canBuy", desc := "(II)Z" } : Jvm.MethodName)) ∈ lw_tbl := lw_mem3 161 rfl
theorem kw_642 : (Jvm.Cond.selects "EldestSays$Plans" ({ cls := "EldestSays$Plans", name := "canBuy", desc := "(II)Z" } : Jvm.MethodName) ({ cls := "EldestSays$Plans", name := "canBuy", desc := "(II)Z" } : Jvm.MethodName)) ∈ lw_tbl := lw_mem3 162 rfl
theorem kw_643 : (Jvm.Cond.code ({ cls := "EldestSays$Plans", name := "canBuy", desc := "(II)Z" } : Jvm.MethodName) prog_11_method_14_code (6 : Nat) (Option.some Jvm.ClassFile.FieldType.boolean)) ∈ lw_tbl := lw_mem3 163 rfl
theorem kw_644 : (Jvm.Cond.methodLink "EldestSaysLaw" (110 : Nat) ({ cls := "EldestSays", name := "shaken", desc := "(I)J" } : Jvm.MethodName)) ∈ lw_tbl := lw_mem3 164 rfl
theorem kw_645 : (Jvm.Cond.instanceMethod ({ cls := "EldestSays", name := "shaken", desc := "(I)J" } : Jvm.MethodName)) ∈ lw_tbl := lw_mem3 165 rfl
theorem kw_646 : (Jvm.Cond.selects "EldestSays" ({ cls := "EldestSays", name := "shaken", desc := "(I)J" } : Jvm.MethodName) ({ cls := "EldestSays", name := "shaken", desc := "(I)J" } : Jvm.MethodName)) ∈ lw_tbl := lw_mem3 166 rfl
theorem kw_647 : (Jvm.Cond.code ({ cls := "EldestSays", name := "shaken", desc := "(I)J" } : Jvm.MethodName) prog_1_method_25_code (8 : Nat) (Option.some Jvm.ClassFile.FieldType.long)) ∈ lw_tbl := lw_mem3 167 rfl
theorem kw_648 : (Jvm.Cond.constantLong "EldestSays" (218 : Nat) (4000000000000000000 : Int64)) ∈ lw_tbl := lw_mem3 168 rfl
theorem kw_649 : (Jvm.Cond.methodLink "EldestSays" (220 : Nat) ({ cls := "EldestSays", name := "shakeVotes", desc := "(I)J" } : Jvm.MethodName)) ∈ lw_tbl := lw_mem3 169 rfl
theorem kw_650 : (Jvm.Cond.privateMethod ({ cls := "EldestSays", name := "shakeVotes", desc := "(I)J" } : Jvm.MethodName)) ∈ lw_tbl := lw_mem3 170 rfl
theorem kw_651 : (Jvm.Cond.instanceMethod ({ cls := "EldestSays", name := "shakeVotes", desc := "(I)J" } : Jvm.MethodName)) ∈ lw_tbl := lw_mem3 171 rfl
theorem kw_652 : (Jvm.Cond.code ({ cls := "EldestSays", name := "shakeVotes", desc := "(I)J" } : Jvm.MethodName) prog_1_method_41_code (7 : Nat) (Option.some Jvm.ClassFile.FieldType.long)) ∈ lw_tbl := lw_mem3 172 rfl
theorem kw_653 : (Jvm.Cond.methodLink "EldestSays" (261 : Nat) ({ cls := "java/util/Arrays", name := "fill", desc := "([JJ)V" } : Jvm.MethodName)) ∈ lw_tbl := lw_mem3 173 rfl
theorem kw_654 : (Jvm.Cond.static ({ cls := "java/util/Arrays", name := "fill", desc := "([JJ)V" } : Jvm.MethodName)) ∈ lw_tbl := lw_mem3 174 rfl
theorem kw_655 : (Jvm.Cond.code ({ cls := "java/util/Arrays", name := "fill", desc := "([JJ)V" } : Jvm.MethodName) prog_18_method_101_code (5 : Nat) (Option.none : Option Jvm.ClassFile.FieldType)) ∈ lw_tbl := lw_mem3 175 rfl
theorem kw_656 : (Jvm.Cond.methodLink "EldestSays" (267 : Nat) ({ cls := "EldestSays", name := "addVoter", desc := "(II)V" } : Jvm.MethodName)) ∈ lw_tbl := lw_mem3 176 rfl
theorem kw_657 : (Jvm.Cond.privateMethod ({ cls := "EldestSays", name := "addVoter", desc := "(II)V" } : Jvm.MethodName)) ∈ lw_tbl := lw_mem3 177 rfl
theorem kw_658 : (Jvm.Cond.instanceMethod ({ cls := "EldestSays", name := "addVoter", desc := "(II)V" } : Jvm.MethodName)) ∈ lw_tbl := lw_mem3 178 rfl
theorem kw_659 : (Jvm.Cond.code ({ cls := "EldestSays", name := "addVoter", desc := "(II)V" } : Jvm.MethodName) prog_1_method_42_code (6 : Nat) (Option.none : Option Jvm.ClassFile.FieldType)) ∈ lw_tbl := lw_mem3 179 rfl
theorem kw_660 : (Jvm.Cond.constantLong "EldestSays" (270 : Nat) (100 : Int64)) ∈ lw_tbl := lw_mem3 180 rfl
theorem kw_661 : (Jvm.Cond.methodLink "EldestSays" (224 : Nat) ({ cls := "EldestSays", name := "chanceCarried", desc := "()J" } : Jvm.MethodName)) ∈ lw_tbl := lw_mem3 181 rfl
theorem kw_662 : (Jvm.Cond.privateMethod ({ cls := "EldestSays", name := "chanceCarried", desc := "()J" } : Jvm.MethodName)) ∈ lw_tbl := lw_mem3 182 rfl
theorem kw_663 : (Jvm.Cond.instanceMethod ({ cls := "EldestSays", name := "chanceCarried", desc := "()J" } : Jvm.MethodName)) ∈ lw_tbl := lw_mem3 183 rfl
theorem kw_664 : (Jvm.Cond.code ({ cls := "EldestSays", name := "chanceCarried", desc := "()J" } : Jvm.MethodName) prog_1_method_43_code (5 : Nat) (Option.some Jvm.ClassFile.FieldType.long)) ∈ lw_tbl := lw_mem3 184 rfl
theorem kw_665 : (Jvm.Cond.methodLink "EldestSays" (272 : Nat) ({ cls := "EldestSays$Evening", name := "weightFrom", desc := "(I)I" } : Jvm.MethodName)) ∈ lw_tbl := lw_mem3 185 rfl
theorem kw_666 : (Jvm.Cond.methodLink "EldestSays" (275 : Nat) ({ cls := "EldestSays", name := "isEnough", desc := "(III)Z" } : Jvm.MethodName)) ∈ lw_tbl := lw_mem3 186 rfl
theorem kw_667 : (Jvm.Cond.methodLink "EldestSays" (228 : Nat) ({ cls := "EldestSays", name := "commonDivisor", desc := "(JJ)J" } : Jvm.MethodName)) ∈ lw_tbl := lw_mem3 187 rfl
theorem kw_668 : (Jvm.Cond.static ({ cls := "EldestSays", name := "commonDivisor", desc := "(JJ)J" } : Jvm.MethodName)) ∈ lw_tbl := lw_mem3 188 rfl
theorem kw_669 : (Jvm.Cond.code ({ cls := "EldestSays", name := "commonDivisor", desc := "(JJ)J" } : Jvm.MethodName) prog_1_method_44_code (11 : Nat) (Option.some Jvm.ClassFile.FieldType.long)) ∈ lw_tbl := lw_mem3 189 rfl
theorem kw_670 : (Jvm.Cond.methodLink "EldestSaysLaw" (115 : Nat) ({ cls := "EldestSays", name := "seeds", desc := "(III)I" } : Jvm.MethodName)) ∈ lw_tbl := lw_mem3 190 rfl
theorem kw_671 : (Jvm.Cond.instanceMethod ({ cls := "EldestSays", name := "seeds", desc := "(III)I" } : Jvm.MethodName)) ∈ lw_tbl := lw_mem3 191 rfl
theorem kw_672 : (Jvm.Cond.selects "EldestSays" ({ cls := "EldestSays", name := "seeds", desc := "(III)I" } : Jvm.MethodName) ({ cls := "EldestSays", name := "seeds", desc := "(III)I" } : Jvm.MethodName)) ∈ lw_tbl := lw_mem3 192 rfl
theorem kw_673 : (Jvm.Cond.code ({ cls := "EldestSays", name := "seeds", desc := "(III)I" } : Jvm.MethodName) prog_1_method_26_code (7 : Nat) (Option.some Jvm.ClassFile.FieldType.int)) ∈ lw_tbl := lw_mem3 193 rfl
theorem kw_674 : (Jvm.Cond.methodLink "EldestSays" (232 : Nat) ({ cls := "EldestSays", name := "drawOrder", desc := "(I)I" } : Jvm.MethodName)) ∈ lw_tbl := lw_mem3 194 rfl
theorem kw_675 : (Jvm.Cond.privateMethod ({ cls := "EldestSays", name := "drawOrder", desc := "(I)I" } : Jvm.MethodName)) ∈ lw_tbl := lw_mem3 195 rfl
theorem kw_676 : (Jvm.Cond.instanceMethod ({ cls := "EldestSays", name := "drawOrder", desc := "(I)I" } : Jvm.MethodName)) ∈ lw_tbl := lw_mem3 196 rfl
theorem kw_677 : (Jvm.Cond.code ({ cls := "EldestSays", name := "drawOrder", desc := "(I)I" } : Jvm.MethodName) prog_1_method_38_code (6 : Nat) (Option.some Jvm.ClassFile.FieldType.int)) ∈ lw_tbl := lw_mem3 197 rfl
theorem kw_678 : (Jvm.Cond.constant "EldestSays" (258 : Nat) (1103515245 : Int32)) ∈ lw_tbl := lw_mem3 198 rfl
theorem kw_679 : (Jvm.Cond.constant "EldestSays" (259 : Nat) (2147483647 : Int32)) ∈ lw_tbl := lw_mem3 199 rfl
theorem kw_680 : (Jvm.Cond.constant "EldestSays" (260 : Nat) (65536 : Int32)) ∈ lw_tbl := lw_mem3 200 rfl
theorem kw_681 : (Jvm.Cond.methodLink "EldestSays" (235 : Nat) ({ cls := "EldestSays", name := "placeOf", desc := "(I)I" } : Jvm.MethodName)) ∈ lw_tbl := lw_mem3 201 rfl
theorem kw_682 : (Jvm.Cond.privateMethod ({ cls := "EldestSays", name := "placeOf", desc := "(I)I" } : Jvm.MethodName)) ∈ lw_tbl := lw_mem3 202 rfl
theorem kw_683 : (Jvm.Cond.instanceMethod ({ cls := "EldestSays", name := "placeOf", desc := "(I)I" } : Jvm.MethodName)) ∈ lw_tbl := lw_mem3 203 rfl
theorem kw_684 : (Jvm.Cond.code ({ cls := "EldestSays", name := "placeOf", desc := "(I)I" } : Jvm.MethodName) prog_1_method_39_code (4 : Nat) (Option.some Jvm.ClassFile.FieldType.int)) ∈ lw_tbl := lw_mem3 204 rfl
theorem kw_685 : (Jvm.Cond.methodLink "EldestSays" (238 : Nat) ({ cls := "java/lang/Math", name := "max", desc := "(II)I" } : Jvm.MethodName)) ∈ lw_tbl := lw_mem3 205 rfl
theorem kw_686 : (Jvm.Cond.methodLink "EldestSaysLaw" (119 : Nat) ({ cls := "EldestSays", name := "clear", desc := "()I" } : Jvm.MethodName)) ∈ lw_tbl := lw_mem3 206 rfl
theorem kw_687 : (Jvm.Cond.instanceMethod ({ cls := "EldestSays", name := "clear", desc := "()I" } : Jvm.MethodName)) ∈ lw_tbl := lw_mem3 207 rfl
theorem kw_688 : (Jvm.Cond.selects "EldestSays" ({ cls := "EldestSays", name := "clear", desc := "()I" } : Jvm.MethodName) ({ cls := "EldestSays", name := "clear", desc := "()I" } : Jvm.MethodName)) ∈ lw_tbl := lw_mem3 208 rfl
theorem kw_689 : (Jvm.Cond.code ({ cls := "EldestSays", name := "clear", desc := "()I" } : Jvm.MethodName) prog_1_method_27_code (2 : Nat) (Option.some Jvm.ClassFile.FieldType.int)) ∈ lw_tbl := lw_mem3 209 rfl
theorem kw_690 : (Jvm.Cond.methodLink "EldestSaysLaw" (123 : Nat) ({ cls := "EldestSays", name := "image", desc := "()I" } : Jvm.MethodName)) ∈ lw_tbl := lw_mem3 210 rfl
theorem kw_691 : (Jvm.Cond.instanceMethod ({ cls := "EldestSays", name := "image", desc := "()I" } : Jvm.MethodName)) ∈ lw_tbl := lw_mem3 211 rfl
theorem kw_692 : (Jvm.Cond.selects "EldestSays" ({ cls := "EldestSays", name := "image", desc := "()I" } : Jvm.MethodName) ({ cls := "EldestSays", name := "image", desc := "()I" } : Jvm.MethodName)) ∈ lw_tbl := lw_mem3 212 rfl
theorem kw_693 : (Jvm.Cond.code ({ cls := "EldestSays", name := "image", desc := "()I" } : Jvm.MethodName) prog_1_method_28_code (1 : Nat) (Option.some Jvm.ClassFile.FieldType.int)) ∈ lw_tbl := lw_mem3 213 rfl
theorem kw_694 : (Jvm.Cond.methodLink "EldestSaysLaw" (127 : Nat) ({ cls := "EldestSays", name := "restore", desc := "()I" } : Jvm.MethodName)) ∈ lw_tbl := lw_mem3 214 rfl
theorem kw_695 : (Jvm.Cond.instanceMethod ({ cls := "EldestSays", name := "restore", desc := "()I" } : Jvm.MethodName)) ∈ lw_tbl := lw_mem3 215 rfl
theorem kw_696 : (Jvm.Cond.selects "EldestSays" ({ cls := "EldestSays", name := "restore", desc := "()I" } : Jvm.MethodName) ({ cls := "EldestSays", name := "restore", desc := "()I" } : Jvm.MethodName)) ∈ lw_tbl := lw_mem3 216 rfl
theorem kw_697 : (Jvm.Cond.code ({ cls := "EldestSays", name := "restore", desc := "()I" } : Jvm.MethodName) prog_1_method_29_code (1 : Nat) (Option.some Jvm.ClassFile.FieldType.int)) ∈ lw_tbl := lw_mem3 217 rfl
theorem kw_698 : (Jvm.Cond.methodLink "EldestSaysLaw" (131 : Nat) ({ cls := "EldestSays", name := "count", desc := "(I)I" } : Jvm.MethodName)) ∈ lw_tbl := lw_mem3 218 rfl
theorem kw_699 : (Jvm.Cond.instanceMethod ({ cls := "EldestSays", name := "count", desc := "(I)I" } : Jvm.MethodName)) ∈ lw_tbl := lw_mem3 219 rfl
theorem kw_700 : (Jvm.Cond.selects "EldestSays" ({ cls := "EldestSays", name := "count", desc := "(I)I" } : Jvm.MethodName) ({ cls := "EldestSays", name := "count", desc := "(I)I" } : Jvm.MethodName)) ∈ lw_tbl := lw_mem3 220 rfl
theorem kw_701 : (Jvm.Cond.code ({ cls := "EldestSays", name := "count", desc := "(I)I" } : Jvm.MethodName) prog_1_method_30_code (2 : Nat) (Option.some Jvm.ClassFile.FieldType.int)) ∈ lw_tbl := lw_mem3 221 rfl
theorem kw_702 : (Jvm.Cond.methodLink "EldestSays" (250 : Nat) ({ cls := "EldestSays$Evening", name := "weightLeft", desc := "()I" } : Jvm.MethodName)) ∈ lw_tbl := lw_mem3 222 rfl
theorem kw_703 : (Jvm.Cond.instanceMethod ({ cls := "EldestSays$Evening", name := "weightLeft", desc := "()I" } : Jvm.MethodName)) ∈ lw_tbl := lw_mem3 223 rfl
theorem kw_704 : (Jvm.Cond.selects "EldestSays$Evening" ({ cls := "EldestSays$Evening", name := "weightLeft", desc := "()I" } : Jvm.MethodName) ({ cls := "EldestSays$Evening", name := "weightLeft", desc := "()I" } : Jvm.MethodName)) ∈ lw_tbl := lw_mem3 224 rfl
theorem kw_705 : (Jvm.Cond.code ({ cls := "EldestSays$Evening", name := "weightLeft", desc := "()I" } : Jvm.MethodName) prog_6_method_7_code (1 : Nat) (Option.some Jvm.ClassFile.FieldType.int)) ∈ lw_tbl := lw_mem3 225 rfl
theorem kw_706 : (Jvm.Cond.methodLink "EldestSays$Evening" (53 : Nat) ({ cls := "EldestSays$Evening", name := "has", desc := "(I)Z" } : Jvm.MethodName)) ∈ lw_tbl := lw_mem3 226 rfl
theorem kw_707 : (Jvm.Cond.methodLink "EldestSays" (255 : Nat) ({ cls := "EldestSays", name := "countRefusals", desc := "(I)I" } : Jvm.MethodName)) ∈ lw_tbl := lw_mem3 227 rfl
theorem kw_708 : (Jvm.Cond.privateMethod ({ cls := "EldestSays", name := "countRefusals", desc := "(I)I" } : Jvm.MethodName)) ∈ lw_tbl := lw_mem3 228 rfl
theorem kw_709 : (Jvm.Cond.instanceMethod ({ cls := "EldestSays", name := "countRefusals", desc := "(I)I" } : Jvm.MethodName)) ∈ lw_tbl := lw_mem3 229 rfl
theorem kw_710 : (Jvm.Cond.code ({ cls := "EldestSays", name := "countRefusals", desc := "(I)I" } : Jvm.MethodName) prog_1_method_31_code (2 : Nat) (Option.some Jvm.ClassFile.FieldType.int)) ∈ lw_tbl := lw_mem3 230 rfl
theorem kw_711 : (Jvm.Cond.classLink "EldestSaysLaw" (10 : Nat) "EldestSaysModel") ∈ lw_tbl := lw_mem3 231 rfl
theorem kw_712 : (Jvm.Cond.instantiable "EldestSaysModel" (33 : Nat)) ∈ lw_tbl := lw_mem3 232 rfl
theorem kw_713 : (Jvm.Cond.methodLink "EldestSaysLaw" (12 : Nat) ({ cls := "EldestSaysModel", name := "<init>", desc := "()V" } : Jvm.MethodName)) ∈ lw_tbl := lw_mem3 233 rfl
theorem kw_714 : (Jvm.Cond.instanceMethod ({ cls := "EldestSaysModel", name := "<init>", desc := "()V" } : Jvm.MethodName)) ∈ lw_tbl := lw_mem3 234 rfl
theorem kw_715 : (Jvm.Cond.code ({ cls := "EldestSaysModel", name := "<init>", desc := "()V" } : Jvm.MethodName) prog_14_method_1_code (1 : Nat) (Option.none : Option Jvm.ClassFile.FieldType)) ∈ lw_tbl := lw_mem3 235 rfl
theorem kw_716 : (Jvm.Cond.methodLink "EldestSaysModel" (1 : Nat) ({ cls := "java/lang/Object", name := "<init>", desc := "()V" } : Jvm.MethodName)) ∈ lw_tbl := lw_mem3 236 rfl
theorem kw_717 : (Jvm.Cond.fieldLink "EldestSaysModel" (7 : Nat) "EldestSaysModel" "refused" "[I") ∈ lw_tbl := lw_mem3 237 rfl
theorem kw_718 : (Jvm.Cond.fieldLink "EldestSaysModel" (13 : Nat) "EldestSaysModel" "kind" "[I") ∈ lw_tbl := lw_mem3 238 rfl
theorem kw_719 : (Jvm.Cond.fieldLink "EldestSaysModel" (16 : Nat) "EldestSaysModel" "figure" "[I") ∈ lw_tbl := lw_mem3 239 rfl
theorem kw_720 : (Jvm.Cond.fieldLink "EldestSaysModel" (19 : Nat) "EldestSaysModel" "weight" "[I") ∈ lw_tbl := lw_mem4 0 rfl
theorem kw_721 : (Jvm.Cond.fieldLink "EldestSaysModel" (22 : Nat) "EldestSaysModel" "got" "[I") ∈ lw_tbl := lw_mem4 1 rfl
theorem kw_722 : (Jvm.Cond.fieldLink "EldestSaysModel" (25 : Nat) "EldestSaysModel" "setting" "[I") ∈ lw_tbl := lw_mem4 2 rfl
theorem kw_723 : (Jvm.Cond.fieldLink "EldestSaysModel" (82 : Nat) "EldestSaysModel" "men" "I") ∈ lw_tbl := lw_mem4 3 rfl
theorem kw_724 : (Jvm.Cond.fieldLink "EldestSaysModel" (144 : Nat) "EldestSaysModel" "sayer" "I") ∈ lw_tbl := lw_mem4 4 rfl
theorem kw_725 : (Jvm.Cond.fieldLink "EldestSaysModel" (115 : Nat) "EldestSaysModel" "done" "I") ∈ lw_tbl := lw_mem4 5 rfl
theorem kw_726 : (Jvm.Cond.fieldLink "EldestSaysModel" (28 : Nat) "EldestSaysModel" "tape" "[I") ∈ lw_tbl := lw_mem4 6 rfl
theorem kw_727 : (Jvm.Cond.fieldLink "EldestSaysModel" (31 : Nat) "EldestSaysModel" "letter" "[I") ∈ lw_tbl := lw_mem4 7 rfl
theorem kw_728 : (Jvm.Cond.fieldLink "EldestSaysModel" (34 : Nat) "EldestSaysModel" "letterAt" "[I") ∈ lw_tbl := lw_mem4 8 rfl
theorem kw_729 : (Jvm.Cond.fieldLink "EldestSaysModel" (37 : Nat) "EldestSaysModel" "told" "[I") ∈ lw_tbl := lw_mem4 9 rfl
theorem kw_730 : (Jvm.Cond.fieldLink "EldestSaysModel" (90 : Nat) "EldestSaysModel" "taped" "I") ∈ lw_tbl := lw_mem4 10 rfl
theorem kw_731 : (Jvm.Cond.fieldLink "EldestSaysModel" (97 : Nat) "EldestSaysModel" "at" "I") ∈ lw_tbl := lw_mem4 11 rfl
theorem kw_732 : (Jvm.Cond.fieldLink "EldestSaysModel" (108 : Nat) "EldestSaysModel" "statements" "I") ∈ lw_tbl := lw_mem4 12 rfl
theorem kw_733 : (Jvm.Cond.fieldLink "EldestSaysModel" (40 : Nat) "EldestSaysModel" "kept" "[I") ∈ lw_tbl := lw_mem4 13 rfl
theorem kw_734 : (Jvm.Cond.fieldLink "EldestSaysModel" (147 : Nat) "EldestSaysModel" "hasImage" "Z") ∈ lw_tbl := lw_mem4 14 rfl
theorem kw_735 : (Jvm.Cond.fieldLink "EldestSaysModel" (130 : Nat) "EldestSaysModel" "isKeeping" "Z") ∈ lw_tbl := lw_mem4 15 rfl
theorem kw_736 : (Jvm.Cond.fieldLink "EldestSaysModel" (134 : Nat) "EldestSaysModel" "cursor" "I") ∈ lw_tbl := lw_mem4 16 rfl
theorem kw_737 : (Jvm.Cond.fieldLink "EldestSaysModel" (43 : Nat) "EldestSaysModel" "price" "[I") ∈ lw_tbl := lw_mem4 17 rfl
theorem kw_738 : (Jvm.Cond.fieldLink "EldestSaysModel" (46 : Nat) "EldestSaysModel" "offer" "[I") ∈ lw_tbl := lw_mem4 18 rfl
theorem kw_739 : (Jvm.Cond.fieldLink "EldestSaysModel" (49 : Nat) "EldestSaysModel" "gets" "[I") ∈ lw_tbl := lw_mem4 19 rfl
theorem kw_740 : (Jvm.Cond.fieldLink "EldestSaysModel" (52 : Nat) "EldestSaysModel" "yes" "[I") ∈ lw_tbl := lw_mem4 20 rfl
theorem kw_741 : (Jvm.Cond.fieldLink "EldestSaysModel" (55 : Nat) "EldestSaysModel" "buys" "[I") ∈ lw_tbl := lw_mem4 21 rfl
theorem kw_742 : (Jvm.Cond.fieldLink "EldestSaysModel" (58 : Nat) "EldestSaysModel" "ends" "[I") ∈ lw_tbl := lw_mem4 22 rfl
theorem kw_743 : (Jvm.Cond.fieldLink "EldestSaysModel" (61 : Nat) "EldestSaysModel" "carried" "[I") ∈ lw_tbl := lw_mem4 23 rfl
theorem kw_744 : (Jvm.Cond.fieldLink "EldestSaysModel" (64 : Nat) "EldestSaysModel" "row" "[I") ∈ lw_tbl := lw_mem4 24 rfl
theorem kw_745 : (Jvm.Cond.fieldLink "EldestSaysModel" (210 : Nat) "EldestSaysModel" "rowMany" "I") ∈ lw_tbl := lw_mem4 25 rfl
theorem kw_746 : (Jvm.Cond.fieldLink "EldestSaysModel" (67 : Nat) "EldestSaysModel" "keptRow" "[I") ∈ lw_tbl := lw_mem4 26 rfl
theorem kw_747 : (Jvm.Cond.fieldLink "EldestSaysModel" (70 : Nat) "EldestSaysModel" "likeGets" "[I") ∈ lw_tbl := lw_mem4 27 rfl
theorem kw_748 : (Jvm.Cond.fieldLink "EldestSaysModel" (73 : Nat) "EldestSaysModel" "likePrice" "[I") ∈ lw_tbl := lw_mem4 28 rfl
theorem kw_749 : (Jvm.Cond.fieldLink "EldestSaysModel" (76 : Nat) "EldestSaysModel" "ahead" "[I") ∈ lw_tbl := lw_mem4 29 rfl
theorem kw_750 : (Jvm.Cond.laysFinal "EldestSaysModel" "EldestSaysModel" "refused" "[I") ∈ lw_tbl := lw_mem4 30 rfl
theorem kw_751 : (Jvm.Cond.soleField "EldestSaysModel" "refused") ∈ lw_tbl := lw_mem4 31 rfl
theorem kw_752 : (Jvm.Cond.laysFinal "EldestSaysModel" "EldestSaysModel" "kind" "[I") ∈ lw_tbl := lw_mem4 32 rfl
theorem kw_753 : (Jvm.Cond.soleField "EldestSaysModel" "kind") ∈ lw_tbl := lw_mem4 33 rfl
theorem kw_754 : (Jvm.Cond.laysFinal "EldestSaysModel" "EldestSaysModel" "figure" "[I") ∈ lw_tbl := lw_mem4 34 rfl
theorem kw_755 : (Jvm.Cond.soleField "EldestSaysModel" "figure") ∈ lw_tbl := lw_mem4 35 rfl
theorem kw_756 : (Jvm.Cond.laysFinal "EldestSaysModel" "EldestSaysModel" "weight" "[I") ∈ lw_tbl := lw_mem4 36 rfl
theorem kw_757 : (Jvm.Cond.soleField "EldestSaysModel" "weight") ∈ lw_tbl := lw_mem4 37 rfl
theorem kw_758 : (Jvm.Cond.laysFinal "EldestSaysModel" "EldestSaysModel" "got" "[I") ∈ lw_tbl := lw_mem4 38 rfl
theorem kw_759 : (Jvm.Cond.soleField "EldestSaysModel" "got") ∈ lw_tbl := lw_mem4 39 rfl
theorem kw_760 : (Jvm.Cond.laysFinal "EldestSaysModel" "EldestSaysModel" "setting" "[I") ∈ lw_tbl := lw_mem4 40 rfl
theorem kw_761 : (Jvm.Cond.soleField "EldestSaysModel" "setting") ∈ lw_tbl := lw_mem4 41 rfl
theorem kw_762 : (Jvm.Cond.lays "EldestSaysModel" "EldestSaysModel" "men" "I") ∈ lw_tbl := lw_mem4 42 rfl
theorem kw_763 : (Jvm.Cond.soleField "EldestSaysModel" "men") ∈ lw_tbl := lw_mem4 43 rfl
theorem kw_764 : (Jvm.Cond.lays "EldestSaysModel" "EldestSaysModel" "sayer" "I") ∈ lw_tbl := lw_mem4 44 rfl
theorem kw_765 : (Jvm.Cond.soleField "EldestSaysModel" "sayer") ∈ lw_tbl := lw_mem4 45 rfl
theorem kw_766 : (Jvm.Cond.lays "EldestSaysModel" "EldestSaysModel" "done" "I") ∈ lw_tbl := lw_mem4 46 rfl
theorem kw_767 : (Jvm.Cond.soleField "EldestSaysModel" "done") ∈ lw_tbl := lw_mem4 47 rfl
theorem kw_768 : (Jvm.Cond.laysFinal "EldestSaysModel" "EldestSaysModel" "tape" "[I") ∈ lw_tbl := lw_mem4 48 rfl
theorem kw_769 : (Jvm.Cond.soleField "EldestSaysModel" "tape") ∈ lw_tbl := lw_mem4 49 rfl
theorem kw_770 : (Jvm.Cond.laysFinal "EldestSaysModel" "EldestSaysModel" "letter" "[I") ∈ lw_tbl := lw_mem4 50 rfl
theorem kw_771 : (Jvm.Cond.soleField "EldestSaysModel" "letter") ∈ lw_tbl := lw_mem4 51 rfl
theorem kw_772 : (Jvm.Cond.laysFinal "EldestSaysModel" "EldestSaysModel" "letterAt" "[I") ∈ lw_tbl := lw_mem4 52 rfl
theorem kw_773 : (Jvm.Cond.soleField "EldestSaysModel" "letterAt") ∈ lw_tbl := lw_mem4 53 rfl
theorem kw_774 : (Jvm.Cond.laysFinal "EldestSaysModel" "EldestSaysModel" "told" "[I") ∈ lw_tbl := lw_mem4 54 rfl
theorem kw_775 : (Jvm.Cond.soleField "EldestSaysModel" "told") ∈ lw_tbl := lw_mem4 55 rfl
theorem kw_776 : (Jvm.Cond.lays "EldestSaysModel" "EldestSaysModel" "taped" "I") ∈ lw_tbl := lw_mem4 56 rfl
theorem kw_777 : (Jvm.Cond.soleField "EldestSaysModel" "taped") ∈ lw_tbl := lw_mem4 57 rfl
theorem kw_778 : (Jvm.Cond.lays "EldestSaysModel" "EldestSaysModel" "at" "I") ∈ lw_tbl := lw_mem4 58 rfl
theorem kw_779 : (Jvm.Cond.soleField "EldestSaysModel" "at") ∈ lw_tbl := lw_mem4 59 rfl
theorem kw_780 : (Jvm.Cond.lays "EldestSaysModel" "EldestSaysModel" "statements" "I") ∈ lw_tbl := lw_mem4 60 rfl
theorem kw_781 : (Jvm.Cond.soleField "EldestSaysModel" "statements") ∈ lw_tbl := lw_mem4 61 rfl
theorem kw_782 : (Jvm.Cond.laysFinal "EldestSaysModel" "EldestSaysModel" "kept" "[I") ∈ lw_tbl := lw_mem4 62 rfl
theorem kw_783 : (Jvm.Cond.soleField "EldestSaysModel" "kept") ∈ lw_tbl := lw_mem4 63 rfl
theorem kw_784 : (Jvm.Cond.lays "EldestSaysModel" "EldestSaysModel" "hasImage" "Z") ∈ lw_tbl := lw_mem4 64 rfl
theorem kw_785 : (Jvm.Cond.soleField "EldestSaysModel" "hasImage") ∈ lw_tbl := lw_mem4 65 rfl
theorem kw_786 : (Jvm.Cond.lays "EldestSaysModel" "EldestSaysModel" "isKeeping" "Z") ∈ lw_tbl := lw_mem4 66 rfl
theorem kw_787 : (Jvm.Cond.soleField "EldestSaysModel" "isKeeping") ∈ lw_tbl := lw_mem4 67 rfl
theorem kw_788 : (Jvm.Cond.lays "EldestSaysModel" "EldestSaysModel" "cursor" "I") ∈ lw_tbl := lw_mem4 68 rfl
theorem kw_789 : (Jvm.Cond.soleField "EldestSaysModel" "cursor") ∈ lw_tbl := lw_mem4 69 rfl
theorem kw_790 : (Jvm.Cond.laysFinal "EldestSaysModel" "EldestSaysModel" "price" "[I") ∈ lw_tbl := lw_mem4 70 rfl
theorem kw_791 : (Jvm.Cond.soleField "EldestSaysModel" "price") ∈ lw_tbl := lw_mem4 71 rfl
theorem kw_792 : (Jvm.Cond.laysFinal "EldestSaysModel" "EldestSaysModel" "offer" "[I") ∈ lw_tbl := lw_mem4 72 rfl
theorem kw_793 : (Jvm.Cond.soleField "EldestSaysModel" "offer") ∈ lw_tbl := lw_mem4 73 rfl
theorem kw_794 : (Jvm.Cond.laysFinal "EldestSaysModel" "EldestSaysModel" "gets" "[I") ∈ lw_tbl := lw_mem4 74 rfl
theorem kw_795 : (Jvm.Cond.soleField "EldestSaysModel" "gets") ∈ lw_tbl := lw_mem4 75 rfl
theorem kw_796 : (Jvm.Cond.laysFinal "EldestSaysModel" "EldestSaysModel" "yes" "[I") ∈ lw_tbl := lw_mem4 76 rfl
theorem kw_797 : (Jvm.Cond.soleField "EldestSaysModel" "yes") ∈ lw_tbl := lw_mem4 77 rfl
theorem kw_798 : (Jvm.Cond.laysFinal "EldestSaysModel" "EldestSaysModel" "buys" "[I") ∈ lw_tbl := lw_mem4 78 rfl
theorem kw_799 : (Jvm.Cond.soleField "EldestSaysModel" "buys") ∈ lw_tbl := lw_mem4 79 rfl
theorem kw_800 : (Jvm.Cond.laysFinal "EldestSaysModel" "EldestSaysModel" "ends" "[I") ∈ lw_tbl := lw_mem4 80 rfl
theorem kw_801 : (Jvm.Cond.soleField "EldestSaysModel" "ends") ∈ lw_tbl := lw_mem4 81 rfl
theorem kw_802 : (Jvm.Cond.laysFinal "EldestSaysModel" "EldestSaysModel" "carried" "[I") ∈ lw_tbl := lw_mem4 82 rfl
theorem kw_803 : (Jvm.Cond.soleField "EldestSaysModel" "carried") ∈ lw_tbl := lw_mem4 83 rfl
theorem kw_804 : (Jvm.Cond.laysFinal "EldestSaysModel" "EldestSaysModel" "row" "[I") ∈ lw_tbl := lw_mem4 84 rfl
theorem kw_805 : (Jvm.Cond.soleField "EldestSaysModel" "row") ∈ lw_tbl := lw_mem4 85 rfl
theorem kw_806 : (Jvm.Cond.lays "EldestSaysModel" "EldestSaysModel" "rowMany" "I") ∈ lw_tbl := lw_mem4 86 rfl
theorem kw_807 : (Jvm.Cond.soleField "EldestSaysModel" "rowMany") ∈ lw_tbl := lw_mem4 87 rfl
theorem kw_808 : (Jvm.Cond.laysFinal "EldestSaysModel" "EldestSaysModel" "keptRow" "[I") ∈ lw_tbl := lw_mem4 88 rfl
theorem kw_809 : (Jvm.Cond.soleField "EldestSaysModel" "keptRow") ∈ lw_tbl := lw_mem4 89 rfl
theorem kw_810 : (Jvm.Cond.laysFinal "EldestSaysModel" "EldestSaysModel" "likeGets" "[I") ∈ lw_tbl := lw_mem4 90 rfl
theorem kw_811 : (Jvm.Cond.soleField "EldestSaysModel" "likeGets") ∈ lw_tbl := lw_mem4 91 rfl
theorem kw_812 : (Jvm.Cond.laysFinal "EldestSaysModel" "EldestSaysModel" "likePrice" "[I") ∈ lw_tbl := lw_mem4 92 rfl
theorem kw_813 : (Jvm.Cond.soleField "EldestSaysModel" "likePrice") ∈ lw_tbl := lw_mem4 93 rfl
theorem kw_814 : (Jvm.Cond.laysFinal "EldestSaysModel" "EldestSaysModel" "ahead" "[I") ∈ lw_tbl := lw_mem4 94 rfl
theorem kw_815 : (Jvm.Cond.soleField "EldestSaysModel" "ahead") ∈ lw_tbl := lw_mem4 95 rfl
theorem kw_816 : (Jvm.Cond.superclass "EldestSaysModel" "java/lang/Object") ∈ lw_tbl := lw_mem4 96 rfl
theorem kw_817 : (Jvm.Cond.methodLink "EldestSaysLaw" (17 : Nat) ({ cls := "EldestSaysModel", name := "feed", desc := "(I)I" } : Jvm.MethodName)) ∈ lw_tbl := lw_mem4 97 rfl
theorem kw_818 : (Jvm.Cond.instanceMethod ({ cls := "EldestSaysModel", name := "feed", desc := "(I)I" } : Jvm.MethodName)) ∈ lw_tbl := lw_mem4 98 rfl
theorem kw_819 : (Jvm.Cond.selects "EldestSaysModel" ({ cls := "EldestSaysModel", name := "feed", desc := "(I)I" } : Jvm.MethodName) ({ cls := "EldestSaysModel", name := "feed", desc := "(I)I" } : Jvm.MethodName)) ∈ lw_tbl := lw_mem4 99 rfl
theorem kw_820 : (Jvm.Cond.code ({ cls := "EldestSaysModel", name := "feed", desc := "(I)I" } : Jvm.MethodName) prog_14_method_8_code (3 : Nat) (Option.some Jvm.ClassFile.FieldType.int)) ∈ lw_tbl := lw_mem4 100 rfl
theorem kw_821 : (Jvm.Cond.methodLink "EldestSaysModel" (86 : Nat) ({ cls := "EldestSaysModel", name := "bound", desc := "(III)I" } : Jvm.MethodName)) ∈ lw_tbl := lw_mem4 101 rfl
theorem kw_822 : (Jvm.Cond.static ({ cls := "EldestSaysModel", name := "bound", desc := "(III)I" } : Jvm.MethodName)) ∈ lw_tbl := lw_mem4 102 rfl
theorem kw_823 : (Jvm.Cond.code ({ cls := "EldestSaysModel", name := "bound", desc := "(III)I" } : Jvm.MethodName) prog_14_method_6_code (3 : Nat) (Option.some Jvm.ClassFile.FieldType.int)) ∈ lw_tbl := lw_mem4 103 rfl
theorem kw_824 : (Jvm.Cond.methodLink "EldestSaysModel" (93 : Nat) ({ cls := "EldestSaysModel", name := "no", desc := "(I)I" } : Jvm.MethodName)) ∈ lw_tbl := lw_mem4 104 rfl
theorem kw_825 : (Jvm.Cond.privateMethod ({ cls := "EldestSaysModel", name := "no", desc := "(I)I" } : Jvm.MethodName)) ∈ lw_tbl := lw_mem4 105 rfl
theorem kw_826 : (Jvm.Cond.instanceMethod ({ cls := "EldestSaysModel", name := "no", desc := "(I)I" } : Jvm.MethodName)) ∈ lw_tbl := lw_mem4 106 rfl
theorem kw_827 : (Jvm.Cond.code ({ cls := "EldestSaysModel", name := "no", desc := "(I)I" } : Jvm.MethodName) prog_14_method_2_code (2 : Nat) (Option.some Jvm.ClassFile.FieldType.int)) ∈ lw_tbl := lw_mem4 107 rfl
theorem kw_828 : (Jvm.Cond.methodLink "EldestSaysLaw" (22 : Nat) ({ cls := "EldestSaysModel", name := "beach", desc := "()I" } : Jvm.MethodName)) ∈ lw_tbl := lw_mem4 108 rfl
theorem kw_829 : (Jvm.Cond.instanceMethod ({ cls := "EldestSaysModel", name := "beach", desc := "()I" } : Jvm.MethodName)) ∈ lw_tbl := lw_mem4 109 rfl
theorem kw_830 : (Jvm.Cond.selects "EldestSaysModel" ({ cls := "EldestSaysModel", name := "beach", desc := "()I" } : Jvm.MethodName) ({ cls := "EldestSaysModel", name := "beach", desc := "()I" } : Jvm.MethodName)) ∈ lw_tbl := lw_mem4 110 rfl
theorem kw_831 : (Jvm.Cond.code ({ cls := "EldestSaysModel", name := "beach", desc := "()I" } : Jvm.MethodName) prog_14_method_13_code (3 : Nat) (Option.some Jvm.ClassFile.FieldType.int)) ∈ lw_tbl := lw_mem4 111 rfl
theorem kw_832 : (Jvm.Cond.methodLink "EldestSaysModel" (118 : Nat) ({ cls := "EldestSaysModel", name := "statement", desc := "()Z" } : Jvm.MethodName)) ∈ lw_tbl := lw_mem4 112 rfl
theorem kw_833 : (Jvm.Cond.privateMethod ({ cls := "EldestSaysModel", name := "statement", desc := "()Z" } : Jvm.MethodName)) ∈ lw_tbl := lw_mem4 113 rfl
theorem kw_834 : (Jvm.Cond.instanceMethod ({ cls := "EldestSaysModel", name := "statement", desc := "()Z" } : Jvm.MethodName)) ∈ lw_tbl := lw_mem4 114 rfl
theorem kw_835 : (Jvm.Cond.code ({ cls := "EldestSaysModel", name := "statement", desc := "()Z" } : Jvm.MethodName) prog_14_method_11_code (4 : Nat) (Option.some Jvm.ClassFile.FieldType.boolean)) ∈ lw_tbl := lw_mem4 115 rfl
theorem kw_836 : (Jvm.Cond.methodLink "EldestSaysModel" (100 : Nat) ({ cls := "EldestSaysModel", name := "next", desc := "()I" } : Jvm.MethodName)) ∈ lw_tbl := lw_mem4 116 rfl
theorem kw_837 : (Jvm.Cond.privateMethod ({ cls := "EldestSaysModel", name := "next", desc := "()I" } : Jvm.MethodName)) ∈ lw_tbl := lw_mem4 117 rfl
theorem kw_838 : (Jvm.Cond.instanceMethod ({ cls := "EldestSaysModel", name := "next", desc := "()I" } : Jvm.MethodName)) ∈ lw_tbl := lw_mem4 118 rfl
theorem kw_839 : (Jvm.Cond.code ({ cls := "EldestSaysModel", name := "next", desc := "()I" } : Jvm.MethodName) prog_14_method_9_code (1 : Nat) (Option.some Jvm.ClassFile.FieldType.int)) ∈ lw_tbl := lw_mem4 119 rfl
theorem kw_840 : (Jvm.Cond.methodLink "EldestSaysModel" (111 : Nat) ({ cls := "EldestSaysModel", name := "reads", desc := "(II)Z" } : Jvm.MethodName)) ∈ lw_tbl := lw_mem4 120 rfl
theorem kw_841 : (Jvm.Cond.privateMethod ({ cls := "EldestSaysModel", name := "reads", desc := "(II)Z" } : Jvm.MethodName)) ∈ lw_tbl := lw_mem4 121 rfl
theorem kw_842 : (Jvm.Cond.instanceMethod ({ cls := "EldestSaysModel", name := "reads", desc := "(II)Z" } : Jvm.MethodName)) ∈ lw_tbl := lw_mem4 122 rfl
theorem kw_843 : (Jvm.Cond.code ({ cls := "EldestSaysModel", name := "reads", desc := "(II)Z" } : Jvm.MethodName) prog_14_method_10_code (5 : Nat) (Option.some Jvm.ClassFile.FieldType.boolean)) ∈ lw_tbl := lw_mem4 123 rfl
theorem kw_844 : (Jvm.Cond.methodLink "EldestSaysModel" (104 : Nat) ({ cls := "EldestSaysModel", name := "isIn", desc := "(III)Z" } : Jvm.MethodName)) ∈ lw_tbl := lw_mem4 124 rfl
theorem kw_845 : (Jvm.Cond.static ({ cls := "EldestSaysModel", name := "isIn", desc := "(III)Z" } : Jvm.MethodName)) ∈ lw_tbl := lw_mem4 125 rfl
theorem kw_846 : (Jvm.Cond.code ({ cls := "EldestSaysModel", name := "isIn", desc := "(III)Z" } : Jvm.MethodName) prog_14_method_5_code (3 : Nat) (Option.some Jvm.ClassFile.FieldType.boolean)) ∈ lw_tbl := lw_mem4 126 rfl
theorem kw_847 : (Jvm.Cond.methodLink "EldestSaysModel" (122 : Nat) ({ cls := "EldestSaysModel", name := "passesAll", desc := "(IZ)V" } : Jvm.MethodName)) ∈ lw_tbl := lw_mem4 127 rfl
theorem kw_848 : (Jvm.Cond.privateMethod ({ cls := "EldestSaysModel", name := "passesAll", desc := "(IZ)V" } : Jvm.MethodName)) ∈ lw_tbl := lw_mem4 128 rfl
theorem kw_849 : (Jvm.Cond.instanceMethod ({ cls := "EldestSaysModel", name := "passesAll", desc := "(IZ)V" } : Jvm.MethodName)) ∈ lw_tbl := lw_mem4 129 rfl
theorem kw_850 : (Jvm.Cond.code ({ cls := "EldestSaysModel", name := "passesAll", desc := "(IZ)V" } : Jvm.MethodName) prog_14_method_16_code (3 : Nat) (Option.none : Option Jvm.ClassFile.FieldType)) ∈ lw_tbl := lw_mem4 130 rfl
theorem kw_851 : (Jvm.Cond.methodLink "EldestSaysModel" (137 : Nat) ({ cls := "EldestSaysModel", name := "passes", desc := "([I)V" } : Jvm.MethodName)) ∈ lw_tbl := lw_mem4 131 rfl
theorem kw_852 : (Jvm.Cond.privateMethod ({ cls := "EldestSaysModel", name := "passes", desc := "([I)V" } : Jvm.MethodName)) ∈ lw_tbl := lw_mem4 132 rfl
theorem kw_853 : (Jvm.Cond.instanceMethod ({ cls := "EldestSaysModel", name := "passes", desc := "([I)V" } : Jvm.MethodName)) ∈ lw_tbl := lw_mem4 133 rfl
theorem kw_854 : (Jvm.Cond.code ({ cls := "EldestSaysModel", name := "passes", desc := "([I)V" } : Jvm.MethodName) prog_14_method_14_code (3 : Nat) (Option.none : Option Jvm.ClassFile.FieldType)) ∈ lw_tbl := lw_mem4 134 rfl
theorem kw_855 : (Jvm.Cond.methodLink "EldestSaysModel" (141 : Nat) ({ cls := "EldestSaysModel", name := "passOne", desc := "(I)I" } : Jvm.MethodName)) ∈ lw_tbl := lw_mem4 135 rfl
theorem kw_856 : (Jvm.Cond.privateMethod ({ cls := "EldestSaysModel", name := "passOne", desc := "(I)I" } : Jvm.MethodName)) ∈ lw_tbl := lw_mem4 136 rfl
theorem kw_857 : (Jvm.Cond.instanceMethod ({ cls := "EldestSaysModel", name := "passOne", desc := "(I)I" } : Jvm.MethodName)) ∈ lw_tbl := lw_mem4 137 rfl
theorem kw_858 : (Jvm.Cond.code ({ cls := "EldestSaysModel", name := "passOne", desc := "(I)I" } : Jvm.MethodName) prog_14_method_15_code (3 : Nat) (Option.some Jvm.ClassFile.FieldType.int)) ∈ lw_tbl := lw_mem4 138 rfl
theorem kw_859 : (Jvm.Cond.methodLink "EldestSaysModel" (126 : Nat) ({ cls := "EldestSaysModel", name := "comes", desc := "(I)Z" } : Jvm.MethodName)) ∈ lw_tbl := lw_mem4 139 rfl
theorem kw_860 : (Jvm.Cond.privateMethod ({ cls := "EldestSaysModel", name := "comes", desc := "(I)Z" } : Jvm.MethodName)) ∈ lw_tbl := lw_mem4 140 rfl
theorem kw_861 : (Jvm.Cond.instanceMethod ({ cls := "EldestSaysModel", name := "comes", desc := "(I)Z" } : Jvm.MethodName)) ∈ lw_tbl := lw_mem4 141 rfl
theorem kw_862 : (Jvm.Cond.code ({ cls := "EldestSaysModel", name := "comes", desc := "(I)Z" } : Jvm.MethodName) prog_14_method_12_code (4 : Nat) (Option.some Jvm.ClassFile.FieldType.boolean)) ∈ lw_tbl := lw_mem4 142 rfl
theorem kw_863 : (Jvm.Cond.methodLink "EldestSaysLaw" (126 : Nat) ({ cls := "EldestSaysModel", name := "image", desc := "()I" } : Jvm.MethodName)) ∈ lw_tbl := lw_mem4 143 rfl
theorem kw_864 : (Jvm.Cond.instanceMethod ({ cls := "EldestSaysModel", name := "image", desc := "()I" } : Jvm.MethodName)) ∈ lw_tbl := lw_mem4 144 rfl
theorem kw_865 : (Jvm.Cond.selects "EldestSaysModel" ({ cls := "EldestSaysModel", name := "image", desc := "()I" } : Jvm.MethodName) ({ cls := "EldestSaysModel", name := "image", desc := "()I" } : Jvm.MethodName)) ∈ lw_tbl := lw_mem4 145 rfl
theorem kw_866 : (Jvm.Cond.code ({ cls := "EldestSaysModel", name := "image", desc := "()I" } : Jvm.MethodName) prog_14_method_17_code (1 : Nat) (Option.some Jvm.ClassFile.FieldType.int)) ∈ lw_tbl := lw_mem4 146 rfl
theorem kw_867 : (Jvm.Cond.methodLink "EldestSaysLaw" (130 : Nat) ({ cls := "EldestSaysModel", name := "restore", desc := "()I" } : Jvm.MethodName)) ∈ lw_tbl := lw_mem4 147 rfl
theorem kw_868 : (Jvm.Cond.instanceMethod ({ cls := "EldestSaysModel", name := "restore", desc := "()I" } : Jvm.MethodName)) ∈ lw_tbl := lw_mem4 148 rfl
theorem kw_869 : (Jvm.Cond.selects "EldestSaysModel" ({ cls := "EldestSaysModel", name := "restore", desc := "()I" } : Jvm.MethodName) ({ cls := "EldestSaysModel", name := "restore", desc := "()I" } : Jvm.MethodName)) ∈ lw_tbl := lw_mem4 149 rfl
theorem kw_870 : (Jvm.Cond.code ({ cls := "EldestSaysModel", name := "restore", desc := "()I" } : Jvm.MethodName) prog_14_method_18_code (1 : Nat) (Option.some Jvm.ClassFile.FieldType.int)) ∈ lw_tbl := lw_mem4 150 rfl
theorem kw_871 : (Jvm.Cond.methodLink "EldestSaysLaw" (27 : Nat) ({ cls := "EldestSaysModel", name := "man", desc := "(II)I" } : Jvm.MethodName)) ∈ lw_tbl := lw_mem4 151 rfl
theorem kw_872 : (Jvm.Cond.instanceMethod ({ cls := "EldestSaysModel", name := "man", desc := "(II)I" } : Jvm.MethodName)) ∈ lw_tbl := lw_mem4 152 rfl
theorem kw_873 : (Jvm.Cond.selects "EldestSaysModel" ({ cls := "EldestSaysModel", name := "man", desc := "(II)I" } : Jvm.MethodName) ({ cls := "EldestSaysModel", name := "man", desc := "(II)I" } : Jvm.MethodName)) ∈ lw_tbl := lw_mem4 153 rfl
theorem kw_874 : (Jvm.Cond.code ({ cls := "EldestSaysModel", name := "man", desc := "(II)I" } : Jvm.MethodName) prog_14_method_19_code (3 : Nat) (Option.some Jvm.ClassFile.FieldType.int)) ∈ lw_tbl := lw_mem4 154 rfl
theorem kw_875 : (Jvm.Cond.methodLink "EldestSaysModel" (150 : Nat) ({ cls := "EldestSaysModel", name := "isMan", desc := "(I)Z" } : Jvm.MethodName)) ∈ lw_tbl := lw_mem4 155 rfl
theorem kw_876 : (Jvm.Cond.privateMethod ({ cls := "EldestSaysModel", name := "isMan", desc := "(I)Z" } : Jvm.MethodName)) ∈ lw_tbl := lw_mem4 156 rfl
theorem kw_877 : (Jvm.Cond.instanceMethod ({ cls := "EldestSaysModel", name := "isMan", desc := "(I)Z" } : Jvm.MethodName)) ∈ lw_tbl := lw_mem4 157 rfl
theorem kw_878 : (Jvm.Cond.code ({ cls := "EldestSaysModel", name := "isMan", desc := "(I)Z" } : Jvm.MethodName) prog_14_method_7_code (2 : Nat) (Option.some Jvm.ClassFile.FieldType.boolean)) ∈ lw_tbl := lw_mem4 158 rfl
theorem kw_879 : (Jvm.Cond.methodLink "EldestSaysLaw" (31 : Nat) ({ cls := "EldestSaysModel", name := "set", desc := "(II)I" } : Jvm.MethodName)) ∈ lw_tbl := lw_mem4 159 rfl
theorem kw_880 : (Jvm.Cond.instanceMethod ({ cls := "EldestSaysModel", name := "set", desc := "(II)I" } : Jvm.MethodName)) ∈ lw_tbl := lw_mem4 160 rfl
theorem kw_881 : (Jvm.Cond.selects "EldestSaysModel" ({ cls := "EldestSaysModel", name := "set", desc := "(II)I" } : Jvm.MethodName) ({ cls := "EldestSaysModel", name := "set", desc := "(II)I" } : Jvm.MethodName)) ∈ lw_tbl := lw_mem4 161 rfl
theorem kw_882 : (Jvm.Cond.code ({ cls := "EldestSaysModel", name := "set", desc := "(II)I" } : Jvm.MethodName) prog_14_method_20_code (5 : Nat) (Option.some Jvm.ClassFile.FieldType.int)) ∈ lw_tbl := lw_mem4 162 rfl
theorem kw_883 : (Jvm.Cond.fieldLink "EldestSaysModel" (153 : Nat) "EldestSaysModel" "MOST_SET" "[I") ∈ lw_tbl := lw_mem4 163 rfl
theorem kw_884 : (Jvm.Cond.laysStatic "EldestSaysModel" "MOST_SET" "[I") ∈ lw_tbl := lw_mem4 164 rfl
theorem kw_885 : (Jvm.Cond.methodLink "EldestSaysLaw" (35 : Nat) ({ cls := "EldestSaysModel", name := "offered", desc := "(II)I" } : Jvm.MethodName)) ∈ lw_tbl := lw_mem4 165 rfl
theorem kw_886 : (Jvm.Cond.instanceMethod ({ cls := "EldestSaysModel", name := "offered", desc := "(II)I" } : Jvm.MethodName)) ∈ lw_tbl := lw_mem4 166 rfl
theorem kw_887 : (Jvm.Cond.selects "EldestSaysModel" ({ cls := "EldestSaysModel", name := "offered", desc := "(II)I" } : Jvm.MethodName) ({ cls := "EldestSaysModel", name := "offered", desc := "(II)I" } : Jvm.MethodName)) ∈ lw_tbl := lw_mem4 167 rfl
theorem kw_888 : (Jvm.Cond.code ({ cls := "EldestSaysModel", name := "offered", desc := "(II)I" } : Jvm.MethodName) prog_14_method_37_code (3 : Nat) (Option.some Jvm.ClassFile.FieldType.int)) ∈ lw_tbl := lw_mem4 168 rfl
theorem kw_889 : (Jvm.Cond.methodLink "EldestSaysModel" (201 : Nat) ({ cls := "EldestSaysModel", name := "areInOrder", desc := "(II)Z" } : Jvm.MethodName)) ∈ lw_tbl := lw_mem4 169 rfl
theorem kw_890 : (Jvm.Cond.privateMethod ({ cls := "EldestSaysModel", name := "areInOrder", desc := "(II)Z" } : Jvm.MethodName)) ∈ lw_tbl := lw_mem4 170 rfl
theorem kw_891 : (Jvm.Cond.instanceMethod ({ cls := "EldestSaysModel", name := "areInOrder", desc := "(II)Z" } : Jvm.MethodName)) ∈ lw_tbl := lw_mem4 171 rfl
theorem kw_892 : (Jvm.Cond.code ({ cls := "EldestSaysModel", name := "areInOrder", desc := "(II)Z" } : Jvm.MethodName) prog_14_method_36_code (3 : Nat) (Option.some Jvm.ClassFile.FieldType.boolean)) ∈ lw_tbl := lw_mem4 172 rfl
theorem kw_893 : (Jvm.Cond.methodLink "EldestSaysModel" (204 : Nat) ({ cls := "EldestSaysModel", name := "solvesAll", desc := "()V" } : Jvm.MethodName)) ∈ lw_tbl := lw_mem4 173 rfl
theorem kw_894 : (Jvm.Cond.privateMethod ({ cls := "EldestSaysModel", name := "solvesAll", desc := "()V" } : Jvm.MethodName)) ∈ lw_tbl := lw_mem4 174 rfl
