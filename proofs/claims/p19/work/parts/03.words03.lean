theorem kw_895 : (Jvm.Cond.instanceMethod ({ cls := "EldestSaysModel", name := "solvesAll", desc := "()V" } : Jvm.MethodName)) ∈ lw_tbl := lw_mem4 175 rfl
theorem kw_896 : (Jvm.Cond.code ({ cls := "EldestSaysModel", name := "solvesAll", desc := "()V" } : Jvm.MethodName) prog_14_method_35_code (2 : Nat) (Option.none : Option Jvm.ClassFile.FieldType)) ∈ lw_tbl := lw_mem4 176 rfl
theorem kw_897 : (Jvm.Cond.methodLink "EldestSaysModel" (198 : Nat) ({ cls := "EldestSaysModel", name := "solves", desc := "(I)V" } : Jvm.MethodName)) ∈ lw_tbl := lw_mem4 177 rfl
theorem kw_898 : (Jvm.Cond.privateMethod ({ cls := "EldestSaysModel", name := "solves", desc := "(I)V" } : Jvm.MethodName)) ∈ lw_tbl := lw_mem4 178 rfl
theorem kw_899 : (Jvm.Cond.instanceMethod ({ cls := "EldestSaysModel", name := "solves", desc := "(I)V" } : Jvm.MethodName)) ∈ lw_tbl := lw_mem4 179 rfl
theorem kw_900 : (Jvm.Cond.code ({ cls := "EldestSaysModel", name := "solves", desc := "(I)V" } : Jvm.MethodName) prog_14_method_34_code (3 : Nat) (Option.none : Option Jvm.ClassFile.FieldType)) ∈ lw_tbl := lw_mem4 180 rfl
theorem kw_901 : (Jvm.Cond.methodLink "EldestSaysModel" (191 : Nat) ({ cls := "EldestSaysModel", name := "priceOf", desc := "(II)I" } : Jvm.MethodName)) ∈ lw_tbl := lw_mem4 181 rfl
theorem kw_902 : (Jvm.Cond.privateMethod ({ cls := "EldestSaysModel", name := "priceOf", desc := "(II)I" } : Jvm.MethodName)) ∈ lw_tbl := lw_mem4 182 rfl
theorem kw_903 : (Jvm.Cond.instanceMethod ({ cls := "EldestSaysModel", name := "priceOf", desc := "(II)I" } : Jvm.MethodName)) ∈ lw_tbl := lw_mem4 183 rfl
theorem kw_904 : (Jvm.Cond.code ({ cls := "EldestSaysModel", name := "priceOf", desc := "(II)I" } : Jvm.MethodName) prog_14_method_25_code (5 : Nat) (Option.some Jvm.ClassFile.FieldType.int)) ∈ lw_tbl := lw_mem4 184 rfl
theorem kw_905 : (Jvm.Cond.methodLink "EldestSaysModel" (156 : Nat) ({ cls := "EldestSaysModel", name := "above", desc := "(I)I" } : Jvm.MethodName)) ∈ lw_tbl := lw_mem4 185 rfl
theorem kw_906 : (Jvm.Cond.static ({ cls := "EldestSaysModel", name := "above", desc := "(I)I" } : Jvm.MethodName)) ∈ lw_tbl := lw_mem4 186 rfl
theorem kw_907 : (Jvm.Cond.code ({ cls := "EldestSaysModel", name := "above", desc := "(I)I" } : Jvm.MethodName) prog_14_method_24_code (1 : Nat) (Option.some Jvm.ClassFile.FieldType.int)) ∈ lw_tbl := lw_mem4 187 rfl
theorem kw_908 : (Jvm.Cond.methodLink "EldestSaysModel" (194 : Nat) ({ cls := "EldestSaysModel", name := "findOffer", desc := "(I)V" } : Jvm.MethodName)) ∈ lw_tbl := lw_mem4 188 rfl
theorem kw_909 : (Jvm.Cond.privateMethod ({ cls := "EldestSaysModel", name := "findOffer", desc := "(I)V" } : Jvm.MethodName)) ∈ lw_tbl := lw_mem4 189 rfl
theorem kw_910 : (Jvm.Cond.instanceMethod ({ cls := "EldestSaysModel", name := "findOffer", desc := "(I)V" } : Jvm.MethodName)) ∈ lw_tbl := lw_mem4 190 rfl
theorem kw_911 : (Jvm.Cond.code ({ cls := "EldestSaysModel", name := "findOffer", desc := "(I)V" } : Jvm.MethodName) prog_14_method_33_code (3 : Nat) (Option.none : Option Jvm.ClassFile.FieldType)) ∈ lw_tbl := lw_mem4 191 rfl
theorem kw_912 : (Jvm.Cond.methodLink "EldestSaysModel" (182 : Nat) ({ cls := "EldestSaysModel", name := "doesBuy", desc := "(I)Z" } : Jvm.MethodName)) ∈ lw_tbl := lw_mem4 192 rfl
theorem kw_913 : (Jvm.Cond.static ({ cls := "EldestSaysModel", name := "doesBuy", desc := "(I)Z" } : Jvm.MethodName)) ∈ lw_tbl := lw_mem4 193 rfl
theorem kw_914 : (Jvm.Cond.code ({ cls := "EldestSaysModel", name := "doesBuy", desc := "(I)Z" } : Jvm.MethodName) prog_14_method_32_code (1 : Nat) (Option.some Jvm.ClassFile.FieldType.boolean)) ∈ lw_tbl := lw_mem4 194 rfl
theorem kw_915 : (Jvm.Cond.methodLink "EldestSaysModel" (185 : Nat) ({ cls := "EldestSaysModel", name := "buysBy", desc := "(I)I" } : Jvm.MethodName)) ∈ lw_tbl := lw_mem4 195 rfl
theorem kw_916 : (Jvm.Cond.privateMethod ({ cls := "EldestSaysModel", name := "buysBy", desc := "(I)I" } : Jvm.MethodName)) ∈ lw_tbl := lw_mem4 196 rfl
theorem kw_917 : (Jvm.Cond.instanceMethod ({ cls := "EldestSaysModel", name := "buysBy", desc := "(I)I" } : Jvm.MethodName)) ∈ lw_tbl := lw_mem4 197 rfl
theorem kw_918 : (Jvm.Cond.code ({ cls := "EldestSaysModel", name := "buysBy", desc := "(I)I" } : Jvm.MethodName) prog_14_method_29_code (6 : Nat) (Option.some Jvm.ClassFile.FieldType.int)) ∈ lw_tbl := lw_mem4 198 rfl
theorem kw_919 : (Jvm.Cond.methodLink "EldestSaysModel" (159 : Nat) ({ cls := "EldestSaysModel", name := "leftFrom", desc := "(I)I" } : Jvm.MethodName)) ∈ lw_tbl := lw_mem4 199 rfl
theorem kw_920 : (Jvm.Cond.privateMethod ({ cls := "EldestSaysModel", name := "leftFrom", desc := "(I)I" } : Jvm.MethodName)) ∈ lw_tbl := lw_mem4 200 rfl
theorem kw_921 : (Jvm.Cond.instanceMethod ({ cls := "EldestSaysModel", name := "leftFrom", desc := "(I)I" } : Jvm.MethodName)) ∈ lw_tbl := lw_mem4 201 rfl
theorem kw_922 : (Jvm.Cond.code ({ cls := "EldestSaysModel", name := "leftFrom", desc := "(I)I" } : Jvm.MethodName) prog_14_method_23_code (2 : Nat) (Option.some Jvm.ClassFile.FieldType.int)) ∈ lw_tbl := lw_mem4 202 rfl
theorem kw_923 : (Jvm.Cond.methodLink "EldestSaysModel" (162 : Nat) ({ cls := "EldestSaysModel", name := "unbought", desc := "(I)I" } : Jvm.MethodName)) ∈ lw_tbl := lw_mem4 203 rfl
theorem kw_924 : (Jvm.Cond.privateMethod ({ cls := "EldestSaysModel", name := "unbought", desc := "(I)I" } : Jvm.MethodName)) ∈ lw_tbl := lw_mem4 204 rfl
theorem kw_925 : (Jvm.Cond.instanceMethod ({ cls := "EldestSaysModel", name := "unbought", desc := "(I)I" } : Jvm.MethodName)) ∈ lw_tbl := lw_mem4 205 rfl
theorem kw_926 : (Jvm.Cond.code ({ cls := "EldestSaysModel", name := "unbought", desc := "(I)I" } : Jvm.MethodName) prog_14_method_27_code (4 : Nat) (Option.some Jvm.ClassFile.FieldType.int)) ∈ lw_tbl := lw_mem4 206 rfl
theorem kw_927 : (Jvm.Cond.methodLink "EldestSaysModel" (165 : Nat) ({ cls := "EldestSaysModel", name := "weightOf", desc := "(I)I" } : Jvm.MethodName)) ∈ lw_tbl := lw_mem4 207 rfl
theorem kw_928 : (Jvm.Cond.privateMethod ({ cls := "EldestSaysModel", name := "weightOf", desc := "(I)I" } : Jvm.MethodName)) ∈ lw_tbl := lw_mem4 208 rfl
theorem kw_929 : (Jvm.Cond.instanceMethod ({ cls := "EldestSaysModel", name := "weightOf", desc := "(I)I" } : Jvm.MethodName)) ∈ lw_tbl := lw_mem4 209 rfl
theorem kw_930 : (Jvm.Cond.code ({ cls := "EldestSaysModel", name := "weightOf", desc := "(I)I" } : Jvm.MethodName) prog_14_method_22_code (4 : Nat) (Option.some Jvm.ClassFile.FieldType.int)) ∈ lw_tbl := lw_mem4 210 rfl
theorem kw_931 : (Jvm.Cond.methodLink "EldestSaysModel" (168 : Nat) ({ cls := "EldestSaysModel", name := "isCarried", desc := "(III)Z" } : Jvm.MethodName)) ∈ lw_tbl := lw_mem4 211 rfl
theorem kw_932 : (Jvm.Cond.static ({ cls := "EldestSaysModel", name := "isCarried", desc := "(III)Z" } : Jvm.MethodName)) ∈ lw_tbl := lw_mem4 212 rfl
theorem kw_933 : (Jvm.Cond.code ({ cls := "EldestSaysModel", name := "isCarried", desc := "(III)Z" } : Jvm.MethodName) prog_14_method_21_code (3 : Nat) (Option.some Jvm.ClassFile.FieldType.boolean)) ∈ lw_tbl := lw_mem4 213 rfl
theorem kw_934 : (Jvm.Cond.methodLink "EldestSaysModel" (171 : Nat) ({ cls := "EldestSaysModel", name := "costOf", desc := "(II)I" } : Jvm.MethodName)) ∈ lw_tbl := lw_mem4 214 rfl
theorem kw_935 : (Jvm.Cond.privateMethod ({ cls := "EldestSaysModel", name := "costOf", desc := "(II)I" } : Jvm.MethodName)) ∈ lw_tbl := lw_mem4 215 rfl
theorem kw_936 : (Jvm.Cond.instanceMethod ({ cls := "EldestSaysModel", name := "costOf", desc := "(II)I" } : Jvm.MethodName)) ∈ lw_tbl := lw_mem4 216 rfl
theorem kw_937 : (Jvm.Cond.code ({ cls := "EldestSaysModel", name := "costOf", desc := "(II)I" } : Jvm.MethodName) prog_14_method_26_code (5 : Nat) (Option.some Jvm.ClassFile.FieldType.int)) ∈ lw_tbl := lw_mem4 217 rfl
theorem kw_938 : (Jvm.Cond.methodLink "EldestSaysModel" (175 : Nat) ({ cls := "EldestSaysModel", name := "isAhead", desc := "(II)Z" } : Jvm.MethodName)) ∈ lw_tbl := lw_mem4 218 rfl
theorem kw_939 : (Jvm.Cond.privateMethod ({ cls := "EldestSaysModel", name := "isAhead", desc := "(II)Z" } : Jvm.MethodName)) ∈ lw_tbl := lw_mem4 219 rfl
theorem kw_940 : (Jvm.Cond.instanceMethod ({ cls := "EldestSaysModel", name := "isAhead", desc := "(II)Z" } : Jvm.MethodName)) ∈ lw_tbl := lw_mem4 220 rfl
theorem kw_941 : (Jvm.Cond.code ({ cls := "EldestSaysModel", name := "isAhead", desc := "(II)Z" } : Jvm.MethodName) prog_14_method_28_code (6 : Nat) (Option.some Jvm.ClassFile.FieldType.boolean)) ∈ lw_tbl := lw_mem4 221 rfl
theorem kw_942 : (Jvm.Cond.methodLink "EldestSaysModel" (178 : Nat) ({ cls := "EldestSaysModel", name := "offersEach", desc := "(III)V" } : Jvm.MethodName)) ∈ lw_tbl := lw_mem4 222 rfl
theorem kw_943 : (Jvm.Cond.privateMethod ({ cls := "EldestSaysModel", name := "offersEach", desc := "(III)V" } : Jvm.MethodName)) ∈ lw_tbl := lw_mem4 223 rfl
theorem kw_944 : (Jvm.Cond.instanceMethod ({ cls := "EldestSaysModel", name := "offersEach", desc := "(III)V" } : Jvm.MethodName)) ∈ lw_tbl := lw_mem4 224 rfl
theorem kw_945 : (Jvm.Cond.code ({ cls := "EldestSaysModel", name := "offersEach", desc := "(III)V" } : Jvm.MethodName) prog_14_method_30_code (4 : Nat) (Option.none : Option Jvm.ClassFile.FieldType)) ∈ lw_tbl := lw_mem4 225 rfl
theorem kw_946 : (Jvm.Cond.methodLink "EldestSaysModel" (188 : Nat) ({ cls := "EldestSaysModel", name := "offersFools", desc := "(IZ)V" } : Jvm.MethodName)) ∈ lw_tbl := lw_mem4 226 rfl
theorem kw_947 : (Jvm.Cond.privateMethod ({ cls := "EldestSaysModel", name := "offersFools", desc := "(IZ)V" } : Jvm.MethodName)) ∈ lw_tbl := lw_mem4 227 rfl
theorem kw_948 : (Jvm.Cond.instanceMethod ({ cls := "EldestSaysModel", name := "offersFools", desc := "(IZ)V" } : Jvm.MethodName)) ∈ lw_tbl := lw_mem4 228 rfl
theorem kw_949 : (Jvm.Cond.code ({ cls := "EldestSaysModel", name := "offersFools", desc := "(IZ)V" } : Jvm.MethodName) prog_14_method_31_code (4 : Nat) (Option.none : Option Jvm.ClassFile.FieldType)) ∈ lw_tbl := lw_mem4 229 rfl
theorem kw_950 : (Jvm.Cond.methodLink "EldestSaysLaw" (39 : Nat) ({ cls := "EldestSaysModel", name := "price", desc := "(II)I" } : Jvm.MethodName)) ∈ lw_tbl := lw_mem4 230 rfl
theorem kw_951 : (Jvm.Cond.instanceMethod ({ cls := "EldestSaysModel", name := "price", desc := "(II)I" } : Jvm.MethodName)) ∈ lw_tbl := lw_mem4 231 rfl
theorem kw_952 : (Jvm.Cond.selects "EldestSaysModel" ({ cls := "EldestSaysModel", name := "price", desc := "(II)I" } : Jvm.MethodName) ({ cls := "EldestSaysModel", name := "price", desc := "(II)I" } : Jvm.MethodName)) ∈ lw_tbl := lw_mem4 232 rfl
theorem kw_953 : (Jvm.Cond.code ({ cls := "EldestSaysModel", name := "price", desc := "(II)I" } : Jvm.MethodName) prog_14_method_38_code (3 : Nat) (Option.some Jvm.ClassFile.FieldType.int)) ∈ lw_tbl := lw_mem4 233 rfl
theorem kw_954 : (Jvm.Cond.methodLink "EldestSaysLaw" (43 : Nat) ({ cls := "EldestSaysModel", name := "votes", desc := "(I)I" } : Jvm.MethodName)) ∈ lw_tbl := lw_mem4 234 rfl
theorem kw_955 : (Jvm.Cond.instanceMethod ({ cls := "EldestSaysModel", name := "votes", desc := "(I)I" } : Jvm.MethodName)) ∈ lw_tbl := lw_mem4 235 rfl
theorem kw_956 : (Jvm.Cond.selects "EldestSaysModel" ({ cls := "EldestSaysModel", name := "votes", desc := "(I)I" } : Jvm.MethodName) ({ cls := "EldestSaysModel", name := "votes", desc := "(I)I" } : Jvm.MethodName)) ∈ lw_tbl := lw_mem4 236 rfl
theorem kw_957 : (Jvm.Cond.code ({ cls := "EldestSaysModel", name := "votes", desc := "(I)I" } : Jvm.MethodName) prog_14_method_39_code (2 : Nat) (Option.some Jvm.ClassFile.FieldType.int)) ∈ lw_tbl := lw_mem4 237 rfl
theorem kw_958 : (Jvm.Cond.methodLink "EldestSaysLaw" (47 : Nat) ({ cls := "EldestSaysModel", name := "carries", desc := "(I)I" } : Jvm.MethodName)) ∈ lw_tbl := lw_mem4 238 rfl
theorem kw_959 : (Jvm.Cond.instanceMethod ({ cls := "EldestSaysModel", name := "carries", desc := "(I)I" } : Jvm.MethodName)) ∈ lw_tbl := lw_mem4 239 rfl
theorem kw_960 : (Jvm.Cond.selects "EldestSaysModel" ({ cls := "EldestSaysModel", name := "carries", desc := "(I)I" } : Jvm.MethodName) ({ cls := "EldestSaysModel", name := "carries", desc := "(I)I" } : Jvm.MethodName)) ∈ lw_tbl := lw_mem5 0 rfl
theorem kw_961 : (Jvm.Cond.code ({ cls := "EldestSaysModel", name := "carries", desc := "(I)I" } : Jvm.MethodName) prog_14_method_40_code (2 : Nat) (Option.some Jvm.ClassFile.FieldType.int)) ∈ lw_tbl := lw_mem5 1 rfl
theorem kw_962 : (Jvm.Cond.methodLink "EldestSaysLaw" (51 : Nat) ({ cls := "EldestSaysModel", name := "ends", desc := "(I)I" } : Jvm.MethodName)) ∈ lw_tbl := lw_mem5 2 rfl
theorem kw_963 : (Jvm.Cond.instanceMethod ({ cls := "EldestSaysModel", name := "ends", desc := "(I)I" } : Jvm.MethodName)) ∈ lw_tbl := lw_mem5 3 rfl
theorem kw_964 : (Jvm.Cond.selects "EldestSaysModel" ({ cls := "EldestSaysModel", name := "ends", desc := "(I)I" } : Jvm.MethodName) ({ cls := "EldestSaysModel", name := "ends", desc := "(I)I" } : Jvm.MethodName)) ∈ lw_tbl := lw_mem5 4 rfl
theorem kw_965 : (Jvm.Cond.code ({ cls := "EldestSaysModel", name := "ends", desc := "(I)I" } : Jvm.MethodName) prog_14_method_41_code (2 : Nat) (Option.some Jvm.ClassFile.FieldType.int)) ∈ lw_tbl := lw_mem5 5 rfl
theorem kw_966 : (Jvm.Cond.methodLink "EldestSaysLaw" (55 : Nat) ({ cls := "EldestSaysModel", name := "gets", desc := "(II)I" } : Jvm.MethodName)) ∈ lw_tbl := lw_mem5 6 rfl
theorem kw_967 : (Jvm.Cond.instanceMethod ({ cls := "EldestSaysModel", name := "gets", desc := "(II)I" } : Jvm.MethodName)) ∈ lw_tbl := lw_mem5 7 rfl
theorem kw_968 : (Jvm.Cond.selects "EldestSaysModel" ({ cls := "EldestSaysModel", name := "gets", desc := "(II)I" } : Jvm.MethodName) ({ cls := "EldestSaysModel", name := "gets", desc := "(II)I" } : Jvm.MethodName)) ∈ lw_tbl := lw_mem5 8 rfl
theorem kw_969 : (Jvm.Cond.code ({ cls := "EldestSaysModel", name := "gets", desc := "(II)I" } : Jvm.MethodName) prog_14_method_42_code (3 : Nat) (Option.some Jvm.ClassFile.FieldType.int)) ∈ lw_tbl := lw_mem5 9 rfl
theorem kw_970 : (Jvm.Cond.methodLink "EldestSaysModel" (207 : Nat) ({ cls := "EldestSaysModel", name := "lower", desc := "(I)I" } : Jvm.MethodName)) ∈ lw_tbl := lw_mem5 10 rfl
theorem kw_971 : (Jvm.Cond.privateMethod ({ cls := "EldestSaysModel", name := "lower", desc := "(I)I" } : Jvm.MethodName)) ∈ lw_tbl := lw_mem5 11 rfl
theorem kw_972 : (Jvm.Cond.instanceMethod ({ cls := "EldestSaysModel", name := "lower", desc := "(I)I" } : Jvm.MethodName)) ∈ lw_tbl := lw_mem5 12 rfl
theorem kw_973 : (Jvm.Cond.code ({ cls := "EldestSaysModel", name := "lower", desc := "(I)I" } : Jvm.MethodName) prog_14_method_3_code (2 : Nat) (Option.some Jvm.ClassFile.FieldType.int)) ∈ lw_tbl := lw_mem5 13 rfl
theorem kw_974 : (Jvm.Cond.constant "EldestSaysModel" (79 : Nat) (1000000000 : Int32)) ∈ lw_tbl := lw_mem5 14 rfl
theorem kw_975 : (Jvm.Cond.methodLink "EldestSaysLaw" (59 : Nat) ({ cls := "EldestSaysModel", name := "bought", desc := "(I)I" } : Jvm.MethodName)) ∈ lw_tbl := lw_mem5 15 rfl
theorem kw_976 : (Jvm.Cond.instanceMethod ({ cls := "EldestSaysModel", name := "bought", desc := "(I)I" } : Jvm.MethodName)) ∈ lw_tbl := lw_mem5 16 rfl
theorem kw_977 : (Jvm.Cond.selects "EldestSaysModel" ({ cls := "EldestSaysModel", name := "bought", desc := "(I)I" } : Jvm.MethodName) ({ cls := "EldestSaysModel", name := "bought", desc := "(I)I" } : Jvm.MethodName)) ∈ lw_tbl := lw_mem5 17 rfl
theorem kw_978 : (Jvm.Cond.code ({ cls := "EldestSaysModel", name := "bought", desc := "(I)I" } : Jvm.MethodName) prog_14_method_43_code (2 : Nat) (Option.some Jvm.ClassFile.FieldType.int)) ∈ lw_tbl := lw_mem5 18 rfl
theorem kw_979 : (Jvm.Cond.methodLink "EldestSaysLaw" (63 : Nat) ({ cls := "EldestSaysModel", name := "row", desc := "(I)I" } : Jvm.MethodName)) ∈ lw_tbl := lw_mem5 19 rfl
theorem kw_980 : (Jvm.Cond.instanceMethod ({ cls := "EldestSaysModel", name := "row", desc := "(I)I" } : Jvm.MethodName)) ∈ lw_tbl := lw_mem5 20 rfl
theorem kw_981 : (Jvm.Cond.selects "EldestSaysModel" ({ cls := "EldestSaysModel", name := "row", desc := "(I)I" } : Jvm.MethodName) ({ cls := "EldestSaysModel", name := "row", desc := "(I)I" } : Jvm.MethodName)) ∈ lw_tbl := lw_mem5 21 rfl
theorem kw_982 : (Jvm.Cond.code ({ cls := "EldestSaysModel", name := "row", desc := "(I)I" } : Jvm.MethodName) prog_14_method_44_code (3 : Nat) (Option.some Jvm.ClassFile.FieldType.int)) ∈ lw_tbl := lw_mem5 22 rfl
theorem kw_983 : (Jvm.Cond.methodLink "EldestSaysLaw" (122 : Nat) ({ cls := "EldestSaysModel", name := "clear", desc := "()I" } : Jvm.MethodName)) ∈ lw_tbl := lw_mem5 23 rfl
theorem kw_984 : (Jvm.Cond.instanceMethod ({ cls := "EldestSaysModel", name := "clear", desc := "()I" } : Jvm.MethodName)) ∈ lw_tbl := lw_mem5 24 rfl
theorem kw_985 : (Jvm.Cond.selects "EldestSaysModel" ({ cls := "EldestSaysModel", name := "clear", desc := "()I" } : Jvm.MethodName) ({ cls := "EldestSaysModel", name := "clear", desc := "()I" } : Jvm.MethodName)) ∈ lw_tbl := lw_mem5 25 rfl
theorem kw_986 : (Jvm.Cond.code ({ cls := "EldestSaysModel", name := "clear", desc := "()I" } : Jvm.MethodName) prog_14_method_45_code (2 : Nat) (Option.some Jvm.ClassFile.FieldType.int)) ∈ lw_tbl := lw_mem5 26 rfl
theorem kw_987 : (Jvm.Cond.methodLink "EldestSaysLaw" (67 : Nat) ({ cls := "EldestSaysModel", name := "judge", desc := "(I)I" } : Jvm.MethodName)) ∈ lw_tbl := lw_mem5 27 rfl
theorem kw_988 : (Jvm.Cond.instanceMethod ({ cls := "EldestSaysModel", name := "judge", desc := "(I)I" } : Jvm.MethodName)) ∈ lw_tbl := lw_mem5 28 rfl
theorem kw_989 : (Jvm.Cond.selects "EldestSaysModel" ({ cls := "EldestSaysModel", name := "judge", desc := "(I)I" } : Jvm.MethodName) ({ cls := "EldestSaysModel", name := "judge", desc := "(I)I" } : Jvm.MethodName)) ∈ lw_tbl := lw_mem5 29 rfl
theorem kw_990 : (Jvm.Cond.code ({ cls := "EldestSaysModel", name := "judge", desc := "(I)I" } : Jvm.MethodName) prog_14_method_48_code (5 : Nat) (Option.some Jvm.ClassFile.FieldType.int)) ∈ lw_tbl := lw_mem5 30 rfl
theorem kw_991 : (Jvm.Cond.methodLink "EldestSaysModel" (213 : Nat) ({ cls := "EldestSaysModel", name := "isOver", desc := "()Z" } : Jvm.MethodName)) ∈ lw_tbl := lw_mem5 31 rfl
theorem kw_992 : (Jvm.Cond.privateMethod ({ cls := "EldestSaysModel", name := "isOver", desc := "()Z" } : Jvm.MethodName)) ∈ lw_tbl := lw_mem5 32 rfl
theorem kw_993 : (Jvm.Cond.instanceMethod ({ cls := "EldestSaysModel", name := "isOver", desc := "()Z" } : Jvm.MethodName)) ∈ lw_tbl := lw_mem5 33 rfl
theorem kw_994 : (Jvm.Cond.code ({ cls := "EldestSaysModel", name := "isOver", desc := "()Z" } : Jvm.MethodName) prog_14_method_46_code (1 : Nat) (Option.some Jvm.ClassFile.FieldType.boolean)) ∈ lw_tbl := lw_mem5 34 rfl
theorem kw_995 : (Jvm.Cond.methodLink "EldestSaysModel" (216 : Nat) ({ cls := "EldestSaysModel", name := "isOffer", desc := "()Z" } : Jvm.MethodName)) ∈ lw_tbl := lw_mem5 35 rfl
theorem kw_996 : (Jvm.Cond.privateMethod ({ cls := "EldestSaysModel", name := "isOffer", desc := "()Z" } : Jvm.MethodName)) ∈ lw_tbl := lw_mem5 36 rfl
theorem kw_997 : (Jvm.Cond.instanceMethod ({ cls := "EldestSaysModel", name := "isOffer", desc := "()Z" } : Jvm.MethodName)) ∈ lw_tbl := lw_mem5 37 rfl
theorem kw_998 : (Jvm.Cond.code ({ cls := "EldestSaysModel", name := "isOffer", desc := "()Z" } : Jvm.MethodName) prog_14_method_47_code (3 : Nat) (Option.some Jvm.ClassFile.FieldType.boolean)) ∈ lw_tbl := lw_mem5 38 rfl
theorem kw_999 : (Jvm.Cond.methodLink "EldestSaysLaw" (71 : Nat) ({ cls := "EldestSaysModel", name := "goes", desc := "(I)I" } : Jvm.MethodName)) ∈ lw_tbl := lw_mem5 39 rfl
theorem kw_1000 : (Jvm.Cond.instanceMethod ({ cls := "EldestSaysModel", name := "goes", desc := "(I)I" } : Jvm.MethodName)) ∈ lw_tbl := lw_mem5 40 rfl
theorem kw_1001 : (Jvm.Cond.selects "EldestSaysModel" ({ cls := "EldestSaysModel", name := "goes", desc := "(I)I" } : Jvm.MethodName) ({ cls := "EldestSaysModel", name := "goes", desc := "(I)I" } : Jvm.MethodName)) ∈ lw_tbl := lw_mem5 41 rfl
theorem kw_1002 : (Jvm.Cond.code ({ cls := "EldestSaysModel", name := "goes", desc := "(I)I" } : Jvm.MethodName) prog_14_method_50_code (2 : Nat) (Option.some Jvm.ClassFile.FieldType.int)) ∈ lw_tbl := lw_mem5 42 rfl
theorem kw_1003 : (Jvm.Cond.methodLink "EldestSaysModel" (219 : Nat) ({ cls := "EldestSaysModel", name := "decides", desc := "(I)I" } : Jvm.MethodName)) ∈ lw_tbl := lw_mem5 43 rfl
theorem kw_1004 : (Jvm.Cond.privateMethod ({ cls := "EldestSaysModel", name := "decides", desc := "(I)I" } : Jvm.MethodName)) ∈ lw_tbl := lw_mem5 44 rfl
theorem kw_1005 : (Jvm.Cond.instanceMethod ({ cls := "EldestSaysModel", name := "decides", desc := "(I)I" } : Jvm.MethodName)) ∈ lw_tbl := lw_mem5 45 rfl
theorem kw_1006 : (Jvm.Cond.code ({ cls := "EldestSaysModel", name := "decides", desc := "(I)I" } : Jvm.MethodName) prog_14_method_49_code (5 : Nat) (Option.some Jvm.ClassFile.FieldType.int)) ∈ lw_tbl := lw_mem5 46 rfl
theorem kw_1007 : (Jvm.Cond.methodLink "EldestSaysLaw" (75 : Nat) ({ cls := "EldestSaysModel", name := "says", desc := "()I" } : Jvm.MethodName)) ∈ lw_tbl := lw_mem5 47 rfl
theorem kw_1008 : (Jvm.Cond.instanceMethod ({ cls := "EldestSaysModel", name := "says", desc := "()I" } : Jvm.MethodName)) ∈ lw_tbl := lw_mem5 48 rfl
theorem kw_1009 : (Jvm.Cond.selects "EldestSaysModel" ({ cls := "EldestSaysModel", name := "says", desc := "()I" } : Jvm.MethodName) ({ cls := "EldestSaysModel", name := "says", desc := "()I" } : Jvm.MethodName)) ∈ lw_tbl := lw_mem5 49 rfl
theorem kw_1010 : (Jvm.Cond.code ({ cls := "EldestSaysModel", name := "says", desc := "()I" } : Jvm.MethodName) prog_14_method_51_code (4 : Nat) (Option.some Jvm.ClassFile.FieldType.int)) ∈ lw_tbl := lw_mem5 50 rfl
theorem kw_1011 : (Jvm.Cond.methodLink "EldestSaysLaw" (79 : Nat) ({ cls := "EldestSaysModel", name := "got", desc := "(I)I" } : Jvm.MethodName)) ∈ lw_tbl := lw_mem5 51 rfl
theorem kw_1012 : (Jvm.Cond.instanceMethod ({ cls := "EldestSaysModel", name := "got", desc := "(I)I" } : Jvm.MethodName)) ∈ lw_tbl := lw_mem5 52 rfl
theorem kw_1013 : (Jvm.Cond.selects "EldestSaysModel" ({ cls := "EldestSaysModel", name := "got", desc := "(I)I" } : Jvm.MethodName) ({ cls := "EldestSaysModel", name := "got", desc := "(I)I" } : Jvm.MethodName)) ∈ lw_tbl := lw_mem5 53 rfl
theorem kw_1014 : (Jvm.Cond.code ({ cls := "EldestSaysModel", name := "got", desc := "(I)I" } : Jvm.MethodName) prog_14_method_52_code (2 : Nat) (Option.some Jvm.ClassFile.FieldType.int)) ∈ lw_tbl := lw_mem5 54 rfl
theorem kw_1015 : (Jvm.Cond.methodLink "EldestSaysLaw" (84 : Nat) ({ cls := "EldestSaysModel", name := "alike", desc := "(IIIZ)I" } : Jvm.MethodName)) ∈ lw_tbl := lw_mem5 55 rfl
theorem kw_1016 : (Jvm.Cond.instanceMethod ({ cls := "EldestSaysModel", name := "alike", desc := "(IIIZ)I" } : Jvm.MethodName)) ∈ lw_tbl := lw_mem5 56 rfl
theorem kw_1017 : (Jvm.Cond.selects "EldestSaysModel" ({ cls := "EldestSaysModel", name := "alike", desc := "(IIIZ)I" } : Jvm.MethodName) ({ cls := "EldestSaysModel", name := "alike", desc := "(IIIZ)I" } : Jvm.MethodName)) ∈ lw_tbl := lw_mem5 57 rfl
theorem kw_1018 : (Jvm.Cond.code ({ cls := "EldestSaysModel", name := "alike", desc := "(IIIZ)I" } : Jvm.MethodName) prog_14_method_57_code (8 : Nat) (Option.some Jvm.ClassFile.FieldType.int)) ∈ lw_tbl := lw_mem5 58 rfl
theorem kw_1019 : (Jvm.Cond.methodLink "EldestSaysModel" (232 : Nat) ({ cls := "EldestSaysModel", name := "likeSays", desc := "(III)Z" } : Jvm.MethodName)) ∈ lw_tbl := lw_mem5 59 rfl
theorem kw_1020 : (Jvm.Cond.privateMethod ({ cls := "EldestSaysModel", name := "likeSays", desc := "(III)Z" } : Jvm.MethodName)) ∈ lw_tbl := lw_mem5 60 rfl
theorem kw_1021 : (Jvm.Cond.instanceMethod ({ cls := "EldestSaysModel", name := "likeSays", desc := "(III)Z" } : Jvm.MethodName)) ∈ lw_tbl := lw_mem5 61 rfl
theorem kw_1022 : (Jvm.Cond.code ({ cls := "EldestSaysModel", name := "likeSays", desc := "(III)Z" } : Jvm.MethodName) prog_14_method_55_code (10 : Nat) (Option.some Jvm.ClassFile.FieldType.boolean)) ∈ lw_tbl := lw_mem5 62 rfl
theorem kw_1023 : (Jvm.Cond.methodLink "EldestSaysModel" (222 : Nat) ({ cls := "EldestSaysModel", name := "enough", desc := "(I)I" } : Jvm.MethodName)) ∈ lw_tbl := lw_mem5 63 rfl
theorem kw_1024 : (Jvm.Cond.privateMethod ({ cls := "EldestSaysModel", name := "enough", desc := "(I)I" } : Jvm.MethodName)) ∈ lw_tbl := lw_mem5 64 rfl
theorem kw_1025 : (Jvm.Cond.instanceMethod ({ cls := "EldestSaysModel", name := "enough", desc := "(I)I" } : Jvm.MethodName)) ∈ lw_tbl := lw_mem5 65 rfl
theorem kw_1026 : (Jvm.Cond.code ({ cls := "EldestSaysModel", name := "enough", desc := "(I)I" } : Jvm.MethodName) prog_14_method_53_code (3 : Nat) (Option.some Jvm.ClassFile.FieldType.int)) ∈ lw_tbl := lw_mem5 66 rfl
theorem kw_1027 : (Jvm.Cond.methodLink "EldestSaysModel" (225 : Nat) ({ cls := "EldestSaysModel", name := "withPrice", desc := "(III)I" } : Jvm.MethodName)) ∈ lw_tbl := lw_mem5 67 rfl
theorem kw_1028 : (Jvm.Cond.privateMethod ({ cls := "EldestSaysModel", name := "withPrice", desc := "(III)I" } : Jvm.MethodName)) ∈ lw_tbl := lw_mem5 68 rfl
theorem kw_1029 : (Jvm.Cond.instanceMethod ({ cls := "EldestSaysModel", name := "withPrice", desc := "(III)I" } : Jvm.MethodName)) ∈ lw_tbl := lw_mem5 69 rfl
theorem kw_1030 : (Jvm.Cond.code ({ cls := "EldestSaysModel", name := "withPrice", desc := "(III)I" } : Jvm.MethodName) prog_14_method_54_code (6 : Nat) (Option.some Jvm.ClassFile.FieldType.int)) ∈ lw_tbl := lw_mem5 70 rfl
theorem kw_1031 : (Jvm.Cond.methodLink "EldestSaysModel" (228 : Nat) ({ cls := "EldestSaysModel", name := "likeTakes", desc := "(IIII)V" } : Jvm.MethodName)) ∈ lw_tbl := lw_mem5 71 rfl
theorem kw_1032 : (Jvm.Cond.privateMethod ({ cls := "EldestSaysModel", name := "likeTakes", desc := "(IIII)V" } : Jvm.MethodName)) ∈ lw_tbl := lw_mem5 72 rfl
theorem kw_1033 : (Jvm.Cond.instanceMethod ({ cls := "EldestSaysModel", name := "likeTakes", desc := "(IIII)V" } : Jvm.MethodName)) ∈ lw_tbl := lw_mem5 73 rfl
theorem kw_1034 : (Jvm.Cond.code ({ cls := "EldestSaysModel", name := "likeTakes", desc := "(IIII)V" } : Jvm.MethodName) prog_14_method_56_code (9 : Nat) (Option.none : Option Jvm.ClassFile.FieldType)) ∈ lw_tbl := lw_mem5 74 rfl
theorem kw_1035 : (Jvm.Cond.methodLink "EldestSaysLaw" (88 : Nat) ({ cls := "EldestSaysModel", name := "fewest", desc := "()I" } : Jvm.MethodName)) ∈ lw_tbl := lw_mem5 75 rfl
theorem kw_1036 : (Jvm.Cond.instanceMethod ({ cls := "EldestSaysModel", name := "fewest", desc := "()I" } : Jvm.MethodName)) ∈ lw_tbl := lw_mem5 76 rfl
theorem kw_1037 : (Jvm.Cond.selects "EldestSaysModel" ({ cls := "EldestSaysModel", name := "fewest", desc := "()I" } : Jvm.MethodName) ({ cls := "EldestSaysModel", name := "fewest", desc := "()I" } : Jvm.MethodName)) ∈ lw_tbl := lw_mem5 77 rfl
theorem kw_1038 : (Jvm.Cond.code ({ cls := "EldestSaysModel", name := "fewest", desc := "()I" } : Jvm.MethodName) prog_14_method_58_code (4 : Nat) (Option.some Jvm.ClassFile.FieldType.int)) ∈ lw_tbl := lw_mem5 78 rfl
theorem kw_1039 : (Jvm.Cond.methodLink "EldestSaysLaw" (93 : Nat) ({ cls := "EldestSaysModel", name := "byLaw", desc := "(III)I" } : Jvm.MethodName)) ∈ lw_tbl := lw_mem5 79 rfl
theorem kw_1040 : (Jvm.Cond.instanceMethod ({ cls := "EldestSaysModel", name := "byLaw", desc := "(III)I" } : Jvm.MethodName)) ∈ lw_tbl := lw_mem5 80 rfl
theorem kw_1041 : (Jvm.Cond.selects "EldestSaysModel" ({ cls := "EldestSaysModel", name := "byLaw", desc := "(III)I" } : Jvm.MethodName) ({ cls := "EldestSaysModel", name := "byLaw", desc := "(III)I" } : Jvm.MethodName)) ∈ lw_tbl := lw_mem5 81 rfl
theorem kw_1042 : (Jvm.Cond.code ({ cls := "EldestSaysModel", name := "byLaw", desc := "(III)I" } : Jvm.MethodName) prog_14_method_59_code (6 : Nat) (Option.some Jvm.ClassFile.FieldType.int)) ∈ lw_tbl := lw_mem5 82 rfl
theorem kw_1043 : (Jvm.Cond.methodLink "EldestSaysLaw" (97 : Nat) ({ cls := "EldestSaysModel", name := "gains", desc := "()I" } : Jvm.MethodName)) ∈ lw_tbl := lw_mem5 83 rfl
theorem kw_1044 : (Jvm.Cond.instanceMethod ({ cls := "EldestSaysModel", name := "gains", desc := "()I" } : Jvm.MethodName)) ∈ lw_tbl := lw_mem5 84 rfl
theorem kw_1045 : (Jvm.Cond.selects "EldestSaysModel" ({ cls := "EldestSaysModel", name := "gains", desc := "()I" } : Jvm.MethodName) ({ cls := "EldestSaysModel", name := "gains", desc := "()I" } : Jvm.MethodName)) ∈ lw_tbl := lw_mem5 85 rfl
theorem kw_1046 : (Jvm.Cond.code ({ cls := "EldestSaysModel", name := "gains", desc := "()I" } : Jvm.MethodName) prog_14_method_60_code (3 : Nat) (Option.some Jvm.ClassFile.FieldType.int)) ∈ lw_tbl := lw_mem5 86 rfl
theorem kw_1047 : (Jvm.Cond.methodLink "EldestSaysModel" (235 : Nat) ({ cls := "EldestSaysModel", name := "moves", desc := "(II)V" } : Jvm.MethodName)) ∈ lw_tbl := lw_mem5 87 rfl
theorem kw_1048 : (Jvm.Cond.privateMethod ({ cls := "EldestSaysModel", name := "moves", desc := "(II)V" } : Jvm.MethodName)) ∈ lw_tbl := lw_mem5 88 rfl
theorem kw_1049 : (Jvm.Cond.instanceMethod ({ cls := "EldestSaysModel", name := "moves", desc := "(II)V" } : Jvm.MethodName)) ∈ lw_tbl := lw_mem5 89 rfl
theorem kw_1050 : (Jvm.Cond.code ({ cls := "EldestSaysModel", name := "moves", desc := "(II)V" } : Jvm.MethodName) prog_14_method_61_code (3 : Nat) (Option.none : Option Jvm.ClassFile.FieldType)) ∈ lw_tbl := lw_mem5 90 rfl
theorem kw_1051 : (Jvm.Cond.methodLink "EldestSaysLaw" (101 : Nat) ({ cls := "EldestSaysModel", name := "swap", desc := "(II)I" } : Jvm.MethodName)) ∈ lw_tbl := lw_mem5 91 rfl
theorem kw_1052 : (Jvm.Cond.instanceMethod ({ cls := "EldestSaysModel", name := "swap", desc := "(II)I" } : Jvm.MethodName)) ∈ lw_tbl := lw_mem5 92 rfl
theorem kw_1053 : (Jvm.Cond.selects "EldestSaysModel" ({ cls := "EldestSaysModel", name := "swap", desc := "(II)I" } : Jvm.MethodName) ({ cls := "EldestSaysModel", name := "swap", desc := "(II)I" } : Jvm.MethodName)) ∈ lw_tbl := lw_mem5 93 rfl
theorem kw_1054 : (Jvm.Cond.code ({ cls := "EldestSaysModel", name := "swap", desc := "(II)I" } : Jvm.MethodName) prog_14_method_63_code (3 : Nat) (Option.some Jvm.ClassFile.FieldType.int)) ∈ lw_tbl := lw_mem5 94 rfl
theorem kw_1055 : (Jvm.Cond.methodLink "EldestSaysModel" (239 : Nat) ({ cls := "EldestSaysModel", name := "swaps", desc := "(II)V" } : Jvm.MethodName)) ∈ lw_tbl := lw_mem5 95 rfl
theorem kw_1056 : (Jvm.Cond.privateMethod ({ cls := "EldestSaysModel", name := "swaps", desc := "(II)V" } : Jvm.MethodName)) ∈ lw_tbl := lw_mem5 96 rfl
theorem kw_1057 : (Jvm.Cond.instanceMethod ({ cls := "EldestSaysModel", name := "swaps", desc := "(II)V" } : Jvm.MethodName)) ∈ lw_tbl := lw_mem5 97 rfl
theorem kw_1058 : (Jvm.Cond.code ({ cls := "EldestSaysModel", name := "swaps", desc := "(II)V" } : Jvm.MethodName) prog_14_method_62_code (3 : Nat) (Option.none : Option Jvm.ClassFile.FieldType)) ∈ lw_tbl := lw_mem5 98 rfl
theorem kw_1059 : (Jvm.Cond.methodLink "EldestSaysLaw" (105 : Nat) ({ cls := "EldestSaysModel", name := "bestAge", desc := "(I)I" } : Jvm.MethodName)) ∈ lw_tbl := lw_mem5 99 rfl
theorem kw_1060 : (Jvm.Cond.instanceMethod ({ cls := "EldestSaysModel", name := "bestAge", desc := "(I)I" } : Jvm.MethodName)) ∈ lw_tbl := lw_mem5 100 rfl
theorem kw_1061 : (Jvm.Cond.selects "EldestSaysModel" ({ cls := "EldestSaysModel", name := "bestAge", desc := "(I)I" } : Jvm.MethodName) ({ cls := "EldestSaysModel", name := "bestAge", desc := "(I)I" } : Jvm.MethodName)) ∈ lw_tbl := lw_mem5 101 rfl
theorem kw_1062 : (Jvm.Cond.code ({ cls := "EldestSaysModel", name := "bestAge", desc := "(I)I" } : Jvm.MethodName) prog_14_method_64_code (6 : Nat) (Option.some Jvm.ClassFile.FieldType.int)) ∈ lw_tbl := lw_mem5 102 rfl
theorem kw_1063 : (Jvm.Cond.methodLink "EldestSaysLaw" (109 : Nat) ({ cls := "EldestSaysModel", name := "league", desc := "(I)I" } : Jvm.MethodName)) ∈ lw_tbl := lw_mem5 103 rfl
theorem kw_1064 : (Jvm.Cond.instanceMethod ({ cls := "EldestSaysModel", name := "league", desc := "(I)I" } : Jvm.MethodName)) ∈ lw_tbl := lw_mem5 104 rfl
theorem kw_1065 : (Jvm.Cond.selects "EldestSaysModel" ({ cls := "EldestSaysModel", name := "league", desc := "(I)I" } : Jvm.MethodName) ({ cls := "EldestSaysModel", name := "league", desc := "(I)I" } : Jvm.MethodName)) ∈ lw_tbl := lw_mem5 105 rfl
theorem kw_1066 : (Jvm.Cond.code ({ cls := "EldestSaysModel", name := "league", desc := "(I)I" } : Jvm.MethodName) prog_14_method_67_code (6 : Nat) (Option.some Jvm.ClassFile.FieldType.int)) ∈ lw_tbl := lw_mem5 106 rfl
theorem kw_1067 : (Jvm.Cond.methodLink "EldestSaysModel" (242 : Nat) ({ cls := "EldestSaysModel", name := "bits", desc := "(I)I" } : Jvm.MethodName)) ∈ lw_tbl := lw_mem5 107 rfl
theorem kw_1068 : (Jvm.Cond.static ({ cls := "EldestSaysModel", name := "bits", desc := "(I)I" } : Jvm.MethodName)) ∈ lw_tbl := lw_mem5 108 rfl
theorem kw_1069 : (Jvm.Cond.code ({ cls := "EldestSaysModel", name := "bits", desc := "(I)I" } : Jvm.MethodName) prog_14_method_66_code (3 : Nat) (Option.some Jvm.ClassFile.FieldType.int)) ∈ lw_tbl := lw_mem5 109 rfl
theorem kw_1070 : (Jvm.Cond.methodLink "EldestSaysModel" (245 : Nat) ({ cls := "EldestSaysModel", name := "isFree", desc := "(I)Z" } : Jvm.MethodName)) ∈ lw_tbl := lw_mem5 110 rfl
theorem kw_1071 : (Jvm.Cond.privateMethod ({ cls := "EldestSaysModel", name := "isFree", desc := "(I)Z" } : Jvm.MethodName)) ∈ lw_tbl := lw_mem5 111 rfl
theorem kw_1072 : (Jvm.Cond.instanceMethod ({ cls := "EldestSaysModel", name := "isFree", desc := "(I)Z" } : Jvm.MethodName)) ∈ lw_tbl := lw_mem5 112 rfl
theorem kw_1073 : (Jvm.Cond.code ({ cls := "EldestSaysModel", name := "isFree", desc := "(I)Z" } : Jvm.MethodName) prog_14_method_65_code (3 : Nat) (Option.some Jvm.ClassFile.FieldType.boolean)) ∈ lw_tbl := lw_mem5 113 rfl
theorem kw_1074 : (Jvm.Cond.methodLink "EldestSaysLaw" (114 : Nat) ({ cls := "EldestSaysModel", name := "shaken", desc := "(I)J" } : Jvm.MethodName)) ∈ lw_tbl := lw_mem5 114 rfl
theorem kw_1075 : (Jvm.Cond.instanceMethod ({ cls := "EldestSaysModel", name := "shaken", desc := "(I)J" } : Jvm.MethodName)) ∈ lw_tbl := lw_mem5 115 rfl
theorem kw_1076 : (Jvm.Cond.selects "EldestSaysModel" ({ cls := "EldestSaysModel", name := "shaken", desc := "(I)J" } : Jvm.MethodName) ({ cls := "EldestSaysModel", name := "shaken", desc := "(I)J" } : Jvm.MethodName)) ∈ lw_tbl := lw_mem5 116 rfl
theorem kw_1077 : (Jvm.Cond.code ({ cls := "EldestSaysModel", name := "shaken", desc := "(I)J" } : Jvm.MethodName) prog_14_method_69_code (11 : Nat) (Option.some Jvm.ClassFile.FieldType.long)) ∈ lw_tbl := lw_mem5 117 rfl
theorem kw_1078 : (Jvm.Cond.methodLink "EldestSaysModel" (248 : Nat) ({ cls := "EldestSaysModel", name := "lowest", desc := "(I)J" } : Jvm.MethodName)) ∈ lw_tbl := lw_mem5 118 rfl
theorem kw_1079 : (Jvm.Cond.privateMethod ({ cls := "EldestSaysModel", name := "lowest", desc := "(I)J" } : Jvm.MethodName)) ∈ lw_tbl := lw_mem5 119 rfl
theorem kw_1080 : (Jvm.Cond.instanceMethod ({ cls := "EldestSaysModel", name := "lowest", desc := "(I)J" } : Jvm.MethodName)) ∈ lw_tbl := lw_mem5 120 rfl
theorem kw_1081 : (Jvm.Cond.code ({ cls := "EldestSaysModel", name := "lowest", desc := "(I)J" } : Jvm.MethodName) prog_14_method_4_code (2 : Nat) (Option.some Jvm.ClassFile.FieldType.long)) ∈ lw_tbl := lw_mem5 121 rfl
theorem kw_1082 : (Jvm.Cond.constantLong "EldestSaysModel" (80 : Nat) (4000000000000000000 : Int64)) ∈ lw_tbl := lw_mem5 122 rfl
theorem kw_1083 : (Jvm.Cond.constantLong "EldestSaysModel" (252 : Nat) (100 : Int64)) ∈ lw_tbl := lw_mem5 123 rfl
theorem kw_1084 : (Jvm.Cond.methodLink "EldestSaysModel" (254 : Nat) ({ cls := "EldestSaysModel", name := "divisor", desc := "(JJ)J" } : Jvm.MethodName)) ∈ lw_tbl := lw_mem5 124 rfl
theorem kw_1085 : (Jvm.Cond.static ({ cls := "EldestSaysModel", name := "divisor", desc := "(JJ)J" } : Jvm.MethodName)) ∈ lw_tbl := lw_mem5 125 rfl
theorem kw_1086 : (Jvm.Cond.code ({ cls := "EldestSaysModel", name := "divisor", desc := "(JJ)J" } : Jvm.MethodName) prog_14_method_68_code (10 : Nat) (Option.some Jvm.ClassFile.FieldType.long)) ∈ lw_tbl := lw_mem5 126 rfl
theorem kw_1087 : (Jvm.Cond.methodLink "EldestSaysLaw" (118 : Nat) ({ cls := "EldestSaysModel", name := "seeds", desc := "(III)I" } : Jvm.MethodName)) ∈ lw_tbl := lw_mem5 127 rfl
theorem kw_1088 : (Jvm.Cond.instanceMethod ({ cls := "EldestSaysModel", name := "seeds", desc := "(III)I" } : Jvm.MethodName)) ∈ lw_tbl := lw_mem5 128 rfl
theorem kw_1089 : (Jvm.Cond.selects "EldestSaysModel" ({ cls := "EldestSaysModel", name := "seeds", desc := "(III)I" } : Jvm.MethodName) ({ cls := "EldestSaysModel", name := "seeds", desc := "(III)I" } : Jvm.MethodName)) ∈ lw_tbl := lw_mem5 129 rfl
theorem kw_1090 : (Jvm.Cond.code ({ cls := "EldestSaysModel", name := "seeds", desc := "(III)I" } : Jvm.MethodName) prog_14_method_70_code (11 : Nat) (Option.some Jvm.ClassFile.FieldType.int)) ∈ lw_tbl := lw_mem5 130 rfl
theorem kw_1091 : (Jvm.Cond.constant "EldestSaysModel" (258 : Nat) (1103515245 : Int32)) ∈ lw_tbl := lw_mem5 131 rfl
theorem kw_1092 : (Jvm.Cond.constant "EldestSaysModel" (259 : Nat) (2147483647 : Int32)) ∈ lw_tbl := lw_mem5 132 rfl
theorem kw_1093 : (Jvm.Cond.constant "EldestSaysModel" (260 : Nat) (65536 : Int32)) ∈ lw_tbl := lw_mem5 133 rfl
theorem kw_1094 : (Jvm.Cond.methodLink "EldestSaysLaw" (134 : Nat) ({ cls := "EldestSaysModel", name := "count", desc := "(I)I" } : Jvm.MethodName)) ∈ lw_tbl := lw_mem5 134 rfl
theorem kw_1095 : (Jvm.Cond.instanceMethod ({ cls := "EldestSaysModel", name := "count", desc := "(I)I" } : Jvm.MethodName)) ∈ lw_tbl := lw_mem5 135 rfl
theorem kw_1096 : (Jvm.Cond.selects "EldestSaysModel" ({ cls := "EldestSaysModel", name := "count", desc := "(I)I" } : Jvm.MethodName) ({ cls := "EldestSaysModel", name := "count", desc := "(I)I" } : Jvm.MethodName)) ∈ lw_tbl := lw_mem5 136 rfl
theorem kw_1097 : (Jvm.Cond.code ({ cls := "EldestSaysModel", name := "count", desc := "(I)I" } : Jvm.MethodName) prog_14_method_71_code (2 : Nat) (Option.some Jvm.ClassFile.FieldType.int)) ∈ lw_tbl := lw_mem5 137 rfl
theorem kw_1098 : (Jvm.Cond.sameMethod "EldestSays$Fool" "EldestSays$Fool" "ask" "(III)I") ∈ lw_tbl := lw_mem5 138 rfl
theorem kw_1099 : (Jvm.Cond.sameMethod "EldestSays$Envious" "EldestSays$Envious" "ask" "(III)I") ∈ lw_tbl := lw_mem5 139 rfl
theorem kw_1100 : (Jvm.Cond.castable "EldestSays$Company" "EldestSays$Clever") ∈ lw_tbl := lw_mem5 140 rfl
theorem kw_1101 : (Jvm.Cond.castable "EldestSays$Envious" "EldestSays$Clever") ∈ lw_tbl := lw_mem5 141 rfl
theorem kw_1102 : (Jvm.Cond.castable "EldestSays$Fair" "EldestSays$Clever") ∈ lw_tbl := lw_mem5 142 rfl
theorem kw_1103 : (Jvm.Cond.castable "EldestSays$Fool" "EldestSays$Clever") ∈ lw_tbl := lw_mem5 143 rfl
theorem kw_1104 : (Jvm.Cond.castable "EldestSays$Spiteful" "EldestSays$Clever") ∈ lw_tbl := lw_mem5 144 rfl
theorem kw_1105 : (Jvm.Cond.castable "EldestSays$Meek" "EldestSays$Clever") ∈ lw_tbl := lw_mem5 145 rfl
theorem ks_0 : Cond.selects "EldestSays" ⟨"EldestSays", "refuse", "(I)I"⟩ ⟨"EldestSays", "refuse", "(I)I"⟩ ∈ lw_tbl := List.mem_append_left _ (List.mem_of_getElem? (i := 0) rfl)
theorem ks_1 : Cond.selects "EldestSays$Letters" ⟨"EldestSays$Letters", "brokenAt", "()I"⟩ ⟨"EldestSays$Letters", "brokenAt", "()I"⟩ ∈ lw_tbl := List.mem_append_left _ (List.mem_of_getElem? (i := 1) rfl)
theorem ks_2 : Cond.selects "EldestSays$Letters" ⟨"EldestSays$Letters", "wrongAt", "(LEldestSays$Evening;)I"⟩ ⟨"EldestSays$Letters", "wrongAt", "(LEldestSays$Evening;)I"⟩ ∈ lw_tbl := List.mem_append_left _ (List.mem_of_getElem? (i := 2) rfl)
theorem ks_3 : Cond.selects "EldestSays$Letters" ⟨"EldestSays$Letters", "isRight", "(IIZ)Z"⟩ ⟨"EldestSays$Letters", "isRight", "(IIZ)Z"⟩ ∈ lw_tbl := List.mem_append_left _ (List.mem_of_getElem? (i := 3) rfl)
theorem ks_4 : Cond.selects "EldestSays$Letters" ⟨"EldestSays$Letters", "digit", "(I)I"⟩ ⟨"EldestSays$Letters", "digit", "(I)I"⟩ ∈ lw_tbl := List.mem_append_left _ (List.mem_of_getElem? (i := 4) rfl)
theorem ks_5 : Cond.selects "EldestSays$Letters" ⟨"EldestSays$Letters", "tellOne", "(LEldestSays$Evening;II)V"⟩ ⟨"EldestSays$Letters", "tellOne", "(LEldestSays$Evening;II)V"⟩ ∈ lw_tbl := List.mem_append_left _ (List.mem_of_getElem? (i := 5) rfl)
theorem ks_6 : Cond.selects "EldestSays" ⟨"EldestSays", "solved", "()LEldestSays$Plans;"⟩ ⟨"EldestSays", "solved", "()LEldestSays$Plans;"⟩ ∈ lw_tbl := List.mem_append_left _ (List.mem_of_getElem? (i := 6) rfl)
theorem ks_7 : Cond.selects "EldestSays$Plans" ⟨"EldestSays$Plans", "askYounger", "(I)V"⟩ ⟨"EldestSays$Plans", "askYounger", "(I)V"⟩ ∈ lw_tbl := List.mem_append_left _ (List.mem_of_getElem? (i := 7) rfl)
theorem ks_8 : Cond.selects "EldestSays$Plans" ⟨"EldestSays$Plans", "kindOf", "(I)LEldestSays$Clever;"⟩ ⟨"EldestSays$Plans", "kindOf", "(I)LEldestSays$Clever;"⟩ ∈ lw_tbl := List.mem_append_left _ (List.mem_of_getElem? (i := 8) rfl)
theorem ks_9 : Cond.selects "EldestSays$Plans" ⟨"EldestSays$Plans", "keepAll", "(I)V"⟩ ⟨"EldestSays$Plans", "keepAll", "(I)V"⟩ ∈ lw_tbl := List.mem_append_left _ (List.mem_of_getElem? (i := 9) rfl)
theorem ks_10 : Cond.selects "EldestSays$Plans" ⟨"EldestSays$Plans", "give", "(III)V"⟩ ⟨"EldestSays$Plans", "give", "(III)V"⟩ ∈ lw_tbl := List.mem_append_left _ (List.mem_of_getElem? (i := 10) rfl)
theorem ks_11 : Cond.selects "EldestSays$Plans" ⟨"EldestSays$Plans", "forgetUnits", "()V"⟩ ⟨"EldestSays$Plans", "forgetUnits", "()V"⟩ ∈ lw_tbl := List.mem_append_left _ (List.mem_of_getElem? (i := 11) rfl)
theorem ks_12 : Cond.selects "EldestSays$Plans" ⟨"EldestSays$Plans", "manOfUnit", "(II)I"⟩ ⟨"EldestSays$Plans", "manOfUnit", "(II)I"⟩ ∈ lw_tbl := List.mem_append_left _ (List.mem_of_getElem? (i := 12) rfl)
theorem ks_13 : Cond.selects "EldestSays$Plans" ⟨"EldestSays$Plans", "addUnit", "(II)V"⟩ ⟨"EldestSays$Plans", "addUnit", "(II)V"⟩ ∈ lw_tbl := List.mem_append_left _ (List.mem_of_getElem? (i := 13) rfl)
theorem ks_14 : Cond.selects "EldestSays$Plans" ⟨"EldestSays$Plans", "cheapestSet", "(I)I"⟩ ⟨"EldestSays$Plans", "cheapestSet", "(I)I"⟩ ∈ lw_tbl := List.mem_append_left _ (List.mem_of_getElem? (i := 14) rfl)
theorem ks_15 : Cond.selects "EldestSays$Plans" ⟨"EldestSays$Plans", "listSets", "(I)I"⟩ ⟨"EldestSays$Plans", "listSets", "(I)I"⟩ ∈ lw_tbl := List.mem_append_left _ (List.mem_of_getElem? (i := 15) rfl)
theorem ks_16 : Cond.selects "EldestSays$Plans" ⟨"EldestSays$Plans", "vote", "(I)V"⟩ ⟨"EldestSays$Plans", "vote", "(I)V"⟩ ∈ lw_tbl := List.mem_append_left _ (List.mem_of_getElem? (i := 16) rfl)
theorem ks_17 : Cond.selects "EldestSays$Plans" ⟨"EldestSays$Plans", "end", "(I)V"⟩ ⟨"EldestSays$Plans", "end", "(I)V"⟩ ∈ lw_tbl := List.mem_append_left _ (List.mem_of_getElem? (i := 17) rfl)
theorem ks_18 : Cond.selects "EldestSays" ⟨"EldestSays", "isRowRight", "()Z"⟩ ⟨"EldestSays", "isRowRight", "()Z"⟩ ∈ lw_tbl := List.mem_append_left _ (List.mem_of_getElem? (i := 18) rfl)
theorem ks_19 : Cond.selects "EldestSays" ⟨"EldestSays", "firstOddVote", "(I)I"⟩ ⟨"EldestSays", "firstOddVote", "(I)I"⟩ ∈ lw_tbl := List.mem_append_left _ (List.mem_of_getElem? (i := 19) rfl)
theorem ks_20 : Cond.selects "EldestSays$Evening" ⟨"EldestSays$Evening", "part", "([II)V"⟩ ⟨"EldestSays$Evening", "part", "([II)V"⟩ ∈ lw_tbl := List.mem_append_left _ (List.mem_of_getElem? (i := 20) rfl)
theorem ks_21 : Cond.selects "EldestSays$Evening" ⟨"EldestSays$Evening", "putAshore", "()V"⟩ ⟨"EldestSays$Evening", "putAshore", "()V"⟩ ∈ lw_tbl := List.mem_append_left _ (List.mem_of_getElem? (i := 21) rfl)
theorem ks_22 : Cond.selects "EldestSays$Crowd" ⟨"EldestSays$Crowd", "askYounger", "(II)I"⟩ ⟨"EldestSays$Crowd", "askYounger", "(II)I"⟩ ∈ lw_tbl := List.mem_append_left _ (List.mem_of_getElem? (i := 22) rfl)
theorem ks_23 : Cond.selects "EldestSays$Crowd" ⟨"EldestSays$Crowd", "buyYounger", "(III)I"⟩ ⟨"EldestSays$Crowd", "buyYounger", "(III)I"⟩ ∈ lw_tbl := List.mem_append_left _ (List.mem_of_getElem? (i := 23) rfl)
theorem ks_24 : Cond.selects "EldestSays$Crowd" ⟨"EldestSays$Crowd", "nextLevel", "(II)I"⟩ ⟨"EldestSays$Crowd", "nextLevel", "(II)I"⟩ ∈ lw_tbl := List.mem_append_left _ (List.mem_of_getElem? (i := 24) rfl)
theorem ks_25 : Cond.selects "EldestSays$Crowd" ⟨"EldestSays$Crowd", "buyAtLevel", "(IIII)I"⟩ ⟨"EldestSays$Crowd", "buyAtLevel", "(IIII)I"⟩ ∈ lw_tbl := List.mem_append_left _ (List.mem_of_getElem? (i := 25) rfl)
theorem ks_26 : Cond.selects "EldestSays" ⟨"EldestSays", "orderAsIs", "()V"⟩ ⟨"EldestSays", "orderAsIs", "()V"⟩ ∈ lw_tbl := List.mem_append_left _ (List.mem_of_getElem? (i := 26) rfl)
theorem ks_27 : Cond.selects "EldestSays" ⟨"EldestSays", "seat", "()V"⟩ ⟨"EldestSays", "seat", "()V"⟩ ∈ lw_tbl := List.mem_append_left _ (List.mem_of_getElem? (i := 27) rfl)
theorem ks_28 : Cond.selects "EldestSays" ⟨"EldestSays", "orderWith", "(II)V"⟩ ⟨"EldestSays", "orderWith", "(II)V"⟩ ∈ lw_tbl := List.mem_append_left _ (List.mem_of_getElem? (i := 28) rfl)
theorem ks_29 : Cond.selects "EldestSays" ⟨"EldestSays", "shakeVotes", "(I)J"⟩ ⟨"EldestSays", "shakeVotes", "(I)J"⟩ ∈ lw_tbl := List.mem_append_left _ (List.mem_of_getElem? (i := 29) rfl)
theorem ks_30 : Cond.selects "EldestSays" ⟨"EldestSays", "addVoter", "(II)V"⟩ ⟨"EldestSays", "addVoter", "(II)V"⟩ ∈ lw_tbl := List.mem_append_left _ (List.mem_of_getElem? (i := 30) rfl)
theorem ks_31 : Cond.selects "EldestSays" ⟨"EldestSays", "chanceCarried", "()J"⟩ ⟨"EldestSays", "chanceCarried", "()J"⟩ ∈ lw_tbl := List.mem_append_left _ (List.mem_of_getElem? (i := 31) rfl)
theorem ks_32 : Cond.selects "EldestSays" ⟨"EldestSays", "drawOrder", "(I)I"⟩ ⟨"EldestSays", "drawOrder", "(I)I"⟩ ∈ lw_tbl := List.mem_append_left _ (List.mem_of_getElem? (i := 32) rfl)
theorem ks_33 : Cond.selects "EldestSays" ⟨"EldestSays", "placeOf", "(I)I"⟩ ⟨"EldestSays", "placeOf", "(I)I"⟩ ∈ lw_tbl := List.mem_append_left _ (List.mem_of_getElem? (i := 33) rfl)
theorem ks_34 : Cond.selects "EldestSays" ⟨"EldestSays", "countRefusals", "(I)I"⟩ ⟨"EldestSays", "countRefusals", "(I)I"⟩ ∈ lw_tbl := List.mem_append_left _ (List.mem_of_getElem? (i := 34) rfl)
theorem ks_35 : Cond.selects "EldestSaysModel" ⟨"EldestSaysModel", "no", "(I)I"⟩ ⟨"EldestSaysModel", "no", "(I)I"⟩ ∈ lw_tbl := List.mem_append_left _ (List.mem_of_getElem? (i := 35) rfl)
theorem ks_36 : Cond.selects "EldestSaysModel" ⟨"EldestSaysModel", "statement", "()Z"⟩ ⟨"EldestSaysModel", "statement", "()Z"⟩ ∈ lw_tbl := List.mem_append_left _ (List.mem_of_getElem? (i := 36) rfl)
theorem ks_37 : Cond.selects "EldestSaysModel" ⟨"EldestSaysModel", "next", "()I"⟩ ⟨"EldestSaysModel", "next", "()I"⟩ ∈ lw_tbl := List.mem_append_left _ (List.mem_of_getElem? (i := 37) rfl)
theorem ks_38 : Cond.selects "EldestSaysModel" ⟨"EldestSaysModel", "reads", "(II)Z"⟩ ⟨"EldestSaysModel", "reads", "(II)Z"⟩ ∈ lw_tbl := List.mem_append_left _ (List.mem_of_getElem? (i := 38) rfl)
theorem ks_39 : Cond.selects "EldestSaysModel" ⟨"EldestSaysModel", "passesAll", "(IZ)V"⟩ ⟨"EldestSaysModel", "passesAll", "(IZ)V"⟩ ∈ lw_tbl := List.mem_append_left _ (List.mem_of_getElem? (i := 39) rfl)
theorem ks_40 : Cond.selects "EldestSaysModel" ⟨"EldestSaysModel", "passes", "([I)V"⟩ ⟨"EldestSaysModel", "passes", "([I)V"⟩ ∈ lw_tbl := List.mem_append_left _ (List.mem_of_getElem? (i := 40) rfl)
theorem ks_41 : Cond.selects "EldestSaysModel" ⟨"EldestSaysModel", "passOne", "(I)I"⟩ ⟨"EldestSaysModel", "passOne", "(I)I"⟩ ∈ lw_tbl := List.mem_append_left _ (List.mem_of_getElem? (i := 41) rfl)
theorem ks_42 : Cond.selects "EldestSaysModel" ⟨"EldestSaysModel", "comes", "(I)Z"⟩ ⟨"EldestSaysModel", "comes", "(I)Z"⟩ ∈ lw_tbl := List.mem_append_left _ (List.mem_of_getElem? (i := 42) rfl)
theorem ks_43 : Cond.selects "EldestSaysModel" ⟨"EldestSaysModel", "isMan", "(I)Z"⟩ ⟨"EldestSaysModel", "isMan", "(I)Z"⟩ ∈ lw_tbl := List.mem_append_left _ (List.mem_of_getElem? (i := 43) rfl)
theorem ks_44 : Cond.selects "EldestSaysModel" ⟨"EldestSaysModel", "areInOrder", "(II)Z"⟩ ⟨"EldestSaysModel", "areInOrder", "(II)Z"⟩ ∈ lw_tbl := List.mem_append_left _ (List.mem_of_getElem? (i := 44) rfl)
theorem ks_45 : Cond.selects "EldestSaysModel" ⟨"EldestSaysModel", "solvesAll", "()V"⟩ ⟨"EldestSaysModel", "solvesAll", "()V"⟩ ∈ lw_tbl := List.mem_append_left _ (List.mem_of_getElem? (i := 45) rfl)
theorem ks_46 : Cond.selects "EldestSaysModel" ⟨"EldestSaysModel", "solves", "(I)V"⟩ ⟨"EldestSaysModel", "solves", "(I)V"⟩ ∈ lw_tbl := List.mem_append_left _ (List.mem_of_getElem? (i := 46) rfl)
theorem ks_47 : Cond.selects "EldestSaysModel" ⟨"EldestSaysModel", "priceOf", "(II)I"⟩ ⟨"EldestSaysModel", "priceOf", "(II)I"⟩ ∈ lw_tbl := List.mem_append_left _ (List.mem_of_getElem? (i := 47) rfl)
theorem ks_48 : Cond.selects "EldestSaysModel" ⟨"EldestSaysModel", "findOffer", "(I)V"⟩ ⟨"EldestSaysModel", "findOffer", "(I)V"⟩ ∈ lw_tbl := List.mem_append_left _ (List.mem_of_getElem? (i := 48) rfl)
theorem ks_49 : Cond.selects "EldestSaysModel" ⟨"EldestSaysModel", "buysBy", "(I)I"⟩ ⟨"EldestSaysModel", "buysBy", "(I)I"⟩ ∈ lw_tbl := List.mem_append_left _ (List.mem_of_getElem? (i := 49) rfl)
theorem ks_50 : Cond.selects "EldestSaysModel" ⟨"EldestSaysModel", "leftFrom", "(I)I"⟩ ⟨"EldestSaysModel", "leftFrom", "(I)I"⟩ ∈ lw_tbl := List.mem_append_left _ (List.mem_of_getElem? (i := 50) rfl)
theorem ks_51 : Cond.selects "EldestSaysModel" ⟨"EldestSaysModel", "unbought", "(I)I"⟩ ⟨"EldestSaysModel", "unbought", "(I)I"⟩ ∈ lw_tbl := List.mem_append_left _ (List.mem_of_getElem? (i := 51) rfl)
theorem ks_52 : Cond.selects "EldestSaysModel" ⟨"EldestSaysModel", "weightOf", "(I)I"⟩ ⟨"EldestSaysModel", "weightOf", "(I)I"⟩ ∈ lw_tbl := List.mem_append_left _ (List.mem_of_getElem? (i := 52) rfl)
theorem ks_53 : Cond.selects "EldestSaysModel" ⟨"EldestSaysModel", "costOf", "(II)I"⟩ ⟨"EldestSaysModel", "costOf", "(II)I"⟩ ∈ lw_tbl := List.mem_append_left _ (List.mem_of_getElem? (i := 53) rfl)
theorem ks_54 : Cond.selects "EldestSaysModel" ⟨"EldestSaysModel", "isAhead", "(II)Z"⟩ ⟨"EldestSaysModel", "isAhead", "(II)Z"⟩ ∈ lw_tbl := List.mem_append_left _ (List.mem_of_getElem? (i := 54) rfl)
theorem ks_55 : Cond.selects "EldestSaysModel" ⟨"EldestSaysModel", "offersEach", "(III)V"⟩ ⟨"EldestSaysModel", "offersEach", "(III)V"⟩ ∈ lw_tbl := List.mem_append_left _ (List.mem_of_getElem? (i := 55) rfl)
theorem ks_56 : Cond.selects "EldestSaysModel" ⟨"EldestSaysModel", "offersFools", "(IZ)V"⟩ ⟨"EldestSaysModel", "offersFools", "(IZ)V"⟩ ∈ lw_tbl := List.mem_append_left _ (List.mem_of_getElem? (i := 56) rfl)
theorem ks_57 : Cond.selects "EldestSaysModel" ⟨"EldestSaysModel", "lower", "(I)I"⟩ ⟨"EldestSaysModel", "lower", "(I)I"⟩ ∈ lw_tbl := List.mem_append_left _ (List.mem_of_getElem? (i := 57) rfl)
theorem ks_58 : Cond.selects "EldestSaysModel" ⟨"EldestSaysModel", "isOver", "()Z"⟩ ⟨"EldestSaysModel", "isOver", "()Z"⟩ ∈ lw_tbl := List.mem_append_left _ (List.mem_of_getElem? (i := 58) rfl)
theorem ks_59 : Cond.selects "EldestSaysModel" ⟨"EldestSaysModel", "isOffer", "()Z"⟩ ⟨"EldestSaysModel", "isOffer", "()Z"⟩ ∈ lw_tbl := List.mem_append_left _ (List.mem_of_getElem? (i := 59) rfl)
theorem ks_60 : Cond.selects "EldestSaysModel" ⟨"EldestSaysModel", "decides", "(I)I"⟩ ⟨"EldestSaysModel", "decides", "(I)I"⟩ ∈ lw_tbl := List.mem_append_left _ (List.mem_of_getElem? (i := 60) rfl)
theorem ks_61 : Cond.selects "EldestSaysModel" ⟨"EldestSaysModel", "likeSays", "(III)Z"⟩ ⟨"EldestSaysModel", "likeSays", "(III)Z"⟩ ∈ lw_tbl := List.mem_append_left _ (List.mem_of_getElem? (i := 61) rfl)
theorem ks_62 : Cond.selects "EldestSaysModel" ⟨"EldestSaysModel", "enough", "(I)I"⟩ ⟨"EldestSaysModel", "enough", "(I)I"⟩ ∈ lw_tbl := List.mem_append_left _ (List.mem_of_getElem? (i := 62) rfl)
theorem ks_63 : Cond.selects "EldestSaysModel" ⟨"EldestSaysModel", "withPrice", "(III)I"⟩ ⟨"EldestSaysModel", "withPrice", "(III)I"⟩ ∈ lw_tbl := List.mem_append_left _ (List.mem_of_getElem? (i := 63) rfl)
theorem ks_64 : Cond.selects "EldestSaysModel" ⟨"EldestSaysModel", "likeTakes", "(IIII)V"⟩ ⟨"EldestSaysModel", "likeTakes", "(IIII)V"⟩ ∈ lw_tbl := List.mem_append_left _ (List.mem_of_getElem? (i := 64) rfl)
theorem ks_65 : Cond.selects "EldestSaysModel" ⟨"EldestSaysModel", "moves", "(II)V"⟩ ⟨"EldestSaysModel", "moves", "(II)V"⟩ ∈ lw_tbl := List.mem_append_left _ (List.mem_of_getElem? (i := 65) rfl)
theorem ks_66 : Cond.selects "EldestSaysModel" ⟨"EldestSaysModel", "swaps", "(II)V"⟩ ⟨"EldestSaysModel", "swaps", "(II)V"⟩ ∈ lw_tbl := List.mem_append_left _ (List.mem_of_getElem? (i := 66) rfl)
theorem ks_67 : Cond.selects "EldestSaysModel" ⟨"EldestSaysModel", "isFree", "(I)Z"⟩ ⟨"EldestSaysModel", "isFree", "(I)Z"⟩ ∈ lw_tbl := List.mem_append_left _ (List.mem_of_getElem? (i := 67) rfl)
theorem ks_68 : Cond.selects "EldestSaysModel" ⟨"EldestSaysModel", "lowest", "(I)J"⟩ ⟨"EldestSaysModel", "lowest", "(I)J"⟩ ∈ lw_tbl := List.mem_append_left _ (List.mem_of_getElem? (i := 68) rfl)
