theorem bl_cL_law_0 : ((bys cL_law).drop 0).take 32 = [187, 0, 7, 89, 183, 0, 9, 76, 187, 0, 10, 89, 183, 0, 12, 77, 3, 62, 29, 42, 190, 8, 100, 163, 3, 122, 42, 29, 46, 16, 31, 126] := by decide +kernel
theorem bl_cL_law_32 : ((bys cL_law).drop 32).take 32 = [170, 0, 0, 0, 0, 0, 3, 107, 0, 0, 0, 0, 0, 0, 0, 28, 0, 0, 0, 132, 0, 0, 0, 155, 0, 0, 0, 168, 0, 0, 0, 201] := by decide +kernel
theorem bl_cL_law_64 : ((bys cL_law).drop 64).take 32 = [0, 0, 0, 234, 0, 0, 1, 11, 0, 0, 1, 44, 0, 0, 1, 67, 0, 0, 1, 90, 0, 0, 1, 113, 0, 0, 1, 146, 0, 0, 1, 169] := by decide +kernel
theorem bl_cL_law_96 : ((bys cL_law).drop 96).take 32 = [0, 0, 1, 192, 0, 0, 1, 215, 0, 0, 1, 238, 0, 0, 1, 251, 0, 0, 2, 18, 0, 0, 2, 87, 0, 0, 2, 100, 0, 0, 2, 143] := by decide +kernel
theorem bl_cL_law_128 : ((bys cL_law).drop 128).take 32 = [0, 0, 2, 156, 0, 0, 2, 189, 0, 0, 2, 212, 0, 0, 2, 235, 0, 0, 3, 2, 0, 0, 3, 45, 0, 0, 3, 58, 0, 0, 3, 71] := by decide +kernel
theorem bl_cL_law_160 : ((bys cL_law).drop 160).take 32 = [0, 0, 3, 84, 43, 42, 29, 4, 96, 46, 182, 0, 13, 87, 44, 42, 29, 4, 96, 46, 182, 0, 17, 87, 167, 2, 211, 43, 182, 0, 18, 87] := by decide +kernel
theorem bl_cL_law_192 : ((bys cL_law).drop 192).take 32 = [44, 182, 0, 22, 87, 167, 2, 198, 43, 42, 29, 4, 96, 46, 42, 29, 5, 96, 46, 182, 0, 23, 87, 44, 42, 29, 4, 96, 46, 42, 29, 5] := by decide +kernel
theorem bl_cL_law_224 : ((bys cL_law).drop 224).take 32 = [96, 46, 182, 0, 27, 87, 167, 2, 165, 43, 42, 29, 4, 96, 46, 42, 29, 5, 96, 46, 182, 0, 28, 87, 44, 42, 29, 4, 96, 46, 42, 29] := by decide +kernel
theorem bl_cL_law_256 : ((bys cL_law).drop 256).take 32 = [5, 96, 46, 182, 0, 31, 87, 167, 2, 132, 43, 42, 29, 4, 96, 46, 42, 29, 5, 96, 46, 182, 0, 32, 87, 44, 42, 29, 4, 96, 46, 42] := by decide +kernel
theorem bl_cL_law_288 : ((bys cL_law).drop 288).take 32 = [29, 5, 96, 46, 182, 0, 35, 87, 167, 2, 99, 43, 42, 29, 4, 96, 46, 42, 29, 5, 96, 46, 182, 0, 36, 87, 44, 42, 29, 4, 96, 46] := by decide +kernel
theorem bl_cL_law_320 : ((bys cL_law).drop 320).take 32 = [42, 29, 5, 96, 46, 182, 0, 39, 87, 167, 2, 66, 43, 42, 29, 4, 96, 46, 182, 0, 40, 87, 44, 42, 29, 4, 96, 46, 182, 0, 43, 87] := by decide +kernel
theorem bl_cL_law_352 : ((bys cL_law).drop 352).take 32 = [167, 2, 43, 43, 42, 29, 4, 96, 46, 182, 0, 44, 87, 44, 42, 29, 4, 96, 46, 182, 0, 47, 87, 167, 2, 20, 43, 42, 29, 4, 96, 46] := by decide +kernel
theorem bl_cL_law_384 : ((bys cL_law).drop 384).take 32 = [182, 0, 48, 87, 44, 42, 29, 4, 96, 46, 182, 0, 51, 87, 167, 1, 253, 43, 42, 29, 4, 96, 46, 42, 29, 5, 96, 46, 182, 0, 52, 87] := by decide +kernel
theorem bl_cL_law_416 : ((bys cL_law).drop 416).take 32 = [44, 42, 29, 4, 96, 46, 42, 29, 5, 96, 46, 182, 0, 55, 87, 167, 1, 220, 43, 42, 29, 4, 96, 46, 182, 0, 56, 87, 44, 42, 29, 4] := by decide +kernel
theorem bl_cL_law_448 : ((bys cL_law).drop 448).take 32 = [96, 46, 182, 0, 59, 87, 167, 1, 197, 43, 42, 29, 4, 96, 46, 182, 0, 60, 87, 44, 42, 29, 4, 96, 46, 182, 0, 63, 87, 167, 1, 174] := by decide +kernel
theorem bl_cL_law_480 : ((bys cL_law).drop 480).take 32 = [43, 42, 29, 4, 96, 46, 182, 0, 64, 87, 44, 42, 29, 4, 96, 46, 182, 0, 67, 87, 167, 1, 151, 43, 42, 29, 4, 96, 46, 182, 0, 68] := by decide +kernel
theorem bl_cL_law_512 : ((bys cL_law).drop 512).take 32 = [87, 44, 42, 29, 4, 96, 46, 182, 0, 71, 87, 167, 1, 128, 43, 182, 0, 72, 87, 44, 182, 0, 75, 87, 167, 1, 115, 43, 42, 29, 4, 96] := by decide +kernel
theorem bl_cL_law_544 : ((bys cL_law).drop 544).take 32 = [46, 182, 0, 76, 87, 44, 42, 29, 4, 96, 46, 182, 0, 79, 87, 167, 1, 92, 43, 42, 29, 4, 96, 46, 42, 29, 5, 96, 46, 42, 29, 6] := by decide +kernel
theorem bl_cL_law_576 : ((bys cL_law).drop 576).take 32 = [96, 46, 42, 29, 7, 96, 46, 153, 0, 7, 4, 167, 0, 4, 3, 182, 0, 80, 87, 44, 42, 29, 4, 96, 46, 42, 29, 5, 96, 46, 42, 29] := by decide +kernel
theorem bl_cL_law_608 : ((bys cL_law).drop 608).take 32 = [6, 96, 46, 42, 29, 7, 96, 46, 153, 0, 7, 4, 167, 0, 4, 3, 182, 0, 84, 87, 167, 1, 23, 43, 182, 0, 85, 44, 182, 0, 88, 159] := by decide +kernel
theorem bl_cL_law_640 : ((bys cL_law).drop 640).take 32 = [1, 12, 3, 172, 43, 42, 29, 4, 96, 46, 42, 29, 5, 96, 46, 42, 29, 6, 96, 46, 182, 0, 89, 87, 44, 42, 29, 4, 96, 46, 42, 29] := by decide +kernel
theorem bl_cL_law_672 : ((bys cL_law).drop 672).take 32 = [5, 96, 46, 42, 29, 6, 96, 46, 182, 0, 93, 87, 167, 0, 223, 43, 182, 0, 94, 87, 44, 182, 0, 97, 87, 167, 0, 210, 43, 42, 29, 4] := by decide +kernel
theorem bl_cL_law_704 : ((bys cL_law).drop 704).take 32 = [96, 46, 42, 29, 5, 96, 46, 182, 0, 98, 87, 44, 42, 29, 4, 96, 46, 42, 29, 5, 96, 46, 182, 0, 101, 87, 167, 0, 177, 43, 42, 29] := by decide +kernel
theorem bl_cL_law_736 : ((bys cL_law).drop 736).take 32 = [4, 96, 46, 182, 0, 102, 87, 44, 42, 29, 4, 96, 46, 182, 0, 105, 87, 167, 0, 154, 43, 42, 29, 4, 96, 46, 182, 0, 106, 87, 44, 42] := by decide +kernel
theorem bl_cL_law_768 : ((bys cL_law).drop 768).take 32 = [29, 4, 96, 46, 182, 0, 109, 87, 167, 0, 131, 43, 42, 29, 4, 96, 46, 182, 0, 110, 88, 44, 42, 29, 4, 96, 46, 182, 0, 114, 88, 167] := by decide +kernel
theorem bl_cL_law_800 : ((bys cL_law).drop 800).take 32 = [0, 108, 43, 42, 29, 4, 96, 46, 42, 29, 5, 96, 46, 42, 29, 6, 96, 46, 182, 0, 115, 87, 44, 42, 29, 4, 96, 46, 42, 29, 5, 96] := by decide +kernel
theorem bl_cL_law_832 : ((bys cL_law).drop 832).take 32 = [46, 42, 29, 6, 96, 46, 182, 0, 118, 87, 167, 0, 65, 43, 182, 0, 119, 87, 44, 182, 0, 122, 87, 167, 0, 52, 43, 182, 0, 123, 87, 44] := by decide +kernel
theorem bl_cL_law_864 : ((bys cL_law).drop 864).take 32 = [182, 0, 126, 87, 167, 0, 39, 43, 182, 0, 127, 87, 44, 182, 0, 130, 87, 167, 0, 26, 43, 42, 29, 4, 96, 46, 182, 0, 131, 87, 44, 42] := by decide +kernel
theorem bl_cL_law_896 : ((bys cL_law).drop 896).take 32 = [29, 4, 96, 46, 182, 0, 134, 87, 167, 0, 3, 132, 3, 5, 167, 252, 132, 4, 172] := by decide +kernel
theorem dL_law_0 : decode cL_law 0 = .ok (.new 7, 3) := op_187 (bl_at (d := 0) bl_cL_law_0 0 rfl) (bl_at (d := 0) bl_cL_law_0 1 rfl) (bl_at (d := 0) bl_cL_law_0 2 rfl)
theorem dL_law_3 : decode cL_law 3 = .ok (.dup, 1) := op_89 (bl_at (d := 0) bl_cL_law_0 3 rfl)
theorem dL_law_4 : decode cL_law 4 = .ok (.invokespecial 9, 3) := op_183 (bl_at (d := 0) bl_cL_law_0 4 rfl) (bl_at (d := 0) bl_cL_law_0 5 rfl) (bl_at (d := 0) bl_cL_law_0 6 rfl)
theorem dL_law_7 : decode cL_law 7 = .ok (.astore_n 1, 1) := op_76 (bl_at (d := 0) bl_cL_law_0 7 rfl)
theorem dL_law_8 : decode cL_law 8 = .ok (.new 10, 3) := op_187 (bl_at (d := 0) bl_cL_law_0 8 rfl) (bl_at (d := 0) bl_cL_law_0 9 rfl) (bl_at (d := 0) bl_cL_law_0 10 rfl)
theorem dL_law_11 : decode cL_law 11 = .ok (.dup, 1) := op_89 (bl_at (d := 0) bl_cL_law_0 11 rfl)
theorem dL_law_12 : decode cL_law 12 = .ok (.invokespecial 12, 3) := op_183 (bl_at (d := 0) bl_cL_law_0 12 rfl) (bl_at (d := 0) bl_cL_law_0 13 rfl) (bl_at (d := 0) bl_cL_law_0 14 rfl)
theorem dL_law_15 : decode cL_law 15 = .ok (.astore_n 2, 1) := op_77 (bl_at (d := 0) bl_cL_law_0 15 rfl)
theorem dL_law_16 : decode cL_law 16 = .ok (.iconst 0, 1) := op_3 (bl_at (d := 0) bl_cL_law_0 16 rfl)
theorem dL_law_17 : decode cL_law 17 = .ok (.istore_n 3, 1) := op_62 (bl_at (d := 0) bl_cL_law_0 17 rfl)
theorem dL_law_18 : decode cL_law 18 = .ok (.iload_n 3, 1) := op_29 (bl_at (d := 0) bl_cL_law_0 18 rfl)
theorem dL_law_19 : decode cL_law 19 = .ok (.aload_n 0, 1) := op_42 (bl_at (d := 0) bl_cL_law_0 19 rfl)
theorem dL_law_20 : decode cL_law 20 = .ok (.arraylength, 1) := op_190 (bl_at (d := 0) bl_cL_law_0 20 rfl)
theorem dL_law_21 : decode cL_law 21 = .ok (.iconst 5, 1) := op_8 (bl_at (d := 0) bl_cL_law_0 21 rfl)
theorem dL_law_22 : decode cL_law 22 = .ok (.isub, 1) := op_100 (bl_at (d := 0) bl_cL_law_0 22 rfl)
theorem dL_law_23 : decode cL_law 23 = .ok (.if_icmp .gt 890, 3) := op_163 (bl_at (d := 0) bl_cL_law_0 23 rfl) (bl_at (d := 0) bl_cL_law_0 24 rfl) (bl_at (d := 0) bl_cL_law_0 25 rfl)
theorem dL_law_26 : decode cL_law 26 = .ok (.aload_n 0, 1) := op_42 (bl_at (d := 0) bl_cL_law_0 26 rfl)
theorem dL_law_27 : decode cL_law 27 = .ok (.iload_n 3, 1) := op_29 (bl_at (d := 0) bl_cL_law_0 27 rfl)
theorem dL_law_28 : decode cL_law 28 = .ok (.iaload, 1) := op_46 (bl_at (d := 0) bl_cL_law_0 28 rfl)
theorem dL_law_29 : decode cL_law 29 = .ok (.bipush 31, 2) := op_16 (bl_at (d := 0) bl_cL_law_0 29 rfl) (bl_at (d := 0) bl_cL_law_0 30 rfl)
theorem dL_law_31 : decode cL_law 31 = .ok (.iand, 1) := op_126 (bl_at (d := 0) bl_cL_law_0 31 rfl)
theorem dL_law_32 : decode cL_law 32 = .ok (.tableswitch 875 0 28 #[132, 155, 168, 201, 234, 267, 300, 323, 346, 369, 402, 425, 448, 471, 494, 507, 530, 599, 612, 655, 668, 701, 724, 747, 770, 813, 826, 839, 852], 132) := by decide +kernel
theorem dL_law_164 : decode cL_law 164 = .ok (.aload_n 1, 1) := op_43 (bl_at (d := 160) bl_cL_law_160 4 rfl)
theorem dL_law_165 : decode cL_law 165 = .ok (.aload_n 0, 1) := op_42 (bl_at (d := 160) bl_cL_law_160 5 rfl)
theorem dL_law_166 : decode cL_law 166 = .ok (.iload_n 3, 1) := op_29 (bl_at (d := 160) bl_cL_law_160 6 rfl)
theorem dL_law_167 : decode cL_law 167 = .ok (.iconst 1, 1) := op_4 (bl_at (d := 160) bl_cL_law_160 7 rfl)
theorem dL_law_168 : decode cL_law 168 = .ok (.iadd, 1) := op_96 (bl_at (d := 160) bl_cL_law_160 8 rfl)
theorem dL_law_169 : decode cL_law 169 = .ok (.iaload, 1) := op_46 (bl_at (d := 160) bl_cL_law_160 9 rfl)
theorem dL_law_170 : decode cL_law 170 = .ok (.invokevirtual 13, 3) := op_182 (bl_at (d := 160) bl_cL_law_160 10 rfl) (bl_at (d := 160) bl_cL_law_160 11 rfl) (bl_at (d := 160) bl_cL_law_160 12 rfl)
theorem dL_law_173 : decode cL_law 173 = .ok (.pop, 1) := op_87 (bl_at (d := 160) bl_cL_law_160 13 rfl)
theorem dL_law_174 : decode cL_law 174 = .ok (.aload_n 2, 1) := op_44 (bl_at (d := 160) bl_cL_law_160 14 rfl)
theorem dL_law_175 : decode cL_law 175 = .ok (.aload_n 0, 1) := op_42 (bl_at (d := 160) bl_cL_law_160 15 rfl)
theorem dL_law_176 : decode cL_law 176 = .ok (.iload_n 3, 1) := op_29 (bl_at (d := 160) bl_cL_law_160 16 rfl)
theorem dL_law_177 : decode cL_law 177 = .ok (.iconst 1, 1) := op_4 (bl_at (d := 160) bl_cL_law_160 17 rfl)
theorem dL_law_178 : decode cL_law 178 = .ok (.iadd, 1) := op_96 (bl_at (d := 160) bl_cL_law_160 18 rfl)
theorem dL_law_179 : decode cL_law 179 = .ok (.iaload, 1) := op_46 (bl_at (d := 160) bl_cL_law_160 19 rfl)
theorem dL_law_180 : decode cL_law 180 = .ok (.invokevirtual 17, 3) := op_182 (bl_at (d := 160) bl_cL_law_160 20 rfl) (bl_at (d := 160) bl_cL_law_160 21 rfl) (bl_at (d := 160) bl_cL_law_160 22 rfl)
theorem dL_law_183 : decode cL_law 183 = .ok (.pop, 1) := op_87 (bl_at (d := 160) bl_cL_law_160 23 rfl)
theorem dL_law_184 : decode cL_law 184 = .ok (.goto 723, 3) := op_167 (bl_at (d := 160) bl_cL_law_160 24 rfl) (bl_at (d := 160) bl_cL_law_160 25 rfl) (bl_at (d := 160) bl_cL_law_160 26 rfl)
theorem dL_law_187 : decode cL_law 187 = .ok (.aload_n 1, 1) := op_43 (bl_at (d := 160) bl_cL_law_160 27 rfl)
theorem dL_law_188 : decode cL_law 188 = .ok (.invokevirtual 18, 3) := op_182 (bl_at (d := 160) bl_cL_law_160 28 rfl) (bl_at (d := 160) bl_cL_law_160 29 rfl) (bl_at (d := 160) bl_cL_law_160 30 rfl)
theorem dL_law_191 : decode cL_law 191 = .ok (.pop, 1) := op_87 (bl_at (d := 160) bl_cL_law_160 31 rfl)
theorem dL_law_192 : decode cL_law 192 = .ok (.aload_n 2, 1) := op_44 (bl_at (d := 192) bl_cL_law_192 0 rfl)
theorem dL_law_193 : decode cL_law 193 = .ok (.invokevirtual 22, 3) := op_182 (bl_at (d := 192) bl_cL_law_192 1 rfl) (bl_at (d := 192) bl_cL_law_192 2 rfl) (bl_at (d := 192) bl_cL_law_192 3 rfl)
theorem dL_law_196 : decode cL_law 196 = .ok (.pop, 1) := op_87 (bl_at (d := 192) bl_cL_law_192 4 rfl)
theorem dL_law_197 : decode cL_law 197 = .ok (.goto 710, 3) := op_167 (bl_at (d := 192) bl_cL_law_192 5 rfl) (bl_at (d := 192) bl_cL_law_192 6 rfl) (bl_at (d := 192) bl_cL_law_192 7 rfl)
theorem dL_law_200 : decode cL_law 200 = .ok (.aload_n 1, 1) := op_43 (bl_at (d := 192) bl_cL_law_192 8 rfl)
theorem dL_law_201 : decode cL_law 201 = .ok (.aload_n 0, 1) := op_42 (bl_at (d := 192) bl_cL_law_192 9 rfl)
theorem dL_law_202 : decode cL_law 202 = .ok (.iload_n 3, 1) := op_29 (bl_at (d := 192) bl_cL_law_192 10 rfl)
theorem dL_law_203 : decode cL_law 203 = .ok (.iconst 1, 1) := op_4 (bl_at (d := 192) bl_cL_law_192 11 rfl)
theorem dL_law_204 : decode cL_law 204 = .ok (.iadd, 1) := op_96 (bl_at (d := 192) bl_cL_law_192 12 rfl)
theorem dL_law_205 : decode cL_law 205 = .ok (.iaload, 1) := op_46 (bl_at (d := 192) bl_cL_law_192 13 rfl)
theorem dL_law_206 : decode cL_law 206 = .ok (.aload_n 0, 1) := op_42 (bl_at (d := 192) bl_cL_law_192 14 rfl)
theorem dL_law_207 : decode cL_law 207 = .ok (.iload_n 3, 1) := op_29 (bl_at (d := 192) bl_cL_law_192 15 rfl)
theorem dL_law_208 : decode cL_law 208 = .ok (.iconst 2, 1) := op_5 (bl_at (d := 192) bl_cL_law_192 16 rfl)
theorem dL_law_209 : decode cL_law 209 = .ok (.iadd, 1) := op_96 (bl_at (d := 192) bl_cL_law_192 17 rfl)
theorem dL_law_210 : decode cL_law 210 = .ok (.iaload, 1) := op_46 (bl_at (d := 192) bl_cL_law_192 18 rfl)
theorem dL_law_211 : decode cL_law 211 = .ok (.invokevirtual 23, 3) := op_182 (bl_at (d := 192) bl_cL_law_192 19 rfl) (bl_at (d := 192) bl_cL_law_192 20 rfl) (bl_at (d := 192) bl_cL_law_192 21 rfl)
theorem dL_law_214 : decode cL_law 214 = .ok (.pop, 1) := op_87 (bl_at (d := 192) bl_cL_law_192 22 rfl)
theorem dL_law_215 : decode cL_law 215 = .ok (.aload_n 2, 1) := op_44 (bl_at (d := 192) bl_cL_law_192 23 rfl)
theorem dL_law_216 : decode cL_law 216 = .ok (.aload_n 0, 1) := op_42 (bl_at (d := 192) bl_cL_law_192 24 rfl)
theorem dL_law_217 : decode cL_law 217 = .ok (.iload_n 3, 1) := op_29 (bl_at (d := 192) bl_cL_law_192 25 rfl)
theorem dL_law_218 : decode cL_law 218 = .ok (.iconst 1, 1) := op_4 (bl_at (d := 192) bl_cL_law_192 26 rfl)
theorem dL_law_219 : decode cL_law 219 = .ok (.iadd, 1) := op_96 (bl_at (d := 192) bl_cL_law_192 27 rfl)
theorem dL_law_220 : decode cL_law 220 = .ok (.iaload, 1) := op_46 (bl_at (d := 192) bl_cL_law_192 28 rfl)
theorem dL_law_221 : decode cL_law 221 = .ok (.aload_n 0, 1) := op_42 (bl_at (d := 192) bl_cL_law_192 29 rfl)
theorem dL_law_222 : decode cL_law 222 = .ok (.iload_n 3, 1) := op_29 (bl_at (d := 192) bl_cL_law_192 30 rfl)
theorem dL_law_223 : decode cL_law 223 = .ok (.iconst 2, 1) := op_5 (bl_at (d := 192) bl_cL_law_192 31 rfl)
theorem dL_law_224 : decode cL_law 224 = .ok (.iadd, 1) := op_96 (bl_at (d := 224) bl_cL_law_224 0 rfl)
theorem dL_law_225 : decode cL_law 225 = .ok (.iaload, 1) := op_46 (bl_at (d := 224) bl_cL_law_224 1 rfl)
theorem dL_law_226 : decode cL_law 226 = .ok (.invokevirtual 27, 3) := op_182 (bl_at (d := 224) bl_cL_law_224 2 rfl) (bl_at (d := 224) bl_cL_law_224 3 rfl) (bl_at (d := 224) bl_cL_law_224 4 rfl)
theorem dL_law_229 : decode cL_law 229 = .ok (.pop, 1) := op_87 (bl_at (d := 224) bl_cL_law_224 5 rfl)
theorem dL_law_230 : decode cL_law 230 = .ok (.goto 677, 3) := op_167 (bl_at (d := 224) bl_cL_law_224 6 rfl) (bl_at (d := 224) bl_cL_law_224 7 rfl) (bl_at (d := 224) bl_cL_law_224 8 rfl)
theorem dL_law_233 : decode cL_law 233 = .ok (.aload_n 1, 1) := op_43 (bl_at (d := 224) bl_cL_law_224 9 rfl)
theorem dL_law_234 : decode cL_law 234 = .ok (.aload_n 0, 1) := op_42 (bl_at (d := 224) bl_cL_law_224 10 rfl)
theorem dL_law_235 : decode cL_law 235 = .ok (.iload_n 3, 1) := op_29 (bl_at (d := 224) bl_cL_law_224 11 rfl)
theorem dL_law_236 : decode cL_law 236 = .ok (.iconst 1, 1) := op_4 (bl_at (d := 224) bl_cL_law_224 12 rfl)
theorem dL_law_237 : decode cL_law 237 = .ok (.iadd, 1) := op_96 (bl_at (d := 224) bl_cL_law_224 13 rfl)
theorem dL_law_238 : decode cL_law 238 = .ok (.iaload, 1) := op_46 (bl_at (d := 224) bl_cL_law_224 14 rfl)
theorem dL_law_239 : decode cL_law 239 = .ok (.aload_n 0, 1) := op_42 (bl_at (d := 224) bl_cL_law_224 15 rfl)
theorem dL_law_240 : decode cL_law 240 = .ok (.iload_n 3, 1) := op_29 (bl_at (d := 224) bl_cL_law_224 16 rfl)
theorem dL_law_241 : decode cL_law 241 = .ok (.iconst 2, 1) := op_5 (bl_at (d := 224) bl_cL_law_224 17 rfl)
theorem dL_law_242 : decode cL_law 242 = .ok (.iadd, 1) := op_96 (bl_at (d := 224) bl_cL_law_224 18 rfl)
theorem dL_law_243 : decode cL_law 243 = .ok (.iaload, 1) := op_46 (bl_at (d := 224) bl_cL_law_224 19 rfl)
theorem dL_law_244 : decode cL_law 244 = .ok (.invokevirtual 28, 3) := op_182 (bl_at (d := 224) bl_cL_law_224 20 rfl) (bl_at (d := 224) bl_cL_law_224 21 rfl) (bl_at (d := 224) bl_cL_law_224 22 rfl)
theorem dL_law_247 : decode cL_law 247 = .ok (.pop, 1) := op_87 (bl_at (d := 224) bl_cL_law_224 23 rfl)
theorem dL_law_248 : decode cL_law 248 = .ok (.aload_n 2, 1) := op_44 (bl_at (d := 224) bl_cL_law_224 24 rfl)
theorem dL_law_249 : decode cL_law 249 = .ok (.aload_n 0, 1) := op_42 (bl_at (d := 224) bl_cL_law_224 25 rfl)
theorem dL_law_250 : decode cL_law 250 = .ok (.iload_n 3, 1) := op_29 (bl_at (d := 224) bl_cL_law_224 26 rfl)
theorem dL_law_251 : decode cL_law 251 = .ok (.iconst 1, 1) := op_4 (bl_at (d := 224) bl_cL_law_224 27 rfl)
theorem dL_law_252 : decode cL_law 252 = .ok (.iadd, 1) := op_96 (bl_at (d := 224) bl_cL_law_224 28 rfl)
theorem dL_law_253 : decode cL_law 253 = .ok (.iaload, 1) := op_46 (bl_at (d := 224) bl_cL_law_224 29 rfl)
theorem dL_law_254 : decode cL_law 254 = .ok (.aload_n 0, 1) := op_42 (bl_at (d := 224) bl_cL_law_224 30 rfl)
theorem dL_law_255 : decode cL_law 255 = .ok (.iload_n 3, 1) := op_29 (bl_at (d := 224) bl_cL_law_224 31 rfl)
theorem dL_law_256 : decode cL_law 256 = .ok (.iconst 2, 1) := op_5 (bl_at (d := 256) bl_cL_law_256 0 rfl)
theorem dL_law_257 : decode cL_law 257 = .ok (.iadd, 1) := op_96 (bl_at (d := 256) bl_cL_law_256 1 rfl)
theorem dL_law_258 : decode cL_law 258 = .ok (.iaload, 1) := op_46 (bl_at (d := 256) bl_cL_law_256 2 rfl)
theorem dL_law_259 : decode cL_law 259 = .ok (.invokevirtual 31, 3) := op_182 (bl_at (d := 256) bl_cL_law_256 3 rfl) (bl_at (d := 256) bl_cL_law_256 4 rfl) (bl_at (d := 256) bl_cL_law_256 5 rfl)
theorem dL_law_262 : decode cL_law 262 = .ok (.pop, 1) := op_87 (bl_at (d := 256) bl_cL_law_256 6 rfl)
theorem dL_law_263 : decode cL_law 263 = .ok (.goto 644, 3) := op_167 (bl_at (d := 256) bl_cL_law_256 7 rfl) (bl_at (d := 256) bl_cL_law_256 8 rfl) (bl_at (d := 256) bl_cL_law_256 9 rfl)
theorem dL_law_266 : decode cL_law 266 = .ok (.aload_n 1, 1) := op_43 (bl_at (d := 256) bl_cL_law_256 10 rfl)
theorem dL_law_267 : decode cL_law 267 = .ok (.aload_n 0, 1) := op_42 (bl_at (d := 256) bl_cL_law_256 11 rfl)
theorem dL_law_268 : decode cL_law 268 = .ok (.iload_n 3, 1) := op_29 (bl_at (d := 256) bl_cL_law_256 12 rfl)
theorem dL_law_269 : decode cL_law 269 = .ok (.iconst 1, 1) := op_4 (bl_at (d := 256) bl_cL_law_256 13 rfl)
theorem dL_law_270 : decode cL_law 270 = .ok (.iadd, 1) := op_96 (bl_at (d := 256) bl_cL_law_256 14 rfl)
theorem dL_law_271 : decode cL_law 271 = .ok (.iaload, 1) := op_46 (bl_at (d := 256) bl_cL_law_256 15 rfl)
theorem dL_law_272 : decode cL_law 272 = .ok (.aload_n 0, 1) := op_42 (bl_at (d := 256) bl_cL_law_256 16 rfl)
theorem dL_law_273 : decode cL_law 273 = .ok (.iload_n 3, 1) := op_29 (bl_at (d := 256) bl_cL_law_256 17 rfl)
theorem dL_law_274 : decode cL_law 274 = .ok (.iconst 2, 1) := op_5 (bl_at (d := 256) bl_cL_law_256 18 rfl)
theorem dL_law_275 : decode cL_law 275 = .ok (.iadd, 1) := op_96 (bl_at (d := 256) bl_cL_law_256 19 rfl)
theorem dL_law_276 : decode cL_law 276 = .ok (.iaload, 1) := op_46 (bl_at (d := 256) bl_cL_law_256 20 rfl)
theorem dL_law_277 : decode cL_law 277 = .ok (.invokevirtual 32, 3) := op_182 (bl_at (d := 256) bl_cL_law_256 21 rfl) (bl_at (d := 256) bl_cL_law_256 22 rfl) (bl_at (d := 256) bl_cL_law_256 23 rfl)
theorem dL_law_280 : decode cL_law 280 = .ok (.pop, 1) := op_87 (bl_at (d := 256) bl_cL_law_256 24 rfl)
theorem dL_law_281 : decode cL_law 281 = .ok (.aload_n 2, 1) := op_44 (bl_at (d := 256) bl_cL_law_256 25 rfl)
theorem dL_law_282 : decode cL_law 282 = .ok (.aload_n 0, 1) := op_42 (bl_at (d := 256) bl_cL_law_256 26 rfl)
theorem dL_law_283 : decode cL_law 283 = .ok (.iload_n 3, 1) := op_29 (bl_at (d := 256) bl_cL_law_256 27 rfl)
theorem dL_law_284 : decode cL_law 284 = .ok (.iconst 1, 1) := op_4 (bl_at (d := 256) bl_cL_law_256 28 rfl)
theorem dL_law_285 : decode cL_law 285 = .ok (.iadd, 1) := op_96 (bl_at (d := 256) bl_cL_law_256 29 rfl)
theorem dL_law_286 : decode cL_law 286 = .ok (.iaload, 1) := op_46 (bl_at (d := 256) bl_cL_law_256 30 rfl)
theorem dL_law_287 : decode cL_law 287 = .ok (.aload_n 0, 1) := op_42 (bl_at (d := 256) bl_cL_law_256 31 rfl)
theorem dL_law_288 : decode cL_law 288 = .ok (.iload_n 3, 1) := op_29 (bl_at (d := 288) bl_cL_law_288 0 rfl)
