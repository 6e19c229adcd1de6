/-- a byte of the code -/
def bq (c : ByteArray) (p : Nat) : Option Nat := if h : p < c.size then some c[p].toNat else none
theorem u1_bq {c : ByteArray} {p b : Nat} (h : bq c p = some b) : (Reader.u1 : Decoder Nat) c p = .ok (b, p + 1) := by
  unfold bq at h
  by_cases hp : p < c.size
  · rw [dif_pos hp] at h
    have h2 := Option.some.inj h
    subst h2
    show ((if h : p < c.size then (do set (p + 1); Pure.pure c[p].toNat) else throw (HasTruncated.truncated p)) : Decoder Nat) c p = _
    rw [dif_pos hp]
    rfl
  · rw [dif_neg hp] at h
    exact absurd h (by simp)
theorem rd_bind {α β : Type} (x : Decoder α) (f : α → Decoder β) {c : ByteArray} {p q : Nat} {a : α} (h : x c p = .ok (a, q)) : (x >>= f) c p = f a c q := by
  show (do let (a, s) ← x c p; f a c s : Except DecodeError (β × Nat)) = _
  rw [h]
  rfl
theorem rd_map {α β : Type} (x : Decoder α) (f : α → β) {c : ByteArray} {p q : Nat} {a : α} (h : x c p = .ok (a, q)) : (f <$> x : Decoder β) c p = .ok (f a, q) := by
  show (do let (a, s) ← x c p; Pure.pure (f a, s) : Except DecodeError (β × Nat)) = _
  rw [h]
  rfl
theorem u2_bq {c : ByteArray} {p x y : Nat} (h : bq c p = some x) (h1 : bq c (p + 1) = some y) : (Reader.u2 : Decoder Nat) c p = .ok (x * 256 + y, p + 2) := (rd_bind Reader.u1 _ (u1_bq h)).trans (rd_bind Reader.u1 _ (u1_bq h1))
theorem s1_bq {c : ByteArray} {p x : Nat} (h : bq c p = some x) : (Reader.s1 : Decoder Int) c p = .ok (Reader.signed 8 x, p + 1) := rd_map Reader.u1 _ (u1_bq h)
theorem s2_bq {c : ByteArray} {p x y : Nat} (h : bq c p = some x) (h1 : bq c (p + 1) = some y) : (Reader.s2 : Decoder Int) c p = .ok (Reader.signed 16 (x * 256 + y), p + 2) := rd_map Reader.u2 _ (u2_bq h h1)
theorem dec_of {c : ByteArray} {pc n : Nat} {i : Instr} (e : (Decoder.instr pc) c pc = .ok (i, pc + n)) : decode c pc = .ok (i, n) := by
  show (do let (i, nx) ← (Decoder.instr pc) c pc; Pure.pure (i, nx - pc) : Except DecodeError (Instr × Nat)) = _
  rw [e]
  show Except.ok (i, pc + n - pc) = _
  rw [Nat.add_sub_cancel_left]
def bys (c : ByteArray) : List Nat := c.data.toList.map (fun x => x.toNat)
theorem bl_at {c : ByteArray} {d : Nat} {L : List Nat} (hL : ((bys c).drop d).take 32 = L) (k : Nat) {b : Nat} (h : L[k]? = some b) : bq c (d + k) = some b := by
  rw [← hL, List.getElem?_take] at h
  have h2 : ((bys c).drop d)[k]? = some b := by
    split at h
    · exact h
    · exact absurd h (by simp)
  rw [List.getElem?_drop] at h2
  unfold bys at h2
  rw [List.getElem?_map] at h2
  unfold bq
  have h3 : d + k < c.data.toList.length := by
    rcases Nat.lt_or_ge (d + k) c.data.toList.length with q | q
    · exact q
    · rw [List.getElem?_eq_none q] at h2; exact absurd h2 (by simp)
  rw [List.getElem?_eq_getElem h3] at h2
  have h4 : d + k < c.size := h3
  rw [dif_pos h4]
  exact h2
set_option maxRecDepth 20000 in
theorem op_2 {c : ByteArray} {pc : Nat} (h : bq c pc = some 2) : decode c pc = .ok (.iconst (-1), 1) :=
  dec_of (i := .iconst (-1)) (n := 1) (rd_bind Reader.u1 _ (u1_bq h))
set_option maxRecDepth 20000 in
theorem op_3 {c : ByteArray} {pc : Nat} (h : bq c pc = some 3) : decode c pc = .ok (.iconst 0, 1) :=
  dec_of (i := .iconst 0) (n := 1) (rd_bind Reader.u1 _ (u1_bq h))
set_option maxRecDepth 20000 in
theorem op_4 {c : ByteArray} {pc : Nat} (h : bq c pc = some 4) : decode c pc = .ok (.iconst 1, 1) :=
  dec_of (i := .iconst 1) (n := 1) (rd_bind Reader.u1 _ (u1_bq h))
set_option maxRecDepth 20000 in
theorem op_5 {c : ByteArray} {pc : Nat} (h : bq c pc = some 5) : decode c pc = .ok (.iconst 2, 1) :=
  dec_of (i := .iconst 2) (n := 1) (rd_bind Reader.u1 _ (u1_bq h))
set_option maxRecDepth 20000 in
theorem op_6 {c : ByteArray} {pc : Nat} (h : bq c pc = some 6) : decode c pc = .ok (.iconst 3, 1) :=
  dec_of (i := .iconst 3) (n := 1) (rd_bind Reader.u1 _ (u1_bq h))
set_option maxRecDepth 20000 in
theorem op_7 {c : ByteArray} {pc : Nat} (h : bq c pc = some 7) : decode c pc = .ok (.iconst 4, 1) :=
  dec_of (i := .iconst 4) (n := 1) (rd_bind Reader.u1 _ (u1_bq h))
set_option maxRecDepth 20000 in
theorem op_8 {c : ByteArray} {pc : Nat} (h : bq c pc = some 8) : decode c pc = .ok (.iconst 5, 1) :=
  dec_of (i := .iconst 5) (n := 1) (rd_bind Reader.u1 _ (u1_bq h))
set_option maxRecDepth 20000 in
theorem op_9 {c : ByteArray} {pc : Nat} (h : bq c pc = some 9) : decode c pc = .ok (.lconst 0, 1) :=
  dec_of (i := .lconst 0) (n := 1) (rd_bind Reader.u1 _ (u1_bq h))
set_option maxRecDepth 20000 in
theorem op_10 {c : ByteArray} {pc : Nat} (h : bq c pc = some 10) : decode c pc = .ok (.lconst 1, 1) :=
  dec_of (i := .lconst 1) (n := 1) (rd_bind Reader.u1 _ (u1_bq h))
set_option maxRecDepth 20000 in
theorem op_16 {c : ByteArray} {pc x : Nat} (h : bq c pc = some 16) (h1 : bq c (pc + 1) = some x) : decode c pc = .ok (.bipush (Reader.signed 8 x), 2) :=
  dec_of (i := .bipush (Reader.signed 8 x)) (n := 2) ((rd_bind Reader.u1 _ (u1_bq h)).trans (rd_bind Reader.s1 _ (s1_bq h1)))
set_option maxRecDepth 20000 in
theorem op_17 {c : ByteArray} {pc x y : Nat} (h : bq c pc = some 17) (h1 : bq c (pc + 1) = some x) (h2 : bq c (pc + 2) = some y) : decode c pc = .ok (.sipush (Reader.signed 16 (x * 256 + y)), 3) :=
  dec_of (i := .sipush (Reader.signed 16 (x * 256 + y))) (n := 3) ((rd_bind Reader.u1 _ (u1_bq h)).trans (rd_bind Reader.s2 _ (s2_bq h1 h2)))
set_option maxRecDepth 20000 in
theorem op_18 {c : ByteArray} {pc x : Nat} (h : bq c pc = some 18) (h1 : bq c (pc + 1) = some x) : decode c pc = .ok (.ldc x, 2) :=
  dec_of (i := .ldc x) (n := 2) ((rd_bind Reader.u1 _ (u1_bq h)).trans (rd_bind Reader.u1 _ (u1_bq h1)))
set_option maxRecDepth 20000 in
theorem op_19 {c : ByteArray} {pc x y : Nat} (h : bq c pc = some 19) (h1 : bq c (pc + 1) = some x) (h2 : bq c (pc + 2) = some y) : decode c pc = .ok (.ldc_w (x * 256 + y), 3) :=
  dec_of (i := .ldc_w (x * 256 + y)) (n := 3) ((rd_bind Reader.u1 _ (u1_bq h)).trans (rd_bind Reader.u2 _ (u2_bq h1 h2)))
set_option maxRecDepth 20000 in
theorem op_20 {c : ByteArray} {pc x y : Nat} (h : bq c pc = some 20) (h1 : bq c (pc + 1) = some x) (h2 : bq c (pc + 2) = some y) : decode c pc = .ok (.ldc2_w (x * 256 + y), 3) :=
  dec_of (i := .ldc2_w (x * 256 + y)) (n := 3) ((rd_bind Reader.u1 _ (u1_bq h)).trans (rd_bind Reader.u2 _ (u2_bq h1 h2)))
set_option maxRecDepth 20000 in
theorem op_21 {c : ByteArray} {pc x : Nat} (h : bq c pc = some 21) (h1 : bq c (pc + 1) = some x) : decode c pc = .ok (.iload x, 2) :=
  dec_of (i := .iload x) (n := 2) ((rd_bind Reader.u1 _ (u1_bq h)).trans (rd_bind Reader.u1 _ (u1_bq h1)))
set_option maxRecDepth 20000 in
theorem op_22 {c : ByteArray} {pc x : Nat} (h : bq c pc = some 22) (h1 : bq c (pc + 1) = some x) : decode c pc = .ok (.lload x, 2) :=
  dec_of (i := .lload x) (n := 2) ((rd_bind Reader.u1 _ (u1_bq h)).trans (rd_bind Reader.u1 _ (u1_bq h1)))
set_option maxRecDepth 20000 in
theorem op_26 {c : ByteArray} {pc : Nat} (h : bq c pc = some 26) : decode c pc = .ok (.iload_n 0, 1) :=
  dec_of (i := .iload_n 0) (n := 1) (rd_bind Reader.u1 _ (u1_bq h))
set_option maxRecDepth 20000 in
theorem op_27 {c : ByteArray} {pc : Nat} (h : bq c pc = some 27) : decode c pc = .ok (.iload_n 1, 1) :=
  dec_of (i := .iload_n 1) (n := 1) (rd_bind Reader.u1 _ (u1_bq h))
set_option maxRecDepth 20000 in
theorem op_28 {c : ByteArray} {pc : Nat} (h : bq c pc = some 28) : decode c pc = .ok (.iload_n 2, 1) :=
  dec_of (i := .iload_n 2) (n := 1) (rd_bind Reader.u1 _ (u1_bq h))
set_option maxRecDepth 20000 in
theorem op_29 {c : ByteArray} {pc : Nat} (h : bq c pc = some 29) : decode c pc = .ok (.iload_n 3, 1) :=
  dec_of (i := .iload_n 3) (n := 1) (rd_bind Reader.u1 _ (u1_bq h))
set_option maxRecDepth 20000 in
theorem op_30 {c : ByteArray} {pc : Nat} (h : bq c pc = some 30) : decode c pc = .ok (.lload_n 0, 1) :=
  dec_of (i := .lload_n 0) (n := 1) (rd_bind Reader.u1 _ (u1_bq h))
set_option maxRecDepth 20000 in
theorem op_31 {c : ByteArray} {pc : Nat} (h : bq c pc = some 31) : decode c pc = .ok (.lload_n 1, 1) :=
  dec_of (i := .lload_n 1) (n := 1) (rd_bind Reader.u1 _ (u1_bq h))
set_option maxRecDepth 20000 in
theorem op_32 {c : ByteArray} {pc : Nat} (h : bq c pc = some 32) : decode c pc = .ok (.lload_n 2, 1) :=
  dec_of (i := .lload_n 2) (n := 1) (rd_bind Reader.u1 _ (u1_bq h))
set_option maxRecDepth 20000 in
theorem op_33 {c : ByteArray} {pc : Nat} (h : bq c pc = some 33) : decode c pc = .ok (.lload_n 3, 1) :=
  dec_of (i := .lload_n 3) (n := 1) (rd_bind Reader.u1 _ (u1_bq h))
set_option maxRecDepth 20000 in
theorem op_42 {c : ByteArray} {pc : Nat} (h : bq c pc = some 42) : decode c pc = .ok (.aload_n 0, 1) :=
  dec_of (i := .aload_n 0) (n := 1) (rd_bind Reader.u1 _ (u1_bq h))
set_option maxRecDepth 20000 in
theorem op_43 {c : ByteArray} {pc : Nat} (h : bq c pc = some 43) : decode c pc = .ok (.aload_n 1, 1) :=
  dec_of (i := .aload_n 1) (n := 1) (rd_bind Reader.u1 _ (u1_bq h))
set_option maxRecDepth 20000 in
theorem op_44 {c : ByteArray} {pc : Nat} (h : bq c pc = some 44) : decode c pc = .ok (.aload_n 2, 1) :=
  dec_of (i := .aload_n 2) (n := 1) (rd_bind Reader.u1 _ (u1_bq h))
set_option maxRecDepth 20000 in
theorem op_45 {c : ByteArray} {pc : Nat} (h : bq c pc = some 45) : decode c pc = .ok (.aload_n 3, 1) :=
  dec_of (i := .aload_n 3) (n := 1) (rd_bind Reader.u1 _ (u1_bq h))
set_option maxRecDepth 20000 in
theorem op_46 {c : ByteArray} {pc : Nat} (h : bq c pc = some 46) : decode c pc = .ok (.iaload, 1) :=
  dec_of (i := .iaload) (n := 1) (rd_bind Reader.u1 _ (u1_bq h))
set_option maxRecDepth 20000 in
theorem op_47 {c : ByteArray} {pc : Nat} (h : bq c pc = some 47) : decode c pc = .ok (.laload, 1) :=
  dec_of (i := .laload) (n := 1) (rd_bind Reader.u1 _ (u1_bq h))
set_option maxRecDepth 20000 in
theorem op_50 {c : ByteArray} {pc : Nat} (h : bq c pc = some 50) : decode c pc = .ok (.aaload, 1) :=
  dec_of (i := .aaload) (n := 1) (rd_bind Reader.u1 _ (u1_bq h))
set_option maxRecDepth 20000 in
theorem op_52 {c : ByteArray} {pc : Nat} (h : bq c pc = some 52) : decode c pc = .ok (.caload, 1) :=
  dec_of (i := .caload) (n := 1) (rd_bind Reader.u1 _ (u1_bq h))
set_option maxRecDepth 20000 in
theorem op_54 {c : ByteArray} {pc x : Nat} (h : bq c pc = some 54) (h1 : bq c (pc + 1) = some x) : decode c pc = .ok (.istore x, 2) :=
  dec_of (i := .istore x) (n := 2) ((rd_bind Reader.u1 _ (u1_bq h)).trans (rd_bind Reader.u1 _ (u1_bq h1)))
set_option maxRecDepth 20000 in
theorem op_55 {c : ByteArray} {pc x : Nat} (h : bq c pc = some 55) (h1 : bq c (pc + 1) = some x) : decode c pc = .ok (.lstore x, 2) :=
  dec_of (i := .lstore x) (n := 2) ((rd_bind Reader.u1 _ (u1_bq h)).trans (rd_bind Reader.u1 _ (u1_bq h1)))
set_option maxRecDepth 20000 in
theorem op_59 {c : ByteArray} {pc : Nat} (h : bq c pc = some 59) : decode c pc = .ok (.istore_n 0, 1) :=
  dec_of (i := .istore_n 0) (n := 1) (rd_bind Reader.u1 _ (u1_bq h))
set_option maxRecDepth 20000 in
theorem op_60 {c : ByteArray} {pc : Nat} (h : bq c pc = some 60) : decode c pc = .ok (.istore_n 1, 1) :=
  dec_of (i := .istore_n 1) (n := 1) (rd_bind Reader.u1 _ (u1_bq h))
set_option maxRecDepth 20000 in
theorem op_61 {c : ByteArray} {pc : Nat} (h : bq c pc = some 61) : decode c pc = .ok (.istore_n 2, 1) :=
  dec_of (i := .istore_n 2) (n := 1) (rd_bind Reader.u1 _ (u1_bq h))
set_option maxRecDepth 20000 in
theorem op_62 {c : ByteArray} {pc : Nat} (h : bq c pc = some 62) : decode c pc = .ok (.istore_n 3, 1) :=
  dec_of (i := .istore_n 3) (n := 1) (rd_bind Reader.u1 _ (u1_bq h))
set_option maxRecDepth 20000 in
theorem op_65 {c : ByteArray} {pc : Nat} (h : bq c pc = some 65) : decode c pc = .ok (.lstore_n 2, 1) :=
  dec_of (i := .lstore_n 2) (n := 1) (rd_bind Reader.u1 _ (u1_bq h))
set_option maxRecDepth 20000 in
theorem op_66 {c : ByteArray} {pc : Nat} (h : bq c pc = some 66) : decode c pc = .ok (.lstore_n 3, 1) :=
  dec_of (i := .lstore_n 3) (n := 1) (rd_bind Reader.u1 _ (u1_bq h))
set_option maxRecDepth 20000 in
theorem op_76 {c : ByteArray} {pc : Nat} (h : bq c pc = some 76) : decode c pc = .ok (.astore_n 1, 1) :=
  dec_of (i := .astore_n 1) (n := 1) (rd_bind Reader.u1 _ (u1_bq h))
set_option maxRecDepth 20000 in
theorem op_77 {c : ByteArray} {pc : Nat} (h : bq c pc = some 77) : decode c pc = .ok (.astore_n 2, 1) :=
  dec_of (i := .astore_n 2) (n := 1) (rd_bind Reader.u1 _ (u1_bq h))
set_option maxRecDepth 20000 in
theorem op_79 {c : ByteArray} {pc : Nat} (h : bq c pc = some 79) : decode c pc = .ok (.iastore, 1) :=
  dec_of (i := .iastore) (n := 1) (rd_bind Reader.u1 _ (u1_bq h))
set_option maxRecDepth 20000 in
theorem op_80 {c : ByteArray} {pc : Nat} (h : bq c pc = some 80) : decode c pc = .ok (.lastore, 1) :=
  dec_of (i := .lastore) (n := 1) (rd_bind Reader.u1 _ (u1_bq h))
set_option maxRecDepth 20000 in
theorem op_83 {c : ByteArray} {pc : Nat} (h : bq c pc = some 83) : decode c pc = .ok (.aastore, 1) :=
  dec_of (i := .aastore) (n := 1) (rd_bind Reader.u1 _ (u1_bq h))
set_option maxRecDepth 20000 in
theorem op_85 {c : ByteArray} {pc : Nat} (h : bq c pc = some 85) : decode c pc = .ok (.castore, 1) :=
  dec_of (i := .castore) (n := 1) (rd_bind Reader.u1 _ (u1_bq h))
set_option maxRecDepth 20000 in
theorem op_87 {c : ByteArray} {pc : Nat} (h : bq c pc = some 87) : decode c pc = .ok (.pop, 1) :=
  dec_of (i := .pop) (n := 1) (rd_bind Reader.u1 _ (u1_bq h))
set_option maxRecDepth 20000 in
theorem op_88 {c : ByteArray} {pc : Nat} (h : bq c pc = some 88) : decode c pc = .ok (.pop2, 1) :=
  dec_of (i := .pop2) (n := 1) (rd_bind Reader.u1 _ (u1_bq h))
set_option maxRecDepth 20000 in
theorem op_89 {c : ByteArray} {pc : Nat} (h : bq c pc = some 89) : decode c pc = .ok (.dup, 1) :=
  dec_of (i := .dup) (n := 1) (rd_bind Reader.u1 _ (u1_bq h))
set_option maxRecDepth 20000 in
theorem op_92 {c : ByteArray} {pc : Nat} (h : bq c pc = some 92) : decode c pc = .ok (.dup2, 1) :=
  dec_of (i := .dup2) (n := 1) (rd_bind Reader.u1 _ (u1_bq h))
set_option maxRecDepth 20000 in
theorem op_96 {c : ByteArray} {pc : Nat} (h : bq c pc = some 96) : decode c pc = .ok (.iadd, 1) :=
  dec_of (i := .iadd) (n := 1) (rd_bind Reader.u1 _ (u1_bq h))
set_option maxRecDepth 20000 in
theorem op_97 {c : ByteArray} {pc : Nat} (h : bq c pc = some 97) : decode c pc = .ok (.ladd, 1) :=
  dec_of (i := .ladd) (n := 1) (rd_bind Reader.u1 _ (u1_bq h))
set_option maxRecDepth 20000 in
theorem op_100 {c : ByteArray} {pc : Nat} (h : bq c pc = some 100) : decode c pc = .ok (.isub, 1) :=
  dec_of (i := .isub) (n := 1) (rd_bind Reader.u1 _ (u1_bq h))
set_option maxRecDepth 20000 in
theorem op_101 {c : ByteArray} {pc : Nat} (h : bq c pc = some 101) : decode c pc = .ok (.lsub, 1) :=
  dec_of (i := .lsub) (n := 1) (rd_bind Reader.u1 _ (u1_bq h))
set_option maxRecDepth 20000 in
theorem op_104 {c : ByteArray} {pc : Nat} (h : bq c pc = some 104) : decode c pc = .ok (.imul, 1) :=
  dec_of (i := .imul) (n := 1) (rd_bind Reader.u1 _ (u1_bq h))
set_option maxRecDepth 20000 in
theorem op_105 {c : ByteArray} {pc : Nat} (h : bq c pc = some 105) : decode c pc = .ok (.lmul, 1) :=
  dec_of (i := .lmul) (n := 1) (rd_bind Reader.u1 _ (u1_bq h))
set_option maxRecDepth 20000 in
theorem op_108 {c : ByteArray} {pc : Nat} (h : bq c pc = some 108) : decode c pc = .ok (.idiv, 1) :=
  dec_of (i := .idiv) (n := 1) (rd_bind Reader.u1 _ (u1_bq h))
set_option maxRecDepth 20000 in
theorem op_109 {c : ByteArray} {pc : Nat} (h : bq c pc = some 109) : decode c pc = .ok (.ldiv, 1) :=
  dec_of (i := .ldiv) (n := 1) (rd_bind Reader.u1 _ (u1_bq h))
set_option maxRecDepth 20000 in
theorem op_112 {c : ByteArray} {pc : Nat} (h : bq c pc = some 112) : decode c pc = .ok (.irem, 1) :=
  dec_of (i := .irem) (n := 1) (rd_bind Reader.u1 _ (u1_bq h))
set_option maxRecDepth 20000 in
theorem op_113 {c : ByteArray} {pc : Nat} (h : bq c pc = some 113) : decode c pc = .ok (.lrem, 1) :=
  dec_of (i := .lrem) (n := 1) (rd_bind Reader.u1 _ (u1_bq h))
set_option maxRecDepth 20000 in
theorem op_116 {c : ByteArray} {pc : Nat} (h : bq c pc = some 116) : decode c pc = .ok (.ineg, 1) :=
  dec_of (i := .ineg) (n := 1) (rd_bind Reader.u1 _ (u1_bq h))
set_option maxRecDepth 20000 in
theorem op_120 {c : ByteArray} {pc : Nat} (h : bq c pc = some 120) : decode c pc = .ok (.ishl, 1) :=
  dec_of (i := .ishl) (n := 1) (rd_bind Reader.u1 _ (u1_bq h))
set_option maxRecDepth 20000 in
theorem op_122 {c : ByteArray} {pc : Nat} (h : bq c pc = some 122) : decode c pc = .ok (.ishr, 1) :=
  dec_of (i := .ishr) (n := 1) (rd_bind Reader.u1 _ (u1_bq h))
set_option maxRecDepth 20000 in
theorem op_124 {c : ByteArray} {pc : Nat} (h : bq c pc = some 124) : decode c pc = .ok (.iushr, 1) :=
  dec_of (i := .iushr) (n := 1) (rd_bind Reader.u1 _ (u1_bq h))
set_option maxRecDepth 20000 in
theorem op_126 {c : ByteArray} {pc : Nat} (h : bq c pc = some 126) : decode c pc = .ok (.iand, 1) :=
  dec_of (i := .iand) (n := 1) (rd_bind Reader.u1 _ (u1_bq h))
set_option maxRecDepth 20000 in
theorem op_128 {c : ByteArray} {pc : Nat} (h : bq c pc = some 128) : decode c pc = .ok (.ior, 1) :=
  dec_of (i := .ior) (n := 1) (rd_bind Reader.u1 _ (u1_bq h))
set_option maxRecDepth 20000 in
theorem op_130 {c : ByteArray} {pc : Nat} (h : bq c pc = some 130) : decode c pc = .ok (.ixor, 1) :=
  dec_of (i := .ixor) (n := 1) (rd_bind Reader.u1 _ (u1_bq h))
set_option maxRecDepth 20000 in
theorem op_132 {c : ByteArray} {pc x y : Nat} (h : bq c pc = some 132) (h1 : bq c (pc + 1) = some x) (h2 : bq c (pc + 2) = some y) : decode c pc = .ok (.iinc x (Reader.signed 8 y), 3) :=
  dec_of (i := .iinc x (Reader.signed 8 y)) (n := 3) ((rd_bind Reader.u1 _ (u1_bq h)).trans ((rd_bind Reader.u1 _ (u1_bq h1)).trans (rd_bind Reader.s1 _ (s1_bq h2))))
set_option maxRecDepth 20000 in
theorem op_133 {c : ByteArray} {pc : Nat} (h : bq c pc = some 133) : decode c pc = .ok (.i2l, 1) :=
  dec_of (i := .i2l) (n := 1) (rd_bind Reader.u1 _ (u1_bq h))
set_option maxRecDepth 20000 in
theorem op_146 {c : ByteArray} {pc : Nat} (h : bq c pc = some 146) : decode c pc = .ok (.i2c, 1) :=
  dec_of (i := .i2c) (n := 1) (rd_bind Reader.u1 _ (u1_bq h))
set_option maxRecDepth 20000 in
theorem op_148 {c : ByteArray} {pc : Nat} (h : bq c pc = some 148) : decode c pc = .ok (.lcmp, 1) :=
  dec_of (i := .lcmp) (n := 1) (rd_bind Reader.u1 _ (u1_bq h))
set_option maxRecDepth 20000 in
theorem op_153 {c : ByteArray} {pc x y : Nat} (h : bq c pc = some 153) (h1 : bq c (pc + 1) = some x) (h2 : bq c (pc + 2) = some y) : decode c pc = .ok (.ifCond .eq (Reader.signed 16 (x * 256 + y)), 3) :=
  dec_of (i := .ifCond .eq (Reader.signed 16 (x * 256 + y))) (n := 3) ((rd_bind Reader.u1 _ (u1_bq h)).trans (rd_bind Reader.s2 _ (s2_bq h1 h2)))
set_option maxRecDepth 20000 in
theorem op_154 {c : ByteArray} {pc x y : Nat} (h : bq c pc = some 154) (h1 : bq c (pc + 1) = some x) (h2 : bq c (pc + 2) = some y) : decode c pc = .ok (.ifCond .ne (Reader.signed 16 (x * 256 + y)), 3) :=
  dec_of (i := .ifCond .ne (Reader.signed 16 (x * 256 + y))) (n := 3) ((rd_bind Reader.u1 _ (u1_bq h)).trans (rd_bind Reader.s2 _ (s2_bq h1 h2)))
set_option maxRecDepth 20000 in
theorem op_155 {c : ByteArray} {pc x y : Nat} (h : bq c pc = some 155) (h1 : bq c (pc + 1) = some x) (h2 : bq c (pc + 2) = some y) : decode c pc = .ok (.ifCond .lt (Reader.signed 16 (x * 256 + y)), 3) :=
  dec_of (i := .ifCond .lt (Reader.signed 16 (x * 256 + y))) (n := 3) ((rd_bind Reader.u1 _ (u1_bq h)).trans (rd_bind Reader.s2 _ (s2_bq h1 h2)))
set_option maxRecDepth 20000 in
theorem op_156 {c : ByteArray} {pc x y : Nat} (h : bq c pc = some 156) (h1 : bq c (pc + 1) = some x) (h2 : bq c (pc + 2) = some y) : decode c pc = .ok (.ifCond .ge (Reader.signed 16 (x * 256 + y)), 3) :=
  dec_of (i := .ifCond .ge (Reader.signed 16 (x * 256 + y))) (n := 3) ((rd_bind Reader.u1 _ (u1_bq h)).trans (rd_bind Reader.s2 _ (s2_bq h1 h2)))
set_option maxRecDepth 20000 in
theorem op_157 {c : ByteArray} {pc x y : Nat} (h : bq c pc = some 157) (h1 : bq c (pc + 1) = some x) (h2 : bq c (pc + 2) = some y) : decode c pc = .ok (.ifCond .gt (Reader.signed 16 (x * 256 + y)), 3) :=
  dec_of (i := .ifCond .gt (Reader.signed 16 (x * 256 + y))) (n := 3) ((rd_bind Reader.u1 _ (u1_bq h)).trans (rd_bind Reader.s2 _ (s2_bq h1 h2)))
set_option maxRecDepth 20000 in
theorem op_158 {c : ByteArray} {pc x y : Nat} (h : bq c pc = some 158) (h1 : bq c (pc + 1) = some x) (h2 : bq c (pc + 2) = some y) : decode c pc = .ok (.ifCond .le (Reader.signed 16 (x * 256 + y)), 3) :=
  dec_of (i := .ifCond .le (Reader.signed 16 (x * 256 + y))) (n := 3) ((rd_bind Reader.u1 _ (u1_bq h)).trans (rd_bind Reader.s2 _ (s2_bq h1 h2)))
set_option maxRecDepth 20000 in
theorem op_159 {c : ByteArray} {pc x y : Nat} (h : bq c pc = some 159) (h1 : bq c (pc + 1) = some x) (h2 : bq c (pc + 2) = some y) : decode c pc = .ok (.if_icmp .eq (Reader.signed 16 (x * 256 + y)), 3) :=
  dec_of (i := .if_icmp .eq (Reader.signed 16 (x * 256 + y))) (n := 3) ((rd_bind Reader.u1 _ (u1_bq h)).trans (rd_bind Reader.s2 _ (s2_bq h1 h2)))
set_option maxRecDepth 20000 in
theorem op_160 {c : ByteArray} {pc x y : Nat} (h : bq c pc = some 160) (h1 : bq c (pc + 1) = some x) (h2 : bq c (pc + 2) = some y) : decode c pc = .ok (.if_icmp .ne (Reader.signed 16 (x * 256 + y)), 3) :=
  dec_of (i := .if_icmp .ne (Reader.signed 16 (x * 256 + y))) (n := 3) ((rd_bind Reader.u1 _ (u1_bq h)).trans (rd_bind Reader.s2 _ (s2_bq h1 h2)))
set_option maxRecDepth 20000 in
theorem op_161 {c : ByteArray} {pc x y : Nat} (h : bq c pc = some 161) (h1 : bq c (pc + 1) = some x) (h2 : bq c (pc + 2) = some y) : decode c pc = .ok (.if_icmp .lt (Reader.signed 16 (x * 256 + y)), 3) :=
  dec_of (i := .if_icmp .lt (Reader.signed 16 (x * 256 + y))) (n := 3) ((rd_bind Reader.u1 _ (u1_bq h)).trans (rd_bind Reader.s2 _ (s2_bq h1 h2)))
set_option maxRecDepth 20000 in
theorem op_162 {c : ByteArray} {pc x y : Nat} (h : bq c pc = some 162) (h1 : bq c (pc + 1) = some x) (h2 : bq c (pc + 2) = some y) : decode c pc = .ok (.if_icmp .ge (Reader.signed 16 (x * 256 + y)), 3) :=
  dec_of (i := .if_icmp .ge (Reader.signed 16 (x * 256 + y))) (n := 3) ((rd_bind Reader.u1 _ (u1_bq h)).trans (rd_bind Reader.s2 _ (s2_bq h1 h2)))
set_option maxRecDepth 20000 in
theorem op_163 {c : ByteArray} {pc x y : Nat} (h : bq c pc = some 163) (h1 : bq c (pc + 1) = some x) (h2 : bq c (pc + 2) = some y) : decode c pc = .ok (.if_icmp .gt (Reader.signed 16 (x * 256 + y)), 3) :=
  dec_of (i := .if_icmp .gt (Reader.signed 16 (x * 256 + y))) (n := 3) ((rd_bind Reader.u1 _ (u1_bq h)).trans (rd_bind Reader.s2 _ (s2_bq h1 h2)))
set_option maxRecDepth 20000 in
theorem op_164 {c : ByteArray} {pc x y : Nat} (h : bq c pc = some 164) (h1 : bq c (pc + 1) = some x) (h2 : bq c (pc + 2) = some y) : decode c pc = .ok (.if_icmp .le (Reader.signed 16 (x * 256 + y)), 3) :=
  dec_of (i := .if_icmp .le (Reader.signed 16 (x * 256 + y))) (n := 3) ((rd_bind Reader.u1 _ (u1_bq h)).trans (rd_bind Reader.s2 _ (s2_bq h1 h2)))
set_option maxRecDepth 20000 in
theorem op_167 {c : ByteArray} {pc x y : Nat} (h : bq c pc = some 167) (h1 : bq c (pc + 1) = some x) (h2 : bq c (pc + 2) = some y) : decode c pc = .ok (.goto (Reader.signed 16 (x * 256 + y)), 3) :=
  dec_of (i := .goto (Reader.signed 16 (x * 256 + y))) (n := 3) ((rd_bind Reader.u1 _ (u1_bq h)).trans (rd_bind Reader.s2 _ (s2_bq h1 h2)))
set_option maxRecDepth 20000 in
theorem op_172 {c : ByteArray} {pc : Nat} (h : bq c pc = some 172) : decode c pc = .ok (.ireturn, 1) :=
  dec_of (i := .ireturn) (n := 1) (rd_bind Reader.u1 _ (u1_bq h))
set_option maxRecDepth 20000 in
theorem op_173 {c : ByteArray} {pc : Nat} (h : bq c pc = some 173) : decode c pc = .ok (.lreturn, 1) :=
  dec_of (i := .lreturn) (n := 1) (rd_bind Reader.u1 _ (u1_bq h))
set_option maxRecDepth 20000 in
theorem op_176 {c : ByteArray} {pc : Nat} (h : bq c pc = some 176) : decode c pc = .ok (.areturn, 1) :=
  dec_of (i := .areturn) (n := 1) (rd_bind Reader.u1 _ (u1_bq h))
set_option maxRecDepth 20000 in
theorem op_177 {c : ByteArray} {pc : Nat} (h : bq c pc = some 177) : decode c pc = .ok (.return_, 1) :=
  dec_of (i := .return_) (n := 1) (rd_bind Reader.u1 _ (u1_bq h))
set_option maxRecDepth 20000 in
theorem op_178 {c : ByteArray} {pc x y : Nat} (h : bq c pc = some 178) (h1 : bq c (pc + 1) = some x) (h2 : bq c (pc + 2) = some y) : decode c pc = .ok (.getstatic (x * 256 + y), 3) :=
  dec_of (i := .getstatic (x * 256 + y)) (n := 3) ((rd_bind Reader.u1 _ (u1_bq h)).trans (rd_bind Reader.u2 _ (u2_bq h1 h2)))
set_option maxRecDepth 20000 in
theorem op_180 {c : ByteArray} {pc x y : Nat} (h : bq c pc = some 180) (h1 : bq c (pc + 1) = some x) (h2 : bq c (pc + 2) = some y) : decode c pc = .ok (.getfield (x * 256 + y), 3) :=
  dec_of (i := .getfield (x * 256 + y)) (n := 3) ((rd_bind Reader.u1 _ (u1_bq h)).trans (rd_bind Reader.u2 _ (u2_bq h1 h2)))
set_option maxRecDepth 20000 in
theorem op_181 {c : ByteArray} {pc x y : Nat} (h : bq c pc = some 181) (h1 : bq c (pc + 1) = some x) (h2 : bq c (pc + 2) = some y) : decode c pc = .ok (.putfield (x * 256 + y), 3) :=
  dec_of (i := .putfield (x * 256 + y)) (n := 3) ((rd_bind Reader.u1 _ (u1_bq h)).trans (rd_bind Reader.u2 _ (u2_bq h1 h2)))
set_option maxRecDepth 20000 in
theorem op_182 {c : ByteArray} {pc x y : Nat} (h : bq c pc = some 182) (h1 : bq c (pc + 1) = some x) (h2 : bq c (pc + 2) = some y) : decode c pc = .ok (.invokevirtual (x * 256 + y), 3) :=
  dec_of (i := .invokevirtual (x * 256 + y)) (n := 3) ((rd_bind Reader.u1 _ (u1_bq h)).trans (rd_bind Reader.u2 _ (u2_bq h1 h2)))
set_option maxRecDepth 20000 in
theorem op_183 {c : ByteArray} {pc x y : Nat} (h : bq c pc = some 183) (h1 : bq c (pc + 1) = some x) (h2 : bq c (pc + 2) = some y) : decode c pc = .ok (.invokespecial (x * 256 + y), 3) :=
  dec_of (i := .invokespecial (x * 256 + y)) (n := 3) ((rd_bind Reader.u1 _ (u1_bq h)).trans (rd_bind Reader.u2 _ (u2_bq h1 h2)))
set_option maxRecDepth 20000 in
theorem op_184 {c : ByteArray} {pc x y : Nat} (h : bq c pc = some 184) (h1 : bq c (pc + 1) = some x) (h2 : bq c (pc + 2) = some y) : decode c pc = .ok (.invokestatic (x * 256 + y), 3) :=
  dec_of (i := .invokestatic (x * 256 + y)) (n := 3) ((rd_bind Reader.u1 _ (u1_bq h)).trans (rd_bind Reader.u2 _ (u2_bq h1 h2)))
set_option maxRecDepth 20000 in
theorem op_187 {c : ByteArray} {pc x y : Nat} (h : bq c pc = some 187) (h1 : bq c (pc + 1) = some x) (h2 : bq c (pc + 2) = some y) : decode c pc = .ok (.new (x * 256 + y), 3) :=
  dec_of (i := .new (x * 256 + y)) (n := 3) ((rd_bind Reader.u1 _ (u1_bq h)).trans (rd_bind Reader.u2 _ (u2_bq h1 h2)))
set_option maxRecDepth 20000 in
theorem op_189 {c : ByteArray} {pc x y : Nat} (h : bq c pc = some 189) (h1 : bq c (pc + 1) = some x) (h2 : bq c (pc + 2) = some y) : decode c pc = .ok (.anewarray (x * 256 + y), 3) :=
  dec_of (i := .anewarray (x * 256 + y)) (n := 3) ((rd_bind Reader.u1 _ (u1_bq h)).trans (rd_bind Reader.u2 _ (u2_bq h1 h2)))
set_option maxRecDepth 20000 in
theorem op_190 {c : ByteArray} {pc : Nat} (h : bq c pc = some 190) : decode c pc = .ok (.arraylength, 1) :=
  dec_of (i := .arraylength) (n := 1) (rd_bind Reader.u1 _ (u1_bq h))
