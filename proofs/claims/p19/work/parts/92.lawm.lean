/-! THE CLAIM OUT OF ONE WALK OF THE LAW'S BODY. Your part is whole_start (and what it stands on); all else here is the same for every law, but numbers. -/
def R_law : String := "EldestSaysLaw"
def lw_P (b : Addr) (xs : List Int32) (args : Array Value) (s : State) : Prop := args = #[.ref b] ∧ s.IntsAt b xs ∧ xs.length ≤ 320 ∧ (Jvm.Cond.and given_1 narrow_1).before args s = true
def lw_Q (_ : Array Value) (s : State) (o : Outcome) (t : State) : Prop := o = .returned (some (.int 1)) ∧ Framed s o t [] 600000 7302250
def lw_Z (below : List Frame) (a : Array Value) (s : State) : State → Prop := fun t => ∃ o, t.status = .running ∧ Ended t below o ∧ lw_Q a s o t
/-- the law's own end, with 1 on the stack, nothing written that was there before, its room as the claim has it -/
theorem lw_ret {p : Program} {l : Launch} {e : Env} {s : State} {m : MethodId} {below : List Frame} {meth : Method} {c : Code} {b : Nat} (hx : p.tables.exec = Jvm.exec) (hb : c.code = code) (hr : meth.sig.returnType = ret) (hlocks : meth.locks = false) {pc : Nat} {H : Heap} {ls : Array Slot} (hdg : decode code pc = .ok (.ireturn, 1)) : W p l e room_1 s m #[Value.ref b] below meth c H [] 600000 7302250 (lw_Z below #[Value.ref b] s) (F0 m pc ls [.int 1]) := by
  intro T hT X
  obtain ⟨fs, hret, hrun, hended, hW, hframe⟩ := X.leave (v := some (.int 1)) (hlocks := hlocks) (fun h => by rw [hr] at h; cases h)
  have hmeth' : T.vm.method? m = some meth := X.method'
  refine ⟨T.setFrames fs, ?_, .returned (some (.int 1)), hrun, hended, rfl, ⟨_, rfl⟩, hW, hframe⟩
  jvm_step X.here [X.here.top, hx, hb, hdg, hmeth', hr, ret, narrow_b1]
  (try refine ⟨rfl, ?_⟩); (try refine ⟨rfl, ?_⟩)
  first | (intro acts; rw [hret _ acts rfl rfl rfl]) | rw [hret _ _ rfl rfl rfl]
  exact Steps.refl _
/-- what holds at the law's entry: the machine, the code, the tables' words (any of lw_tbl by 'hts w (by decide +kernel)'), the script of L ints xs at the cell b, what the Statement gives of the start (any of its parts by flat_of_before) -/
def lw_At (p : Program) (s : State) (m : MethodId) (meth : Method) (c : Code) (b L : Nat) (xs : Nat → Int32) : Prop :=
  p.tables.exec = Jvm.exec ∧ c.code = code ∧ meth.sig.returnType = ret ∧ c.maxLocals = 4 ∧ s.vm.findClass R_law = some m.cls ∧ (∀ w ∈ lw_tbl, w.before #[Value.ref b] s = true) ∧ va_X b L xs s s.heap ∧ b < s.heap.size ∧ meth.locks = false ∧ (Jvm.Cond.and given_1 narrow_1).before #[Value.ref b] s = true

theorem no0 (i : Int32) : i < 0 ∨ 0 ≤ i := by
  by_cases h : i < 0
  · exact Or.inl h
  · exact Or.inr (Int32.not_lt.mp h)

theorem sw_out29 {x : Int32} (h0 : ¬ x = 0) (h1 : ¬ x = 1) (h2 : ¬ x = 2) (h3 : ¬ x = 3) (h4 : ¬ x = 4) (h5 : ¬ x = 5) (h6 : ¬ x = 6) (h7 : ¬ x = 7) (h8 : ¬ x = 8) (h9 : ¬ x = 9) (h10 : ¬ x = 10) (h11 : ¬ x = 11) (h12 : ¬ x = 12) (h13 : ¬ x = 13) (h14 : ¬ x = 14) (h15 : ¬ x = 15) (h16 : ¬ x = 16) (h17 : ¬ x = 17) (h18 : ¬ x = 18) (h19 : ¬ x = 19) (h20 : ¬ x = 20) (h21 : ¬ x = 21) (h22 : ¬ x = 22) (h23 : ¬ x = 23) (h24 : ¬ x = 24) (h25 : ¬ x = 25) (h26 : ¬ x = 26) (h27 : ¬ x = 27) (h28 : ¬ x = 28) : x.toInt < 0 ∨ 28 < x.toInt := by
  have e0 := lv_neT h0 (a := 0) rfl
  have e1 := lv_neT h1 (a := 1) rfl
  have e2 := lv_neT h2 (a := 2) rfl
  have e3 := lv_neT h3 (a := 3) rfl
  have e4 := lv_neT h4 (a := 4) rfl
  have e5 := lv_neT h5 (a := 5) rfl
  have e6 := lv_neT h6 (a := 6) rfl
  have e7 := lv_neT h7 (a := 7) rfl
  have e8 := lv_neT h8 (a := 8) rfl
  have e9 := lv_neT h9 (a := 9) rfl
  have e10 := lv_neT h10 (a := 10) rfl
  have e11 := lv_neT h11 (a := 11) rfl
  have e12 := lv_neT h12 (a := 12) rfl
  have e13 := lv_neT h13 (a := 13) rfl
  have e14 := lv_neT h14 (a := 14) rfl
  have e15 := lv_neT h15 (a := 15) rfl
  have e16 := lv_neT h16 (a := 16) rfl
  have e17 := lv_neT h17 (a := 17) rfl
  have e18 := lv_neT h18 (a := 18) rfl
  have e19 := lv_neT h19 (a := 19) rfl
  have e20 := lv_neT h20 (a := 20) rfl
  have e21 := lv_neT h21 (a := 21) rfl
  have e22 := lv_neT h22 (a := 22) rfl
  have e23 := lv_neT h23 (a := 23) rfl
  have e24 := lv_neT h24 (a := 24) rfl
  have e25 := lv_neT h25 (a := 25) rfl
  have e26 := lv_neT h26 (a := 26) rfl
  have e27 := lv_neT h27 (a := 27) rfl
  have e28 := lv_neT h28 (a := 28) rfl
  omega

theorem law_K {args : Array Value} {s : State} (hts9 : ∀ w ∈ lw_tbl, w.before args s = true) : ∃ (dC : Nat → ClassId) (dI : Nat → Nat → Nat) (aC : Nat → ClassId), va_K (dC, dI) classes (TY aC) s := by
  have hts : ∀ w9 ∈ lw_G, w9.before args s = true := fun w9 h9 => hts9 w9 (List.mem_filter.mp h9).1
  obtain ⟨c0, iS0, hKn0⟩ := u_known (C := RX0) (T := TX0) (N := 0) (n := 0) hts inX0 (hts9 _ kw_90)
  obtain ⟨c1, iS1, hKn1⟩ := u_known (C := RX1) (T := TX1) (N := 0) (n := 0) hts inX1 (hts9 _ kw_99)
  obtain ⟨c2, iS2, hKn2⟩ := u_known (C := RX2) (T := TX2) (N := 6) (n := 6) hts inX2 (hts9 _ kw_201)
  obtain ⟨c3, iS3, hKn3⟩ := u_known (C := RX3) (T := TX3) (N := 0) (n := 0) hts inX3 (hts9 _ kw_106)
  obtain ⟨c4, iS4, hKn4⟩ := u_known (C := RX4) (T := TX4) (N := 8) (n := 8) hts inX4 (hts9 _ kw_27)
  obtain ⟨c5, iS5, hKn5⟩ := u_known (C := RX5) (T := TX5) (N := 0) (n := 0) hts inX5 (hts9 _ kw_113)
  obtain ⟨c6, iS6, hKn6⟩ := u_known (C := RX6) (T := TX6) (N := 0) (n := 0) hts inX6 (hts9 _ kw_120)
  obtain ⟨c7, iS7, hKn7⟩ := u_known (C := RX7) (T := TX7) (N := 2) (n := 2) hts inX7 (hts9 _ kw_75)
  obtain ⟨c8, iS8, hKn8⟩ := u_known (C := RX8) (T := TX8) (N := 0) (n := 0) hts inX8 (hts9 _ kw_134)
  obtain ⟨c9, iS9, hKn9⟩ := u_known (C := RX9) (T := TX9) (N := 14) (n := 14) hts inX9 (hts9 _ kw_141)
  obtain ⟨c10, iS10, hKn10⟩ := u_known (C := RX10) (T := TX10) (N := 0) (n := 0) hts inX10 (hts9 _ kw_127)
  obtain ⟨c11, iS11, hKn11⟩ := u_known (C := RX11) (T := TX11) (N := 14) (n := 14) hts inX11 (hts9 _ kw_19)
  obtain ⟨c12, iS12, hKn12⟩ := u_known (C := RX12) (T := TX12) (N := 33) (n := 33) hts inX12 (hts9 _ kw_712)
  obtain ⟨a0, k0, comp0, f01, f02, f03⟩ := Cond.arrayClass_spec (hts9 _ kw_73)
  obtain ⟨a1, k1, comp1, f11, f12, f13⟩ := Cond.arrayClass_spec (hts9 _ kw_88)
  obtain ⟨a2, k2, comp2, f21, f22, f23⟩ := Cond.arrayClass_spec (hts9 _ kw_96)
  obtain ⟨comp3, a3, k3, f31, f32, f33, f34, f35⟩ := Cond.arrayOver_spec (hts9 _ kw_97)
  obtain ⟨comp4, a4, k4, f41, f42, f43, f44⟩ := Cond.arrayOver_specA (hts9 _ kw_147)
  refine ⟨fun k => if k = 0 then c0 else if k = 1 then c1 else if k = 2 then c2 else if k = 3 then c3 else if k = 4 then c4 else if k = 5 then c5 else if k = 6 then c6 else if k = 7 then c7 else if k = 8 then c8 else if k = 9 then c9 else if k = 10 then c10 else if k = 11 then c11 else c12, fun k => if k = 0 then iS0 else if k = 1 then iS1 else if k = 2 then iS2 else if k = 3 then iS3 else if k = 4 then iS4 else if k = 5 then iS5 else if k = 6 then iS6 else if k = 7 then iS7 else if k = 8 then iS8 else if k = 9 then iS9 else if k = 10 then iS10 else if k = 11 then iS11 else iS12, fun k => if k = 0 then a0 else if k = 1 then a1 else if k = 2 then a2 else if k = 3 then a3 else a4, ?_, ?_⟩
  · intro k q hq
    match k, hq with
    | 0, hq => cases hq; exact hKn0
    | 1, hq => cases hq; exact hKn1
    | 2, hq => cases hq; exact hKn2
    | 3, hq => cases hq; exact hKn3
    | 4, hq => cases hq; exact hKn4
    | 5, hq => cases hq; exact hKn5
    | 6, hq => cases hq; exact hKn6
    | 7, hq => cases hq; exact hKn7
    | 8, hq => cases hq; exact hKn8
    | 9, hq => cases hq; exact hKn9
    | 10, hq => cases hq; exact hKn10
    | 11, hq => cases hq; exact hKn11
    | 12, hq => cases hq; exact hKn12
    | k + 13, hq => simp [classes] at hq
  · intro k q hq
    match k, hq with
    | 0, hq => cases hq; exact ⟨fun n z => ⟨fun k h => (by cases h), k0, f02, comp0, f03⟩, f01⟩
    | 1, hq => cases hq; exact ⟨fun n z => ⟨fun k h => (by cases h), k1, f12, comp1, f13⟩, f11⟩
    | 2, hq => cases hq; exact ⟨fun n z => ⟨fun k h => (by cases h), k2, f22, comp2, f23⟩, f21⟩
    | 3, hq => cases hq; exact ⟨fun n z => ⟨fun k h => (by cases h), k3, f33, comp3, f34⟩, k3, comp3, f33, f34, f31, f35⟩
    | 4, hq => cases hq; exact ⟨fun n z => ⟨fun k h => (by cases h), k4, f42, comp4, f43⟩, f44⟩
    | k + 5, hq => simp at hq

theorem law_G {args : Array Value} {s : State} {A : Nat → Prop} (hts9 : ∀ w ∈ lw_tbl, w.before args s = true) (hgv : (Jvm.Cond.and given_1 narrow_1).before args s = true) (hnA : ∀ a : Nat, a < s.heap.size → ¬ A a) : ∃ t : Nat, va_Z "EldestSays" "GREATEST" "[I" (.ref t) A s s.heap ∧ va_T .int t 5 (fun j => .int (GV j)) A s s.heap := by
  have hs := flat_of_before _ hgv
  have harr : (Cond.arrayOf (Term.static "EldestSays" "GREATEST" "[I") .int).before args s = true := hs _ (by decide +kernel)
  have hlen : (Cond.eq (.length (Term.static "EldestSays" "GREATEST" "[I")) (.int 5)).before args s = true := hs _ (by decide +kernel)
  have h0 : (Cond.eq (.elem (Term.static "EldestSays" "GREATEST" "[I") (.int 0)) (.int 99)).before args s = true := hs _ (by decide +kernel)
  have h1 : (Cond.eq (.elem (Term.static "EldestSays" "GREATEST" "[I") (.int 1)) (.int 2)).before args s = true := hs _ (by decide +kernel)
  have h2 : (Cond.eq (.elem (Term.static "EldestSays" "GREATEST" "[I") (.int 2)) (.int 1)).before args s = true := hs _ (by decide +kernel)
  have h3 : (Cond.eq (.elem (Term.static "EldestSays" "GREATEST" "[I") (.int 3)) (.int 1)).before args s = true := hs _ (by decide +kernel)
  have h4 : (Cond.eq (.elem (Term.static "EldestSays" "GREATEST" "[I") (.int 4)) (.int 99)).before args s = true := hs _ (by decide +kernel)
  obtain ⟨t, ht, hT⟩ := va_Tof (tm := (Term.static "EldestSays" "GREATEST" "[I")) (ty := .int) (N := 5) (f := fun j => .int (GV j)) (A := A) (by decide) harr (va_eqt hlen) (fun j hj => by
    match j, hj with
    | 0, _ => exact va_eqt h0
    | 1, _ => exact va_eqt h1
    | 2, _ => exact va_eqt h2
    | 3, _ => exact va_eqt h3
    | 4, _ => exact va_eqt h4
    | j + 5, hj => omega) hnA
  exact ⟨t, va_Zref (hts9 _ kw_316) (hts9 _ kw_1) ht hnA, hT⟩

theorem law_M {args : Array Value} {s : State} {A : Nat → Prop} (hts9 : ∀ w ∈ lw_tbl, w.before args s = true) (hgv : (Jvm.Cond.and given_1 narrow_1).before args s = true) (hnA : ∀ a : Nat, a < s.heap.size → ¬ A a) : ∃ t : Nat, va_Z "EldestSaysModel" "MOST_SET" "[I" (.ref t) A s s.heap ∧ va_T .int t 5 (fun j => .int (GV j)) A s s.heap := by
  have hs := flat_of_before _ hgv
  have harr : (Cond.arrayOf (Term.static "EldestSaysModel" "MOST_SET" "[I") .int).before args s = true := hs _ (by decide +kernel)
  have hlen : (Cond.eq (.length (Term.static "EldestSaysModel" "MOST_SET" "[I")) (.int 5)).before args s = true := hs _ (by decide +kernel)
  have h0 : (Cond.eq (.elem (Term.static "EldestSaysModel" "MOST_SET" "[I") (.int 0)) (.int 99)).before args s = true := hs _ (by decide +kernel)
  have h1 : (Cond.eq (.elem (Term.static "EldestSaysModel" "MOST_SET" "[I") (.int 1)) (.int 2)).before args s = true := hs _ (by decide +kernel)
  have h2 : (Cond.eq (.elem (Term.static "EldestSaysModel" "MOST_SET" "[I") (.int 2)) (.int 1)).before args s = true := hs _ (by decide +kernel)
  have h3 : (Cond.eq (.elem (Term.static "EldestSaysModel" "MOST_SET" "[I") (.int 3)) (.int 1)).before args s = true := hs _ (by decide +kernel)
  have h4 : (Cond.eq (.elem (Term.static "EldestSaysModel" "MOST_SET" "[I") (.int 4)) (.int 99)).before args s = true := hs _ (by decide +kernel)
  obtain ⟨t, ht, hT⟩ := va_Tof (tm := (Term.static "EldestSaysModel" "MOST_SET" "[I")) (ty := .int) (N := 5) (f := fun j => .int (GV j)) (A := A) (by decide) harr (va_eqt hlen) (fun j hj => by
    match j, hj with
    | 0, _ => exact va_eqt h0
    | 1, _ => exact va_eqt h1
    | 2, _ => exact va_eqt h2
    | 3, _ => exact va_eqt h3
    | 4, _ => exact va_eqt h4
    | j + 5, hj => omega) hnA
  exact ⟨t, va_Zref (hts9 _ kw_884) (hts9 _ kw_13) ht hnA, hT⟩

theorem law_N {args : Array Value} {s : State} (hts9 : ∀ w ∈ lw_tbl, w.before args s = true) : NX s := ⟨fun w hw hb9 => by
    have h9 := hts9 w hw
    cases w <;> first | exact absurd hb9 Bool.false_ne_true | exact va_Nw.of rfl h9, hts9 _ kw_97, hts9 _ kw_147⟩
/-- rows of the law: what the calls make of the state that both sides share -/
theorem LTR_z {L : Nat → Nat} {sg : Nat → Int32} : LTR 0 L sg := ⟨by omega, fun k hk => absurd hk (Nat.not_lt_zero k)⟩
theorem ROW_0 {T : Nat → Nat} {tof : Nat → Int32} : ROW 0 T tof := ⟨by omega, fun k hk => absurd hk (Nat.not_lt_zero k)⟩
theorem ROW_e {tz : Nat} {T : Nat → Nat} {tof tog : Nat → Int32} (h : ROW tz T tof) (he : ∀ k, k < 8 → tog k = tof k) : ROW tz T tog := ⟨h.1, fun k hk => by rw [he k (by have := h.1; omega)]; exact h.2 k hk⟩
theorem ROW_l {tz z : Nat} {T : Nat → Nat} {tof : Nat → Int32} (h : ROW tz T tof) (hz : z ≤ tz) : ROW z T tof := ⟨by have := h.1; omega, fun k hk => h.2 k (by omega)⟩
theorem goZ_le {n sn : Nat} {dn : Int32} {S5 : Nat → Nat} {tz : Nat} {T : Nat → Nat} {v : Int32} : goZ n sn dn S5 tz T v ≤ tz := by
  unfold goZ
  split
  · exact Nat.zero_le _
  · exact Nat.le_refl _
theorem ROW_go {n sn : Nat} {dn : Int32} {S5 : Nat → Nat} {tz : Nat} {T : Nat → Nat} {v : Int32} {tof : Nat → Int32} (h : ROW tz T tof) : ROW (goZ n sn dn S5 tz T v) T tof := ROW_l h goZ_le
theorem dcs_b {n sn : Nat} {W : Nat → Nat} {law y : Int32} (h : sn < n ∨ sn = 0) : dcs n sn W law y < n ∨ dcs n sn W law y = 0 := by
  unfold dcs
  split
  · exact h
  · split
    · rename_i q; exact Or.inl q
    · exact h
theorem dcd_b {n sn : Nat} {dn : Int32} {W : Nat → Nat} {law y : Int32} (h : dn = 0 ∨ dn = 1) : dcd n sn dn W law y = 0 ∨ dcd n sn dn W law y = 1 := by
  unfold dcd
  split
  · exact Or.inr rfl
  · split
    · exact h
    · exact Or.inr rfl
theorem EVS_go {n sn : Nat} {dn : Int32} {K F W S5 : Nat → Nat} {kf ff wf stf : Nat → Int32} {S6 : Nat → Nat} {tz : Nat} {T : Nat → Nat} {v : Int32} (h : EVS n sn dn K F W S5 kf ff wf stf) : EVS n (goS n sn dn W S6 tz T v) (goD n sn dn W S6 tz T v) K F W S5 kf ff wf stf := by
  refine EVS_dc h ?_ ?_
  · unfold goS
    split
    · exact dcs_b h.2.2.2.1
    · exact h.2.2.2.1
  · unfold goD
    split
    · exact dcd_b h.2.2.2.2
    · exact h.2.2.2.2
theorem dcp_c {n sn : Nat} {W : Nat → Nat} {law y : Int32} {off P P2 : Nat → Int32} {j : Nat} (h : P2 j = P j) : dcp n sn W law y off P2 j = dcp n sn W law y off P j := by
  unfold dcp; rw [h]
theorem goP_c {n sn : Nat} {dn : Int32} {W S5 : Nat → Nat} {tz : Nat} {T : Nat → Nat} {v : Int32} {P P2 : Nat → Int32} {j : Nat} (h : P2 j = P j) : goP n sn dn W S5 tz T v P2 j = goP n sn dn W S5 tz T v P j := by
  unfold goP; rw [h, dcp_c h]
/-- says -/
def syR (n sn : Nat) (dn : Int32) (W S5 : Nat → Nat) (pl : PLT) : Int32 := if OVR n dn then -3 else dcr n sn W (nI (S5 1)) (zY pl sn)
def syS (n sn : Nat) (dn : Int32) (W S5 : Nat → Nat) (pl : PLT) : Nat := if OVR n dn then sn else dcs n sn W (nI (S5 1)) (zY pl sn)
def syD (n sn : Nat) (dn : Int32) (W S5 : Nat → Nat) (pl : PLT) : Int32 := if OVR n dn then dn else dcd n sn dn W (nI (S5 1)) (zY pl sn)
def syP (n sn : Nat) (dn : Int32) (W S5 : Nat → Nat) (pl : PLT) (P : Nat → Int32) (j : Nat) : Int32 := if OVR n dn then P j else dcp n sn W (nI (S5 1)) (zY pl sn) (fun j => nI (zO pl sn j)) P j
theorem SYPT_f {n sn : Nat} {dn : Int32} {W S5 : Nat → Nat} {pl : PLT} {pf : Nat → Int32} {r sy2 dn2 : Int32} {pg : Nat → Int32} (h : SYPT n sn dn W S5 pl pf r sy2 dn2 pg) : r = syR n sn dn W S5 pl ∧ sy2 = nI (syS n sn dn W S5 pl) ∧ dn2 = syD n sn dn W S5 pl ∧ ∀ j, j < 8 → pg j = syP n sn dn W S5 pl pf j := by
  unfold syR syS syD syP
  by_cases o : OVR n dn
  · obtain ⟨h1, h2, h3, h4⟩ := h.1 o
    rw [if_pos o, if_pos o, if_pos o]
    exact ⟨h1, h2, h3, fun j hj => by rw [if_pos o]; exact h4 j hj⟩
  · obtain ⟨h1, h2, h3, h4⟩ := h.2 o
    rw [if_neg o, if_neg o, if_neg o]
    exact ⟨h1, h2, h3, fun j hj => by rw [if_neg o]; exact h4 j hj⟩
theorem syP_c {n sn : Nat} {dn : Int32} {W S5 : Nat → Nat} {pl : PLT} {P P2 : Nat → Int32} {j : Nat} (h : P2 j = P j) : syP n sn dn W S5 pl P2 j = syP n sn dn W S5 pl P j := by
  unfold syP; rw [h, dcp_c h]
theorem EVS_sy {n sn : Nat} {dn : Int32} {K F W S5 : Nat → Nat} {kf ff wf stf : Nat → Int32} {S6 : Nat → Nat} {pl : PLT} (h : EVS n sn dn K F W S5 kf ff wf stf) : EVS n (syS n sn dn W S6 pl) (syD n sn dn W S6 pl) K F W S5 kf ff wf stf := by
  refine EVS_dc h ?_ ?_
  · unfold syS
    split
    · exact h.2.2.2.1
    · exact dcs_b h.2.2.2.1
  · unfold syD
    split
    · exact h.2.2.2.2
    · exact dcd_b h.2.2.2.2
/-- beach, set, swap: the plan goes stale -/
theorem STL_bc {st st2 : Int32} {L : Nat → Nat} {lz n : Nat} {dn : Int32} {K F W S5 : Nat → Nat} {ro rp rs : Nat → Nat} {g : Nat → Nat → Int32} {yf ef bf : Nat → Int32} (h : STL st n (PO n K F W S5) ro rp rs g yf ef bf) (h1 : BOK L lz n dn → st2 = 1) (h2 : ¬ BOK L lz n dn → st2 = st) : STL st2 (bcN L lz n dn) (PO (bcN L lz n dn) (bcM L lz n dn 1 K) (bcM L lz n dn 2 F) (bcM L lz n dn 3 W) (bcS L lz n dn S5)) ro rp rs g yf ef bf := by
  by_cases o : BOK L lz n dn
  · exact Or.inl (h1 o)
  · unfold bcN bcM bcS
    rw [if_neg o, if_neg o, if_neg o, if_neg o, if_neg o, h2 o]
    exact h
theorem STL_set {st st2 : Int32} {n : Nat} {K F W S5 : Nat → Nat} {ro rp rs : Nat → Nat} {g : Nat → Nat → Int32} {yf ef bf : Nat → Int32} {w v : Int32} (h : STL st n (PO n K F W S5) ro rp rs g yf ef bf) (h1 : SOK w v → st2 = 1) (h2 : ¬ SOK w v → st2 = st) : STL st2 n (PO n K F W (setS S5 w v)) ro rp rs g yf ef bf := by
  by_cases o : SOK w v
  · exact Or.inl (h1 o)
  · rw [setS_n o, h2 o]; exact h
def swK (n sn : Nat) (dn i j : Int32) (K : Nat → Nat) : Nat → Nat := if SWK n sn dn i j then fun q => K (swq i.toNatClampNeg j.toNatClampNeg q) else K
theorem EVS_sw {n sn : Nat} {dn i j : Int32} {K F W S5 : Nat → Nat} {kf ff wf stf kf2 ff2 wf2 stf2 : Nat → Int32} (h : EVS n sn dn K F W S5 kf ff wf stf) (h1 : SWK n sn dn i j → EVS n sn dn (fun q => K (swq i.toNatClampNeg j.toNatClampNeg q)) (fun q => F (swq i.toNatClampNeg j.toNatClampNeg q)) (fun q => W (swq i.toNatClampNeg j.toNatClampNeg q)) S5 kf2 ff2 wf2 stf2) (h2 : ¬ SWK n sn dn i j → kf2 = kf ∧ ff2 = ff ∧ wf2 = wf ∧ stf2 = stf) : EVS n sn dn (swK n sn dn i j K) (swK n sn dn i j F) (swK n sn dn i j W) S5 kf2 ff2 wf2 stf2 := by
  unfold swK
  by_cases o : SWK n sn dn i j
  · rw [if_pos o, if_pos o, if_pos o]; exact h1 o
  · obtain ⟨e1, e2, e3, e4⟩ := h2 o
    rw [if_neg o, if_neg o, if_neg o, e1, e2, e3, e4]; exact h
theorem STL_sw {st st2 : Int32} {n sn : Nat} {dn i j : Int32} {K F W S5 : Nat → Nat} {ro rp rs : Nat → Nat} {g : Nat → Nat → Int32} {yf ef bf : Nat → Int32} (h : STL st n (PO n K F W S5) ro rp rs g yf ef bf) (h1 : SWK n sn dn i j → st2 = 1) (h2 : ¬ SWK n sn dn i j → st2 = st) : STL st2 n (PO n (swK n sn dn i j K) (swK n sn dn i j F) (swK n sn dn i j W) S5) ro rp rs g yf ef bf := by
  by_cases o : SWK n sn dn i j
  · exact Or.inl (h1 o)
  · unfold swK
    rw [if_neg o, if_neg o, if_neg o, h2 o]; exact h
theorem pu_sw {n sn : Nat} {dn i j : Int32} {P pf pf2 : Nat → Int32} (h : ∀ k, k < 8 → P k = pf k) (h1 : SWK n sn dn i j → ∀ k, k < 8 → pf2 k = pf k) (h2 : ¬ SWK n sn dn i j → pf2 = pf) : ∀ k, k < 8 → P k = pf2 k := by
  intro k hk
  by_cases o : SWK n sn dn i j
  · rw [h1 o k hk]; exact h k hk
  · rw [h2 o]; exact h k hk
/-- the reference's image -/
def KPM (ik : Int32) (kp : Nat → Int32) (kn ksn : Nat) (kdn : Int32) (kK kF kW kS : Nat → Nat) (kpf : Nat → Int32) : Prop := ik ≠ 0 → ∃ a b c d e : Nat → Int32, PK 0 kp a b c d e (nI kn) (nI ksn) kdn ∧ EVS kn ksn kdn kK kF kW kS a b c e ∧ ∀ j, j < 8 → d j = kpf j
theorem KPM_fr {ik : Int32} {kp kq : Nat → Int32} {kn ksn : Nat} {kdn : Int32} {kK kF kW kS : Nat → Nat} {kpf : Nat → Int32} (h : KPM ik kp kn ksn kdn kK kF kW kS kpf) (hq : ∀ q, q < 50 → kq q = kp q) : KPM ik kq kn ksn kdn kK kF kW kS kpf := fun z => by
  obtain ⟨a, b, c, d, e, ⟨p1, p2, p3, p4, p5, p6, p7, p8⟩, h2, h3⟩ := h z
  refine ⟨a, b, c, d, e, ⟨fun j hj => ?_, fun j hj => ?_, fun j hj => ?_, fun j hj => ?_, fun j hj => ?_, ?_, ?_, ?_⟩, h2, h3⟩
  · rw [hq _ (by omega)]; exact p1 j hj
  · rw [hq _ (by omega)]; exact p2 j hj
  · rw [hq _ (by omega)]; exact p3 j hj
  · rw [hq _ (by omega)]; exact p4 j hj
  · rw [hq _ (by omega)]; exact p5 j hj
  · rw [hq _ (by omega)]; exact p6
  · rw [hq _ (by omega)]; exact p7
  · rw [hq _ (by omega)]; exact p8
theorem KPM_0 {kp : Nat → Int32} {kn ksn : Nat} {kdn : Int32} {kK kF kW kS : Nat → Nat} {kpf : Nat → Int32} : KPM 0 kp kn ksn kdn kK kF kW kS kpf := fun z => absurd rfl z
/-- restore -/
def rz {α : Type} (ik : Int32) (a b : α) : α := if ik = 0 then a else b
theorem rz0 {α : Type} {ik : Int32} {a b : α} (h : ik = 0) : rz ik a b = a := if_pos h
theorem rz1 {α : Type} {ik : Int32} {a b : α} (h : ¬ ik = 0) : rz ik a b = b := if_neg h
def rsR (ik : Int32) (kn : Nat) : Int32 := if ik = 0 then -3 else nI kn
theorem REST_x {ik : Int32} {n sn kn ksn : Nat} {dn kdn st r sz2 sy2 dn2 st2 : Int32} {K F W S5 kK kF kW kS : Nat → Nat} {kf ff wf pf stf kkf kff kwf kpf kstf kf2 ff2 wf2 pf2 stf2 : Nat → Int32} {ro rp rs : Nat → Nat} {g : Nat → Nat → Int32} {yf ef bf : Nat → Int32}
    (he : EVS n sn dn K F W S5 kf ff wf stf) (hk : EVS kn ksn kdn kK kF kW kS kkf kff kwf kstf) (hs : STL st n (PO n K F W S5) ro rp rs g yf ef bf)
    (h : (ik = 0 → r = -3 ∧ sz2 = nI n ∧ sy2 = nI sn ∧ dn2 = dn ∧ st2 = st ∧ kf2 = kf ∧ ff2 = ff ∧ wf2 = wf ∧ pf2 = pf ∧ stf2 = stf) ∧ (ik ≠ 0 → r = nI kn ∧ sz2 = nI kn ∧ sy2 = nI ksn ∧ dn2 = kdn ∧ st2 = 1 ∧ (∀ j, j < 8 → kf2 j = kkf j) ∧ (∀ j, j < 8 → ff2 j = kff j) ∧ (∀ j, j < 8 → wf2 j = kwf j) ∧ (∀ j, j < 8 → pf2 j = kpf j) ∧ (∀ j, j < 5 → stf2 j = kstf j))) :
    r = rsR ik kn ∧ sz2 = nI (rz ik n kn) ∧ sy2 = nI (rz ik sn ksn) ∧ dn2 = rz ik dn kdn ∧ EVS (rz ik n kn) (rz ik sn ksn) (rz ik dn kdn) (rz ik K kK) (rz ik F kF) (rz ik W kW) (rz ik S5 kS) kf2 ff2 wf2 stf2 ∧ STL st2 (rz ik n kn) (PO (rz ik n kn) (rz ik K kK) (rz ik F kF) (rz ik W kW) (rz ik S5 kS)) ro rp rs g yf ef bf ∧ ∀ j, j < 8 → pf2 j = rz ik (pf j) (kpf j) := by
  by_cases z : ik = 0
  · obtain ⟨h1, h2, h3, h4, h5, h6, h7, h8, h9, h10⟩ := h.1 z
    unfold rsR
    simp only [rz0 z]
    rw [if_pos z, h6, h7, h8, h9, h10, h5]
    exact ⟨h1, h2, h3, h4, he, hs, fun j hj => rfl⟩
  · obtain ⟨h1, h2, h3, h4, h5, h6, h7, h8, h9, h10⟩ := h.2 z
    unfold rsR
    simp only [rz1 z]
    rw [if_neg z]
    exact ⟨h1, h2, h3, h4, EVS_cp hk h6 h7 h8 h10, Or.inl h5, h9⟩
theorem REST_m {ik : Int32} {n sn kn ksn : Nat} {dn kdn r men2 msy2 mdn2 : Int32} {K F W S5 kK kF kW kS : Nat → Nat} {kf ff wf pf stf kp kpf kf2 ff2 wf2 pf2 stf2 : Nat → Int32}
    (he : EVS n sn dn K F W S5 kf ff wf stf) (hk : KPM ik kp kn ksn kdn kK kF kW kS kpf)
    (h : (ik = 0 → r = -3 ∧ men2 = nI n ∧ msy2 = nI sn ∧ mdn2 = dn ∧ kf2 = kf ∧ ff2 = ff ∧ wf2 = wf ∧ pf2 = pf ∧ stf2 = stf) ∧ (ik ≠ 0 → r = men2 ∧ PK 0 kp kf2 ff2 wf2 pf2 stf2 men2 msy2 mdn2)) :
    r = rsR ik kn ∧ men2 = nI (rz ik n kn) ∧ msy2 = nI (rz ik sn ksn) ∧ mdn2 = rz ik dn kdn ∧ EVS (rz ik n kn) (rz ik sn ksn) (rz ik dn kdn) (rz ik K kK) (rz ik F kF) (rz ik W kW) (rz ik S5 kS) kf2 ff2 wf2 stf2 ∧ ∀ j, j < 8 → pf2 j = rz ik (pf j) (kpf j) := by
  by_cases z : ik = 0
  · obtain ⟨h1, h2, h3, h4, h6, h7, h8, h9, h10⟩ := h.1 z
    unfold rsR
    simp only [rz0 z]
    rw [if_pos z, h6, h7, h8, h9, h10]
    exact ⟨h1, h2, h3, h4, he, fun j hj => rfl⟩
  · obtain ⟨h1, h2⟩ := h.2 z
    obtain ⟨a, b, c, d, e, p1, p2, p3⟩ := hk z
    obtain ⟨q1, q2, q3, q4, q5⟩ := PK_ev p1 h2 p2
    unfold rsR
    simp only [rz1 z]
    rw [if_neg z]
    exact ⟨h1.trans q3, q3, q4, q5, q1, fun j hj => (q2 j hj).trans (p3 j hj)⟩
/-- got -/
theorem rGot_c {n : Nat} {P P2 : Nat → Int32} {i : Int32} (hn : n ≤ 8) (h : ∀ j, j < 8 → P2 j = P j) : rGot n P2 i = rGot n P i := by
  unfold rGot
  by_cases o : OKI n i
  · obtain ⟨j, h1, h2⟩ := OKI_ix hn o
    rw [if_pos o, if_pos o, h2, nI_clamp (by omega)]
    exact h j (by omega)
  · rw [if_neg o, if_neg o]
/-- the start -/
def SETN (k : Nat) : Nat := if k = 0 ∨ k = 4 then 10 else 0
theorem EVS_0 {kf ff wf : Nat → Int32} : EVS 0 0 0 (fun _ => 0) (fun _ => 0) (fun _ => 0) SETN kf ff wf SET0 := by
  refine ⟨⟨by omega, by decide, by decide, fun j hj => absurd hj (Nat.not_lt_zero j)⟩, fun k hk => ?_, ⟨by decide, by decide, by decide, by decide⟩, Or.inr rfl, Or.inl rfl⟩
  rcases (show k = 0 ∨ k = 1 ∨ k = 2 ∨ k = 3 ∨ k = 4 by omega) with e | e | e | e | e <;> subst e <;> decide
theorem lp_in {i SL : Nat} {x y : Int32} (hL : SL ≤ 320) (hi : i ≤ SL) (hx : x = Int32.ofNat SL) (hy : y = x - 5) (h : ¬ y < nI i) : i + 5 ≤ SL := by
  subst hx; subst hy
  rw [show (Int32.ofNat SL : Int32) = iI (SL : Int) from nI_iI SL, show (5 : Int32) = iI 5 from rfl, iI_sub, nI_iI, iI_lt (by unfold sm; omega) (by unfold sm; omega)] at h
  omega
theorem ALK_c {sf sg : Nat → Int32} {a b c d : Int32} (h1 : sf 1 = sg 1) (h2 : sf 2 = sg 2) (h3 : sf 3 = sg 3) : ALK sf a b c d = ALK sg a b c d := by
  unfold ALK
  rw [h1, h2, h3]
