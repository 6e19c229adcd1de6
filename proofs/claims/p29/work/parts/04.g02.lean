section
/-! 04.base -/
/-- the words of the tables that every state keeps -/
def lw_G : List Cond := lw_tbl.filter goodWord
theorem gw {w : Cond} (h : w ∈ lw_tbl) (hg : goodWord w = true) : w ∈ lw_G := List.mem_filter.mpr ⟨h, hg⟩
/-- a method's words: its own code, and all words of the tables that are kept -/
abbrev wW (y : MethodName) (c : ByteArray) (n : Nat) (r : Option FieldType) : List Cond := Cond.code y c n r :: lw_G
theorem gG {y : MethodName} {c : ByteArray} {n : Nat} {r : Option FieldType} (h : Cond.code y c n r ∈ lw_tbl) : GoodIn lw_G (wW y c n r) := by
  intro w hw
  rcases List.mem_cons.mp hw with rfl | hw
  · exact ⟨gw h rfl, good_of_word rfl⟩
  · exact ⟨hw, good_of_word (List.mem_filter.mp hw).2⟩
theorem va_AOA.moved {t : FieldType} {u U : State} (hvm : u.vm.Alike U.vm) (h : va_AOA t u) : va_AOA t U := by
  have h0 : (Cond.arrayOver (.array t)).holds #[] u none u [] = true := h
  simp only [Cond.holds, Cond.value, beq_iff_eq] at h0
  cases hc : u.vm.findClass (FieldType.array t).toString with
  | none => simp [hc] at h0
  | some comp =>
    simp only [hc, Option.bind_some, Option.bind_eq_some_iff, Option.map_eq_some_iff] at h0
    obtain ⟨c, h2, k, hk, hb⟩ := h0
    obtain ⟨k', hk', he⟩ := hvm.2.2 _ _ hk
    have hi : (U.vm.classes.findIdx? fun (x : Class) => match x.kind with | .array component _ => component == comp | _ => false) = some c := by
      refine (va_idx_bare U.vm comp).symm.trans ?_
      first | rw [hvm.bare_eq] | rw [← hvm.bare_eq]
      exact (va_idx_bare u.vm comp).trans h2
    have hkind : k'.kind = k.kind := by rw [he]
    have f1 : U.vm.findClass (FieldType.array t).toString = some comp := by rw [hvm.findClass]; exact hc
    unfold va_AOA Cond.before Cond.holds
    simp only [Cond.value]
    rw [f1, Option.bind_some]
    refine (congrArg (fun o : Option Nat => (o.bind (fun c => (U.vm.classes[c]?).map fun (k : Class) => match k.kind with | .array _ ty => decide (ty = FieldType.array t) && decide (U.vm.findClass ("[" ++ (FieldType.array t).toString) = some c) | _ => false) == some true)) hi).trans ?_
    have hb2 : (match k.kind with | .array _ ty => decide (ty = FieldType.array t) && decide (U.vm.findClass ("[" ++ (FieldType.array t).toString) = some c) | _ => false) = true := by rw [hvm.findClass]; exact hb
    simp only [Option.bind_some, hk', Option.map_some, hkind]
    rw [hb2]
    rfl
def bx_nest : Cond → Bool
  | .methodLinkNest .. => true
  | .fieldLinkNest .. => true
  | .castable .. => true
  | _ => false
/-- the words that a state keeps as long as it is only warmed -/
def NX (U : State) : Prop := (∀ w ∈ lw_tbl, bx_nest w = true → va_Nw w U) ∧ va_AO "EldestSays$Clever" U ∧ va_AOA .int U
theorem NX.same {u U : State} (h : u.vm = U.vm) (hZ : NX u) : NX U := ⟨fun w hw hb => by
    have h1 := hZ.1 w hw hb
    cases w <;> first | exact absurd hb Bool.false_ne_true | exact va_Nw.same rfl h h1, va_AO.moved (h ▸ Vm.Alike.refl u.vm) hZ.2.1, va_AOA.moved (h ▸ Vm.Alike.refl u.vm) hZ.2.2⟩
theorem NX.warm {s U : State} (hW : s.WarmedH U.vm) (hZ : NX s) : NX U := ⟨fun w hw hb => by
    have h1 := hZ.1 w hw hb
    cases w <;> first | exact absurd hb Bool.false_ne_true | exact va_Nw.warmM hW h1 | exact va_Nw.warmF hW h1 | exact va_Nw.warmC hW h1, va_AO.moved hW.alike hZ.2.1, va_AOA.moved hW.alike hZ.2.2⟩
abbrev classes : List vw_C := [(RX0, TX0, 0), (RX1, TX1, 0), (RX2, TX2, 6), (RX3, TX3, 0), (RX4, TX4, 8), (RX5, TX5, 0), (RX6, TX6, 0), (RX7, TX7, 2), (RX8, TX8, 0), (RX9, TX9, 14), (RX10, TX10, 0), (RX11, TX11, 14), (RX12, TX12, 33)]
/-- the array classes that all worlds speak of -/
abbrev TY (aC : Nat → ClassId) : List (ClassId × FieldType) := [(aC 0, .int), (aC 1, .char), (aC 2, .long), (aC 3, .object "EldestSays$Clever"), (aC 4, .array .int)]
theorem inX0 : ∀ w ∈ u_ws RX0 TX0 0, w ∈ lw_G := by intro w h; simp [u_ws] at h
theorem inX1 : ∀ w ∈ u_ws RX1 TX1 0, w ∈ lw_G := by intro w h; simp [u_ws] at h
theorem inX3 : ∀ w ∈ u_ws RX3 TX3 0, w ∈ lw_G := by intro w h; simp [u_ws] at h
theorem inX5 : ∀ w ∈ u_ws RX5 TX5 0, w ∈ lw_G := by intro w h; simp [u_ws] at h
theorem inX6 : ∀ w ∈ u_ws RX6 TX6 0, w ∈ lw_G := by intro w h; simp [u_ws] at h
theorem inX8 : ∀ w ∈ u_ws RX8 TX8 0, w ∈ lw_G := by intro w h; simp [u_ws] at h
theorem inX10 : ∀ w ∈ u_ws RX10 TX10 0, w ∈ lw_G := by intro w h; simp [u_ws] at h
theorem inX2 : ∀ w ∈ u_ws RX2 TX2 6, w ∈ lw_G := fun w h => gw ((by decide +kernel : ∀ w ∈ u_ws RX2 TX2 6, w ∈ lw_tbl) w h) (List.all_eq_true.mp (by decide +kernel : (u_ws RX2 TX2 6).all goodWord = true) w h)
theorem inX4 : ∀ w ∈ u_ws RX4 TX4 8, w ∈ lw_G := fun w h => gw ((by decide +kernel : ∀ w ∈ u_ws RX4 TX4 8, w ∈ lw_tbl) w h) (List.all_eq_true.mp (by decide +kernel : (u_ws RX4 TX4 8).all goodWord = true) w h)
theorem inX7 : ∀ w ∈ u_ws RX7 TX7 2, w ∈ lw_G := fun w h => gw ((by decide +kernel : ∀ w ∈ u_ws RX7 TX7 2, w ∈ lw_tbl) w h) (List.all_eq_true.mp (by decide +kernel : (u_ws RX7 TX7 2).all goodWord = true) w h)
theorem inX9 : ∀ w ∈ u_ws RX9 TX9 14, w ∈ lw_G := fun w h => gw ((by decide +kernel : ∀ w ∈ u_ws RX9 TX9 14, w ∈ lw_tbl) w h) (List.all_eq_true.mp (by decide +kernel : (u_ws RX9 TX9 14).all goodWord = true) w h)
theorem inX11 : ∀ w ∈ u_ws RX11 TX11 14, w ∈ lw_G := fun w h => gw ((by decide +kernel : ∀ w ∈ u_ws RX11 TX11 14, w ∈ lw_tbl) w h) (List.all_eq_true.mp (by decide +kernel : (u_ws RX11 TX11 14).all goodWord = true) w h)
theorem inX12 : ∀ w ∈ u_ws RX12 TX12 33, w ∈ lw_G := fun w h => gw ((by decide +kernel : ∀ w ∈ u_ws RX12 TX12 33, w ∈ lw_tbl) w h) (List.all_eq_true.mp (by decide +kernel : (u_ws RX12 TX12 33).all goodWord = true) w h)
/-- one array class a type -/
theorem va_K.one {D : va_G} {cl : List vw_C} {tys : List (ClassId × FieldType)} {U : State} (h : va_K D cl tys U) {i j : Nat} {c d : ClassId} {ty : FieldType} (hi : tys[i]? = some (c, ty)) (hj : tys[j]? = some (d, ty)) : c = d := by
  have h1 := (h.2 i _ hi).2
  have h2 := (h.2 j _ hj).2
  cases ty with
  | object C =>
    obtain ⟨_, _, _, _, _, q1⟩ := h1
    obtain ⟨_, _, _, _, _, q2⟩ := h2
    exact Option.some.inj (q1.symm.trans q2)
  | _ => exact Option.some.inj (h1.symm.trans h2)
section NEWA
variable {p : Program} {l : Launch} {e : Env} {R : Room} {s : State} {m : MethodId} {args : Array Value} {below : List Frame} {meth : Method} {c : Code} {H : Heap} {locs : List Loc} {cells slots : Nat} {Q : State → Prop}
variable {cc : ByteArray} {pc : Nat} {ls : Array Slot} {rest : List Value} {D : va_G} {cl : List vw_C} {A : Nat → Prop} {aC : Nat → ClassId} {ws : va_W} {H0 : Heap}
theorem va_newaI (hexec : p.tables.exec = Jvm.exec) (hb : c.code = cc) (harr : (Cond.arrayClass .int).before args s = true) (hK : va_K D cl (TY aC) s) (hP : va_P D cl ws H) (hD : va_D A ws) (hS : va_S A H0 H locs) (hA : ∀ q, H0.size ≤ q → A q)
    {n : Int32} {N' : Nat} {a0 : vp_A} (hn : ¬ n < 0) (hN : n.toNatClampNeg = N') (hbytes : N' * componentBytes .int ≤ 536870912) (hcells : cells + 1 ≤ R.cells) (hslots : slots + N' ≤ R.slots) (hdg : decode cc pc = .ok (.newarray .int, 2)) (ha : a0 = (N', .inl (fun _ => 0)) := by rfl)
    (kk : ∀ (q : Nat) (H1 : Heap), va_P D cl (ws ++ [(q, .inl (aC 0, a0))]) H1 → va_D A (ws ++ [(q, .inl (aC 0, a0))]) → va_S A H0 H1 locs →
      W p l e R s m args below meth c H1 locs (cells + 1) (slots + N') Q (F0 m (pc + 2) ls (.ref q :: rest))) : W p l e R s m args below meth c H locs cells slots Q (F0 m pc ls (.int n :: rest)) := by
  subst ha
  refine va_newa (atype := .int) (ty := .int) hexec hb harr rfl hK hP hD hS hA (a0 := (N', .inl (fun _ => 0))) (fun cA => rfl) hn hN hbytes hcells hslots hdg (fun q cA H1 k1 k2 k3 k4 => ?_)
  have h9 : cA = aC 0 := k1.one (i := 5) (j := 0) rfl rfl
  subst h9
  exact kk q H1 k2 k3 k4
theorem va_newaC (hexec : p.tables.exec = Jvm.exec) (hb : c.code = cc) (harr : (Cond.arrayClass .char).before args s = true) (hK : va_K D cl (TY aC) s) (hP : va_P D cl ws H) (hD : va_D A ws) (hS : va_S A H0 H locs) (hA : ∀ q, H0.size ≤ q → A q)
    {n : Int32} {N' : Nat} {a0 : vp_A} (hn : ¬ n < 0) (hN : n.toNatClampNeg = N') (hbytes : N' * componentBytes .char ≤ 536870912) (hcells : cells + 1 ≤ R.cells) (hslots : slots + N' ≤ R.slots) (hdg : decode cc pc = .ok (.newarray .char, 2)) (ha : a0 = (N', .inl (fun _ => 0)) := by rfl)
    (kk : ∀ (q : Nat) (H1 : Heap), va_P D cl (ws ++ [(q, .inl (aC 1, a0))]) H1 → va_D A (ws ++ [(q, .inl (aC 1, a0))]) → va_S A H0 H1 locs →
      W p l e R s m args below meth c H1 locs (cells + 1) (slots + N') Q (F0 m (pc + 2) ls (.ref q :: rest))) : W p l e R s m args below meth c H locs cells slots Q (F0 m pc ls (.int n :: rest)) := by
  subst ha
  refine va_newa (atype := .char) (ty := .char) hexec hb harr rfl hK hP hD hS hA (a0 := (N', .inl (fun _ => 0))) (fun cA => rfl) hn hN hbytes hcells hslots hdg (fun q cA H1 k1 k2 k3 k4 => ?_)
  have h9 : cA = aC 1 := k1.one (i := 5) (j := 1) rfl rfl
  subst h9
  exact kk q H1 k2 k3 k4
theorem va_newaL (hexec : p.tables.exec = Jvm.exec) (hb : c.code = cc) (harr : (Cond.arrayClass .long).before args s = true) (hK : va_K D cl (TY aC) s) (hP : va_P D cl ws H) (hD : va_D A ws) (hS : va_S A H0 H locs) (hA : ∀ q, H0.size ≤ q → A q)
    {n : Int32} {N' : Nat} {a0 : vp_A} (hn : ¬ n < 0) (hN : n.toNatClampNeg = N') (hbytes : N' * componentBytes .long ≤ 536870912) (hcells : cells + 1 ≤ R.cells) (hslots : slots + N' ≤ R.slots) (hdg : decode cc pc = .ok (.newarray .long, 2)) (ha : a0 = (N', .inr (.inl (fun _ => 0))) := by rfl)
    (kk : ∀ (q : Nat) (H1 : Heap), va_P D cl (ws ++ [(q, .inl (aC 2, a0))]) H1 → va_D A (ws ++ [(q, .inl (aC 2, a0))]) → va_S A H0 H1 locs →
      W p l e R s m args below meth c H1 locs (cells + 1) (slots + N') Q (F0 m (pc + 2) ls (.ref q :: rest))) : W p l e R s m args below meth c H locs cells slots Q (F0 m pc ls (.int n :: rest)) := by
  subst ha
  refine va_newa (atype := .long) (ty := .long) hexec hb harr rfl hK hP hD hS hA (a0 := (N', .inr (.inl (fun _ => 0)))) (fun cA => rfl) hn hN hbytes hcells hslots hdg (fun q cA H1 k1 k2 k3 k4 => ?_)
  have h9 : cA = aC 2 := k1.one (i := 5) (j := 2) rfl rfl
  subst h9
  exact kk q H1 k2 k3 k4
theorem va_newqI (hexec : p.tables.exec = Jvm.exec) (hb : c.code = cc) {own : String} {index : Nat} (hown : s.vm.findClass own = some m.cls) (hclink : (Cond.classLink own index "EldestSays$Clever").before args s = true) (hover : (Cond.arrayOver (.object "EldestSays$Clever")).before args s = true) (hK : va_K D cl (TY aC) s) (hP : va_P D cl ws H) (hD : va_D A ws) (hS : va_S A H0 H locs) (hA : ∀ q, H0.size ≤ q → A q)
    {n : Int32} {N' : Nat} (hn : ¬ n < 0) (hN : n.toNatClampNeg = N') (hbytes : N' * 4 ≤ 536870912) (hcells : cells + 1 ≤ R.cells) (hslots : slots + N' ≤ R.slots) (hdg : decode cc pc = .ok (.anewarray index, 3))
    (kk : ∀ (q : Nat) (H1 : Heap), va_P D cl (ws ++ [(q, .inl (aC 3, N', .inr (.inr (.inr (.inr (fun _ => none))))))]) H1 → va_D A (ws ++ [(q, .inl (aC 3, N', .inr (.inr (.inr (.inr (fun _ => none))))))]) → va_S A H0 H1 locs →
      W p l e R s m args below meth c H1 locs (cells + 1) (slots + N') Q (F0 m (pc + 3) ls (.ref q :: rest))) : W p l e R s m args below meth c H locs cells slots Q (F0 m pc ls (.int n :: rest)) := by
  refine va_newq hexec hb hown hclink (va_AO.of hover) hK hP hD hS hA hn hN hbytes hcells hslots hdg (fun q cA H1 k1 k2 k3 k4 => ?_)
  have h9 : cA = aC 3 := k1.one (i := 5) (j := 3) rfl rfl
  subst h9
  exact kk q H1 k2 k3 k4
theorem va_mnaI {X : va_W} (hexec : p.tables.exec = Jvm.exec) (hb : c.code = cc) {own : String} {index : Nat} (hown : s.vm.findClass own = some m.cls) (hclink : (Cond.classLink own index ("[" ++ (FieldType.array .int).toString)).before args s = true) (hover : (Cond.arrayOver (.array .int)).before args s = true) (harr : (Cond.arrayClass .int).before args s = true)
    (hK : va_K D cl (TY aC) s) (hP : va_P D cl X H) (hD : va_D A X) (hS : va_S A H0 H locs) (hA : ∀ q, H0.size ≤ q → A q) {n k : Int32} {N' K' : Nat} (hn : ¬ n < 0) (hk : ¬ k < 0) (hN : n.toNatClampNeg = N') (hM : k.toNatClampNeg = K')
    (hb1 : N' * 4 ≤ 536870912) (hb2 : K' * componentBytes .int ≤ 536870912) (hb3 : K' ≤ 536870912) (hcells : cells + (1 + N') ≤ R.cells) (hslots : slots + (N' + N' * K') ≤ R.slots) (hdg : decode cc pc = .ok (.multianewarray index 2, 4))
    (kk : ∀ (q : Nat) (r : Nat → Nat) (H1 : Heap), (∀ i j : Nat, i < N' → j < N' → r i = r j → i = j) →
      va_P D cl (X ++ [(q, .inl (aC 4, N', .inr (.inr (.inr (.inr (fun i => if i < N' then some (r i) else none))))))]) H1 → va_D A (X ++ [(q, .inl (aC 4, N', .inr (.inr (.inr (.inr (fun i => if i < N' then some (r i) else none))))))]) → va_S A H0 H1 locs →
      W p l e R s m args below meth c H1 locs (cells + 1 + N') (slots + N' + N' * K') Q (F0 m (pc + 4) ls (.ref q :: rest))) : W p l e R s m args below meth c H locs cells slots Q (F0 m pc ls (.int k :: .int n :: rest)) := by
  have hcy : s.vm.findClass (FieldType.array .int).toString = some (aC 0) := (hK.2 0 _ rfl).2
  refine va_mna (X := X) (L := []) (f := fun _ => .inr (0, [])) (z := (K', .inl (fun _ => 0))) (ty := .int) hexec hb hown hclink hover harr hcy hK (by simpa [va_pl] using hP) (by simpa [va_pl] using hD) hS hA hn hk hN hM hb1 hb2 hb3 rfl rfl hcells hslots (fun c => by show _ = arrV c K' (fun _ => .int 0); rw [← arrV_new]; rfl) hdg (fun q r cA H1 k0 _ k1 k2 k3 k4 => ?_)
  have h9 : cA = aC 4 := k1.one (i := 5) (j := 4) rfl rfl
  subst h9
  refine kk q r H1 k0 (fun k x hx => k2 k x ?_) ⟨fun i j p q hi hj => k3.1 i j p q ?_ ?_, fun k x hx => k3.2 k x ?_⟩ k4
  · rw [List.getElem?_append_left (List.getElem?_eq_some_iff.mp hx).1]; exact hx
  · rw [List.getElem?_append_left (List.getElem?_eq_some_iff.mp hi).1]; exact hi
  · rw [List.getElem?_append_left (List.getElem?_eq_some_iff.mp hj).1]; exact hj
  · rw [List.getElem?_append_left (List.getElem?_eq_some_iff.mp hx).1]; exact hx
end NEWA
theorem sw_out3 {x : Int32} (h0 : ¬ x = 0) (h1 : ¬ x = 1) (h2 : ¬ x = 2) : x.toInt < 0 ∨ 2 < x.toInt := by
  have e0 := lv_neT h0 (a := 0) rfl
  have e1 := lv_neT h1 (a := 1) rfl
  have e2 := lv_neT h2 (a := 2) rfl
  omega
theorem sw_out7 {x : Int32} (h0 : ¬ x = 0) (h1 : ¬ x = 1) (h2 : ¬ x = 2) (h3 : ¬ x = 3) (h4 : ¬ x = 4) (h5 : ¬ x = 5) (h6 : ¬ x = 6) : x.toInt < 0 ∨ 6 < x.toInt := by
  have e0 := lv_neT h0 (a := 0) rfl
  have e1 := lv_neT h1 (a := 1) rfl
  have e2 := lv_neT h2 (a := 2) rfl
  have e3 := lv_neT h3 (a := 3) rfl
  have e4 := lv_neT h4 (a := 4) rfl
  have e5 := lv_neT h5 (a := 5) rfl
  have e6 := lv_neT h6 (a := 6) rfl
  omega
abbrev cI (aC : Nat → ClassId) (a n : Nat) (f : Nat → Int32) : Nat × va_E := (a, .inl (aC 0, n, .inl f))
abbrev cC (aC : Nat → ClassId) (a n : Nat) (f : Nat → Int32) : Nat × va_E := (a, .inl (aC 1, n, .inl f))
abbrev cL (aC : Nat → ClassId) (a n : Nat) (f : Nat → Int64) : Nat × va_E := (a, .inl (aC 2, n, .inr (.inl f)))
abbrev cK (aC : Nat → ClassId) (a n : Nat) (f : Nat → Option Nat) : Nat × va_E := (a, .inl (aC 3, n, .inr (.inr (.inr (.inr f)))))
abbrev cA (aC : Nat → ClassId) (a n : Nat) (f : Nat → Option Nat) : Nat × va_E := (a, .inl (aC 4, n, .inr (.inr (.inr (.inr f)))))
abbrev cO (a ci : Nat) (fs : List Value) : Nat × va_E := (a, .inr (ci, fs))
abbrev oX2 (a : Nat) (f0 : Nat) (f1 : Nat) (f2 : Nat) (f3 : Nat) (f4 : Int32) (f5 : Int32) : Nat × va_E := (a, .inr (2, [.ref f0, .ref f1, .ref f2, .ref f3, .int f4, .int f5]))
abbrev oX4 (a : Nat) (f0 : Nat) (f1 : Nat) (f2 : Nat) (f3 : Nat) (f4 : Nat) (f5 : Int32) (f6 : Int32) (f7 : Int32) : Nat × va_E := (a, .inr (4, [.ref f0, .ref f1, .ref f2, .ref f3, .ref f4, .int f5, .int f6, .int f7]))
abbrev oX7 (a : Nat) (f0 : Int32) (f1 : Nat) : Nat × va_E := (a, .inr (7, [.int f0, .ref f1]))
abbrev oX9 (a : Nat) (f0 : Nat) (f1 : Nat) (f2 : Nat) (f3 : Nat) (f4 : Nat) (f5 : Nat) (f6 : Nat) (f7 : Nat) (f8 : Nat) (f9 : Nat) (f10 : Nat) (f11 : Nat) (f12 : Int32) (f13 : Int32) : Nat × va_E := (a, .inr (9, [.ref f0, .ref f1, .ref f2, .ref f3, .ref f4, .ref f5, .ref f6, .ref f7, .ref f8, .ref f9, .ref f10, .ref f11, .int f12, .int f13]))
abbrev oX11 (a : Nat) (f0 : Nat) (f1 : Nat) (f2 : Nat) (f3 : Nat) (f4 : Nat) (f5 : Nat) (f6 : Nat) (f7 : Nat) (f8 : Nat) (f9 : Nat) (f10 : Nat) (f11 : Int32) (f12 : Int32) (f13 : Int32) : Nat × va_E := (a, .inr (11, [.ref f0, .ref f1, .ref f2, .ref f3, .ref f4, .ref f5, .ref f6, .ref f7, .ref f8, .ref f9, .ref f10, .int f11, .int f12, .int f13]))
abbrev oX12 (a : Nat) (f0 : Nat) (f1 : Nat) (f2 : Nat) (f3 : Nat) (f4 : Nat) (f5 : Nat) (f6 : Int32) (f7 : Int32) (f8 : Int32) (f9 : Nat) (f10 : Nat) (f11 : Nat) (f12 : Nat) (f13 : Int32) (f14 : Int32) (f15 : Int32) (f16 : Nat) (f17 : Int32) (f18 : Int32) (f19 : Int32) (f20 : Nat) (f21 : Nat) (f22 : Nat) (f23 : Nat) (f24 : Nat) (f25 : Nat) (f26 : Nat) (f27 : Nat) (f28 : Int32) (f29 : Nat) (f30 : Nat) (f31 : Nat) (f32 : Nat) : Nat × va_E := (a, .inr (12, [.ref f0, .ref f1, .ref f2, .ref f3, .ref f4, .ref f5, .int f6, .int f7, .int f8, .ref f9, .ref f10, .ref f11, .ref f12, .int f13, .int f14, .int f15, .ref f16, .int f17, .int f18, .int f19, .ref f20, .ref f21, .ref f22, .ref f23, .ref f24, .ref f25, .ref f26, .ref f27, .int f28, .ref f29, .ref f30, .ref f31, .ref f32]))
/-- what a world's cells hold, and that they lie apart -/
abbrev PDx (D : va_G) (cl : List vw_C) (A : Nat → Prop) (H : Heap) (w : va_W) : Prop := va_P D cl w H ∧ va_D A w
theorem fm_of {α β : Type} {f : α → Option β} : ∀ {is : List α} {w : List β}, is.map f = w.map some → is.filterMap f = w
  | [], w, h => by
    cases w with
    | nil => rfl
    | cons a t => simp at h
  | i :: is, w, h => by
    cases w with
    | nil => simp at h
    | cons a t =>
      simp only [List.map_cons, List.cons.injEq] at h
      rw [List.filterMap_cons_some h.1, fm_of h.2]
theorem pdf_N {D : va_G} {cl : List vw_C} {A0 : Nat → Prop} {ws cx : va_W} {H0 H : Heap} {locs : List Loc} (hP : va_P D cl ws H) (hD : va_D A0 ws) (hS : va_S A0 H0 H locs) (hA : ∀ q, H0.size ≤ q → A0 q) (is : List Nat) (hn : va_nd is = true) (hs : is.map (fun i => ws[i]?) = cx.map some) : va_P D cl cx H ∧ va_D A0 cx ∧ ∀ q, va_A cx H.size q → A0 q :=
  ⟨hP.sub is (fm_of hs), hD.sub is hn hs, va_free hD hS hA is hs⟩
theorem pd_N {D : va_G} {cl : List vw_C} {A0 : Nat → Prop} {ws cx : va_W} {H : Heap} (hP : va_P D cl ws H) (hD : va_D A0 ws) (is : List Nat) (hn : va_nd is = true) (hs : is.map (fun i => ws[i]?) = cx.map some) : va_P D cl cx H ∧ va_D A0 cx :=
  ⟨hP.sub is (fm_of hs), hD.sub is hn hs⟩
theorem jn_N {A0 : Nat → Prop} {D : va_G} {cl : List vw_C} {ws wc wr w1 : va_W} {H H1 : Heap} (hF : ∀ q, va_A wc H.size q → A0 q) (hk : ∀ q : Nat, q < H.size → ¬ va_A wc H.size q → H1[q]? = H[q]?) (hP1 : va_P D cl w1 H1) (hD1 : va_D (va_A wc H.size) w1) (hP : va_P D cl ws H) (hD : va_D A0 ws) (isC isR : List Nat) (hC : isC.map (fun i => ws[i]?) = wc.map some) (hR : isR.map (fun i => ws[i]?) = wr.map some) (hn : va_nd isR = true) (hdis : ∀ i ∈ isR, i ∉ isC) : va_P D cl (wr ++ w1) H1 ∧ va_D A0 (wr ++ w1) :=
  va_join hP hD isC isR hC hR hn hdis hk hF hP1 hD1
/-- what every contract begins with doesn't see the frame; and how it is met at a call -/
theorem fb_std {av : List Value} {sz : Nat} {D : va_G} {cl : List vw_C} {tys : List (ClassId × FieldType)} {w : va_W} : FrameBlind (va_Pc av (fun U => U.heap.size = sz ∧ va_P D cl w U.heap ∧ va_K D cl tys U ∧ va_D (fun _ => True) w ∧ NX U)) := fun a U g mk q => by
  obtain ⟨q0, q1, qP, qK, qD, qN⟩ := q
  exact ⟨q0, q1, qP, va_K.moved (u := U) (U := U.calling g mk a) (Vm.Alike.refl U.vm) qK, qD, NX.same (u := U) (U := U.calling g mk a) rfl qN⟩
theorem pre_std {av : List Value} {D : va_G} {cl : List vw_C} {tys : List (ClassId × FieldType)} {w : va_W} {A : Nat → Prop} {H : Heap} {s : State} (hPc : va_P D cl w H) (hK : va_K D cl tys s) (hDc : va_D A w) (hN : NX s) : ∀ U : State, U.heap = H → s.WarmedH U.vm → va_Pc av (fun U => U.heap.size = H.size ∧ va_P D cl w U.heap ∧ va_K D cl tys U ∧ va_D (fun _ => True) w ∧ NX U) av.toArray U := fun U hU hW =>
  ⟨rfl, by rw [hU], by rw [hU]; exact hPc, va_K.moved hW.alike hK, hDc.weaken (fun _ _ _ _ => trivial), NX.warm hW hN⟩

end

section
/-! 05.a -/
/-- a byte of the code -/
def bq (c : ByteArray) (p : Nat) : Option Nat := if h : p < c.size then some c[p].toNat else none
theorem u1_bq {c : ByteArray} {p b : Nat} (h : bq c p = some b) : (Reader.u1 : Decoder Nat) c p = .ok (b, p + 1) := by
  unfold bq at h
  by_cases hp : p < c.size
  · rw [dif_pos hp] at h
    have h2 := Option.some.inj h
    subst h2
    show ((if h : p < c.size then (do set (p + 1); Pure.pure c[p].toNat) else throw (HasTruncated.truncated p)) : Decoder Nat) c p = _
    rw [dif_pos hp]
    rfl
  · rw [dif_neg hp] at h
    exact absurd h (by simp)
theorem rd_bind {α β : Type} (x : Decoder α) (f : α → Decoder β) {c : ByteArray} {p q : Nat} {a : α} (h : x c p = .ok (a, q)) : (x >>= f) c p = f a c q := by
  show (do let (a, s) ← x c p; f a c s : Except DecodeError (β × Nat)) = _
  rw [h]
  rfl
theorem rd_map {α β : Type} (x : Decoder α) (f : α → β) {c : ByteArray} {p q : Nat} {a : α} (h : x c p = .ok (a, q)) : (f <$> x : Decoder β) c p = .ok (f a, q) := by
  show (do let (a, s) ← x c p; Pure.pure (f a, s) : Except DecodeError (β × Nat)) = _
  rw [h]
  rfl
theorem u2_bq {c : ByteArray} {p x y : Nat} (h : bq c p = some x) (h1 : bq c (p + 1) = some y) : (Reader.u2 : Decoder Nat) c p = .ok (x * 256 + y, p + 2) := (rd_bind Reader.u1 _ (u1_bq h)).trans (rd_bind Reader.u1 _ (u1_bq h1))
theorem s1_bq {c : ByteArray} {p x : Nat} (h : bq c p = some x) : (Reader.s1 : Decoder Int) c p = .ok (Reader.signed 8 x, p + 1) := rd_map Reader.u1 _ (u1_bq h)
theorem s2_bq {c : ByteArray} {p x y : Nat} (h : bq c p = some x) (h1 : bq c (p + 1) = some y) : (Reader.s2 : Decoder Int) c p = .ok (Reader.signed 16 (x * 256 + y), p + 2) := rd_map Reader.u2 _ (u2_bq h h1)
theorem dec_of {c : ByteArray} {pc n : Nat} {i : Instr} (e : (Decoder.instr pc) c pc = .ok (i, pc + n)) : decode c pc = .ok (i, n) := by
  show (do let (i, nx) ← (Decoder.instr pc) c pc; Pure.pure (i, nx - pc) : Except DecodeError (Instr × Nat)) = _
  rw [e]
  show Except.ok (i, pc + n - pc) = _
  rw [Nat.add_sub_cancel_left]
def bys (c : ByteArray) : List Nat := c.data.toList.map (fun x => x.toNat)
theorem bl_at {c : ByteArray} {d : Nat} {L : List Nat} (hL : ((bys c).drop d).take 32 = L) (k : Nat) {b : Nat} (h : L[k]? = some b) : bq c (d + k) = some b := by
  rw [← hL, List.getElem?_take] at h
  have h2 : ((bys c).drop d)[k]? = some b := by
    split at h
    · exact h
    · exact absurd h (by simp)
  rw [List.getElem?_drop] at h2
  unfold bys at h2
  rw [List.getElem?_map] at h2
  unfold bq
  have h3 : d + k < c.data.toList.length := by
    rcases Nat.lt_or_ge (d + k) c.data.toList.length with q | q
    · exact q
    · rw [List.getElem?_eq_none q] at h2; exact absurd h2 (by simp)
  rw [List.getElem?_eq_getElem h3] at h2
  have h4 : d + k < c.size := h3
  rw [dif_pos h4]
  exact h2
set_option maxRecDepth 20000 in
theorem op_2 {c : ByteArray} {pc : Nat} (h : bq c pc = some 2) : decode c pc = .ok (.iconst (-1), 1) :=
  dec_of (i := .iconst (-1)) (n := 1) (rd_bind Reader.u1 _ (u1_bq h))
set_option maxRecDepth 20000 in
theorem op_3 {c : ByteArray} {pc : Nat} (h : bq c pc = some 3) : decode c pc = .ok (.iconst 0, 1) :=
  dec_of (i := .iconst 0) (n := 1) (rd_bind Reader.u1 _ (u1_bq h))
set_option maxRecDepth 20000 in
theorem op_4 {c : ByteArray} {pc : Nat} (h : bq c pc = some 4) : decode c pc = .ok (.iconst 1, 1) :=
  dec_of (i := .iconst 1) (n := 1) (rd_bind Reader.u1 _ (u1_bq h))
set_option maxRecDepth 20000 in
theorem op_5 {c : ByteArray} {pc : Nat} (h : bq c pc = some 5) : decode c pc = .ok (.iconst 2, 1) :=
  dec_of (i := .iconst 2) (n := 1) (rd_bind Reader.u1 _ (u1_bq h))
set_option maxRecDepth 20000 in
theorem op_6 {c : ByteArray} {pc : Nat} (h : bq c pc = some 6) : decode c pc = .ok (.iconst 3, 1) :=
  dec_of (i := .iconst 3) (n := 1) (rd_bind Reader.u1 _ (u1_bq h))
set_option maxRecDepth 20000 in
theorem op_7 {c : ByteArray} {pc : Nat} (h : bq c pc = some 7) : decode c pc = .ok (.iconst 4, 1) :=
  dec_of (i := .iconst 4) (n := 1) (rd_bind Reader.u1 _ (u1_bq h))
set_option maxRecDepth 20000 in
theorem op_8 {c : ByteArray} {pc : Nat} (h : bq c pc = some 8) : decode c pc = .ok (.iconst 5, 1) :=
  dec_of (i := .iconst 5) (n := 1) (rd_bind Reader.u1 _ (u1_bq h))
set_option maxRecDepth 20000 in
theorem op_9 {c : ByteArray} {pc : Nat} (h : bq c pc = some 9) : decode c pc = .ok (.lconst 0, 1) :=
  dec_of (i := .lconst 0) (n := 1) (rd_bind Reader.u1 _ (u1_bq h))
set_option maxRecDepth 20000 in
theorem op_10 {c : ByteArray} {pc : Nat} (h : bq c pc = some 10) : decode c pc = .ok (.lconst 1, 1) :=
  dec_of (i := .lconst 1) (n := 1) (rd_bind Reader.u1 _ (u1_bq h))
set_option maxRecDepth 20000 in
theorem op_16 {c : ByteArray} {pc x : Nat} (h : bq c pc = some 16) (h1 : bq c (pc + 1) = some x) : decode c pc = .ok (.bipush (Reader.signed 8 x), 2) :=
  dec_of (i := .bipush (Reader.signed 8 x)) (n := 2) ((rd_bind Reader.u1 _ (u1_bq h)).trans (rd_bind Reader.s1 _ (s1_bq h1)))
set_option maxRecDepth 20000 in
theorem op_17 {c : ByteArray} {pc x y : Nat} (h : bq c pc = some 17) (h1 : bq c (pc + 1) = some x) (h2 : bq c (pc + 2) = some y) : decode c pc = .ok (.sipush (Reader.signed 16 (x * 256 + y)), 3) :=
  dec_of (i := .sipush (Reader.signed 16 (x * 256 + y))) (n := 3) ((rd_bind Reader.u1 _ (u1_bq h)).trans (rd_bind Reader.s2 _ (s2_bq h1 h2)))
set_option maxRecDepth 20000 in
theorem op_18 {c : ByteArray} {pc x : Nat} (h : bq c pc = some 18) (h1 : bq c (pc + 1) = some x) : decode c pc = .ok (.ldc x, 2) :=
  dec_of (i := .ldc x) (n := 2) ((rd_bind Reader.u1 _ (u1_bq h)).trans (rd_bind Reader.u1 _ (u1_bq h1)))
set_option maxRecDepth 20000 in
theorem op_19 {c : ByteArray} {pc x y : Nat} (h : bq c pc = some 19) (h1 : bq c (pc + 1) = some x) (h2 : bq c (pc + 2) = some y) : decode c pc = .ok (.ldc_w (x * 256 + y), 3) :=
  dec_of (i := .ldc_w (x * 256 + y)) (n := 3) ((rd_bind Reader.u1 _ (u1_bq h)).trans (rd_bind Reader.u2 _ (u2_bq h1 h2)))
set_option maxRecDepth 20000 in
theorem op_20 {c : ByteArray} {pc x y : Nat} (h : bq c pc = some 20) (h1 : bq c (pc + 1) = some x) (h2 : bq c (pc + 2) = some y) : decode c pc = .ok (.ldc2_w (x * 256 + y), 3) :=
  dec_of (i := .ldc2_w (x * 256 + y)) (n := 3) ((rd_bind Reader.u1 _ (u1_bq h)).trans (rd_bind Reader.u2 _ (u2_bq h1 h2)))
set_option maxRecDepth 20000 in
theorem op_21 {c : ByteArray} {pc x : Nat} (h : bq c pc = some 21) (h1 : bq c (pc + 1) = some x) : decode c pc = .ok (.iload x, 2) :=
  dec_of (i := .iload x) (n := 2) ((rd_bind Reader.u1 _ (u1_bq h)).trans (rd_bind Reader.u1 _ (u1_bq h1)))
set_option maxRecDepth 20000 in
theorem op_22 {c : ByteArray} {pc x : Nat} (h : bq c pc = some 22) (h1 : bq c (pc + 1) = some x) : decode c pc = .ok (.lload x, 2) :=
  dec_of (i := .lload x) (n := 2) ((rd_bind Reader.u1 _ (u1_bq h)).trans (rd_bind Reader.u1 _ (u1_bq h1)))
set_option maxRecDepth 20000 in
theorem op_26 {c : ByteArray} {pc : Nat} (h : bq c pc = some 26) : decode c pc = .ok (.iload_n 0, 1) :=
  dec_of (i := .iload_n 0) (n := 1) (rd_bind Reader.u1 _ (u1_bq h))
set_option maxRecDepth 20000 in
theorem op_27 {c : ByteArray} {pc : Nat} (h : bq c pc = some 27) : decode c pc = .ok (.iload_n 1, 1) :=
  dec_of (i := .iload_n 1) (n := 1) (rd_bind Reader.u1 _ (u1_bq h))
set_option maxRecDepth 20000 in
theorem op_28 {c : ByteArray} {pc : Nat} (h : bq c pc = some 28) : decode c pc = .ok (.iload_n 2, 1) :=
  dec_of (i := .iload_n 2) (n := 1) (rd_bind Reader.u1 _ (u1_bq h))
set_option maxRecDepth 20000 in
theorem op_29 {c : ByteArray} {pc : Nat} (h : bq c pc = some 29) : decode c pc = .ok (.iload_n 3, 1) :=
  dec_of (i := .iload_n 3) (n := 1) (rd_bind Reader.u1 _ (u1_bq h))
set_option maxRecDepth 20000 in
theorem op_30 {c : ByteArray} {pc : Nat} (h : bq c pc = some 30) : decode c pc = .ok (.lload_n 0, 1) :=
  dec_of (i := .lload_n 0) (n := 1) (rd_bind Reader.u1 _ (u1_bq h))
set_option maxRecDepth 20000 in
theorem op_31 {c : ByteArray} {pc : Nat} (h : bq c pc = some 31) : decode c pc = .ok (.lload_n 1, 1) :=
  dec_of (i := .lload_n 1) (n := 1) (rd_bind Reader.u1 _ (u1_bq h))
set_option maxRecDepth 20000 in
theorem op_32 {c : ByteArray} {pc : Nat} (h : bq c pc = some 32) : decode c pc = .ok (.lload_n 2, 1) :=
  dec_of (i := .lload_n 2) (n := 1) (rd_bind Reader.u1 _ (u1_bq h))
set_option maxRecDepth 20000 in
theorem op_33 {c : ByteArray} {pc : Nat} (h : bq c pc = some 33) : decode c pc = .ok (.lload_n 3, 1) :=
  dec_of (i := .lload_n 3) (n := 1) (rd_bind Reader.u1 _ (u1_bq h))
set_option maxRecDepth 20000 in
theorem op_42 {c : ByteArray} {pc : Nat} (h : bq c pc = some 42) : decode c pc = .ok (.aload_n 0, 1) :=
  dec_of (i := .aload_n 0) (n := 1) (rd_bind Reader.u1 _ (u1_bq h))
set_option maxRecDepth 20000 in
theorem op_43 {c : ByteArray} {pc : Nat} (h : bq c pc = some 43) : decode c pc = .ok (.aload_n 1, 1) :=
  dec_of (i := .aload_n 1) (n := 1) (rd_bind Reader.u1 _ (u1_bq h))
set_option maxRecDepth 20000 in
theorem op_44 {c : ByteArray} {pc : Nat} (h : bq c pc = some 44) : decode c pc = .ok (.aload_n 2, 1) :=
  dec_of (i := .aload_n 2) (n := 1) (rd_bind Reader.u1 _ (u1_bq h))
set_option maxRecDepth 20000 in
theorem op_45 {c : ByteArray} {pc : Nat} (h : bq c pc = some 45) : decode c pc = .ok (.aload_n 3, 1) :=
  dec_of (i := .aload_n 3) (n := 1) (rd_bind Reader.u1 _ (u1_bq h))
set_option maxRecDepth 20000 in
theorem op_46 {c : ByteArray} {pc : Nat} (h : bq c pc = some 46) : decode c pc = .ok (.iaload, 1) :=
  dec_of (i := .iaload) (n := 1) (rd_bind Reader.u1 _ (u1_bq h))
set_option maxRecDepth 20000 in
theorem op_47 {c : ByteArray} {pc : Nat} (h : bq c pc = some 47) : decode c pc = .ok (.laload, 1) :=
  dec_of (i := .laload) (n := 1) (rd_bind Reader.u1 _ (u1_bq h))
set_option maxRecDepth 20000 in
theorem op_50 {c : ByteArray} {pc : Nat} (h : bq c pc = some 50) : decode c pc = .ok (.aaload, 1) :=
  dec_of (i := .aaload) (n := 1) (rd_bind Reader.u1 _ (u1_bq h))
set_option maxRecDepth 20000 in
theorem op_52 {c : ByteArray} {pc : Nat} (h : bq c pc = some 52) : decode c pc = .ok (.caload, 1) :=
  dec_of (i := .caload) (n := 1) (rd_bind Reader.u1 _ (u1_bq h))
set_option maxRecDepth 20000 in
theorem op_54 {c : ByteArray} {pc x : Nat} (h : bq c pc = some 54) (h1 : bq c (pc + 1) = some x) : decode c pc = .ok (.istore x, 2) :=
  dec_of (i := .istore x) (n := 2) ((rd_bind Reader.u1 _ (u1_bq h)).trans (rd_bind Reader.u1 _ (u1_bq h1)))
set_option maxRecDepth 20000 in
theorem op_55 {c : ByteArray} {pc x : Nat} (h : bq c pc = some 55) (h1 : bq c (pc + 1) = some x) : decode c pc = .ok (.lstore x, 2) :=
  dec_of (i := .lstore x) (n := 2) ((rd_bind Reader.u1 _ (u1_bq h)).trans (rd_bind Reader.u1 _ (u1_bq h1)))
set_option maxRecDepth 20000 in
theorem op_59 {c : ByteArray} {pc : Nat} (h : bq c pc = some 59) : decode c pc = .ok (.istore_n 0, 1) :=
  dec_of (i := .istore_n 0) (n := 1) (rd_bind Reader.u1 _ (u1_bq h))
set_option maxRecDepth 20000 in
theorem op_60 {c : ByteArray} {pc : Nat} (h : bq c pc = some 60) : decode c pc = .ok (.istore_n 1, 1) :=
  dec_of (i := .istore_n 1) (n := 1) (rd_bind Reader.u1 _ (u1_bq h))
set_option maxRecDepth 20000 in
theorem op_61 {c : ByteArray} {pc : Nat} (h : bq c pc = some 61) : decode c pc = .ok (.istore_n 2, 1) :=
  dec_of (i := .istore_n 2) (n := 1) (rd_bind Reader.u1 _ (u1_bq h))
set_option maxRecDepth 20000 in
theorem op_62 {c : ByteArray} {pc : Nat} (h : bq c pc = some 62) : decode c pc = .ok (.istore_n 3, 1) :=
  dec_of (i := .istore_n 3) (n := 1) (rd_bind Reader.u1 _ (u1_bq h))
set_option maxRecDepth 20000 in
theorem op_65 {c : ByteArray} {pc : Nat} (h : bq c pc = some 65) : decode c pc = .ok (.lstore_n 2, 1) :=
  dec_of (i := .lstore_n 2) (n := 1) (rd_bind Reader.u1 _ (u1_bq h))
set_option maxRecDepth 20000 in
theorem op_66 {c : ByteArray} {pc : Nat} (h : bq c pc = some 66) : decode c pc = .ok (.lstore_n 3, 1) :=
  dec_of (i := .lstore_n 3) (n := 1) (rd_bind Reader.u1 _ (u1_bq h))
set_option maxRecDepth 20000 in
theorem op_76 {c : ByteArray} {pc : Nat} (h : bq c pc = some 76) : decode c pc = .ok (.astore_n 1, 1) :=
  dec_of (i := .astore_n 1) (n := 1) (rd_bind Reader.u1 _ (u1_bq h))
set_option maxRecDepth 20000 in
theorem op_77 {c : ByteArray} {pc : Nat} (h : bq c pc = some 77) : decode c pc = .ok (.astore_n 2, 1) :=
  dec_of (i := .astore_n 2) (n := 1) (rd_bind Reader.u1 _ (u1_bq h))
set_option maxRecDepth 20000 in
theorem op_79 {c : ByteArray} {pc : Nat} (h : bq c pc = some 79) : decode c pc = .ok (.iastore, 1) :=
  dec_of (i := .iastore) (n := 1) (rd_bind Reader.u1 _ (u1_bq h))
set_option maxRecDepth 20000 in
theorem op_80 {c : ByteArray} {pc : Nat} (h : bq c pc = some 80) : decode c pc = .ok (.lastore, 1) :=
  dec_of (i := .lastore) (n := 1) (rd_bind Reader.u1 _ (u1_bq h))
set_option maxRecDepth 20000 in
theorem op_83 {c : ByteArray} {pc : Nat} (h : bq c pc = some 83) : decode c pc = .ok (.aastore, 1) :=
  dec_of (i := .aastore) (n := 1) (rd_bind Reader.u1 _ (u1_bq h))
set_option maxRecDepth 20000 in
theorem op_85 {c : ByteArray} {pc : Nat} (h : bq c pc = some 85) : decode c pc = .ok (.castore, 1) :=
  dec_of (i := .castore) (n := 1) (rd_bind Reader.u1 _ (u1_bq h))
set_option maxRecDepth 20000 in
theorem op_87 {c : ByteArray} {pc : Nat} (h : bq c pc = some 87) : decode c pc = .ok (.pop, 1) :=
  dec_of (i := .pop) (n := 1) (rd_bind Reader.u1 _ (u1_bq h))
set_option maxRecDepth 20000 in
theorem op_88 {c : ByteArray} {pc : Nat} (h : bq c pc = some 88) : decode c pc = .ok (.pop2, 1) :=
  dec_of (i := .pop2) (n := 1) (rd_bind Reader.u1 _ (u1_bq h))
set_option maxRecDepth 20000 in
theorem op_89 {c : ByteArray} {pc : Nat} (h : bq c pc = some 89) : decode c pc = .ok (.dup, 1) :=
  dec_of (i := .dup) (n := 1) (rd_bind Reader.u1 _ (u1_bq h))
set_option maxRecDepth 20000 in
theorem op_92 {c : ByteArray} {pc : Nat} (h : bq c pc = some 92) : decode c pc = .ok (.dup2, 1) :=
  dec_of (i := .dup2) (n := 1) (rd_bind Reader.u1 _ (u1_bq h))
set_option maxRecDepth 20000 in
theorem op_96 {c : ByteArray} {pc : Nat} (h : bq c pc = some 96) : decode c pc = .ok (.iadd, 1) :=
  dec_of (i := .iadd) (n := 1) (rd_bind Reader.u1 _ (u1_bq h))
set_option maxRecDepth 20000 in
theorem op_97 {c : ByteArray} {pc : Nat} (h : bq c pc = some 97) : decode c pc = .ok (.ladd, 1) :=
  dec_of (i := .ladd) (n := 1) (rd_bind Reader.u1 _ (u1_bq h))
set_option maxRecDepth 20000 in
theorem op_100 {c : ByteArray} {pc : Nat} (h : bq c pc = some 100) : decode c pc = .ok (.isub, 1) :=
  dec_of (i := .isub) (n := 1) (rd_bind Reader.u1 _ (u1_bq h))
set_option maxRecDepth 20000 in
theorem op_101 {c : ByteArray} {pc : Nat} (h : bq c pc = some 101) : decode c pc = .ok (.lsub, 1) :=
  dec_of (i := .lsub) (n := 1) (rd_bind Reader.u1 _ (u1_bq h))
set_option maxRecDepth 20000 in
theorem op_104 {c : ByteArray} {pc : Nat} (h : bq c pc = some 104) : decode c pc = .ok (.imul, 1) :=
  dec_of (i := .imul) (n := 1) (rd_bind Reader.u1 _ (u1_bq h))
set_option maxRecDepth 20000 in
theorem op_105 {c : ByteArray} {pc : Nat} (h : bq c pc = some 105) : decode c pc = .ok (.lmul, 1) :=
  dec_of (i := .lmul) (n := 1) (rd_bind Reader.u1 _ (u1_bq h))
set_option maxRecDepth 20000 in
theorem op_108 {c : ByteArray} {pc : Nat} (h : bq c pc = some 108) : decode c pc = .ok (.idiv, 1) :=
  dec_of (i := .idiv) (n := 1) (rd_bind Reader.u1 _ (u1_bq h))
set_option maxRecDepth 20000 in
theorem op_109 {c : ByteArray} {pc : Nat} (h : bq c pc = some 109) : decode c pc = .ok (.ldiv, 1) :=
  dec_of (i := .ldiv) (n := 1) (rd_bind Reader.u1 _ (u1_bq h))
set_option maxRecDepth 20000 in
theorem op_112 {c : ByteArray} {pc : Nat} (h : bq c pc = some 112) : decode c pc = .ok (.irem, 1) :=
  dec_of (i := .irem) (n := 1) (rd_bind Reader.u1 _ (u1_bq h))
set_option maxRecDepth 20000 in
theorem op_113 {c : ByteArray} {pc : Nat} (h : bq c pc = some 113) : decode c pc = .ok (.lrem, 1) :=
  dec_of (i := .lrem) (n := 1) (rd_bind Reader.u1 _ (u1_bq h))
set_option maxRecDepth 20000 in
theorem op_116 {c : ByteArray} {pc : Nat} (h : bq c pc = some 116) : decode c pc = .ok (.ineg, 1) :=
  dec_of (i := .ineg) (n := 1) (rd_bind Reader.u1 _ (u1_bq h))
set_option maxRecDepth 20000 in
theorem op_120 {c : ByteArray} {pc : Nat} (h : bq c pc = some 120) : decode c pc = .ok (.ishl, 1) :=
  dec_of (i := .ishl) (n := 1) (rd_bind Reader.u1 _ (u1_bq h))
set_option maxRecDepth 20000 in
theorem op_122 {c : ByteArray} {pc : Nat} (h : bq c pc = some 122) : decode c pc = .ok (.ishr, 1) :=
  dec_of (i := .ishr) (n := 1) (rd_bind Reader.u1 _ (u1_bq h))
set_option maxRecDepth 20000 in
theorem op_124 {c : ByteArray} {pc : Nat} (h : bq c pc = some 124) : decode c pc = .ok (.iushr, 1) :=
  dec_of (i := .iushr) (n := 1) (rd_bind Reader.u1 _ (u1_bq h))
set_option maxRecDepth 20000 in
theorem op_126 {c : ByteArray} {pc : Nat} (h : bq c pc = some 126) : decode c pc = .ok (.iand, 1) :=
  dec_of (i := .iand) (n := 1) (rd_bind Reader.u1 _ (u1_bq h))
set_option maxRecDepth 20000 in
theorem op_128 {c : ByteArray} {pc : Nat} (h : bq c pc = some 128) : decode c pc = .ok (.ior, 1) :=
  dec_of (i := .ior) (n := 1) (rd_bind Reader.u1 _ (u1_bq h))
set_option maxRecDepth 20000 in
theorem op_130 {c : ByteArray} {pc : Nat} (h : bq c pc = some 130) : decode c pc = .ok (.ixor, 1) :=
  dec_of (i := .ixor) (n := 1) (rd_bind Reader.u1 _ (u1_bq h))
set_option maxRecDepth 20000 in
theorem op_132 {c : ByteArray} {pc x y : Nat} (h : bq c pc = some 132) (h1 : bq c (pc + 1) = some x) (h2 : bq c (pc + 2) = some y) : decode c pc = .ok (.iinc x (Reader.signed 8 y), 3) :=
  dec_of (i := .iinc x (Reader.signed 8 y)) (n := 3) ((rd_bind Reader.u1 _ (u1_bq h)).trans ((rd_bind Reader.u1 _ (u1_bq h1)).trans (rd_bind Reader.s1 _ (s1_bq h2))))
set_option maxRecDepth 20000 in
theorem op_133 {c : ByteArray} {pc : Nat} (h : bq c pc = some 133) : decode c pc = .ok (.i2l, 1) :=
  dec_of (i := .i2l) (n := 1) (rd_bind Reader.u1 _ (u1_bq h))
set_option maxRecDepth 20000 in
theorem op_146 {c : ByteArray} {pc : Nat} (h : bq c pc = some 146) : decode c pc = .ok (.i2c, 1) :=
  dec_of (i := .i2c) (n := 1) (rd_bind Reader.u1 _ (u1_bq h))
set_option maxRecDepth 20000 in
theorem op_148 {c : ByteArray} {pc : Nat} (h : bq c pc = some 148) : decode c pc = .ok (.lcmp, 1) :=
  dec_of (i := .lcmp) (n := 1) (rd_bind Reader.u1 _ (u1_bq h))
set_option maxRecDepth 20000 in
theorem op_153 {c : ByteArray} {pc x y : Nat} (h : bq c pc = some 153) (h1 : bq c (pc + 1) = some x) (h2 : bq c (pc + 2) = some y) : decode c pc = .ok (.ifCond .eq (Reader.signed 16 (x * 256 + y)), 3) :=
  dec_of (i := .ifCond .eq (Reader.signed 16 (x * 256 + y))) (n := 3) ((rd_bind Reader.u1 _ (u1_bq h)).trans (rd_bind Reader.s2 _ (s2_bq h1 h2)))
set_option maxRecDepth 20000 in
theorem op_154 {c : ByteArray} {pc x y : Nat} (h : bq c pc = some 154) (h1 : bq c (pc + 1) = some x) (h2 : bq c (pc + 2) = some y) : decode c pc = .ok (.ifCond .ne (Reader.signed 16 (x * 256 + y)), 3) :=
  dec_of (i := .ifCond .ne (Reader.signed 16 (x * 256 + y))) (n := 3) ((rd_bind Reader.u1 _ (u1_bq h)).trans (rd_bind Reader.s2 _ (s2_bq h1 h2)))
set_option maxRecDepth 20000 in
theorem op_155 {c : ByteArray} {pc x y : Nat} (h : bq c pc = some 155) (h1 : bq c (pc + 1) = some x) (h2 : bq c (pc + 2) = some y) : decode c pc = .ok (.ifCond .lt (Reader.signed 16 (x * 256 + y)), 3) :=
  dec_of (i := .ifCond .lt (Reader.signed 16 (x * 256 + y))) (n := 3) ((rd_bind Reader.u1 _ (u1_bq h)).trans (rd_bind Reader.s2 _ (s2_bq h1 h2)))
set_option maxRecDepth 20000 in
theorem op_156 {c : ByteArray} {pc x y : Nat} (h : bq c pc = some 156) (h1 : bq c (pc + 1) = some x) (h2 : bq c (pc + 2) = some y) : decode c pc = .ok (.ifCond .ge (Reader.signed 16 (x * 256 + y)), 3) :=
  dec_of (i := .ifCond .ge (Reader.signed 16 (x * 256 + y))) (n := 3) ((rd_bind Reader.u1 _ (u1_bq h)).trans (rd_bind Reader.s2 _ (s2_bq h1 h2)))
set_option maxRecDepth 20000 in
theorem op_157 {c : ByteArray} {pc x y : Nat} (h : bq c pc = some 157) (h1 : bq c (pc + 1) = some x) (h2 : bq c (pc + 2) = some y) : decode c pc = .ok (.ifCond .gt (Reader.signed 16 (x * 256 + y)), 3) :=
  dec_of (i := .ifCond .gt (Reader.signed 16 (x * 256 + y))) (n := 3) ((rd_bind Reader.u1 _ (u1_bq h)).trans (rd_bind Reader.s2 _ (s2_bq h1 h2)))
set_option maxRecDepth 20000 in
theorem op_158 {c : ByteArray} {pc x y : Nat} (h : bq c pc = some 158) (h1 : bq c (pc + 1) = some x) (h2 : bq c (pc + 2) = some y) : decode c pc = .ok (.ifCond .le (Reader.signed 16 (x * 256 + y)), 3) :=
  dec_of (i := .ifCond .le (Reader.signed 16 (x * 256 + y))) (n := 3) ((rd_bind Reader.u1 _ (u1_bq h)).trans (rd_bind Reader.s2 _ (s2_bq h1 h2)))
set_option maxRecDepth 20000 in
theorem op_159 {c : ByteArray} {pc x y : Nat} (h : bq c pc = some 159) (h1 : bq c (pc + 1) = some x) (h2 : bq c (pc + 2) = some y) : decode c pc = .ok (.if_icmp .eq (Reader.signed 16 (x * 256 + y)), 3) :=
  dec_of (i := .if_icmp .eq (Reader.signed 16 (x * 256 + y))) (n := 3) ((rd_bind Reader.u1 _ (u1_bq h)).trans (rd_bind Reader.s2 _ (s2_bq h1 h2)))
set_option maxRecDepth 20000 in
theorem op_160 {c : ByteArray} {pc x y : Nat} (h : bq c pc = some 160) (h1 : bq c (pc + 1) = some x) (h2 : bq c (pc + 2) = some y) : decode c pc = .ok (.if_icmp .ne (Reader.signed 16 (x * 256 + y)), 3) :=
  dec_of (i := .if_icmp .ne (Reader.signed 16 (x * 256 + y))) (n := 3) ((rd_bind Reader.u1 _ (u1_bq h)).trans (rd_bind Reader.s2 _ (s2_bq h1 h2)))
set_option maxRecDepth 20000 in
theorem op_161 {c : ByteArray} {pc x y : Nat} (h : bq c pc = some 161) (h1 : bq c (pc + 1) = some x) (h2 : bq c (pc + 2) = some y) : decode c pc = .ok (.if_icmp .lt (Reader.signed 16 (x * 256 + y)), 3) :=
  dec_of (i := .if_icmp .lt (Reader.signed 16 (x * 256 + y))) (n := 3) ((rd_bind Reader.u1 _ (u1_bq h)).trans (rd_bind Reader.s2 _ (s2_bq h1 h2)))
set_option maxRecDepth 20000 in
theorem op_162 {c : ByteArray} {pc x y : Nat} (h : bq c pc = some 162) (h1 : bq c (pc + 1) = some x) (h2 : bq c (pc + 2) = some y) : decode c pc = .ok (.if_icmp .ge (Reader.signed 16 (x * 256 + y)), 3) :=
  dec_of (i := .if_icmp .ge (Reader.signed 16 (x * 256 + y))) (n := 3) ((rd_bind Reader.u1 _ (u1_bq h)).trans (rd_bind Reader.s2 _ (s2_bq h1 h2)))
set_option maxRecDepth 20000 in
theorem op_163 {c : ByteArray} {pc x y : Nat} (h : bq c pc = some 163) (h1 : bq c (pc + 1) = some x) (h2 : bq c (pc + 2) = some y) : decode c pc = .ok (.if_icmp .gt (Reader.signed 16 (x * 256 + y)), 3) :=
  dec_of (i := .if_icmp .gt (Reader.signed 16 (x * 256 + y))) (n := 3) ((rd_bind Reader.u1 _ (u1_bq h)).trans (rd_bind Reader.s2 _ (s2_bq h1 h2)))
set_option maxRecDepth 20000 in
theorem op_164 {c : ByteArray} {pc x y : Nat} (h : bq c pc = some 164) (h1 : bq c (pc + 1) = some x) (h2 : bq c (pc + 2) = some y) : decode c pc = .ok (.if_icmp .le (Reader.signed 16 (x * 256 + y)), 3) :=
  dec_of (i := .if_icmp .le (Reader.signed 16 (x * 256 + y))) (n := 3) ((rd_bind Reader.u1 _ (u1_bq h)).trans (rd_bind Reader.s2 _ (s2_bq h1 h2)))
set_option maxRecDepth 20000 in
theorem op_167 {c : ByteArray} {pc x y : Nat} (h : bq c pc = some 167) (h1 : bq c (pc + 1) = some x) (h2 : bq c (pc + 2) = some y) : decode c pc = .ok (.goto (Reader.signed 16 (x * 256 + y)), 3) :=
  dec_of (i := .goto (Reader.signed 16 (x * 256 + y))) (n := 3) ((rd_bind Reader.u1 _ (u1_bq h)).trans (rd_bind Reader.s2 _ (s2_bq h1 h2)))
set_option maxRecDepth 20000 in
theorem op_172 {c : ByteArray} {pc : Nat} (h : bq c pc = some 172) : decode c pc = .ok (.ireturn, 1) :=
  dec_of (i := .ireturn) (n := 1) (rd_bind Reader.u1 _ (u1_bq h))
set_option maxRecDepth 20000 in
theorem op_173 {c : ByteArray} {pc : Nat} (h : bq c pc = some 173) : decode c pc = .ok (.lreturn, 1) :=
  dec_of (i := .lreturn) (n := 1) (rd_bind Reader.u1 _ (u1_bq h))
set_option maxRecDepth 20000 in
theorem op_176 {c : ByteArray} {pc : Nat} (h : bq c pc = some 176) : decode c pc = .ok (.areturn, 1) :=
  dec_of (i := .areturn) (n := 1) (rd_bind Reader.u1 _ (u1_bq h))
set_option maxRecDepth 20000 in
theorem op_177 {c : ByteArray} {pc : Nat} (h : bq c pc = some 177) : decode c pc = .ok (.return_, 1) :=
  dec_of (i := .return_) (n := 1) (rd_bind Reader.u1 _ (u1_bq h))
set_option maxRecDepth 20000 in
theorem op_178 {c : ByteArray} {pc x y : Nat} (h : bq c pc = some 178) (h1 : bq c (pc + 1) = some x) (h2 : bq c (pc + 2) = some y) : decode c pc = .ok (.getstatic (x * 256 + y), 3) :=
  dec_of (i := .getstatic (x * 256 + y)) (n := 3) ((rd_bind Reader.u1 _ (u1_bq h)).trans (rd_bind Reader.u2 _ (u2_bq h1 h2)))
set_option maxRecDepth 20000 in
theorem op_180 {c : ByteArray} {pc x y : Nat} (h : bq c pc = some 180) (h1 : bq c (pc + 1) = some x) (h2 : bq c (pc + 2) = some y) : decode c pc = .ok (.getfield (x * 256 + y), 3) :=
  dec_of (i := .getfield (x * 256 + y)) (n := 3) ((rd_bind Reader.u1 _ (u1_bq h)).trans (rd_bind Reader.u2 _ (u2_bq h1 h2)))
set_option maxRecDepth 20000 in
theorem op_181 {c : ByteArray} {pc x y : Nat} (h : bq c pc = some 181) (h1 : bq c (pc + 1) = some x) (h2 : bq c (pc + 2) = some y) : decode c pc = .ok (.putfield (x * 256 + y), 3) :=
  dec_of (i := .putfield (x * 256 + y)) (n := 3) ((rd_bind Reader.u1 _ (u1_bq h)).trans (rd_bind Reader.u2 _ (u2_bq h1 h2)))
set_option maxRecDepth 20000 in
theorem op_182 {c : ByteArray} {pc x y : Nat} (h : bq c pc = some 182) (h1 : bq c (pc + 1) = some x) (h2 : bq c (pc + 2) = some y) : decode c pc = .ok (.invokevirtual (x * 256 + y), 3) :=
  dec_of (i := .invokevirtual (x * 256 + y)) (n := 3) ((rd_bind Reader.u1 _ (u1_bq h)).trans (rd_bind Reader.u2 _ (u2_bq h1 h2)))
set_option maxRecDepth 20000 in
theorem op_183 {c : ByteArray} {pc x y : Nat} (h : bq c pc = some 183) (h1 : bq c (pc + 1) = some x) (h2 : bq c (pc + 2) = some y) : decode c pc = .ok (.invokespecial (x * 256 + y), 3) :=
  dec_of (i := .invokespecial (x * 256 + y)) (n := 3) ((rd_bind Reader.u1 _ (u1_bq h)).trans (rd_bind Reader.u2 _ (u2_bq h1 h2)))
set_option maxRecDepth 20000 in
theorem op_184 {c : ByteArray} {pc x y : Nat} (h : bq c pc = some 184) (h1 : bq c (pc + 1) = some x) (h2 : bq c (pc + 2) = some y) : decode c pc = .ok (.invokestatic (x * 256 + y), 3) :=
  dec_of (i := .invokestatic (x * 256 + y)) (n := 3) ((rd_bind Reader.u1 _ (u1_bq h)).trans (rd_bind Reader.u2 _ (u2_bq h1 h2)))
set_option maxRecDepth 20000 in
theorem op_187 {c : ByteArray} {pc x y : Nat} (h : bq c pc = some 187) (h1 : bq c (pc + 1) = some x) (h2 : bq c (pc + 2) = some y) : decode c pc = .ok (.new (x * 256 + y), 3) :=
  dec_of (i := .new (x * 256 + y)) (n := 3) ((rd_bind Reader.u1 _ (u1_bq h)).trans (rd_bind Reader.u2 _ (u2_bq h1 h2)))
set_option maxRecDepth 20000 in
theorem op_189 {c : ByteArray} {pc x y : Nat} (h : bq c pc = some 189) (h1 : bq c (pc + 1) = some x) (h2 : bq c (pc + 2) = some y) : decode c pc = .ok (.anewarray (x * 256 + y), 3) :=
  dec_of (i := .anewarray (x * 256 + y)) (n := 3) ((rd_bind Reader.u1 _ (u1_bq h)).trans (rd_bind Reader.u2 _ (u2_bq h1 h2)))
set_option maxRecDepth 20000 in
theorem op_190 {c : ByteArray} {pc : Nat} (h : bq c pc = some 190) : decode c pc = .ok (.arraylength, 1) :=
  dec_of (i := .arraylength) (n := 1) (rd_bind Reader.u1 _ (u1_bq h))

end

