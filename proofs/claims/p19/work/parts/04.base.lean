/-- the words of the tables that every state keeps -/
def lw_G : List Cond := lw_tbl.filter goodWord
theorem gw {w : Cond} (h : w ∈ lw_tbl) (hg : goodWord w = true) : w ∈ lw_G := List.mem_filter.mpr ⟨h, hg⟩
/-- a method's words: its own code, and all words of the tables that are kept -/
abbrev wW (y : MethodName) (c : ByteArray) (n : Nat) (r : Option FieldType) : List Cond := Cond.code y c n r :: lw_G
theorem gG {y : MethodName} {c : ByteArray} {n : Nat} {r : Option FieldType} (h : Cond.code y c n r ∈ lw_tbl) : GoodIn lw_G (wW y c n r) := by
  intro w hw
  rcases List.mem_cons.mp hw with rfl | hw
  · exact ⟨gw h rfl, good_of_word rfl⟩
  · exact ⟨hw, good_of_word (List.mem_filter.mp hw).2⟩
theorem va_AOA.moved {t : FieldType} {u U : State} (hvm : u.vm.Alike U.vm) (h : va_AOA t u) : va_AOA t U := by
  have h0 : (Cond.arrayOver (.array t)).holds #[] u none u [] = true := h
  simp only [Cond.holds, Cond.value, beq_iff_eq] at h0
  cases hc : u.vm.findClass (FieldType.array t).toString with
  | none => simp [hc] at h0
  | some comp =>
    simp only [hc, Option.bind_some, Option.bind_eq_some_iff, Option.map_eq_some_iff] at h0
    obtain ⟨c, h2, k, hk, hb⟩ := h0
    obtain ⟨k', hk', he⟩ := hvm.2.2 _ _ hk
    have hi : (U.vm.classes.findIdx? fun (x : Class) => match x.kind with | .array component _ => component == comp | _ => false) = some c := by
      refine (va_idx_bare U.vm comp).symm.trans ?_
      first | rw [hvm.bare_eq] | rw [← hvm.bare_eq]
      exact (va_idx_bare u.vm comp).trans h2
    have hkind : k'.kind = k.kind := by rw [he]
    have f1 : U.vm.findClass (FieldType.array t).toString = some comp := by rw [hvm.findClass]; exact hc
    unfold va_AOA Cond.before Cond.holds
    simp only [Cond.value]
    rw [f1, Option.bind_some]
    refine (congrArg (fun o : Option Nat => (o.bind (fun c => (U.vm.classes[c]?).map fun (k : Class) => match k.kind with | .array _ ty => decide (ty = FieldType.array t) && decide (U.vm.findClass ("[" ++ (FieldType.array t).toString) = some c) | _ => false) == some true)) hi).trans ?_
    have hb2 : (match k.kind with | .array _ ty => decide (ty = FieldType.array t) && decide (U.vm.findClass ("[" ++ (FieldType.array t).toString) = some c) | _ => false) = true := by rw [hvm.findClass]; exact hb
    simp only [Option.bind_some, hk', Option.map_some, hkind]
    rw [hb2]
    rfl
def bx_nest : Cond → Bool
  | .methodLinkNest .. => true
  | .fieldLinkNest .. => true
  | .castable .. => true
  | _ => false
/-- the words that a state keeps as long as it is only warmed -/
def NX (U : State) : Prop := (∀ w ∈ lw_tbl, bx_nest w = true → va_Nw w U) ∧ va_AO "EldestSays$Clever" U ∧ va_AOA .int U
theorem NX.same {u U : State} (h : u.vm = U.vm) (hZ : NX u) : NX U := ⟨fun w hw hb => by
    have h1 := hZ.1 w hw hb
    cases w <;> first | exact absurd hb Bool.false_ne_true | exact va_Nw.same rfl h h1, va_AO.moved (h ▸ Vm.Alike.refl u.vm) hZ.2.1, va_AOA.moved (h ▸ Vm.Alike.refl u.vm) hZ.2.2⟩
theorem NX.warm {s U : State} (hW : s.WarmedH U.vm) (hZ : NX s) : NX U := ⟨fun w hw hb => by
    have h1 := hZ.1 w hw hb
    cases w <;> first | exact absurd hb Bool.false_ne_true | exact va_Nw.warmM hW h1 | exact va_Nw.warmF hW h1 | exact va_Nw.warmC hW h1, va_AO.moved hW.alike hZ.2.1, va_AOA.moved hW.alike hZ.2.2⟩
abbrev classes : List vw_C := [(RX0, TX0, 0), (RX1, TX1, 0), (RX2, TX2, 6), (RX3, TX3, 0), (RX4, TX4, 8), (RX5, TX5, 0), (RX6, TX6, 0), (RX7, TX7, 2), (RX8, TX8, 0), (RX9, TX9, 14), (RX10, TX10, 0), (RX11, TX11, 14), (RX12, TX12, 33)]
/-- the array classes that all worlds speak of -/
abbrev TY (aC : Nat → ClassId) : List (ClassId × FieldType) := [(aC 0, .int), (aC 1, .char), (aC 2, .long), (aC 3, .object "EldestSays$Clever"), (aC 4, .array .int)]
theorem inX0 : ∀ w ∈ u_ws RX0 TX0 0, w ∈ lw_G := by intro w h; simp [u_ws] at h
theorem inX1 : ∀ w ∈ u_ws RX1 TX1 0, w ∈ lw_G := by intro w h; simp [u_ws] at h
theorem inX3 : ∀ w ∈ u_ws RX3 TX3 0, w ∈ lw_G := by intro w h; simp [u_ws] at h
theorem inX5 : ∀ w ∈ u_ws RX5 TX5 0, w ∈ lw_G := by intro w h; simp [u_ws] at h
theorem inX6 : ∀ w ∈ u_ws RX6 TX6 0, w ∈ lw_G := by intro w h; simp [u_ws] at h
theorem inX8 : ∀ w ∈ u_ws RX8 TX8 0, w ∈ lw_G := by intro w h; simp [u_ws] at h
theorem inX10 : ∀ w ∈ u_ws RX10 TX10 0, w ∈ lw_G := by intro w h; simp [u_ws] at h
theorem inX2 : ∀ w ∈ u_ws RX2 TX2 6, w ∈ lw_G := fun w h => gw ((by decide +kernel : ∀ w ∈ u_ws RX2 TX2 6, w ∈ lw_tbl) w h) (List.all_eq_true.mp (by decide +kernel : (u_ws RX2 TX2 6).all goodWord = true) w h)
theorem inX4 : ∀ w ∈ u_ws RX4 TX4 8, w ∈ lw_G := fun w h => gw ((by decide +kernel : ∀ w ∈ u_ws RX4 TX4 8, w ∈ lw_tbl) w h) (List.all_eq_true.mp (by decide +kernel : (u_ws RX4 TX4 8).all goodWord = true) w h)
theorem inX7 : ∀ w ∈ u_ws RX7 TX7 2, w ∈ lw_G := fun w h => gw ((by decide +kernel : ∀ w ∈ u_ws RX7 TX7 2, w ∈ lw_tbl) w h) (List.all_eq_true.mp (by decide +kernel : (u_ws RX7 TX7 2).all goodWord = true) w h)
theorem inX9 : ∀ w ∈ u_ws RX9 TX9 14, w ∈ lw_G := fun w h => gw ((by decide +kernel : ∀ w ∈ u_ws RX9 TX9 14, w ∈ lw_tbl) w h) (List.all_eq_true.mp (by decide +kernel : (u_ws RX9 TX9 14).all goodWord = true) w h)
theorem inX11 : ∀ w ∈ u_ws RX11 TX11 14, w ∈ lw_G := fun w h => gw ((by decide +kernel : ∀ w ∈ u_ws RX11 TX11 14, w ∈ lw_tbl) w h) (List.all_eq_true.mp (by decide +kernel : (u_ws RX11 TX11 14).all goodWord = true) w h)
theorem inX12 : ∀ w ∈ u_ws RX12 TX12 33, w ∈ lw_G := fun w h => gw ((by decide +kernel : ∀ w ∈ u_ws RX12 TX12 33, w ∈ lw_tbl) w h) (List.all_eq_true.mp (by decide +kernel : (u_ws RX12 TX12 33).all goodWord = true) w h)
/-- one array class a type -/
theorem va_K.one {D : va_G} {cl : List vw_C} {tys : List (ClassId × FieldType)} {U : State} (h : va_K D cl tys U) {i j : Nat} {c d : ClassId} {ty : FieldType} (hi : tys[i]? = some (c, ty)) (hj : tys[j]? = some (d, ty)) : c = d := by
  have h1 := (h.2 i _ hi).2
  have h2 := (h.2 j _ hj).2
  cases ty with
  | object C =>
    obtain ⟨_, _, _, _, _, q1⟩ := h1
    obtain ⟨_, _, _, _, _, q2⟩ := h2
    exact Option.some.inj (q1.symm.trans q2)
  | _ => exact Option.some.inj (h1.symm.trans h2)
section NEWA
variable {p : Program} {l : Launch} {e : Env} {R : Room} {s : State} {m : MethodId} {args : Array Value} {below : List Frame} {meth : Method} {c : Code} {H : Heap} {locs : List Loc} {cells slots : Nat} {Q : State → Prop}
variable {cc : ByteArray} {pc : Nat} {ls : Array Slot} {rest : List Value} {D : va_G} {cl : List vw_C} {A : Nat → Prop} {aC : Nat → ClassId} {ws : va_W} {H0 : Heap}
theorem va_newaI (hexec : p.tables.exec = Jvm.exec) (hb : c.code = cc) (harr : (Cond.arrayClass .int).before args s = true) (hK : va_K D cl (TY aC) s) (hP : va_P D cl ws H) (hD : va_D A ws) (hS : va_S A H0 H locs) (hA : ∀ q, H0.size ≤ q → A q)
    {n : Int32} {N' : Nat} {a0 : vp_A} (hn : ¬ n < 0) (hN : n.toNatClampNeg = N') (hbytes : N' * componentBytes .int ≤ 536870912) (hcells : cells + 1 ≤ R.cells) (hslots : slots + N' ≤ R.slots) (hdg : decode cc pc = .ok (.newarray .int, 2)) (ha : a0 = (N', .inl (fun _ => 0)) := by rfl)
    (kk : ∀ (q : Nat) (H1 : Heap), va_P D cl (ws ++ [(q, .inl (aC 0, a0))]) H1 → va_D A (ws ++ [(q, .inl (aC 0, a0))]) → va_S A H0 H1 locs →
      W p l e R s m args below meth c H1 locs (cells + 1) (slots + N') Q (F0 m (pc + 2) ls (.ref q :: rest))) : W p l e R s m args below meth c H locs cells slots Q (F0 m pc ls (.int n :: rest)) := by
  subst ha
  refine va_newa (atype := .int) (ty := .int) hexec hb harr rfl hK hP hD hS hA (a0 := (N', .inl (fun _ => 0))) (fun cA => rfl) hn hN hbytes hcells hslots hdg (fun q cA H1 k1 k2 k3 k4 => ?_)
  have h9 : cA = aC 0 := k1.one (i := 5) (j := 0) rfl rfl
  subst h9
  exact kk q H1 k2 k3 k4
theorem va_newaC (hexec : p.tables.exec = Jvm.exec) (hb : c.code = cc) (harr : (Cond.arrayClass .char).before args s = true) (hK : va_K D cl (TY aC) s) (hP : va_P D cl ws H) (hD : va_D A ws) (hS : va_S A H0 H locs) (hA : ∀ q, H0.size ≤ q → A q)
    {n : Int32} {N' : Nat} {a0 : vp_A} (hn : ¬ n < 0) (hN : n.toNatClampNeg = N') (hbytes : N' * componentBytes .char ≤ 536870912) (hcells : cells + 1 ≤ R.cells) (hslots : slots + N' ≤ R.slots) (hdg : decode cc pc = .ok (.newarray .char, 2)) (ha : a0 = (N', .inl (fun _ => 0)) := by rfl)
    (kk : ∀ (q : Nat) (H1 : Heap), va_P D cl (ws ++ [(q, .inl (aC 1, a0))]) H1 → va_D A (ws ++ [(q, .inl (aC 1, a0))]) → va_S A H0 H1 locs →
      W p l e R s m args below meth c H1 locs (cells + 1) (slots + N') Q (F0 m (pc + 2) ls (.ref q :: rest))) : W p l e R s m args below meth c H locs cells slots Q (F0 m pc ls (.int n :: rest)) := by
  subst ha
  refine va_newa (atype := .char) (ty := .char) hexec hb harr rfl hK hP hD hS hA (a0 := (N', .inl (fun _ => 0))) (fun cA => rfl) hn hN hbytes hcells hslots hdg (fun q cA H1 k1 k2 k3 k4 => ?_)
  have h9 : cA = aC 1 := k1.one (i := 5) (j := 1) rfl rfl
  subst h9
  exact kk q H1 k2 k3 k4
theorem va_newaL (hexec : p.tables.exec = Jvm.exec) (hb : c.code = cc) (harr : (Cond.arrayClass .long).before args s = true) (hK : va_K D cl (TY aC) s) (hP : va_P D cl ws H) (hD : va_D A ws) (hS : va_S A H0 H locs) (hA : ∀ q, H0.size ≤ q → A q)
    {n : Int32} {N' : Nat} {a0 : vp_A} (hn : ¬ n < 0) (hN : n.toNatClampNeg = N') (hbytes : N' * componentBytes .long ≤ 536870912) (hcells : cells + 1 ≤ R.cells) (hslots : slots + N' ≤ R.slots) (hdg : decode cc pc = .ok (.newarray .long, 2)) (ha : a0 = (N', .inr (.inl (fun _ => 0))) := by rfl)
    (kk : ∀ (q : Nat) (H1 : Heap), va_P D cl (ws ++ [(q, .inl (aC 2, a0))]) H1 → va_D A (ws ++ [(q, .inl (aC 2, a0))]) → va_S A H0 H1 locs →
      W p l e R s m args below meth c H1 locs (cells + 1) (slots + N') Q (F0 m (pc + 2) ls (.ref q :: rest))) : W p l e R s m args below meth c H locs cells slots Q (F0 m pc ls (.int n :: rest)) := by
  subst ha
  refine va_newa (atype := .long) (ty := .long) hexec hb harr rfl hK hP hD hS hA (a0 := (N', .inr (.inl (fun _ => 0)))) (fun cA => rfl) hn hN hbytes hcells hslots hdg (fun q cA H1 k1 k2 k3 k4 => ?_)
  have h9 : cA = aC 2 := k1.one (i := 5) (j := 2) rfl rfl
  subst h9
  exact kk q H1 k2 k3 k4
theorem va_newqI (hexec : p.tables.exec = Jvm.exec) (hb : c.code = cc) {own : String} {index : Nat} (hown : s.vm.findClass own = some m.cls) (hclink : (Cond.classLink own index "EldestSays$Clever").before args s = true) (hover : (Cond.arrayOver (.object "EldestSays$Clever")).before args s = true) (hK : va_K D cl (TY aC) s) (hP : va_P D cl ws H) (hD : va_D A ws) (hS : va_S A H0 H locs) (hA : ∀ q, H0.size ≤ q → A q)
    {n : Int32} {N' : Nat} (hn : ¬ n < 0) (hN : n.toNatClampNeg = N') (hbytes : N' * 4 ≤ 536870912) (hcells : cells + 1 ≤ R.cells) (hslots : slots + N' ≤ R.slots) (hdg : decode cc pc = .ok (.anewarray index, 3))
    (kk : ∀ (q : Nat) (H1 : Heap), va_P D cl (ws ++ [(q, .inl (aC 3, N', .inr (.inr (.inr (.inr (fun _ => none))))))]) H1 → va_D A (ws ++ [(q, .inl (aC 3, N', .inr (.inr (.inr (.inr (fun _ => none))))))]) → va_S A H0 H1 locs →
      W p l e R s m args below meth c H1 locs (cells + 1) (slots + N') Q (F0 m (pc + 3) ls (.ref q :: rest))) : W p l e R s m args below meth c H locs cells slots Q (F0 m pc ls (.int n :: rest)) := by
  refine va_newq hexec hb hown hclink (va_AO.of hover) hK hP hD hS hA hn hN hbytes hcells hslots hdg (fun q cA H1 k1 k2 k3 k4 => ?_)
  have h9 : cA = aC 3 := k1.one (i := 5) (j := 3) rfl rfl
  subst h9
  exact kk q H1 k2 k3 k4
theorem va_mnaI {X : va_W} (hexec : p.tables.exec = Jvm.exec) (hb : c.code = cc) {own : String} {index : Nat} (hown : s.vm.findClass own = some m.cls) (hclink : (Cond.classLink own index ("[" ++ (FieldType.array .int).toString)).before args s = true) (hover : (Cond.arrayOver (.array .int)).before args s = true) (harr : (Cond.arrayClass .int).before args s = true)
    (hK : va_K D cl (TY aC) s) (hP : va_P D cl X H) (hD : va_D A X) (hS : va_S A H0 H locs) (hA : ∀ q, H0.size ≤ q → A q) {n k : Int32} {N' K' : Nat} (hn : ¬ n < 0) (hk : ¬ k < 0) (hN : n.toNatClampNeg = N') (hM : k.toNatClampNeg = K')
    (hb1 : N' * 4 ≤ 536870912) (hb2 : K' * componentBytes .int ≤ 536870912) (hb3 : K' ≤ 536870912) (hcells : cells + (1 + N') ≤ R.cells) (hslots : slots + (N' + N' * K') ≤ R.slots) (hdg : decode cc pc = .ok (.multianewarray index 2, 4))
    (kk : ∀ (q : Nat) (r : Nat → Nat) (H1 : Heap), (∀ i j : Nat, i < N' → j < N' → r i = r j → i = j) →
      va_P D cl (X ++ [(q, .inl (aC 4, N', .inr (.inr (.inr (.inr (fun i => if i < N' then some (r i) else none))))))]) H1 → va_D A (X ++ [(q, .inl (aC 4, N', .inr (.inr (.inr (.inr (fun i => if i < N' then some (r i) else none))))))]) → va_S A H0 H1 locs →
      W p l e R s m args below meth c H1 locs (cells + 1 + N') (slots + N' + N' * K') Q (F0 m (pc + 4) ls (.ref q :: rest))) : W p l e R s m args below meth c H locs cells slots Q (F0 m pc ls (.int k :: .int n :: rest)) := by
  have hcy : s.vm.findClass (FieldType.array .int).toString = some (aC 0) := (hK.2 0 _ rfl).2
  refine va_mna (X := X) (L := []) (f := fun _ => .inr (0, [])) (z := (K', .inl (fun _ => 0))) (ty := .int) hexec hb hown hclink hover harr hcy hK (by simpa [va_pl] using hP) (by simpa [va_pl] using hD) hS hA hn hk hN hM hb1 hb2 hb3 rfl rfl hcells hslots (fun c => by show _ = arrV c K' (fun _ => .int 0); rw [← arrV_new]; rfl) hdg (fun q r cA H1 k0 _ k1 k2 k3 k4 => ?_)
  have h9 : cA = aC 4 := k1.one (i := 5) (j := 4) rfl rfl
  subst h9
  refine kk q r H1 k0 (fun k x hx => k2 k x ?_) ⟨fun i j p q hi hj => k3.1 i j p q ?_ ?_, fun k x hx => k3.2 k x ?_⟩ k4
  · rw [List.getElem?_append_left (List.getElem?_eq_some_iff.mp hx).1]; exact hx
  · rw [List.getElem?_append_left (List.getElem?_eq_some_iff.mp hi).1]; exact hi
  · rw [List.getElem?_append_left (List.getElem?_eq_some_iff.mp hj).1]; exact hj
  · rw [List.getElem?_append_left (List.getElem?_eq_some_iff.mp hx).1]; exact hx
end NEWA
theorem sw_out3 {x : Int32} (h0 : ¬ x = 0) (h1 : ¬ x = 1) (h2 : ¬ x = 2) : x.toInt < 0 ∨ 2 < x.toInt := by
  have e0 := lv_neT h0 (a := 0) rfl
  have e1 := lv_neT h1 (a := 1) rfl
  have e2 := lv_neT h2 (a := 2) rfl
  omega
theorem sw_out7 {x : Int32} (h0 : ¬ x = 0) (h1 : ¬ x = 1) (h2 : ¬ x = 2) (h3 : ¬ x = 3) (h4 : ¬ x = 4) (h5 : ¬ x = 5) (h6 : ¬ x = 6) : x.toInt < 0 ∨ 6 < x.toInt := by
  have e0 := lv_neT h0 (a := 0) rfl
  have e1 := lv_neT h1 (a := 1) rfl
  have e2 := lv_neT h2 (a := 2) rfl
  have e3 := lv_neT h3 (a := 3) rfl
  have e4 := lv_neT h4 (a := 4) rfl
  have e5 := lv_neT h5 (a := 5) rfl
  have e6 := lv_neT h6 (a := 6) rfl
  omega
abbrev cI (aC : Nat → ClassId) (a n : Nat) (f : Nat → Int32) : Nat × va_E := (a, .inl (aC 0, n, .inl f))
abbrev cC (aC : Nat → ClassId) (a n : Nat) (f : Nat → Int32) : Nat × va_E := (a, .inl (aC 1, n, .inl f))
abbrev cL (aC : Nat → ClassId) (a n : Nat) (f : Nat → Int64) : Nat × va_E := (a, .inl (aC 2, n, .inr (.inl f)))
abbrev cK (aC : Nat → ClassId) (a n : Nat) (f : Nat → Option Nat) : Nat × va_E := (a, .inl (aC 3, n, .inr (.inr (.inr (.inr f)))))
abbrev cA (aC : Nat → ClassId) (a n : Nat) (f : Nat → Option Nat) : Nat × va_E := (a, .inl (aC 4, n, .inr (.inr (.inr (.inr f)))))
abbrev cO (a ci : Nat) (fs : List Value) : Nat × va_E := (a, .inr (ci, fs))
abbrev oX2 (a : Nat) (f0 : Nat) (f1 : Nat) (f2 : Nat) (f3 : Nat) (f4 : Int32) (f5 : Int32) : Nat × va_E := (a, .inr (2, [.ref f0, .ref f1, .ref f2, .ref f3, .int f4, .int f5]))
abbrev oX4 (a : Nat) (f0 : Nat) (f1 : Nat) (f2 : Nat) (f3 : Nat) (f4 : Nat) (f5 : Int32) (f6 : Int32) (f7 : Int32) : Nat × va_E := (a, .inr (4, [.ref f0, .ref f1, .ref f2, .ref f3, .ref f4, .int f5, .int f6, .int f7]))
abbrev oX7 (a : Nat) (f0 : Int32) (f1 : Nat) : Nat × va_E := (a, .inr (7, [.int f0, .ref f1]))
abbrev oX9 (a : Nat) (f0 : Nat) (f1 : Nat) (f2 : Nat) (f3 : Nat) (f4 : Nat) (f5 : Nat) (f6 : Nat) (f7 : Nat) (f8 : Nat) (f9 : Nat) (f10 : Nat) (f11 : Nat) (f12 : Int32) (f13 : Int32) : Nat × va_E := (a, .inr (9, [.ref f0, .ref f1, .ref f2, .ref f3, .ref f4, .ref f5, .ref f6, .ref f7, .ref f8, .ref f9, .ref f10, .ref f11, .int f12, .int f13]))
abbrev oX11 (a : Nat) (f0 : Nat) (f1 : Nat) (f2 : Nat) (f3 : Nat) (f4 : Nat) (f5 : Nat) (f6 : Nat) (f7 : Nat) (f8 : Nat) (f9 : Nat) (f10 : Nat) (f11 : Int32) (f12 : Int32) (f13 : Int32) : Nat × va_E := (a, .inr (11, [.ref f0, .ref f1, .ref f2, .ref f3, .ref f4, .ref f5, .ref f6, .ref f7, .ref f8, .ref f9, .ref f10, .int f11, .int f12, .int f13]))
abbrev oX12 (a : Nat) (f0 : Nat) (f1 : Nat) (f2 : Nat) (f3 : Nat) (f4 : Nat) (f5 : Nat) (f6 : Int32) (f7 : Int32) (f8 : Int32) (f9 : Nat) (f10 : Nat) (f11 : Nat) (f12 : Nat) (f13 : Int32) (f14 : Int32) (f15 : Int32) (f16 : Nat) (f17 : Int32) (f18 : Int32) (f19 : Int32) (f20 : Nat) (f21 : Nat) (f22 : Nat) (f23 : Nat) (f24 : Nat) (f25 : Nat) (f26 : Nat) (f27 : Nat) (f28 : Int32) (f29 : Nat) (f30 : Nat) (f31 : Nat) (f32 : Nat) : Nat × va_E := (a, .inr (12, [.ref f0, .ref f1, .ref f2, .ref f3, .ref f4, .ref f5, .int f6, .int f7, .int f8, .ref f9, .ref f10, .ref f11, .ref f12, .int f13, .int f14, .int f15, .ref f16, .int f17, .int f18, .int f19, .ref f20, .ref f21, .ref f22, .ref f23, .ref f24, .ref f25, .ref f26, .ref f27, .int f28, .ref f29, .ref f30, .ref f31, .ref f32]))
/-- what a world's cells hold, and that they lie apart -/
abbrev PDx (D : va_G) (cl : List vw_C) (A : Nat → Prop) (H : Heap) (w : va_W) : Prop := va_P D cl w H ∧ va_D A w
theorem fm_of {α β : Type} {f : α → Option β} : ∀ {is : List α} {w : List β}, is.map f = w.map some → is.filterMap f = w
  | [], w, h => by
    cases w with
    | nil => rfl
    | cons a t => simp at h
  | i :: is, w, h => by
    cases w with
    | nil => simp at h
    | cons a t =>
      simp only [List.map_cons, List.cons.injEq] at h
      rw [List.filterMap_cons_some h.1, fm_of h.2]
theorem pdf_N {D : va_G} {cl : List vw_C} {A0 : Nat → Prop} {ws cx : va_W} {H0 H : Heap} {locs : List Loc} (hP : va_P D cl ws H) (hD : va_D A0 ws) (hS : va_S A0 H0 H locs) (hA : ∀ q, H0.size ≤ q → A0 q) (is : List Nat) (hn : va_nd is = true) (hs : is.map (fun i => ws[i]?) = cx.map some) : va_P D cl cx H ∧ va_D A0 cx ∧ ∀ q, va_A cx H.size q → A0 q :=
  ⟨hP.sub is (fm_of hs), hD.sub is hn hs, va_free hD hS hA is hs⟩
theorem pd_N {D : va_G} {cl : List vw_C} {A0 : Nat → Prop} {ws cx : va_W} {H : Heap} (hP : va_P D cl ws H) (hD : va_D A0 ws) (is : List Nat) (hn : va_nd is = true) (hs : is.map (fun i => ws[i]?) = cx.map some) : va_P D cl cx H ∧ va_D A0 cx :=
  ⟨hP.sub is (fm_of hs), hD.sub is hn hs⟩
theorem jn_N {A0 : Nat → Prop} {D : va_G} {cl : List vw_C} {ws wc wr w1 : va_W} {H H1 : Heap} (hF : ∀ q, va_A wc H.size q → A0 q) (hk : ∀ q : Nat, q < H.size → ¬ va_A wc H.size q → H1[q]? = H[q]?) (hP1 : va_P D cl w1 H1) (hD1 : va_D (va_A wc H.size) w1) (hP : va_P D cl ws H) (hD : va_D A0 ws) (isC isR : List Nat) (hC : isC.map (fun i => ws[i]?) = wc.map some) (hR : isR.map (fun i => ws[i]?) = wr.map some) (hn : va_nd isR = true) (hdis : ∀ i ∈ isR, i ∉ isC) : va_P D cl (wr ++ w1) H1 ∧ va_D A0 (wr ++ w1) :=
  va_join hP hD isC isR hC hR hn hdis hk hF hP1 hD1
/-- what every contract begins with doesn't see the frame; and how it is met at a call -/
theorem fb_std {av : List Value} {sz : Nat} {D : va_G} {cl : List vw_C} {tys : List (ClassId × FieldType)} {w : va_W} : FrameBlind (va_Pc av (fun U => U.heap.size = sz ∧ va_P D cl w U.heap ∧ va_K D cl tys U ∧ va_D (fun _ => True) w ∧ NX U)) := fun a U g mk q => by
  obtain ⟨q0, q1, qP, qK, qD, qN⟩ := q
  exact ⟨q0, q1, qP, va_K.moved (u := U) (U := U.calling g mk a) (Vm.Alike.refl U.vm) qK, qD, NX.same (u := U) (U := U.calling g mk a) rfl qN⟩
theorem pre_std {av : List Value} {D : va_G} {cl : List vw_C} {tys : List (ClassId × FieldType)} {w : va_W} {A : Nat → Prop} {H : Heap} {s : State} (hPc : va_P D cl w H) (hK : va_K D cl tys s) (hDc : va_D A w) (hN : NX s) : ∀ U : State, U.heap = H → s.WarmedH U.vm → va_Pc av (fun U => U.heap.size = H.size ∧ va_P D cl w U.heap ∧ va_K D cl tys U ∧ va_D (fun _ => True) w ∧ NX U) av.toArray U := fun U hU hW =>
  ⟨rfl, by rw [hU], by rw [hU]; exact hPc, va_K.moved hW.alike hK, hDc.weaken (fun _ _ _ _ => trivial), NX.warm hW hN⟩
