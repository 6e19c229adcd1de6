section
/-! 89.ctor -/
/-- what a new object has -/
def SET0 : Nat → Int32 := upd (upd (upd (upd (upd (fun _ => 0) 0 10) 1 0) 2 0) 3 0) 4 10
section PLN9
variable {p : Program} {l : Launch} {e : Env} {R : Room} {s : State} {m : MethodId} {args : Array Value} {below : List Frame} {meth : Method} {c : Code} {H : Heap} {locs : List Loc} {cells slots : Nat} {Q : State → Prop}
variable {cc : ByteArray} {pc : Nat} {ls : Array Slot} {rest : List Value} {D : va_G} {cl : List vw_C} {A : Nat → Prop} {aC : Nat → ClassId} {X : va_W} {H0 : Heap} {L : List Nat} {g : Nat → Nat → Int32}
/-- int[8][8] into the pool -/
theorem pl_mna (hexec : p.tables.exec = Jvm.exec) (hb : c.code = cc) {own : String} {index : Nat} (hown : s.vm.findClass own = some m.cls) (hclink : (Cond.classLink own index ("[" ++ (FieldType.array .int).toString)).before args s = true) (hover : (Cond.arrayOver (.array .int)).before args s = true) (harr : (Cond.arrayClass .int).before args s = true)
    (hK : va_K D cl (TY aC) s) (hP : va_P D cl (X ++ va_pl L (plE aC g)) H) (hD : va_D A (X ++ va_pl L (plE aC g))) (hS : va_S A H0 H locs) (hA : ∀ q, H0.size ≤ q → A q) (hcells : cells + 9 ≤ R.cells) (hslots : slots + 72 ≤ R.slots) (hdg : decode cc pc = .ok (.multianewarray index 2, 4))
    (kk : ∀ (q : Nat) (r : Nat → Nat) (L1 : List Nat) (g1 : Nat → Nat → Int32) (H1 : Heap), (∀ i j : Nat, i < 8 → j < 8 → r i = r j → i = j) → (∀ i : Nat, i < 8 → r i ∉ L ∧ r i ∈ L1) → (∀ a : Nat, a ∈ L → a ∈ L1) →
      va_P D cl ((X ++ [(q, .inl (aC 4, 8, .inr (.inr (.inr (.inr (fun i => if i < 8 then some (r i) else none))))))]) ++ va_pl L1 (plE aC g1)) H1 → va_D A ((X ++ [(q, .inl (aC 4, 8, .inr (.inr (.inr (.inr (fun i => if i < 8 then some (r i) else none))))))]) ++ va_pl L1 (plE aC g1)) → va_S A H0 H1 locs →
      W p l e R s m args below meth c H1 locs (cells + 1 + 8) (slots + 8 + 8 * 8) Q (F0 m (pc + 4) ls (.ref q :: rest))) : W p l e R s m args below meth c H locs cells slots Q (F0 m pc ls (.int 8 :: .int 8 :: rest)) := by
  have hcy : s.vm.findClass (FieldType.array .int).toString = some (aC 0) := (hK.2 0 _ rfl).2
  refine va_mna (X := X) (L := L) (f := plE aC g) (N' := 8) (K' := 8) (z := (8, .inl (fun _ => 0))) (ty := .int) hexec hb hown hclink hover harr hcy hK hP hD hS hA (by decide) (by decide) (by decide) (by decide) (by decide) (by decide) (by decide) rfl rfl hcells hslots (fun c => by show _ = arrV c 8 (fun _ => .int 0); rw [← arrV_new]; rfl) hdg (fun q r cA H1 k0 k9 k1 k2 k3 k4 => ?_)
  have h9 : cA = aC 4 := k1.one (i := 5) (j := 4) rfl rfl
  subst h9
  have e9 : vr_up (plE aC g) ((List.range 8).map r) (.inl (aC 0, (8, .inl (fun _ => 0)))) = plE aC (vr_up g ((List.range 8).map r) (fun _ => 0)) := by
    funext a
    by_cases h : a ∈ (List.range 8).map r
    · rw [vr_up_in h]; show _ = Sum.inl (aC 0, 8, Sum.inl (vr_up g ((List.range 8).map r) (fun _ => 0) a)); rw [vr_up_in h]
    · rw [vr_up_ne h]; show _ = Sum.inl (aC 0, 8, Sum.inl (vr_up g ((List.range 8).map r) (fun _ => 0) a)); rw [vr_up_ne h]
  rw [e9] at k2 k3
  exact kk q r _ _ H1 k0 (fun i hi => ⟨k9 i hi, List.mem_append_right _ (List.mem_map_of_mem (List.mem_range.mpr hi))⟩) (fun a h => List.mem_append_left _ h) k2 k3 k4
end PLN9
theorem GRD_mk {L L1 L2 L3 : List Nat} {r1 r2 r3 : Nat → Nat} (i1 : ∀ i j : Nat, i < 8 → j < 8 → r1 i = r1 j → i = j) (a1 : ∀ i : Nat, i < 8 → r1 i ∉ L ∧ r1 i ∈ L1) (s1 : ∀ a : Nat, a ∈ L → a ∈ L1) (i2 : ∀ i j : Nat, i < 8 → j < 8 → r2 i = r2 j → i = j) (a2 : ∀ i : Nat, i < 8 → r2 i ∉ L1 ∧ r2 i ∈ L2) (s2 : ∀ a : Nat, a ∈ L1 → a ∈ L2) (i3 : ∀ i j : Nat, i < 8 → j < 8 → r3 i = r3 j → i = j) (a3 : ∀ i : Nat, i < 8 → r3 i ∉ L2 ∧ r3 i ∈ L3) (s3 : ∀ a : Nat, a ∈ L2 → a ∈ L3) :
    GRD L3 (fun i => if i < 8 then some (r1 i) else none) (fun i => if i < 8 then some (r2 i) else none) (fun i => if i < 8 then some (r3 i) else none) r1 r2 r3 ∧ (∀ a, a ∈ L → a ∈ L3) ∧ ∀ q, q < 8 → r1 q ∉ L ∧ r2 q ∉ L ∧ r3 q ∉ L := by
  refine ⟨⟨fun q hq => ⟨⟨if_pos hq, s3 _ (s2 _ (a1 q hq).2)⟩, ⟨if_pos hq, s3 _ (a2 q hq).2⟩, ⟨if_pos hq, (a3 q hq).2⟩⟩, fun q r hq hr => ⟨i1 q r hq hr, i2 q r hq hr, i3 q r hq hr, fun e => (a2 r hr).1 (e ▸ (a1 q hq).2), fun e => (a3 r hr).1 (e ▸ s2 _ (a1 q hq).2), fun e => (a3 r hr).1 (e ▸ (a2 q hq).2)⟩⟩, fun a h => s3 _ (s2 _ (s1 a h)), fun q hq => ⟨(a1 q hq).1, fun h => (a2 q hq).1 (s1 _ h), fun h => (a3 q hq).1 (s2 _ (s1 _ h))⟩⟩
theorem GRD_mono {L M : List Nat} {fo fp fs : Nat → Option Nat} {ro rp rs : Nat → Nat} (h : GRD L fo fp fs ro rp rs) (hs : ∀ a, a ∈ L → a ∈ M) : GRD M fo fp fs ro rp rs :=
  ⟨fun q hq => ⟨⟨(h.1 q hq).1.1, hs _ (h.1 q hq).1.2⟩, ⟨(h.1 q hq).2.1.1, hs _ (h.1 q hq).2.1.2⟩, ⟨(h.1 q hq).2.2.1, hs _ (h.1 q hq).2.2.2⟩⟩, h.2⟩
theorem DIS_mk {L : List Nat} {fo fp fs : Nat → Option Nat} {ro rp rs so sp ss : Nat → Nat} (h : GRD L fo fp fs ro rp rs) (hn : ∀ q, q < 8 → so q ∉ L ∧ sp q ∉ L ∧ ss q ∉ L) : DIS ro rp rs so sp ss := fun q hq =>
  ⟨fun k hk => ⟨fun e => (hn k hk).1 (e ▸ (h.1 q hq).1.2), fun e => (hn k hk).2.1 (e ▸ (h.1 q hq).1.2), fun e => (hn k hk).2.2 (e ▸ (h.1 q hq).1.2)⟩,
   fun k hk => ⟨fun e => (hn k hk).1 (e ▸ (h.1 q hq).2.1.2), fun e => (hn k hk).2.1 (e ▸ (h.1 q hq).2.1.2), fun e => (hn k hk).2.2 (e ▸ (h.1 q hq).2.1.2)⟩,
   fun k hk => ⟨fun e => (hn k hk).1 (e ▸ (h.1 q hq).2.2.2), fun e => (hn k hk).2.1 (e ▸ (h.1 q hq).2.2.2), fun e => (hn k hk).2.2 (e ▸ (h.1 q hq).2.2.2)⟩⟩

set_option maxHeartbeats 1000000 in
set_option maxRecDepth 100000 in
/-- X0_init -/
theorem c_X0_init (l : Launch) (dC : Nat → ClassId) (dI : Nat → Nat → Nat) (aC : Nat → ClassId) (sz : Nat) (h0 : Nat)  : Met l yX0_init (wW yX0_init cX0_init 1 (none : Option FieldType)) ({ frames := 1, cells := 0, slots := 0, locals := 12 } : Room) (va_Pc [Value.ref h0] (fun U => U.heap.size = sz ∧ va_P (dC, dI) classes [] U.heap ∧ va_K (dC, dI) classes (TY aC) U ∧ va_D (fun _ => True) [] ∧ NX U)) (va_Qv (fun (_ : Unit) => True) (fun (_ : Unit) (t : State) => va_P (dC, dI) classes [] t.heap ∧ va_K (dC, dI) classes (TY aC) t ∧ va_D (va_A [] sz) []) (va_A [] sz)) 0 0 (va_A [] sz) := by
  refine Met.ofW (cc := cX0_init) (maxL := 1) (ret := (none : Option FieldType)) (by decide) rfl ?_
  intro p e s m args below meth c s₁ B hml hv
  obtain ⟨rfl, hsz, hP, hK, hD0, hN⟩ := hv
  have hx := B.exec
  have hb := B.bytes
  have hr := B.returns
  have hts0 := atoms_spec (ws := (wW yX0_init cX0_init 1 (none : Option FieldType))) B.pre
  have hts : ∀ w9 ∈ lw_G, w9.before ([Value.ref h0] : List Value).toArray s = true := fun w9 h9 => hts0 w9 (List.mem_cons_of_mem _ h9)
  have hown : s.vm.findClass RX0 = some m.cls := findClass_of_methodNamed (x := yX0_init) B.named
  have hlocks := B.notSynchronized
  have hin : meth.name = "<init>" := (name_of_methodNamed B.named B.method).1
  subst hsz
  have hD := hD0.self (sz := s.heap.size)
  generalize hAe : va_A [] s.heap.size = A at hD ⊢
  have hA : ∀ q : Nat, s.heap.size ≤ q → A q := fun q h => by rw [← hAe]; exact Or.inr h
  obtain ⟨H, hHe⟩ : ∃ H : Heap, H = s.heap := ⟨_, rfl⟩
  have hS : va_S A s.heap H [] := by rw [hHe]; exact va_S.rf
  have hP : va_P (dC, dI) classes [] H := by rw [hHe]; exact hP
  have hl := lv_entry ([Value.ref h0]) (n := 1) (Nat.le_of_ble_eq_true rfl)
  rw [lg_entry_eq]
  generalize (lg_sl ([Value.ref h0]) ++ List.replicate (1 - (lg_sl ([Value.ref h0])).length) Slot.unset).toArray = ls at hl ⊢
  have hl : lv_has ls 1 [(0, Value.ref h0)] := hl
  rw [← hHe]
  refine lv_aload_n hx hb dX0_init_0 rfl (lv_at hl 0 rfl) ?_
  refine W.objInit hx hb hown (hts _ (gw kw_94 rfl)) (hts _ (gw kw_24 rfl)) (hts _ (gw kw_25 rfl)) rfl (by rw [hml]; exact hl.1) rfl dX0_init_1 (Nat.le_of_ble_eq_true rfl) (Nat.le_of_ble_eq_true rfl) ?_
  refine W.eq (g2 := F0 m 4 ls []) rfl ?_
  have hpd9 := pd_N (cx := []) hP hD [] (by decide) rfl
  have hP9 := hpd9.1
  have hD9 := hpd9.2
  refine W.widen (k := 0) (n := 0) (by omega) (by omega) ?_
  exact W.vret hx hb hr (fun t ht hW => ⟨⟨(), rfl, trivial, by rw [ht]; exact hP9, va_K.moved hW.alike hK, hD9⟩, hS.F ht⟩) hS.2.2 dX0_init_4

set_option maxHeartbeats 1000000 in
set_option maxRecDepth 100000 in
/-- X1_init -/
theorem c_X1_init (l : Launch) (dC : Nat → ClassId) (dI : Nat → Nat → Nat) (aC : Nat → ClassId) (sz : Nat) (h0 : Nat)  : Met l yX1_init (wW yX1_init cX1_init 1 (none : Option FieldType)) ({ frames := 2, cells := 0, slots := 0, locals := 32 } : Room) (va_Pc [Value.ref h0] (fun U => U.heap.size = sz ∧ va_P (dC, dI) classes [] U.heap ∧ va_K (dC, dI) classes (TY aC) U ∧ va_D (fun _ => True) [] ∧ NX U)) (va_Qv (fun (_ : Unit) => True) (fun (_ : Unit) (t : State) => va_P (dC, dI) classes [] t.heap ∧ va_K (dC, dI) classes (TY aC) t ∧ va_D (va_A [] sz) []) (va_A [] sz)) 0 0 (va_A [] sz) := by
  refine Met.ofW (cc := cX1_init) (maxL := 1) (ret := (none : Option FieldType)) (by decide) rfl ?_
  intro p e s m args below meth c s₁ B hml hv
  obtain ⟨rfl, hsz, hP, hK, hD0, hN⟩ := hv
  have hx := B.exec
  have hb := B.bytes
  have hr := B.returns
  have hts0 := atoms_spec (ws := (wW yX1_init cX1_init 1 (none : Option FieldType))) B.pre
  have hts : ∀ w9 ∈ lw_G, w9.before ([Value.ref h0] : List Value).toArray s = true := fun w9 h9 => hts0 w9 (List.mem_cons_of_mem _ h9)
  have hown : s.vm.findClass RX1 = some m.cls := findClass_of_methodNamed (x := yX1_init) B.named
  have hlocks := B.notSynchronized
  have hin : meth.name = "<init>" := (name_of_methodNamed B.named B.method).1
  subst hsz
  have hD := hD0.self (sz := s.heap.size)
  generalize hAe : va_A [] s.heap.size = A at hD ⊢
  have hA : ∀ q : Nat, s.heap.size ≤ q → A q := fun q h => by rw [← hAe]; exact Or.inr h
  obtain ⟨H, hHe⟩ : ∃ H : Heap, H = s.heap := ⟨_, rfl⟩
  have hS : va_S A s.heap H [] := by rw [hHe]; exact va_S.rf
  have hP : va_P (dC, dI) classes [] H := by rw [hHe]; exact hP
  have hl := lv_entry ([Value.ref h0]) (n := 1) (Nat.le_of_ble_eq_true rfl)
  rw [lg_entry_eq]
  generalize (lg_sl ([Value.ref h0]) ++ List.replicate (1 - (lg_sl ([Value.ref h0])).length) Slot.unset).toArray = ls at hl ⊢
  have hl : lv_has ls 1 [(0, Value.ref h0)] := hl
  rw [← hHe]
  refine lv_aload_n hx hb dX1_init_0 rfl (lv_at hl 0 rfl) ?_
  have hpd9 := pdf_N (cx := []) hP hD hS hA [] (by decide) rfl
  have hPc := hpd9.1
  have hDc := hpd9.2.1
  have hFc := hpd9.2.2
  clear hpd9
  refine va_callv (va_runIN (As := []) (rest := []) ⟨hx, hb, hml, hown, hts⟩ (c_X0_init l dC dI aC H.size h0 ) ⟨(va_cnB 0 hts (gG kw_93) rfl rfl rfl (hN.1 _ kw_103 rfl) (hts _ (gw kw_4 rfl)) hd_X0_init ⟨Nat.le_of_ble_eq_true rfl, Nat.le_of_ble_eq_true rfl⟩), rfl, (hts _ (gw kw_92 rfl))⟩ ⟨fb_std, pre_std hPc hK hDc hN⟩ rfl rfl hl.1 rfl (lv_room (Nat.le_of_ble_eq_true rfl)) dX1_init_1 ⟨Nat.le_of_ble_eq_true rfl, Nat.le_of_ble_eq_true rfl⟩) hS (fun q _ h => hFc q h) hFc (fun u9 t9 H1 locs ht hvm hw_1 hB hz1 hk1 hS => ?_)
  obtain ⟨hP1, hK1, hD1⟩ := hB
  rw [ht] at hP1
  clear hK1
  try dsimp only at hw_1
  have hpd9 : PDx (dC, dI) classes A H1 [] := jn_N (wr := []) hFc hk1 hP1 hD1 hP hD [] [] rfl rfl (by decide) (by decide)
  have hP := hpd9.1
  have hD := hpd9.2
  clear hpd9
  generalize H1 = H at hP hS ⊢
  clear hPc hDc hFc hz1 hk1 hP1 hD1 ht hvm
  have hpd9 := pd_N (cx := []) hP hD [] (by decide) rfl
  have hP9 := hpd9.1
  have hD9 := hpd9.2
  refine W.widen (k := 0) (n := 0) (by omega) (by omega) ?_
  exact W.vret hx hb hr (fun t ht hW => ⟨⟨(), rfl, trivial, by rw [ht]; exact hP9, va_K.moved hW.alike hK, hD9⟩, hS.F ht⟩) hS.2.2 dX1_init_4

set_option maxHeartbeats 1000000 in
set_option maxRecDepth 100000 in
/-- X3_init -/
theorem c_X3_init (l : Launch) (dC : Nat → ClassId) (dI : Nat → Nat → Nat) (aC : Nat → ClassId) (sz : Nat) (h0 : Nat)  : Met l yX3_init (wW yX3_init cX3_init 1 (none : Option FieldType)) ({ frames := 2, cells := 0, slots := 0, locals := 32 } : Room) (va_Pc [Value.ref h0] (fun U => U.heap.size = sz ∧ va_P (dC, dI) classes [] U.heap ∧ va_K (dC, dI) classes (TY aC) U ∧ va_D (fun _ => True) [] ∧ NX U)) (va_Qv (fun (_ : Unit) => True) (fun (_ : Unit) (t : State) => va_P (dC, dI) classes [] t.heap ∧ va_K (dC, dI) classes (TY aC) t ∧ va_D (va_A [] sz) []) (va_A [] sz)) 0 0 (va_A [] sz) := by
  refine Met.ofW (cc := cX3_init) (maxL := 1) (ret := (none : Option FieldType)) (by decide) rfl ?_
  intro p e s m args below meth c s₁ B hml hv
  obtain ⟨rfl, hsz, hP, hK, hD0, hN⟩ := hv
  have hx := B.exec
  have hb := B.bytes
  have hr := B.returns
  have hts0 := atoms_spec (ws := (wW yX3_init cX3_init 1 (none : Option FieldType))) B.pre
  have hts : ∀ w9 ∈ lw_G, w9.before ([Value.ref h0] : List Value).toArray s = true := fun w9 h9 => hts0 w9 (List.mem_cons_of_mem _ h9)
  have hown : s.vm.findClass RX3 = some m.cls := findClass_of_methodNamed (x := yX3_init) B.named
  have hlocks := B.notSynchronized
  have hin : meth.name = "<init>" := (name_of_methodNamed B.named B.method).1
  subst hsz
  have hD := hD0.self (sz := s.heap.size)
  generalize hAe : va_A [] s.heap.size = A at hD ⊢
  have hA : ∀ q : Nat, s.heap.size ≤ q → A q := fun q h => by rw [← hAe]; exact Or.inr h
  obtain ⟨H, hHe⟩ : ∃ H : Heap, H = s.heap := ⟨_, rfl⟩
  have hS : va_S A s.heap H [] := by rw [hHe]; exact va_S.rf
  have hP : va_P (dC, dI) classes [] H := by rw [hHe]; exact hP
  have hl := lv_entry ([Value.ref h0]) (n := 1) (Nat.le_of_ble_eq_true rfl)
  rw [lg_entry_eq]
  generalize (lg_sl ([Value.ref h0]) ++ List.replicate (1 - (lg_sl ([Value.ref h0])).length) Slot.unset).toArray = ls at hl ⊢
  have hl : lv_has ls 1 [(0, Value.ref h0)] := hl
  rw [← hHe]
  refine lv_aload_n hx hb dX3_init_0 rfl (lv_at hl 0 rfl) ?_
  have hpd9 := pdf_N (cx := []) hP hD hS hA [] (by decide) rfl
  have hPc := hpd9.1
  have hDc := hpd9.2.1
  have hFc := hpd9.2.2
  clear hpd9
  refine va_callv (va_runIN (As := []) (rest := []) ⟨hx, hb, hml, hown, hts⟩ (c_X0_init l dC dI aC H.size h0 ) ⟨(va_cnB 0 hts (gG kw_93) rfl rfl rfl (hN.1 _ kw_110 rfl) (hts _ (gw kw_4 rfl)) hd_X0_init ⟨Nat.le_of_ble_eq_true rfl, Nat.le_of_ble_eq_true rfl⟩), rfl, (hts _ (gw kw_92 rfl))⟩ ⟨fb_std, pre_std hPc hK hDc hN⟩ rfl rfl hl.1 rfl (lv_room (Nat.le_of_ble_eq_true rfl)) dX3_init_1 ⟨Nat.le_of_ble_eq_true rfl, Nat.le_of_ble_eq_true rfl⟩) hS (fun q _ h => hFc q h) hFc (fun u9 t9 H1 locs ht hvm hw_1 hB hz1 hk1 hS => ?_)
  obtain ⟨hP1, hK1, hD1⟩ := hB
  rw [ht] at hP1
  clear hK1
  try dsimp only at hw_1
  have hpd9 : PDx (dC, dI) classes A H1 [] := jn_N (wr := []) hFc hk1 hP1 hD1 hP hD [] [] rfl rfl (by decide) (by decide)
  have hP := hpd9.1
  have hD := hpd9.2
  clear hpd9
  generalize H1 = H at hP hS ⊢
  clear hPc hDc hFc hz1 hk1 hP1 hD1 ht hvm
  have hpd9 := pd_N (cx := []) hP hD [] (by decide) rfl
  have hP9 := hpd9.1
  have hD9 := hpd9.2
  refine W.widen (k := 0) (n := 0) (by omega) (by omega) ?_
  exact W.vret hx hb hr (fun t ht hW => ⟨⟨(), rfl, trivial, by rw [ht]; exact hP9, va_K.moved hW.alike hK, hD9⟩, hS.F ht⟩) hS.2.2 dX3_init_4

set_option maxHeartbeats 1000000 in
set_option maxRecDepth 100000 in
/-- X6_init -/
theorem c_X6_init (l : Launch) (dC : Nat → ClassId) (dI : Nat → Nat → Nat) (aC : Nat → ClassId) (sz : Nat) (h0 : Nat)  : Met l yX6_init (wW yX6_init cX6_init 1 (none : Option FieldType)) ({ frames := 2, cells := 0, slots := 0, locals := 32 } : Room) (va_Pc [Value.ref h0] (fun U => U.heap.size = sz ∧ va_P (dC, dI) classes [] U.heap ∧ va_K (dC, dI) classes (TY aC) U ∧ va_D (fun _ => True) [] ∧ NX U)) (va_Qv (fun (_ : Unit) => True) (fun (_ : Unit) (t : State) => va_P (dC, dI) classes [] t.heap ∧ va_K (dC, dI) classes (TY aC) t ∧ va_D (va_A [] sz) []) (va_A [] sz)) 0 0 (va_A [] sz) := by
  refine Met.ofW (cc := cX6_init) (maxL := 1) (ret := (none : Option FieldType)) (by decide) rfl ?_
  intro p e s m args below meth c s₁ B hml hv
  obtain ⟨rfl, hsz, hP, hK, hD0, hN⟩ := hv
  have hx := B.exec
  have hb := B.bytes
  have hr := B.returns
  have hts0 := atoms_spec (ws := (wW yX6_init cX6_init 1 (none : Option FieldType))) B.pre
  have hts : ∀ w9 ∈ lw_G, w9.before ([Value.ref h0] : List Value).toArray s = true := fun w9 h9 => hts0 w9 (List.mem_cons_of_mem _ h9)
  have hown : s.vm.findClass RX6 = some m.cls := findClass_of_methodNamed (x := yX6_init) B.named
  have hlocks := B.notSynchronized
  have hin : meth.name = "<init>" := (name_of_methodNamed B.named B.method).1
  subst hsz
  have hD := hD0.self (sz := s.heap.size)
  generalize hAe : va_A [] s.heap.size = A at hD ⊢
  have hA : ∀ q : Nat, s.heap.size ≤ q → A q := fun q h => by rw [← hAe]; exact Or.inr h
  obtain ⟨H, hHe⟩ : ∃ H : Heap, H = s.heap := ⟨_, rfl⟩
  have hS : va_S A s.heap H [] := by rw [hHe]; exact va_S.rf
  have hP : va_P (dC, dI) classes [] H := by rw [hHe]; exact hP
  have hl := lv_entry ([Value.ref h0]) (n := 1) (Nat.le_of_ble_eq_true rfl)
  rw [lg_entry_eq]
  generalize (lg_sl ([Value.ref h0]) ++ List.replicate (1 - (lg_sl ([Value.ref h0])).length) Slot.unset).toArray = ls at hl ⊢
  have hl : lv_has ls 1 [(0, Value.ref h0)] := hl
  rw [← hHe]
  refine lv_aload_n hx hb dX6_init_0 rfl (lv_at hl 0 rfl) ?_
  have hpd9 := pdf_N (cx := []) hP hD hS hA [] (by decide) rfl
  have hPc := hpd9.1
  have hDc := hpd9.2.1
  have hFc := hpd9.2.2
  clear hpd9
  refine va_callv (va_runIN (As := []) (rest := []) ⟨hx, hb, hml, hown, hts⟩ (c_X0_init l dC dI aC H.size h0 ) ⟨(va_cnB 0 hts (gG kw_93) rfl rfl rfl (hN.1 _ kw_124 rfl) (hts _ (gw kw_4 rfl)) hd_X0_init ⟨Nat.le_of_ble_eq_true rfl, Nat.le_of_ble_eq_true rfl⟩), rfl, (hts _ (gw kw_92 rfl))⟩ ⟨fb_std, pre_std hPc hK hDc hN⟩ rfl rfl hl.1 rfl (lv_room (Nat.le_of_ble_eq_true rfl)) dX6_init_1 ⟨Nat.le_of_ble_eq_true rfl, Nat.le_of_ble_eq_true rfl⟩) hS (fun q _ h => hFc q h) hFc (fun u9 t9 H1 locs ht hvm hw_1 hB hz1 hk1 hS => ?_)
  obtain ⟨hP1, hK1, hD1⟩ := hB
  rw [ht] at hP1
  clear hK1
  try dsimp only at hw_1
  have hpd9 : PDx (dC, dI) classes A H1 [] := jn_N (wr := []) hFc hk1 hP1 hD1 hP hD [] [] rfl rfl (by decide) (by decide)
  have hP := hpd9.1
  have hD := hpd9.2
  clear hpd9
  generalize H1 = H at hP hS ⊢
  clear hPc hDc hFc hz1 hk1 hP1 hD1 ht hvm
  have hpd9 := pd_N (cx := []) hP hD [] (by decide) rfl
  have hP9 := hpd9.1
  have hD9 := hpd9.2
  refine W.widen (k := 0) (n := 0) (by omega) (by omega) ?_
  exact W.vret hx hb hr (fun t ht hW => ⟨⟨(), rfl, trivial, by rw [ht]; exact hP9, va_K.moved hW.alike hK, hD9⟩, hS.F ht⟩) hS.2.2 dX6_init_4

set_option maxHeartbeats 1000000 in
set_option maxRecDepth 100000 in
/-- X5_init -/
theorem c_X5_init (l : Launch) (dC : Nat → ClassId) (dI : Nat → Nat → Nat) (aC : Nat → ClassId) (sz : Nat) (h0 : Nat)  : Met l yX5_init (wW yX5_init cX5_init 1 (none : Option FieldType)) ({ frames := 3, cells := 0, slots := 0, locals := 52 } : Room) (va_Pc [Value.ref h0] (fun U => U.heap.size = sz ∧ va_P (dC, dI) classes [] U.heap ∧ va_K (dC, dI) classes (TY aC) U ∧ va_D (fun _ => True) [] ∧ NX U)) (va_Qv (fun (_ : Unit) => True) (fun (_ : Unit) (t : State) => va_P (dC, dI) classes [] t.heap ∧ va_K (dC, dI) classes (TY aC) t ∧ va_D (va_A [] sz) []) (va_A [] sz)) 0 0 (va_A [] sz) := by
  refine Met.ofW (cc := cX5_init) (maxL := 1) (ret := (none : Option FieldType)) (by decide) rfl ?_
  intro p e s m args below meth c s₁ B hml hv
  obtain ⟨rfl, hsz, hP, hK, hD0, hN⟩ := hv
  have hx := B.exec
  have hb := B.bytes
  have hr := B.returns
  have hts0 := atoms_spec (ws := (wW yX5_init cX5_init 1 (none : Option FieldType))) B.pre
  have hts : ∀ w9 ∈ lw_G, w9.before ([Value.ref h0] : List Value).toArray s = true := fun w9 h9 => hts0 w9 (List.mem_cons_of_mem _ h9)
  have hown : s.vm.findClass RX5 = some m.cls := findClass_of_methodNamed (x := yX5_init) B.named
  have hlocks := B.notSynchronized
  have hin : meth.name = "<init>" := (name_of_methodNamed B.named B.method).1
  subst hsz
  have hD := hD0.self (sz := s.heap.size)
  generalize hAe : va_A [] s.heap.size = A at hD ⊢
  have hA : ∀ q : Nat, s.heap.size ≤ q → A q := fun q h => by rw [← hAe]; exact Or.inr h
  obtain ⟨H, hHe⟩ : ∃ H : Heap, H = s.heap := ⟨_, rfl⟩
  have hS : va_S A s.heap H [] := by rw [hHe]; exact va_S.rf
  have hP : va_P (dC, dI) classes [] H := by rw [hHe]; exact hP
  have hl := lv_entry ([Value.ref h0]) (n := 1) (Nat.le_of_ble_eq_true rfl)
  rw [lg_entry_eq]
  generalize (lg_sl ([Value.ref h0]) ++ List.replicate (1 - (lg_sl ([Value.ref h0])).length) Slot.unset).toArray = ls at hl ⊢
  have hl : lv_has ls 1 [(0, Value.ref h0)] := hl
  rw [← hHe]
  refine lv_aload_n hx hb dX5_init_0 rfl (lv_at hl 0 rfl) ?_
  have hpd9 := pdf_N (cx := []) hP hD hS hA [] (by decide) rfl
  have hPc := hpd9.1
  have hDc := hpd9.2.1
  have hFc := hpd9.2.2
  clear hpd9
  refine va_callv (va_runIN (As := []) (rest := []) ⟨hx, hb, hml, hown, hts⟩ (c_X1_init l dC dI aC H.size h0 ) ⟨(va_cnB 0 hts (gG kw_102) rfl rfl rfl (hN.1 _ kw_117 rfl) (hts _ (gw kw_5 rfl)) hd_X1_init ⟨Nat.le_of_ble_eq_true rfl, Nat.le_of_ble_eq_true rfl⟩), rfl, (hts _ (gw kw_101 rfl))⟩ ⟨fb_std, pre_std hPc hK hDc hN⟩ rfl rfl hl.1 rfl (lv_room (Nat.le_of_ble_eq_true rfl)) dX5_init_1 ⟨Nat.le_of_ble_eq_true rfl, Nat.le_of_ble_eq_true rfl⟩) hS (fun q _ h => hFc q h) hFc (fun u9 t9 H1 locs ht hvm hw_1 hB hz1 hk1 hS => ?_)
  obtain ⟨hP1, hK1, hD1⟩ := hB
  rw [ht] at hP1
  clear hK1
  try dsimp only at hw_1
  have hpd9 : PDx (dC, dI) classes A H1 [] := jn_N (wr := []) hFc hk1 hP1 hD1 hP hD [] [] rfl rfl (by decide) (by decide)
  have hP := hpd9.1
  have hD := hpd9.2
  clear hpd9
  generalize H1 = H at hP hS ⊢
  clear hPc hDc hFc hz1 hk1 hP1 hD1 ht hvm
  have hpd9 := pd_N (cx := []) hP hD [] (by decide) rfl
  have hP9 := hpd9.1
  have hD9 := hpd9.2
  refine W.widen (k := 0) (n := 0) (by omega) (by omega) ?_
  exact W.vret hx hb hr (fun t ht hW => ⟨⟨(), rfl, trivial, by rw [ht]; exact hP9, va_K.moved hW.alike hK, hD9⟩, hS.F ht⟩) hS.2.2 dX5_init_4

set_option maxHeartbeats 1000000 in
set_option maxRecDepth 100000 in
/-- X8_init -/
theorem c_X8_init (l : Launch) (dC : Nat → ClassId) (dI : Nat → Nat → Nat) (aC : Nat → ClassId) (sz : Nat) (h0 : Nat)  : Met l yX8_init (wW yX8_init cX8_init 1 (none : Option FieldType)) ({ frames := 3, cells := 0, slots := 0, locals := 52 } : Room) (va_Pc [Value.ref h0] (fun U => U.heap.size = sz ∧ va_P (dC, dI) classes [] U.heap ∧ va_K (dC, dI) classes (TY aC) U ∧ va_D (fun _ => True) [] ∧ NX U)) (va_Qv (fun (_ : Unit) => True) (fun (_ : Unit) (t : State) => va_P (dC, dI) classes [] t.heap ∧ va_K (dC, dI) classes (TY aC) t ∧ va_D (va_A [] sz) []) (va_A [] sz)) 0 0 (va_A [] sz) := by
  refine Met.ofW (cc := cX8_init) (maxL := 1) (ret := (none : Option FieldType)) (by decide) rfl ?_
  intro p e s m args below meth c s₁ B hml hv
  obtain ⟨rfl, hsz, hP, hK, hD0, hN⟩ := hv
  have hx := B.exec
  have hb := B.bytes
  have hr := B.returns
  have hts0 := atoms_spec (ws := (wW yX8_init cX8_init 1 (none : Option FieldType))) B.pre
  have hts : ∀ w9 ∈ lw_G, w9.before ([Value.ref h0] : List Value).toArray s = true := fun w9 h9 => hts0 w9 (List.mem_cons_of_mem _ h9)
  have hown : s.vm.findClass RX8 = some m.cls := findClass_of_methodNamed (x := yX8_init) B.named
  have hlocks := B.notSynchronized
  have hin : meth.name = "<init>" := (name_of_methodNamed B.named B.method).1
  subst hsz
  have hD := hD0.self (sz := s.heap.size)
  generalize hAe : va_A [] s.heap.size = A at hD ⊢
  have hA : ∀ q : Nat, s.heap.size ≤ q → A q := fun q h => by rw [← hAe]; exact Or.inr h
  obtain ⟨H, hHe⟩ : ∃ H : Heap, H = s.heap := ⟨_, rfl⟩
  have hS : va_S A s.heap H [] := by rw [hHe]; exact va_S.rf
  have hP : va_P (dC, dI) classes [] H := by rw [hHe]; exact hP
  have hl := lv_entry ([Value.ref h0]) (n := 1) (Nat.le_of_ble_eq_true rfl)
  rw [lg_entry_eq]
  generalize (lg_sl ([Value.ref h0]) ++ List.replicate (1 - (lg_sl ([Value.ref h0])).length) Slot.unset).toArray = ls at hl ⊢
  have hl : lv_has ls 1 [(0, Value.ref h0)] := hl
  rw [← hHe]
  refine lv_aload_n hx hb dX8_init_0 rfl (lv_at hl 0 rfl) ?_
  have hpd9 := pdf_N (cx := []) hP hD hS hA [] (by decide) rfl
  have hPc := hpd9.1
  have hDc := hpd9.2.1
  have hFc := hpd9.2.2
  clear hpd9
  refine va_callv (va_runIN (As := []) (rest := []) ⟨hx, hb, hml, hown, hts⟩ (c_X6_init l dC dI aC H.size h0 ) ⟨(va_cnB 0 hts (gG kw_123) rfl rfl rfl (hN.1 _ kw_138 rfl) (hts _ (gw kw_8 rfl)) hd_X6_init ⟨Nat.le_of_ble_eq_true rfl, Nat.le_of_ble_eq_true rfl⟩), rfl, (hts _ (gw kw_122 rfl))⟩ ⟨fb_std, pre_std hPc hK hDc hN⟩ rfl rfl hl.1 rfl (lv_room (Nat.le_of_ble_eq_true rfl)) dX8_init_1 ⟨Nat.le_of_ble_eq_true rfl, Nat.le_of_ble_eq_true rfl⟩) hS (fun q _ h => hFc q h) hFc (fun u9 t9 H1 locs ht hvm hw_1 hB hz1 hk1 hS => ?_)
  obtain ⟨hP1, hK1, hD1⟩ := hB
  rw [ht] at hP1
  clear hK1
  try dsimp only at hw_1
  have hpd9 : PDx (dC, dI) classes A H1 [] := jn_N (wr := []) hFc hk1 hP1 hD1 hP hD [] [] rfl rfl (by decide) (by decide)
  have hP := hpd9.1
  have hD := hpd9.2
  clear hpd9
  generalize H1 = H at hP hS ⊢
  clear hPc hDc hFc hz1 hk1 hP1 hD1 ht hvm
  have hpd9 := pd_N (cx := []) hP hD [] (by decide) rfl
  have hP9 := hpd9.1
  have hD9 := hpd9.2
  refine W.widen (k := 0) (n := 0) (by omega) (by omega) ?_
  exact W.vret hx hb hr (fun t ht hW => ⟨⟨(), rfl, trivial, by rw [ht]; exact hP9, va_K.moved hW.alike hK, hD9⟩, hS.F ht⟩) hS.2.2 dX8_init_4

set_option maxHeartbeats 1000000 in
set_option maxRecDepth 100000 in
/-- X10_init -/
theorem c_X10_init (l : Launch) (dC : Nat → ClassId) (dI : Nat → Nat → Nat) (aC : Nat → ClassId) (sz : Nat) (h0 : Nat)  : Met l yX10_init (wW yX10_init cX10_init 1 (none : Option FieldType)) ({ frames := 3, cells := 0, slots := 0, locals := 52 } : Room) (va_Pc [Value.ref h0] (fun U => U.heap.size = sz ∧ va_P (dC, dI) classes [] U.heap ∧ va_K (dC, dI) classes (TY aC) U ∧ va_D (fun _ => True) [] ∧ NX U)) (va_Qv (fun (_ : Unit) => True) (fun (_ : Unit) (t : State) => va_P (dC, dI) classes [] t.heap ∧ va_K (dC, dI) classes (TY aC) t ∧ va_D (va_A [] sz) []) (va_A [] sz)) 0 0 (va_A [] sz) := by
  refine Met.ofW (cc := cX10_init) (maxL := 1) (ret := (none : Option FieldType)) (by decide) rfl ?_
  intro p e s m args below meth c s₁ B hml hv
  obtain ⟨rfl, hsz, hP, hK, hD0, hN⟩ := hv
  have hx := B.exec
  have hb := B.bytes
  have hr := B.returns
  have hts0 := atoms_spec (ws := (wW yX10_init cX10_init 1 (none : Option FieldType))) B.pre
  have hts : ∀ w9 ∈ lw_G, w9.before ([Value.ref h0] : List Value).toArray s = true := fun w9 h9 => hts0 w9 (List.mem_cons_of_mem _ h9)
  have hown : s.vm.findClass RX10 = some m.cls := findClass_of_methodNamed (x := yX10_init) B.named
  have hlocks := B.notSynchronized
  have hin : meth.name = "<init>" := (name_of_methodNamed B.named B.method).1
  subst hsz
  have hD := hD0.self (sz := s.heap.size)
  generalize hAe : va_A [] s.heap.size = A at hD ⊢
  have hA : ∀ q : Nat, s.heap.size ≤ q → A q := fun q h => by rw [← hAe]; exact Or.inr h
  obtain ⟨H, hHe⟩ : ∃ H : Heap, H = s.heap := ⟨_, rfl⟩
  have hS : va_S A s.heap H [] := by rw [hHe]; exact va_S.rf
  have hP : va_P (dC, dI) classes [] H := by rw [hHe]; exact hP
  have hl := lv_entry ([Value.ref h0]) (n := 1) (Nat.le_of_ble_eq_true rfl)
  rw [lg_entry_eq]
  generalize (lg_sl ([Value.ref h0]) ++ List.replicate (1 - (lg_sl ([Value.ref h0])).length) Slot.unset).toArray = ls at hl ⊢
  have hl : lv_has ls 1 [(0, Value.ref h0)] := hl
  rw [← hHe]
  refine lv_aload_n hx hb dX10_init_0 rfl (lv_at hl 0 rfl) ?_
  have hpd9 := pdf_N (cx := []) hP hD hS hA [] (by decide) rfl
  have hPc := hpd9.1
  have hDc := hpd9.2.1
  have hFc := hpd9.2.2
  clear hpd9
  refine va_callv (va_runIN (As := []) (rest := []) ⟨hx, hb, hml, hown, hts⟩ (c_X3_init l dC dI aC H.size h0 ) ⟨(va_cnB 0 hts (gG kw_109) rfl rfl rfl (hN.1 _ kw_131 rfl) (hts _ (gw kw_6 rfl)) hd_X3_init ⟨Nat.le_of_ble_eq_true rfl, Nat.le_of_ble_eq_true rfl⟩), rfl, (hts _ (gw kw_108 rfl))⟩ ⟨fb_std, pre_std hPc hK hDc hN⟩ rfl rfl hl.1 rfl (lv_room (Nat.le_of_ble_eq_true rfl)) dX10_init_1 ⟨Nat.le_of_ble_eq_true rfl, Nat.le_of_ble_eq_true rfl⟩) hS (fun q _ h => hFc q h) hFc (fun u9 t9 H1 locs ht hvm hw_1 hB hz1 hk1 hS => ?_)
  obtain ⟨hP1, hK1, hD1⟩ := hB
  rw [ht] at hP1
  clear hK1
  try dsimp only at hw_1
  have hpd9 : PDx (dC, dI) classes A H1 [] := jn_N (wr := []) hFc hk1 hP1 hD1 hP hD [] [] rfl rfl (by decide) (by decide)
  have hP := hpd9.1
  have hD := hpd9.2
  clear hpd9
  generalize H1 = H at hP hS ⊢
  clear hPc hDc hFc hz1 hk1 hP1 hD1 ht hvm
  have hpd9 := pd_N (cx := []) hP hD [] (by decide) rfl
  have hP9 := hpd9.1
  have hD9 := hpd9.2
  refine W.widen (k := 0) (n := 0) (by omega) (by omega) ?_
  exact W.vret hx hb hr (fun t ht hW => ⟨⟨(), rfl, trivial, by rw [ht]; exact hP9, va_K.moved hW.alike hK, hD9⟩, hS.F ht⟩) hS.2.2 dX10_init_4

set_option maxHeartbeats 1000000 in
set_option maxRecDepth 100000 in
/-- X4_init -/
theorem c_X4_init (l : Launch) (dC : Nat → ClassId) (dI : Nat → Nat → Nat) (aC : Nat → ClassId) (sz : Nat) (h1 : Nat)  : Met l yX4_init (wW yX4_init cX4_init 1 (none : Option FieldType)) ({ frames := 1, cells := 5, slots := 37, locals := 12 } : Room) (va_Pc [Value.ref h1] (fun U => U.heap.size = sz ∧ va_P (dC, dI) classes [cO h1 4 [Value.null, Value.null, Value.null, Value.null, Value.null, Value.int 0, Value.int 0, Value.int 0]] U.heap ∧ va_K (dC, dI) classes (TY aC) U ∧ va_D (fun _ => True) [cO h1 4 [Value.null, Value.null, Value.null, Value.null, Value.null, Value.int 0, Value.int 0, Value.int 0]] ∧ NX U)) (va_Qv (fun (sf : Nat → Int32) => sf = SET0) (fun (sf : Nat → Int32) (t : State) => ∃ (n1 n2 n3 n4 n5 : Nat), va_P (dC, dI) classes [oX4 h1 n1 n2 n3 n4 n5 0 0 0, cI aC n1 8 (fun _ => 0), cI aC n2 8 (fun _ => 0), cI aC n3 8 (fun _ => 0), cI aC n4 8 (fun _ => 0), cI aC n5 5 sf] t.heap ∧ va_K (dC, dI) classes (TY aC) t ∧ va_D (va_A [cO h1 4 [Value.null, Value.null, Value.null, Value.null, Value.null, Value.int 0, Value.int 0, Value.int 0]] sz) [oX4 h1 n1 n2 n3 n4 n5 0 0 0, cI aC n1 8 (fun _ => 0), cI aC n2 8 (fun _ => 0), cI aC n3 8 (fun _ => 0), cI aC n4 8 (fun _ => 0), cI aC n5 5 sf]) (va_A [cO h1 4 [Value.null, Value.null, Value.null, Value.null, Value.null, Value.int 0, Value.int 0, Value.int 0]] sz)) 5 37 (va_A [cO h1 4 [Value.null, Value.null, Value.null, Value.null, Value.null, Value.int 0, Value.int 0, Value.int 0]] sz) := by
  refine Met.ofW (cc := cX4_init) (maxL := 1) (ret := (none : Option FieldType)) (by decide) rfl ?_
  intro p e s m args below meth c s₁ B hml hv
  obtain ⟨rfl, hsz, hP, hK, hD0, hN⟩ := hv
  have hx := B.exec
  have hb := B.bytes
  have hr := B.returns
  have hts0 := atoms_spec (ws := (wW yX4_init cX4_init 1 (none : Option FieldType))) B.pre
  have hts : ∀ w9 ∈ lw_G, w9.before ([Value.ref h1] : List Value).toArray s = true := fun w9 h9 => hts0 w9 (List.mem_cons_of_mem _ h9)
  have hown : s.vm.findClass RX4 = some m.cls := findClass_of_methodNamed (x := yX4_init) B.named
  have hlocks := B.notSynchronized
  have hin : meth.name = "<init>" := (name_of_methodNamed B.named B.method).1
  subst hsz
  have hD := hD0.self (sz := s.heap.size)
  generalize hAe : va_A [cO h1 4 [Value.null, Value.null, Value.null, Value.null, Value.null, Value.int 0, Value.int 0, Value.int 0]] s.heap.size = A at hD ⊢
  have hA : ∀ q : Nat, s.heap.size ≤ q → A q := fun q h => by rw [← hAe]; exact Or.inr h
  obtain ⟨H, hHe⟩ : ∃ H : Heap, H = s.heap := ⟨_, rfl⟩
  have hS : va_S A s.heap H [] := by rw [hHe]; exact va_S.rf
  have hP : va_P (dC, dI) classes [cO h1 4 [Value.null, Value.null, Value.null, Value.null, Value.null, Value.int 0, Value.int 0, Value.int 0]] H := by rw [hHe]; exact hP
  have hl := lv_entry ([Value.ref h1]) (n := 1) (Nat.le_of_ble_eq_true rfl)
  rw [lg_entry_eq]
  generalize (lg_sl ([Value.ref h1]) ++ List.replicate (1 - (lg_sl ([Value.ref h1])).length) Slot.unset).toArray = ls at hl ⊢
  have hl : lv_has ls 1 [(0, Value.ref h1)] := hl
  rw [← hHe]
  refine lv_aload_n hx hb dX4_init_0 rfl (lv_at hl 0 rfl) ?_
  refine W.objInit hx hb hown (hts _ (gw kw_31 rfl)) (hts _ (gw kw_24 rfl)) (hts _ (gw kw_25 rfl)) rfl (by rw [hml]; exact hl.1) rfl dX4_init_1 (Nat.le_of_ble_eq_true rfl) (Nat.le_of_ble_eq_true rfl) ?_
  refine W.eq (g2 := F0 m 4 ls []) rfl ?_
  refine lv_aload_n hx hb dX4_init_4 rfl (lv_at hl 0 rfl) ?_
  refine lv_bipush (v := 8) hx hb dX4_init_5 (by decide) ?_
  refine va_newaI (N' := 8) (a0 := (8, .inl (fun _ => 0))) hx hb (hts _ (gw kw_73 rfl)) hK hP hD hS hA (by decide) (by decide) (by decide) (Nat.le_of_ble_eq_true rfl) (Nat.le_of_ble_eq_true rfl) dX4_init_7 rfl (fun q_1 H hP hD hS => ?_)
  have hpd9 : PDx (dC, dI) classes A H [cO h1 4 [Value.null, Value.null, Value.null, Value.null, Value.null, Value.int 0, Value.int 0, Value.int 0], cI aC q_1 8 (fun _ => 0)] := ⟨hP, hD⟩
  have hP := hpd9.1
  have hD := hpd9.2
  clear hpd9
  refine W.widen (k := 1) (n := 8) (by omega) (by omega) ?_
  refine va_putF (D := (dC, dI)) (ci := 4) (v := Value.ref q_1) (ty := .array .int) (C := RX4) (T := TX4) (N := 8) hx hb hts inX4 tyX4 tyX4_ok nmX4 hown hK hP hD hS 0 rfl rfl 0 (by decide) (hts _ (gw kw_32 rfl)) (fun _ h9 => h9) rfl hin rfl (by decide +kernel) rfl rfl (Nat.le_of_ble_eq_true rfl) dX4_init_9 (fun H locs hP hD hS => ?_)
  have hpd9 : PDx (dC, dI) classes A H [cO h1 4 [Value.ref q_1, Value.null, Value.null, Value.null, Value.null, Value.int 0, Value.int 0, Value.int 0], cI aC q_1 8 (fun _ => 0)] := ⟨hP, hD⟩
  have hP := hpd9.1
  have hD := hpd9.2
  clear hpd9
  refine lv_aload_n hx hb dX4_init_12 rfl (lv_at hl 0 rfl) ?_
  refine lv_bipush (v := 8) hx hb dX4_init_13 (by decide) ?_
  refine va_newaI (N' := 8) (a0 := (8, .inl (fun _ => 0))) hx hb (hts _ (gw kw_73 rfl)) hK hP hD hS hA (by decide) (by decide) (by decide) (Nat.le_of_ble_eq_true rfl) (Nat.le_of_ble_eq_true rfl) dX4_init_15 rfl (fun q_2 H hP hD hS => ?_)
  have hpd9 : PDx (dC, dI) classes A H [cO h1 4 [Value.ref q_1, Value.null, Value.null, Value.null, Value.null, Value.int 0, Value.int 0, Value.int 0], cI aC q_1 8 (fun _ => 0), cI aC q_2 8 (fun _ => 0)] := ⟨hP, hD⟩
  have hP := hpd9.1
  have hD := hpd9.2
  clear hpd9
  refine W.widen (k := 2) (n := 16) (by omega) (by omega) ?_
  refine va_putF (D := (dC, dI)) (ci := 4) (v := Value.ref q_2) (ty := .array .int) (C := RX4) (T := TX4) (N := 8) hx hb hts inX4 tyX4 tyX4_ok nmX4 hown hK hP hD hS 0 rfl rfl 1 (by decide) (hts _ (gw kw_35 rfl)) (fun _ h9 => h9) rfl hin rfl (by decide +kernel) rfl rfl (Nat.le_of_ble_eq_true rfl) dX4_init_17 (fun H locs hP hD hS => ?_)
  have hpd9 : PDx (dC, dI) classes A H [cO h1 4 [Value.ref q_1, Value.ref q_2, Value.null, Value.null, Value.null, Value.int 0, Value.int 0, Value.int 0], cI aC q_1 8 (fun _ => 0), cI aC q_2 8 (fun _ => 0)] := ⟨hP, hD⟩
  have hP := hpd9.1
  have hD := hpd9.2
  clear hpd9
  refine lv_aload_n hx hb dX4_init_20 rfl (lv_at hl 0 rfl) ?_
  refine lv_bipush (v := 8) hx hb dX4_init_21 (by decide) ?_
  refine va_newaI (N' := 8) (a0 := (8, .inl (fun _ => 0))) hx hb (hts _ (gw kw_73 rfl)) hK hP hD hS hA (by decide) (by decide) (by decide) (Nat.le_of_ble_eq_true rfl) (Nat.le_of_ble_eq_true rfl) dX4_init_23 rfl (fun q_3 H hP hD hS => ?_)
  have hpd9 : PDx (dC, dI) classes A H [cO h1 4 [Value.ref q_1, Value.ref q_2, Value.null, Value.null, Value.null, Value.int 0, Value.int 0, Value.int 0], cI aC q_1 8 (fun _ => 0), cI aC q_2 8 (fun _ => 0), cI aC q_3 8 (fun _ => 0)] := ⟨hP, hD⟩
  have hP := hpd9.1
  have hD := hpd9.2
  clear hpd9
  refine W.widen (k := 3) (n := 24) (by omega) (by omega) ?_
  refine va_putF (D := (dC, dI)) (ci := 4) (v := Value.ref q_3) (ty := .array .int) (C := RX4) (T := TX4) (N := 8) hx hb hts inX4 tyX4 tyX4_ok nmX4 hown hK hP hD hS 0 rfl rfl 2 (by decide) (hts _ (gw kw_38 rfl)) (fun _ h9 => h9) rfl hin rfl (by decide +kernel) rfl rfl (Nat.le_of_ble_eq_true rfl) dX4_init_25 (fun H locs hP hD hS => ?_)
  have hpd9 : PDx (dC, dI) classes A H [cO h1 4 [Value.ref q_1, Value.ref q_2, Value.ref q_3, Value.null, Value.null, Value.int 0, Value.int 0, Value.int 0], cI aC q_1 8 (fun _ => 0), cI aC q_2 8 (fun _ => 0), cI aC q_3 8 (fun _ => 0)] := ⟨hP, hD⟩
  have hP := hpd9.1
  have hD := hpd9.2
  clear hpd9
  refine lv_aload_n hx hb dX4_init_28 rfl (lv_at hl 0 rfl) ?_
  refine lv_bipush (v := 8) hx hb dX4_init_29 (by decide) ?_
  refine va_newaI (N' := 8) (a0 := (8, .inl (fun _ => 0))) hx hb (hts _ (gw kw_73 rfl)) hK hP hD hS hA (by decide) (by decide) (by decide) (Nat.le_of_ble_eq_true rfl) (Nat.le_of_ble_eq_true rfl) dX4_init_31 rfl (fun q_4 H hP hD hS => ?_)
  have hpd9 : PDx (dC, dI) classes A H [cO h1 4 [Value.ref q_1, Value.ref q_2, Value.ref q_3, Value.null, Value.null, Value.int 0, Value.int 0, Value.int 0], cI aC q_1 8 (fun _ => 0), cI aC q_2 8 (fun _ => 0), cI aC q_3 8 (fun _ => 0), cI aC q_4 8 (fun _ => 0)] := ⟨hP, hD⟩
  have hP := hpd9.1
  have hD := hpd9.2
  clear hpd9
  refine W.widen (k := 4) (n := 32) (by omega) (by omega) ?_
  refine va_putF (D := (dC, dI)) (ci := 4) (v := Value.ref q_4) (ty := .array .int) (C := RX4) (T := TX4) (N := 8) hx hb hts inX4 tyX4 tyX4_ok nmX4 hown hK hP hD hS 0 rfl rfl 3 (by decide) (hts _ (gw kw_41 rfl)) (fun _ h9 => h9) rfl hin rfl (by decide +kernel) rfl rfl (Nat.le_of_ble_eq_true rfl) dX4_init_33 (fun H locs hP hD hS => ?_)
  have hpd9 : PDx (dC, dI) classes A H [cO h1 4 [Value.ref q_1, Value.ref q_2, Value.ref q_3, Value.ref q_4, Value.null, Value.int 0, Value.int 0, Value.int 0], cI aC q_1 8 (fun _ => 0), cI aC q_2 8 (fun _ => 0), cI aC q_3 8 (fun _ => 0), cI aC q_4 8 (fun _ => 0)] := ⟨hP, hD⟩
  have hP := hpd9.1
  have hD := hpd9.2
  clear hpd9
  refine lv_aload_n hx hb dX4_init_36 rfl (lv_at hl 0 rfl) ?_
  refine lv_iconst (v := 5) hx hb dX4_init_37 (by decide) ?_
  refine va_newaI (N' := 5) (a0 := (5, .inl (fun _ => 0))) hx hb (hts _ (gw kw_73 rfl)) hK hP hD hS hA (by decide) (by decide) (by decide) (Nat.le_of_ble_eq_true rfl) (Nat.le_of_ble_eq_true rfl) dX4_init_38 rfl (fun q_5 H hP hD hS => ?_)
  have hpd9 : PDx (dC, dI) classes A H [cO h1 4 [Value.ref q_1, Value.ref q_2, Value.ref q_3, Value.ref q_4, Value.null, Value.int 0, Value.int 0, Value.int 0], cI aC q_1 8 (fun _ => 0), cI aC q_2 8 (fun _ => 0), cI aC q_3 8 (fun _ => 0), cI aC q_4 8 (fun _ => 0), cI aC q_5 5 (fun _ => 0)] := ⟨hP, hD⟩
  have hP := hpd9.1
  have hD := hpd9.2
  clear hpd9
  refine W.widen (k := 5) (n := 37) (by omega) (by omega) ?_
  refine lv_dup hx hb dX4_init_40 rfl ?_
  refine lv_iconst (v := 0) hx hb dX4_init_41 (by decide) ?_
  refine lv_bipush (v := 10) hx hb dX4_init_42 (by decide) ?_
  have h_6 : vp_in 0 5 := by first | exact vp_in_nI (by omega) (by omega) | (unfold vp_in; decide) | (subst_vars; first | (unfold vp_in; decide) | exact vp_in_nI (by omega) (by omega))
  refine va_iast hx hb hK hP hD hS 5 0 rfl rfl h_6 dX4_init_44 (fun H locs hP hD hS => ?_)
  obtain ⟨f_7, e_f_7⟩ : ∃ y : Nat → Int32, y = upd (fun _ => 0) (0 : Int32).toNatClampNeg 10 := ⟨_, rfl⟩
  have hpd9 : PDx (dC, dI) classes A H [cO h1 4 [Value.ref q_1, Value.ref q_2, Value.ref q_3, Value.ref q_4, Value.null, Value.int 0, Value.int 0, Value.int 0], cI aC q_1 8 (fun _ => 0), cI aC q_2 8 (fun _ => 0), cI aC q_3 8 (fun _ => 0), cI aC q_4 8 (fun _ => 0), cI aC q_5 5 f_7] := by rw [e_f_7]; exact ⟨hP, hD⟩
  have hP := hpd9.1
  have hD := hpd9.2
  clear hpd9
  refine lv_dup hx hb dX4_init_45 rfl ?_
  refine lv_iconst (v := 1) hx hb dX4_init_46 (by decide) ?_
  refine lv_iconst (v := 0) hx hb dX4_init_47 (by decide) ?_
  have h_8 : vp_in 1 5 := by first | exact vp_in_nI (by omega) (by omega) | (unfold vp_in; decide) | (subst_vars; first | (unfold vp_in; decide) | exact vp_in_nI (by omega) (by omega))
  refine va_iast hx hb hK hP hD hS 5 0 rfl rfl h_8 dX4_init_48 (fun H locs hP hD hS => ?_)
  obtain ⟨f_9, e_f_9⟩ : ∃ y : Nat → Int32, y = upd f_7 (1 : Int32).toNatClampNeg 0 := ⟨_, rfl⟩
  have hpd9 : PDx (dC, dI) classes A H [cO h1 4 [Value.ref q_1, Value.ref q_2, Value.ref q_3, Value.ref q_4, Value.null, Value.int 0, Value.int 0, Value.int 0], cI aC q_1 8 (fun _ => 0), cI aC q_2 8 (fun _ => 0), cI aC q_3 8 (fun _ => 0), cI aC q_4 8 (fun _ => 0), cI aC q_5 5 f_9] := by rw [e_f_9]; exact ⟨hP, hD⟩
  have hP := hpd9.1
  have hD := hpd9.2
  clear hpd9
  refine lv_dup hx hb dX4_init_49 rfl ?_
  refine lv_iconst (v := 2) hx hb dX4_init_50 (by decide) ?_
  refine lv_iconst (v := 0) hx hb dX4_init_51 (by decide) ?_
  have h_10 : vp_in 2 5 := by first | exact vp_in_nI (by omega) (by omega) | (unfold vp_in; decide) | (subst_vars; first | (unfold vp_in; decide) | exact vp_in_nI (by omega) (by omega))
  refine va_iast hx hb hK hP hD hS 5 0 rfl rfl h_10 dX4_init_52 (fun H locs hP hD hS => ?_)
  obtain ⟨f_11, e_f_11⟩ : ∃ y : Nat → Int32, y = upd f_9 (2 : Int32).toNatClampNeg 0 := ⟨_, rfl⟩
  have hpd9 : PDx (dC, dI) classes A H [cO h1 4 [Value.ref q_1, Value.ref q_2, Value.ref q_3, Value.ref q_4, Value.null, Value.int 0, Value.int 0, Value.int 0], cI aC q_1 8 (fun _ => 0), cI aC q_2 8 (fun _ => 0), cI aC q_3 8 (fun _ => 0), cI aC q_4 8 (fun _ => 0), cI aC q_5 5 f_11] := by rw [e_f_11]; exact ⟨hP, hD⟩
  have hP := hpd9.1
  have hD := hpd9.2
  clear hpd9
  refine lv_dup hx hb dX4_init_53 rfl ?_
  refine lv_iconst (v := 3) hx hb dX4_init_54 (by decide) ?_
  refine lv_iconst (v := 0) hx hb dX4_init_55 (by decide) ?_
  have h_12 : vp_in 3 5 := by first | exact vp_in_nI (by omega) (by omega) | (unfold vp_in; decide) | (subst_vars; first | (unfold vp_in; decide) | exact vp_in_nI (by omega) (by omega))
  refine va_iast hx hb hK hP hD hS 5 0 rfl rfl h_12 dX4_init_56 (fun H locs hP hD hS => ?_)
  obtain ⟨f_13, e_f_13⟩ : ∃ y : Nat → Int32, y = upd f_11 (3 : Int32).toNatClampNeg 0 := ⟨_, rfl⟩
  have hpd9 : PDx (dC, dI) classes A H [cO h1 4 [Value.ref q_1, Value.ref q_2, Value.ref q_3, Value.ref q_4, Value.null, Value.int 0, Value.int 0, Value.int 0], cI aC q_1 8 (fun _ => 0), cI aC q_2 8 (fun _ => 0), cI aC q_3 8 (fun _ => 0), cI aC q_4 8 (fun _ => 0), cI aC q_5 5 f_13] := by rw [e_f_13]; exact ⟨hP, hD⟩
  have hP := hpd9.1
  have hD := hpd9.2
  clear hpd9
  refine lv_dup hx hb dX4_init_57 rfl ?_
  refine lv_iconst (v := 4) hx hb dX4_init_58 (by decide) ?_
  refine lv_bipush (v := 10) hx hb dX4_init_59 (by decide) ?_
  have h_14 : vp_in 4 5 := by first | exact vp_in_nI (by omega) (by omega) | (unfold vp_in; decide) | (subst_vars; first | (unfold vp_in; decide) | exact vp_in_nI (by omega) (by omega))
  refine va_iast hx hb hK hP hD hS 5 0 rfl rfl h_14 dX4_init_61 (fun H locs hP hD hS => ?_)
  obtain ⟨f_15, e_f_15⟩ : ∃ y : Nat → Int32, y = upd f_13 (4 : Int32).toNatClampNeg 10 := ⟨_, rfl⟩
  have hpd9 : PDx (dC, dI) classes A H [cO h1 4 [Value.ref q_1, Value.ref q_2, Value.ref q_3, Value.ref q_4, Value.null, Value.int 0, Value.int 0, Value.int 0], cI aC q_1 8 (fun _ => 0), cI aC q_2 8 (fun _ => 0), cI aC q_3 8 (fun _ => 0), cI aC q_4 8 (fun _ => 0), cI aC q_5 5 f_15] := by rw [e_f_15]; exact ⟨hP, hD⟩
  have hP := hpd9.1
  have hD := hpd9.2
  clear hpd9
  refine va_putF (D := (dC, dI)) (ci := 4) (v := Value.ref q_5) (ty := .array .int) (C := RX4) (T := TX4) (N := 8) hx hb hts inX4 tyX4 tyX4_ok nmX4 hown hK hP hD hS 0 rfl rfl 4 (by decide) (hts _ (gw kw_43 rfl)) (fun _ h9 => h9) rfl hin rfl (by decide +kernel) rfl rfl (Nat.le_of_ble_eq_true rfl) dX4_init_62 (fun H locs hP hD hS => ?_)
  have hpd9 : PDx (dC, dI) classes A H [oX4 h1 q_1 q_2 q_3 q_4 q_5 0 0 0, cI aC q_1 8 (fun _ => 0), cI aC q_2 8 (fun _ => 0), cI aC q_3 8 (fun _ => 0), cI aC q_4 8 (fun _ => 0), cI aC q_5 5 f_15] := ⟨hP, hD⟩
  have hP := hpd9.1
  have hD := hpd9.2
  clear hpd9
  have hpd9 := pd_N (cx := [oX4 h1 q_1 q_2 q_3 q_4 q_5 0 0 0, cI aC q_1 8 (fun _ => 0), cI aC q_2 8 (fun _ => 0), cI aC q_3 8 (fun _ => 0), cI aC q_4 8 (fun _ => 0), cI aC q_5 5 f_15]) hP hD [0, 1, 2, 3, 4, 5] (by decide) rfl
  have hP9 := hpd9.1
  have hD9 := hpd9.2
  refine W.widen (k := 5) (n := 37) (by omega) (by omega) ?_
  exact W.vret hx hb hr (fun t ht hW => ⟨⟨(f_15), rfl, by subst e_f_15; subst e_f_13; subst e_f_11; subst e_f_9; subst e_f_7; rfl, q_1, q_2, q_3, q_4, q_5, by rw [ht]; exact hP9, va_K.moved hW.alike hK, hD9⟩, hS.F ht⟩) hS.2.2 dX4_init_65

set_option maxHeartbeats 1000000 in
set_option maxRecDepth 100000 in
/-- X7_init -/
theorem c_X7_init (l : Launch) (dC : Nat → ClassId) (dI : Nat → Nat → Nat) (aC : Nat → ClassId) (sz : Nat) (h1 : Nat)  : Met l yX7_init (wW yX7_init cX7_init 1 (none : Option FieldType)) ({ frames := 1, cells := 1, slots := 64, locals := 12 } : Room) (va_Pc [Value.ref h1] (fun U => U.heap.size = sz ∧ va_P (dC, dI) classes [cO h1 7 [Value.int 0, Value.null]] U.heap ∧ va_K (dC, dI) classes (TY aC) U ∧ va_D (fun _ => True) [cO h1 7 [Value.int 0, Value.null]] ∧ NX U)) (va_Qv (fun (_ : Unit) => True) (fun (_ : Unit) (t : State) => ∃ (n1 : Nat), va_P (dC, dI) classes [oX7 h1 0 n1, cC aC n1 64 (fun _ => 0)] t.heap ∧ va_K (dC, dI) classes (TY aC) t ∧ va_D (va_A [cO h1 7 [Value.int 0, Value.null]] sz) [oX7 h1 0 n1, cC aC n1 64 (fun _ => 0)]) (va_A [cO h1 7 [Value.int 0, Value.null]] sz)) 1 64 (va_A [cO h1 7 [Value.int 0, Value.null]] sz) := by
  refine Met.ofW (cc := cX7_init) (maxL := 1) (ret := (none : Option FieldType)) (by decide) rfl ?_
  intro p e s m args below meth c s₁ B hml hv
  obtain ⟨rfl, hsz, hP, hK, hD0, hN⟩ := hv
  have hx := B.exec
  have hb := B.bytes
  have hr := B.returns
  have hts0 := atoms_spec (ws := (wW yX7_init cX7_init 1 (none : Option FieldType))) B.pre
  have hts : ∀ w9 ∈ lw_G, w9.before ([Value.ref h1] : List Value).toArray s = true := fun w9 h9 => hts0 w9 (List.mem_cons_of_mem _ h9)
  have hown : s.vm.findClass RX7 = some m.cls := findClass_of_methodNamed (x := yX7_init) B.named
  have hlocks := B.notSynchronized
  have hin : meth.name = "<init>" := (name_of_methodNamed B.named B.method).1
  subst hsz
  have hD := hD0.self (sz := s.heap.size)
  generalize hAe : va_A [cO h1 7 [Value.int 0, Value.null]] s.heap.size = A at hD ⊢
  have hA : ∀ q : Nat, s.heap.size ≤ q → A q := fun q h => by rw [← hAe]; exact Or.inr h
  obtain ⟨H, hHe⟩ : ∃ H : Heap, H = s.heap := ⟨_, rfl⟩
  have hS : va_S A s.heap H [] := by rw [hHe]; exact va_S.rf
  have hP : va_P (dC, dI) classes [cO h1 7 [Value.int 0, Value.null]] H := by rw [hHe]; exact hP
  have hl := lv_entry ([Value.ref h1]) (n := 1) (Nat.le_of_ble_eq_true rfl)
  rw [lg_entry_eq]
  generalize (lg_sl ([Value.ref h1]) ++ List.replicate (1 - (lg_sl ([Value.ref h1])).length) Slot.unset).toArray = ls at hl ⊢
  have hl : lv_has ls 1 [(0, Value.ref h1)] := hl
  rw [← hHe]
  refine lv_aload_n hx hb dX7_init_0 rfl (lv_at hl 0 rfl) ?_
  refine W.objInit hx hb hown (hts _ (gw kw_79 rfl)) (hts _ (gw kw_24 rfl)) (hts _ (gw kw_25 rfl)) rfl (by rw [hml]; exact hl.1) rfl dX7_init_1 (Nat.le_of_ble_eq_true rfl) (Nat.le_of_ble_eq_true rfl) ?_
  refine W.eq (g2 := F0 m 4 ls []) rfl ?_
  refine lv_aload_n hx hb dX7_init_4 rfl (lv_at hl 0 rfl) ?_
  refine lv_bipush (v := 64) hx hb dX7_init_5 (by decide) ?_
  refine va_newaC (N' := 64) (a0 := (64, .inl (fun _ => 0))) hx hb (hts _ (gw kw_88 rfl)) hK hP hD hS hA (by decide) (by decide) (by decide) (Nat.le_of_ble_eq_true rfl) (Nat.le_of_ble_eq_true rfl) dX7_init_7 rfl (fun q_1 H hP hD hS => ?_)
  have hpd9 : PDx (dC, dI) classes A H [cO h1 7 [Value.int 0, Value.null], cC aC q_1 64 (fun _ => 0)] := ⟨hP, hD⟩
  have hP := hpd9.1
  have hD := hpd9.2
  clear hpd9
  refine W.widen (k := 1) (n := 64) (by omega) (by omega) ?_
  refine va_putF (D := (dC, dI)) (ci := 7) (v := Value.ref q_1) (ty := .array .char) (C := RX7) (T := TX7) (N := 2) hx hb hts inX7 tyX7 tyX7_ok nmX7 hown hK hP hD hS 0 rfl rfl 1 (by decide) (hts _ (gw kw_82 rfl)) (fun _ h9 => h9) rfl hin rfl (by decide +kernel) rfl rfl (Nat.le_of_ble_eq_true rfl) dX7_init_9 (fun H locs hP hD hS => ?_)
  have hpd9 : PDx (dC, dI) classes A H [oX7 h1 0 q_1, cC aC q_1 64 (fun _ => 0)] := ⟨hP, hD⟩
  have hP := hpd9.1
  have hD := hpd9.2
  clear hpd9
  have hpd9 := pd_N (cx := [oX7 h1 0 q_1, cC aC q_1 64 (fun _ => 0)]) hP hD [0, 1] (by decide) rfl
  have hP9 := hpd9.1
  have hD9 := hpd9.2
  refine W.widen (k := 1) (n := 64) (by omega) (by omega) ?_
  exact W.vret hx hb hr (fun t ht hW => ⟨⟨(), rfl, trivial, q_1, by rw [ht]; exact hP9, va_K.moved hW.alike hK, hD9⟩, hS.F ht⟩) hS.2.2 dX7_init_12

set_option maxHeartbeats 1000000 in
set_option maxRecDepth 100000 in
/-- X2_init -/
theorem c_X2_init (l : Launch) (dC : Nat → ClassId) (dI : Nat → Nat → Nat) (aC : Nat → ClassId) (sz : Nat) (h1 : Nat) (kv : Nat)  : Met l yX2_init (wW yX2_init cX2_init 2 (none : Option FieldType)) ({ frames := 1, cells := 3, slots := 180, locals := 12 } : Room) (va_Pc [Value.ref h1, Value.ref kv] (fun U => U.heap.size = sz ∧ va_P (dC, dI) classes [cO h1 2 [Value.null, Value.null, Value.null, Value.null, Value.int 0, Value.int 0]] U.heap ∧ va_K (dC, dI) classes (TY aC) U ∧ va_D (fun _ => True) [cO h1 2 [Value.null, Value.null, Value.null, Value.null, Value.int 0, Value.int 0]] ∧ NX U)) (va_Qv (fun (_ : Unit) => True) (fun (_ : Unit) (t : State) => ∃ (n1 n2 n3 : Nat), va_P (dC, dI) classes [oX2 h1 n1 n2 n3 kv 0 0, cI aC n1 60 (fun _ => 0), cI aC n2 60 (fun _ => 0), cI aC n3 60 (fun _ => 0)] t.heap ∧ va_K (dC, dI) classes (TY aC) t ∧ va_D (va_A [cO h1 2 [Value.null, Value.null, Value.null, Value.null, Value.int 0, Value.int 0]] sz) [oX2 h1 n1 n2 n3 kv 0 0, cI aC n1 60 (fun _ => 0), cI aC n2 60 (fun _ => 0), cI aC n3 60 (fun _ => 0)]) (va_A [cO h1 2 [Value.null, Value.null, Value.null, Value.null, Value.int 0, Value.int 0]] sz)) 3 180 (va_A [cO h1 2 [Value.null, Value.null, Value.null, Value.null, Value.int 0, Value.int 0]] sz) := by
  refine Met.ofW (cc := cX2_init) (maxL := 2) (ret := (none : Option FieldType)) (by decide) rfl ?_
  intro p e s m args below meth c s₁ B hml hv
  obtain ⟨rfl, hsz, hP, hK, hD0, hN⟩ := hv
  have hx := B.exec
  have hb := B.bytes
  have hr := B.returns
  have hts0 := atoms_spec (ws := (wW yX2_init cX2_init 2 (none : Option FieldType))) B.pre
  have hts : ∀ w9 ∈ lw_G, w9.before ([Value.ref h1, Value.ref kv] : List Value).toArray s = true := fun w9 h9 => hts0 w9 (List.mem_cons_of_mem _ h9)
  have hown : s.vm.findClass RX2 = some m.cls := findClass_of_methodNamed (x := yX2_init) B.named
  have hlocks := B.notSynchronized
  have hin : meth.name = "<init>" := (name_of_methodNamed B.named B.method).1
  subst hsz
  have hD := hD0.self (sz := s.heap.size)
  generalize hAe : va_A [cO h1 2 [Value.null, Value.null, Value.null, Value.null, Value.int 0, Value.int 0]] s.heap.size = A at hD ⊢
  have hA : ∀ q : Nat, s.heap.size ≤ q → A q := fun q h => by rw [← hAe]; exact Or.inr h
  obtain ⟨H, hHe⟩ : ∃ H : Heap, H = s.heap := ⟨_, rfl⟩
  have hS : va_S A s.heap H [] := by rw [hHe]; exact va_S.rf
  have hP : va_P (dC, dI) classes [cO h1 2 [Value.null, Value.null, Value.null, Value.null, Value.int 0, Value.int 0]] H := by rw [hHe]; exact hP
  have hl := lv_entry ([Value.ref h1, Value.ref kv]) (n := 2) (Nat.le_of_ble_eq_true rfl)
  rw [lg_entry_eq]
  generalize (lg_sl ([Value.ref h1, Value.ref kv]) ++ List.replicate (2 - (lg_sl ([Value.ref h1, Value.ref kv])).length) Slot.unset).toArray = ls at hl ⊢
  have hl : lv_has ls 2 [(0, Value.ref h1), (1, Value.ref kv)] := hl
  rw [← hHe]
  refine lv_aload_n hx hb dX2_init_0 rfl (lv_at hl 0 rfl) ?_
  refine W.objInit hx hb hown (hts _ (gw kw_205 rfl)) (hts _ (gw kw_24 rfl)) (hts _ (gw kw_25 rfl)) rfl (by rw [hml]; exact hl.1) rfl dX2_init_1 (Nat.le_of_ble_eq_true rfl) (Nat.le_of_ble_eq_true rfl) ?_
  refine W.eq (g2 := F0 m 4 ls []) rfl ?_
  refine lv_aload_n hx hb dX2_init_4 rfl (lv_at hl 0 rfl) ?_
  refine lv_bipush (v := 60) hx hb dX2_init_5 (by decide) ?_
  refine va_newaI (N' := 60) (a0 := (60, .inl (fun _ => 0))) hx hb (hts _ (gw kw_73 rfl)) hK hP hD hS hA (by decide) (by decide) (by decide) (Nat.le_of_ble_eq_true rfl) (Nat.le_of_ble_eq_true rfl) dX2_init_7 rfl (fun q_1 H hP hD hS => ?_)
  have hpd9 : PDx (dC, dI) classes A H [cO h1 2 [Value.null, Value.null, Value.null, Value.null, Value.int 0, Value.int 0], cI aC q_1 60 (fun _ => 0)] := ⟨hP, hD⟩
  have hP := hpd9.1
  have hD := hpd9.2
  clear hpd9
  refine W.widen (k := 1) (n := 60) (by omega) (by omega) ?_
  refine va_putF (D := (dC, dI)) (ci := 2) (v := Value.ref q_1) (ty := .array .int) (C := RX2) (T := TX2) (N := 6) hx hb hts inX2 tyX2 tyX2_ok nmX2 hown hK hP hD hS 0 rfl rfl 0 (by decide) (hts _ (gw kw_206 rfl)) (fun _ h9 => h9) rfl hin rfl (by decide +kernel) rfl rfl (Nat.le_of_ble_eq_true rfl) dX2_init_9 (fun H locs hP hD hS => ?_)
  have hpd9 : PDx (dC, dI) classes A H [cO h1 2 [Value.ref q_1, Value.null, Value.null, Value.null, Value.int 0, Value.int 0], cI aC q_1 60 (fun _ => 0)] := ⟨hP, hD⟩
  have hP := hpd9.1
  have hD := hpd9.2
  clear hpd9
  refine lv_aload_n hx hb dX2_init_12 rfl (lv_at hl 0 rfl) ?_
  refine lv_bipush (v := 60) hx hb dX2_init_13 (by decide) ?_
  refine va_newaI (N' := 60) (a0 := (60, .inl (fun _ => 0))) hx hb (hts _ (gw kw_73 rfl)) hK hP hD hS hA (by decide) (by decide) (by decide) (Nat.le_of_ble_eq_true rfl) (Nat.le_of_ble_eq_true rfl) dX2_init_15 rfl (fun q_2 H hP hD hS => ?_)
  have hpd9 : PDx (dC, dI) classes A H [cO h1 2 [Value.ref q_1, Value.null, Value.null, Value.null, Value.int 0, Value.int 0], cI aC q_1 60 (fun _ => 0), cI aC q_2 60 (fun _ => 0)] := ⟨hP, hD⟩
  have hP := hpd9.1
  have hD := hpd9.2
  clear hpd9
  refine W.widen (k := 2) (n := 120) (by omega) (by omega) ?_
  refine va_putF (D := (dC, dI)) (ci := 2) (v := Value.ref q_2) (ty := .array .int) (C := RX2) (T := TX2) (N := 6) hx hb hts inX2 tyX2 tyX2_ok nmX2 hown hK hP hD hS 0 rfl rfl 1 (by decide) (hts _ (gw kw_208 rfl)) (fun _ h9 => h9) rfl hin rfl (by decide +kernel) rfl rfl (Nat.le_of_ble_eq_true rfl) dX2_init_17 (fun H locs hP hD hS => ?_)
  have hpd9 : PDx (dC, dI) classes A H [cO h1 2 [Value.ref q_1, Value.ref q_2, Value.null, Value.null, Value.int 0, Value.int 0], cI aC q_1 60 (fun _ => 0), cI aC q_2 60 (fun _ => 0)] := ⟨hP, hD⟩
  have hP := hpd9.1
  have hD := hpd9.2
  clear hpd9
  refine lv_aload_n hx hb dX2_init_20 rfl (lv_at hl 0 rfl) ?_
  refine lv_bipush (v := 60) hx hb dX2_init_21 (by decide) ?_
  refine va_newaI (N' := 60) (a0 := (60, .inl (fun _ => 0))) hx hb (hts _ (gw kw_73 rfl)) hK hP hD hS hA (by decide) (by decide) (by decide) (Nat.le_of_ble_eq_true rfl) (Nat.le_of_ble_eq_true rfl) dX2_init_23 rfl (fun q_3 H hP hD hS => ?_)
  have hpd9 : PDx (dC, dI) classes A H [cO h1 2 [Value.ref q_1, Value.ref q_2, Value.null, Value.null, Value.int 0, Value.int 0], cI aC q_1 60 (fun _ => 0), cI aC q_2 60 (fun _ => 0), cI aC q_3 60 (fun _ => 0)] := ⟨hP, hD⟩
  have hP := hpd9.1
  have hD := hpd9.2
  clear hpd9
  refine W.widen (k := 3) (n := 180) (by omega) (by omega) ?_
  refine va_putF (D := (dC, dI)) (ci := 2) (v := Value.ref q_3) (ty := .array .int) (C := RX2) (T := TX2) (N := 6) hx hb hts inX2 tyX2 tyX2_ok nmX2 hown hK hP hD hS 0 rfl rfl 2 (by decide) (hts _ (gw kw_209 rfl)) (fun _ h9 => h9) rfl hin rfl (by decide +kernel) rfl rfl (Nat.le_of_ble_eq_true rfl) dX2_init_25 (fun H locs hP hD hS => ?_)
  have hpd9 : PDx (dC, dI) classes A H [cO h1 2 [Value.ref q_1, Value.ref q_2, Value.ref q_3, Value.null, Value.int 0, Value.int 0], cI aC q_1 60 (fun _ => 0), cI aC q_2 60 (fun _ => 0), cI aC q_3 60 (fun _ => 0)] := ⟨hP, hD⟩
  have hP := hpd9.1
  have hD := hpd9.2
  clear hpd9
  refine lv_aload_n hx hb dX2_init_28 rfl (lv_at hl 0 rfl) ?_
  refine lv_aload_n hx hb dX2_init_29 rfl (lv_at hl 1 rfl) ?_
  refine va_putF (D := (dC, dI)) (ci := 2) (v := Value.ref kv) (ty := .object "EldestSays$Clever") (C := RX2) (T := TX2) (N := 6) hx hb hts inX2 tyX2 tyX2_ok nmX2 hown hK hP hD hS 0 rfl rfl 3 (by decide) (hts _ (gw kw_210 rfl)) (fun _ h9 => h9) rfl hin rfl (by decide +kernel) rfl rfl (Nat.le_of_ble_eq_true rfl) dX2_init_30 (fun H locs hP hD hS => ?_)
  have hpd9 : PDx (dC, dI) classes A H [oX2 h1 q_1 q_2 q_3 kv 0 0, cI aC q_1 60 (fun _ => 0), cI aC q_2 60 (fun _ => 0), cI aC q_3 60 (fun _ => 0)] := ⟨hP, hD⟩
  have hP := hpd9.1
  have hD := hpd9.2
  clear hpd9
  have hpd9 := pd_N (cx := [oX2 h1 q_1 q_2 q_3 kv 0 0, cI aC q_1 60 (fun _ => 0), cI aC q_2 60 (fun _ => 0), cI aC q_3 60 (fun _ => 0)]) hP hD [0, 1, 2, 3] (by decide) rfl
  have hP9 := hpd9.1
  have hD9 := hpd9.2
  refine W.widen (k := 3) (n := 180) (by omega) (by omega) ?_
  exact W.vret hx hb hr (fun t ht hW => ⟨⟨(), rfl, trivial, q_1, q_2, q_3, by rw [ht]; exact hP9, va_K.moved hW.alike hK, hD9⟩, hS.F ht⟩) hS.2.2 dX2_init_33

set_option maxHeartbeats 1000000 in
set_option maxRecDepth 100000 in
/-- X9_init -/
theorem c_X9_init (l : Launch) (dC : Nat → ClassId) (dI : Nat → Nat → Nat) (aC : Nat → ClassId) (sz : Nat) (h1 : Nat) (kk : Nat) (L : List Nat) (g : Nat → Nat → Int32)  : Met l yX9_init (wW yX9_init cX9_init 2 (none : Option FieldType)) ({ frames := 2, cells := 40, slots := 555, locals := 32 } : Room) (va_Pc [Value.ref h1, Value.ref kk] (fun U => U.heap.size = sz ∧ va_P (dC, dI) classes (wp [cO h1 9 [Value.null, Value.null, Value.null, Value.null, Value.null, Value.null, Value.null, Value.null, Value.null, Value.null, Value.null, Value.null, Value.int 0, Value.int 0]] (va_pl L (plE aC g))) U.heap ∧ va_K (dC, dI) classes (TY aC) U ∧ va_D (fun _ => True) (wp [cO h1 9 [Value.null, Value.null, Value.null, Value.null, Value.null, Value.null, Value.null, Value.null, Value.null, Value.null, Value.null, Value.null, Value.int 0, Value.int 0]] (va_pl L (plE aC g))) ∧ NX U)) (va_Qv (fun (u : (Nat → Int32) × List Nat × (Nat → Nat → Int32) × (Nat → Nat) × (Nat → Nat) × (Nat → Nat) × (Nat → Option Nat) × (Nat → Option Nat) × (Nat → Option Nat)) => match u with | (sf, L2, g2, ro, rp, rs, fo, fp, fs) => sf = SET0 ∧ GRD L2 fo fp fs ro rp rs ∧ (∀ a, a ∈ L → a ∈ L2) ∧ ∀ q, q < 8 → ro q ∉ L ∧ rp q ∉ L ∧ rs q ∉ L) (fun (u : (Nat → Int32) × List Nat × (Nat → Nat → Int32) × (Nat → Nat) × (Nat → Nat) × (Nat → Nat) × (Nat → Option Nat) × (Nat → Option Nat) × (Nat → Option Nat)) (t : State) => match u with | (sf, L2, g2, ro, rp, rs, fo, fp, fs) => ∃ (o1 o2 o3 o4 o5 o6 nev o7 o8 o9 oa n1 n2 n3 n4 n5 : Nat), va_P (dC, dI) classes (wp [oX9 h1 o1 o2 o3 o4 o5 o6 nev kk o7 o8 o9 oa 0 0, cA aC o1 8 fo, cA aC o2 8 fp, cA aC o3 8 fs, cI aC o4 8 (fun _ => 0), cI aC o5 8 (fun _ => 0), cI aC o6 8 (fun _ => 0), oX4 nev n1 n2 n3 n4 n5 0 0 0, cI aC n1 8 (fun _ => 0), cI aC n2 8 (fun _ => 0), cI aC n3 8 (fun _ => 0), cI aC n4 8 (fun _ => 0), cI aC n5 5 sf, cI aC o7 7 (fun _ => 0), cI aC o8 7 (fun _ => 0), cI aC o9 128 (fun _ => 0), cI aC oa 128 (fun _ => 0)] (va_pl L2 (plE aC g2))) t.heap ∧ va_K (dC, dI) classes (TY aC) t ∧ va_D (va_A (wp [cO h1 9 [Value.null, Value.null, Value.null, Value.null, Value.null, Value.null, Value.null, Value.null, Value.null, Value.null, Value.null, Value.null, Value.int 0, Value.int 0]] (va_pl L (plE aC g))) sz) (wp [oX9 h1 o1 o2 o3 o4 o5 o6 nev kk o7 o8 o9 oa 0 0, cA aC o1 8 fo, cA aC o2 8 fp, cA aC o3 8 fs, cI aC o4 8 (fun _ => 0), cI aC o5 8 (fun _ => 0), cI aC o6 8 (fun _ => 0), oX4 nev n1 n2 n3 n4 n5 0 0 0, cI aC n1 8 (fun _ => 0), cI aC n2 8 (fun _ => 0), cI aC n3 8 (fun _ => 0), cI aC n4 8 (fun _ => 0), cI aC n5 5 sf, cI aC o7 7 (fun _ => 0), cI aC o8 7 (fun _ => 0), cI aC o9 128 (fun _ => 0), cI aC oa 128 (fun _ => 0)] (va_pl L2 (plE aC g2)))) (va_A (wp [cO h1 9 [Value.null, Value.null, Value.null, Value.null, Value.null, Value.null, Value.null, Value.null, Value.null, Value.null, Value.null, Value.null, Value.int 0, Value.int 0]] (va_pl L (plE aC g))) sz)) 40 555 (va_A (wp [cO h1 9 [Value.null, Value.null, Value.null, Value.null, Value.null, Value.null, Value.null, Value.null, Value.null, Value.null, Value.null, Value.null, Value.int 0, Value.int 0]] (va_pl L (plE aC g))) sz) := by
  refine Met.ofW (cc := cX9_init) (maxL := 2) (ret := (none : Option FieldType)) (by decide) rfl ?_
  intro p e s m args below meth c s₁ B hml hv
  obtain ⟨rfl, hsz, hP, hK, hD0, hN⟩ := hv
  have hx := B.exec
  have hb := B.bytes
  have hr := B.returns
  have hts0 := atoms_spec (ws := (wW yX9_init cX9_init 2 (none : Option FieldType))) B.pre
  have hts : ∀ w9 ∈ lw_G, w9.before ([Value.ref h1, Value.ref kk] : List Value).toArray s = true := fun w9 h9 => hts0 w9 (List.mem_cons_of_mem _ h9)
  have hown : s.vm.findClass RX9 = some m.cls := findClass_of_methodNamed (x := yX9_init) B.named
  have hlocks := B.notSynchronized
  have hin : meth.name = "<init>" := (name_of_methodNamed B.named B.method).1
  subst hsz
  have hD := hD0.self (sz := s.heap.size)
  generalize hAe : va_A (wp [cO h1 9 [Value.null, Value.null, Value.null, Value.null, Value.null, Value.null, Value.null, Value.null, Value.null, Value.null, Value.null, Value.null, Value.int 0, Value.int 0]] (va_pl L (plE aC g))) s.heap.size = A at hD ⊢
  have hA : ∀ q : Nat, s.heap.size ≤ q → A q := fun q h => by rw [← hAe]; exact Or.inr h
  obtain ⟨H, hHe⟩ : ∃ H : Heap, H = s.heap := ⟨_, rfl⟩
  have hS : va_S A s.heap H [] := by rw [hHe]; exact va_S.rf
  have hP : va_P (dC, dI) classes (wp [cO h1 9 [Value.null, Value.null, Value.null, Value.null, Value.null, Value.null, Value.null, Value.null, Value.null, Value.null, Value.null, Value.null, Value.int 0, Value.int 0]] (va_pl L (plE aC g))) H := by rw [hHe]; exact hP
  have hl := lv_entry ([Value.ref h1, Value.ref kk]) (n := 2) (Nat.le_of_ble_eq_true rfl)
  rw [lg_entry_eq]
  generalize (lg_sl ([Value.ref h1, Value.ref kk]) ++ List.replicate (2 - (lg_sl ([Value.ref h1, Value.ref kk])).length) Slot.unset).toArray = ls at hl ⊢
  have hl : lv_has ls 2 [(0, Value.ref h1), (1, Value.ref kk)] := hl
  rw [← hHe]
  refine lv_aload_n hx hb dX9_init_0 rfl (lv_at hl 0 rfl) ?_
  refine W.objInit hx hb hown (hts _ (gw kw_145 rfl)) (hts _ (gw kw_24 rfl)) (hts _ (gw kw_25 rfl)) rfl (by rw [hml]; exact hl.1) rfl dX9_init_1 (Nat.le_of_ble_eq_true rfl) (Nat.le_of_ble_eq_true rfl) ?_
  refine W.eq (g2 := F0 m 4 ls []) rfl ?_
  refine lv_aload_n hx hb dX9_init_4 rfl (lv_at hl 0 rfl) ?_
  refine lv_bipush (v := 8) hx hb dX9_init_5 (by decide) ?_
  refine lv_bipush (v := 8) hx hb dX9_init_7 (by decide) ?_
  refine pl_mna (X := [cO h1 9 [Value.null, Value.null, Value.null, Value.null, Value.null, Value.null, Value.null, Value.null, Value.null, Value.null, Value.null, Value.null, Value.int 0, Value.int 0]]) hx hb hown (hts _ (gw kw_146 rfl)) (va_AOA.use hN.2.2) (hts _ (gw kw_73 rfl)) hK hP hD hS hA (Nat.le_of_ble_eq_true rfl) (Nat.le_of_ble_eq_true rfl) dX9_init_9 (fun q_1 r_2 L_3 g_4 H r_2_i r_2_a r_2_s hP hD hS => ?_)
  have hpd9 : PDx (dC, dI) classes A H (wp [cO h1 9 [Value.null, Value.null, Value.null, Value.null, Value.null, Value.null, Value.null, Value.null, Value.null, Value.null, Value.null, Value.null, Value.int 0, Value.int 0], cA aC q_1 8 (fun i => if i < 8 then some (r_2 i) else none)] (va_pl L_3 (plE aC g_4))) := ⟨hP, hD⟩
  have hP := hpd9.1
  have hD := hpd9.2
  clear hpd9
  refine W.widen (k := 9) (n := 72) (by omega) (by omega) ?_
  refine va_putF (D := (dC, dI)) (ci := 9) (v := Value.ref q_1) (ty := .array (.array .int)) (C := RX9) (T := TX9) (N := 14) hx hb hts inX9 tyX9 tyX9_ok nmX9 hown hK hP hD hS 0 rfl rfl 0 (by decide) (hts _ (gw kw_150 rfl)) (fun _ h9 => h9) rfl hin rfl (by decide +kernel) rfl rfl (Nat.le_of_ble_eq_true rfl) dX9_init_13 (fun H locs hP hD hS => ?_)
  have hpd9 : PDx (dC, dI) classes A H (wp [cO h1 9 [Value.ref q_1, Value.null, Value.null, Value.null, Value.null, Value.null, Value.null, Value.null, Value.null, Value.null, Value.null, Value.null, Value.int 0, Value.int 0], cA aC q_1 8 (fun i => if i < 8 then some (r_2 i) else none)] (va_pl L_3 (plE aC g_4))) := ⟨hP, hD⟩
  have hP := hpd9.1
  have hD := hpd9.2
  clear hpd9
  refine lv_aload_n hx hb dX9_init_16 rfl (lv_at hl 0 rfl) ?_
  refine lv_bipush (v := 8) hx hb dX9_init_17 (by decide) ?_
  refine lv_bipush (v := 8) hx hb dX9_init_19 (by decide) ?_
  refine pl_mna (X := [cO h1 9 [Value.ref q_1, Value.null, Value.null, Value.null, Value.null, Value.null, Value.null, Value.null, Value.null, Value.null, Value.null, Value.null, Value.int 0, Value.int 0], cA aC q_1 8 (fun i => if i < 8 then some (r_2 i) else none)]) hx hb hown (hts _ (gw kw_146 rfl)) (va_AOA.use hN.2.2) (hts _ (gw kw_73 rfl)) hK hP hD hS hA (Nat.le_of_ble_eq_true rfl) (Nat.le_of_ble_eq_true rfl) dX9_init_21 (fun q_5 r_6 L_7 g_8 H r_6_i r_6_a r_6_s hP hD hS => ?_)
  have hpd9 : PDx (dC, dI) classes A H (wp [cO h1 9 [Value.ref q_1, Value.null, Value.null, Value.null, Value.null, Value.null, Value.null, Value.null, Value.null, Value.null, Value.null, Value.null, Value.int 0, Value.int 0], cA aC q_1 8 (fun i => if i < 8 then some (r_2 i) else none), cA aC q_5 8 (fun i => if i < 8 then some (r_6 i) else none)] (va_pl L_7 (plE aC g_8))) := ⟨hP, hD⟩
  have hP := hpd9.1
  have hD := hpd9.2
  clear hpd9
  refine W.widen (k := 18) (n := 144) (by omega) (by omega) ?_
  refine va_putF (D := (dC, dI)) (ci := 9) (v := Value.ref q_5) (ty := .array (.array .int)) (C := RX9) (T := TX9) (N := 14) hx hb hts inX9 tyX9 tyX9_ok nmX9 hown hK hP hD hS 0 rfl rfl 1 (by decide) (hts _ (gw kw_152 rfl)) (fun _ h9 => h9) rfl hin rfl (by decide +kernel) rfl rfl (Nat.le_of_ble_eq_true rfl) dX9_init_25 (fun H locs hP hD hS => ?_)
  have hpd9 : PDx (dC, dI) classes A H (wp [cO h1 9 [Value.ref q_1, Value.ref q_5, Value.null, Value.null, Value.null, Value.null, Value.null, Value.null, Value.null, Value.null, Value.null, Value.null, Value.int 0, Value.int 0], cA aC q_1 8 (fun i => if i < 8 then some (r_2 i) else none), cA aC q_5 8 (fun i => if i < 8 then some (r_6 i) else none)] (va_pl L_7 (plE aC g_8))) := ⟨hP, hD⟩
  have hP := hpd9.1
  have hD := hpd9.2
  clear hpd9
  refine lv_aload_n hx hb dX9_init_28 rfl (lv_at hl 0 rfl) ?_
  refine lv_bipush (v := 8) hx hb dX9_init_29 (by decide) ?_
  refine lv_bipush (v := 8) hx hb dX9_init_31 (by decide) ?_
  refine pl_mna (X := [cO h1 9 [Value.ref q_1, Value.ref q_5, Value.null, Value.null, Value.null, Value.null, Value.null, Value.null, Value.null, Value.null, Value.null, Value.null, Value.int 0, Value.int 0], cA aC q_1 8 (fun i => if i < 8 then some (r_2 i) else none), cA aC q_5 8 (fun i => if i < 8 then some (r_6 i) else none)]) hx hb hown (hts _ (gw kw_146 rfl)) (va_AOA.use hN.2.2) (hts _ (gw kw_73 rfl)) hK hP hD hS hA (Nat.le_of_ble_eq_true rfl) (Nat.le_of_ble_eq_true rfl) dX9_init_33 (fun q_9 r_10 L_11 g_12 H r_10_i r_10_a r_10_s hP hD hS => ?_)
  have hpd9 : PDx (dC, dI) classes A H (wp [cO h1 9 [Value.ref q_1, Value.ref q_5, Value.null, Value.null, Value.null, Value.null, Value.null, Value.null, Value.null, Value.null, Value.null, Value.null, Value.int 0, Value.int 0], cA aC q_1 8 (fun i => if i < 8 then some (r_2 i) else none), cA aC q_5 8 (fun i => if i < 8 then some (r_6 i) else none), cA aC q_9 8 (fun i => if i < 8 then some (r_10 i) else none)] (va_pl L_11 (plE aC g_12))) := ⟨hP, hD⟩
  have hP := hpd9.1
  have hD := hpd9.2
  clear hpd9
  refine W.widen (k := 27) (n := 216) (by omega) (by omega) ?_
  refine va_putF (D := (dC, dI)) (ci := 9) (v := Value.ref q_9) (ty := .array (.array .int)) (C := RX9) (T := TX9) (N := 14) hx hb hts inX9 tyX9 tyX9_ok nmX9 hown hK hP hD hS 0 rfl rfl 2 (by decide) (hts _ (gw kw_154 rfl)) (fun _ h9 => h9) rfl hin rfl (by decide +kernel) rfl rfl (Nat.le_of_ble_eq_true rfl) dX9_init_37 (fun H locs hP hD hS => ?_)
  have hpd9 : PDx (dC, dI) classes A H (wp [cO h1 9 [Value.ref q_1, Value.ref q_5, Value.ref q_9, Value.null, Value.null, Value.null, Value.null, Value.null, Value.null, Value.null, Value.null, Value.null, Value.int 0, Value.int 0], cA aC q_1 8 (fun i => if i < 8 then some (r_2 i) else none), cA aC q_5 8 (fun i => if i < 8 then some (r_6 i) else none), cA aC q_9 8 (fun i => if i < 8 then some (r_10 i) else none)] (va_pl L_11 (plE aC g_12))) := ⟨hP, hD⟩
  have hP := hpd9.1
  have hD := hpd9.2
  clear hpd9
  refine lv_aload_n hx hb dX9_init_40 rfl (lv_at hl 0 rfl) ?_
  refine lv_bipush (v := 8) hx hb dX9_init_41 (by decide) ?_
  refine va_newaI (N' := 8) (a0 := (8, .inl (fun _ => 0))) hx hb (hts _ (gw kw_73 rfl)) hK hP hD hS hA (by decide) (by decide) (by decide) (Nat.le_of_ble_eq_true rfl) (Nat.le_of_ble_eq_true rfl) dX9_init_43 rfl (fun q_13 H hP hD hS => ?_)
  have hP := va_P.swap (a := [cO h1 9 [Value.ref q_1, Value.ref q_5, Value.ref q_9, Value.null, Value.null, Value.null, Value.null, Value.null, Value.null, Value.null, Value.null, Value.null, Value.int 0, Value.int 0], cA aC q_1 8 (fun i => if i < 8 then some (r_2 i) else none), cA aC q_5 8 (fun i => if i < 8 then some (r_6 i) else none), cA aC q_9 8 (fun i => if i < 8 then some (r_10 i) else none)]) (b := va_pl L_11 (plE aC g_12)) (c := [cI aC q_13 8 (fun _ => 0)]) hP
  have hD := va_D.swap (a := [cO h1 9 [Value.ref q_1, Value.ref q_5, Value.ref q_9, Value.null, Value.null, Value.null, Value.null, Value.null, Value.null, Value.null, Value.null, Value.null, Value.int 0, Value.int 0], cA aC q_1 8 (fun i => if i < 8 then some (r_2 i) else none), cA aC q_5 8 (fun i => if i < 8 then some (r_6 i) else none), cA aC q_9 8 (fun i => if i < 8 then some (r_10 i) else none)]) (b := va_pl L_11 (plE aC g_12)) (c := [cI aC q_13 8 (fun _ => 0)]) hD
  have hpd9 : PDx (dC, dI) classes A H (wp [cO h1 9 [Value.ref q_1, Value.ref q_5, Value.ref q_9, Value.null, Value.null, Value.null, Value.null, Value.null, Value.null, Value.null, Value.null, Value.null, Value.int 0, Value.int 0], cA aC q_1 8 (fun i => if i < 8 then some (r_2 i) else none), cA aC q_5 8 (fun i => if i < 8 then some (r_6 i) else none), cA aC q_9 8 (fun i => if i < 8 then some (r_10 i) else none), cI aC q_13 8 (fun _ => 0)] (va_pl L_11 (plE aC g_12))) := ⟨hP, hD⟩
  have hP := hpd9.1
  have hD := hpd9.2
  clear hpd9
  refine W.widen (k := 28) (n := 224) (by omega) (by omega) ?_
  refine va_putF (D := (dC, dI)) (ci := 9) (v := Value.ref q_13) (ty := .array .int) (C := RX9) (T := TX9) (N := 14) hx hb hts inX9 tyX9 tyX9_ok nmX9 hown hK hP hD hS 0 rfl rfl 3 (by decide) (hts _ (gw kw_156 rfl)) (fun _ h9 => h9) rfl hin rfl (by decide +kernel) rfl rfl (Nat.le_of_ble_eq_true rfl) dX9_init_45 (fun H locs hP hD hS => ?_)
  have hpd9 : PDx (dC, dI) classes A H (wp [cO h1 9 [Value.ref q_1, Value.ref q_5, Value.ref q_9, Value.ref q_13, Value.null, Value.null, Value.null, Value.null, Value.null, Value.null, Value.null, Value.null, Value.int 0, Value.int 0], cA aC q_1 8 (fun i => if i < 8 then some (r_2 i) else none), cA aC q_5 8 (fun i => if i < 8 then some (r_6 i) else none), cA aC q_9 8 (fun i => if i < 8 then some (r_10 i) else none), cI aC q_13 8 (fun _ => 0)] (va_pl L_11 (plE aC g_12))) := ⟨hP, hD⟩
  have hP := hpd9.1
  have hD := hpd9.2
  clear hpd9
  refine lv_aload_n hx hb dX9_init_48 rfl (lv_at hl 0 rfl) ?_
  refine lv_bipush (v := 8) hx hb dX9_init_49 (by decide) ?_
  refine va_newaI (N' := 8) (a0 := (8, .inl (fun _ => 0))) hx hb (hts _ (gw kw_73 rfl)) hK hP hD hS hA (by decide) (by decide) (by decide) (Nat.le_of_ble_eq_true rfl) (Nat.le_of_ble_eq_true rfl) dX9_init_51 rfl (fun q_14 H hP hD hS => ?_)
  have hP := va_P.swap (a := [cO h1 9 [Value.ref q_1, Value.ref q_5, Value.ref q_9, Value.ref q_13, Value.null, Value.null, Value.null, Value.null, Value.null, Value.null, Value.null, Value.null, Value.int 0, Value.int 0], cA aC q_1 8 (fun i => if i < 8 then some (r_2 i) else none), cA aC q_5 8 (fun i => if i < 8 then some (r_6 i) else none), cA aC q_9 8 (fun i => if i < 8 then some (r_10 i) else none), cI aC q_13 8 (fun _ => 0)]) (b := va_pl L_11 (plE aC g_12)) (c := [cI aC q_14 8 (fun _ => 0)]) hP
  have hD := va_D.swap (a := [cO h1 9 [Value.ref q_1, Value.ref q_5, Value.ref q_9, Value.ref q_13, Value.null, Value.null, Value.null, Value.null, Value.null, Value.null, Value.null, Value.null, Value.int 0, Value.int 0], cA aC q_1 8 (fun i => if i < 8 then some (r_2 i) else none), cA aC q_5 8 (fun i => if i < 8 then some (r_6 i) else none), cA aC q_9 8 (fun i => if i < 8 then some (r_10 i) else none), cI aC q_13 8 (fun _ => 0)]) (b := va_pl L_11 (plE aC g_12)) (c := [cI aC q_14 8 (fun _ => 0)]) hD
  have hpd9 : PDx (dC, dI) classes A H (wp [cO h1 9 [Value.ref q_1, Value.ref q_5, Value.ref q_9, Value.ref q_13, Value.null, Value.null, Value.null, Value.null, Value.null, Value.null, Value.null, Value.null, Value.int 0, Value.int 0], cA aC q_1 8 (fun i => if i < 8 then some (r_2 i) else none), cA aC q_5 8 (fun i => if i < 8 then some (r_6 i) else none), cA aC q_9 8 (fun i => if i < 8 then some (r_10 i) else none), cI aC q_13 8 (fun _ => 0), cI aC q_14 8 (fun _ => 0)] (va_pl L_11 (plE aC g_12))) := ⟨hP, hD⟩
  have hP := hpd9.1
  have hD := hpd9.2
  clear hpd9
  refine W.widen (k := 29) (n := 232) (by omega) (by omega) ?_
  refine va_putF (D := (dC, dI)) (ci := 9) (v := Value.ref q_14) (ty := .array .int) (C := RX9) (T := TX9) (N := 14) hx hb hts inX9 tyX9 tyX9_ok nmX9 hown hK hP hD hS 0 rfl rfl 4 (by decide) (hts _ (gw kw_158 rfl)) (fun _ h9 => h9) rfl hin rfl (by decide +kernel) rfl rfl (Nat.le_of_ble_eq_true rfl) dX9_init_53 (fun H locs hP hD hS => ?_)
  have hpd9 : PDx (dC, dI) classes A H (wp [cO h1 9 [Value.ref q_1, Value.ref q_5, Value.ref q_9, Value.ref q_13, Value.ref q_14, Value.null, Value.null, Value.null, Value.null, Value.null, Value.null, Value.null, Value.int 0, Value.int 0], cA aC q_1 8 (fun i => if i < 8 then some (r_2 i) else none), cA aC q_5 8 (fun i => if i < 8 then some (r_6 i) else none), cA aC q_9 8 (fun i => if i < 8 then some (r_10 i) else none), cI aC q_13 8 (fun _ => 0), cI aC q_14 8 (fun _ => 0)] (va_pl L_11 (plE aC g_12))) := ⟨hP, hD⟩
  have hP := hpd9.1
  have hD := hpd9.2
  clear hpd9
  refine lv_aload_n hx hb dX9_init_56 rfl (lv_at hl 0 rfl) ?_
  refine lv_bipush (v := 8) hx hb dX9_init_57 (by decide) ?_
  refine va_newaI (N' := 8) (a0 := (8, .inl (fun _ => 0))) hx hb (hts _ (gw kw_73 rfl)) hK hP hD hS hA (by decide) (by decide) (by decide) (Nat.le_of_ble_eq_true rfl) (Nat.le_of_ble_eq_true rfl) dX9_init_59 rfl (fun q_15 H hP hD hS => ?_)
  have hP := va_P.swap (a := [cO h1 9 [Value.ref q_1, Value.ref q_5, Value.ref q_9, Value.ref q_13, Value.ref q_14, Value.null, Value.null, Value.null, Value.null, Value.null, Value.null, Value.null, Value.int 0, Value.int 0], cA aC q_1 8 (fun i => if i < 8 then some (r_2 i) else none), cA aC q_5 8 (fun i => if i < 8 then some (r_6 i) else none), cA aC q_9 8 (fun i => if i < 8 then some (r_10 i) else none), cI aC q_13 8 (fun _ => 0), cI aC q_14 8 (fun _ => 0)]) (b := va_pl L_11 (plE aC g_12)) (c := [cI aC q_15 8 (fun _ => 0)]) hP
  have hD := va_D.swap (a := [cO h1 9 [Value.ref q_1, Value.ref q_5, Value.ref q_9, Value.ref q_13, Value.ref q_14, Value.null, Value.null, Value.null, Value.null, Value.null, Value.null, Value.null, Value.int 0, Value.int 0], cA aC q_1 8 (fun i => if i < 8 then some (r_2 i) else none), cA aC q_5 8 (fun i => if i < 8 then some (r_6 i) else none), cA aC q_9 8 (fun i => if i < 8 then some (r_10 i) else none), cI aC q_13 8 (fun _ => 0), cI aC q_14 8 (fun _ => 0)]) (b := va_pl L_11 (plE aC g_12)) (c := [cI aC q_15 8 (fun _ => 0)]) hD
  have hpd9 : PDx (dC, dI) classes A H (wp [cO h1 9 [Value.ref q_1, Value.ref q_5, Value.ref q_9, Value.ref q_13, Value.ref q_14, Value.null, Value.null, Value.null, Value.null, Value.null, Value.null, Value.null, Value.int 0, Value.int 0], cA aC q_1 8 (fun i => if i < 8 then some (r_2 i) else none), cA aC q_5 8 (fun i => if i < 8 then some (r_6 i) else none), cA aC q_9 8 (fun i => if i < 8 then some (r_10 i) else none), cI aC q_13 8 (fun _ => 0), cI aC q_14 8 (fun _ => 0), cI aC q_15 8 (fun _ => 0)] (va_pl L_11 (plE aC g_12))) := ⟨hP, hD⟩
  have hP := hpd9.1
  have hD := hpd9.2
  clear hpd9
  refine W.widen (k := 30) (n := 240) (by omega) (by omega) ?_
  refine va_putF (D := (dC, dI)) (ci := 9) (v := Value.ref q_15) (ty := .array .int) (C := RX9) (T := TX9) (N := 14) hx hb hts inX9 tyX9 tyX9_ok nmX9 hown hK hP hD hS 0 rfl rfl 5 (by decide) (hts _ (gw kw_160 rfl)) (fun _ h9 => h9) rfl hin rfl (by decide +kernel) rfl rfl (Nat.le_of_ble_eq_true rfl) dX9_init_61 (fun H locs hP hD hS => ?_)
  have hpd9 : PDx (dC, dI) classes A H (wp [cO h1 9 [Value.ref q_1, Value.ref q_5, Value.ref q_9, Value.ref q_13, Value.ref q_14, Value.ref q_15, Value.null, Value.null, Value.null, Value.null, Value.null, Value.null, Value.int 0, Value.int 0], cA aC q_1 8 (fun i => if i < 8 then some (r_2 i) else none), cA aC q_5 8 (fun i => if i < 8 then some (r_6 i) else none), cA aC q_9 8 (fun i => if i < 8 then some (r_10 i) else none), cI aC q_13 8 (fun _ => 0), cI aC q_14 8 (fun _ => 0), cI aC q_15 8 (fun _ => 0)] (va_pl L_11 (plE aC g_12))) := ⟨hP, hD⟩
  have hP := hpd9.1
  have hD := hpd9.2
  clear hpd9
  refine lv_aload_n hx hb dX9_init_64 rfl (lv_at hl 0 rfl) ?_
  refine va_new (ci := 4) (fs := [Value.null, Value.null, Value.null, Value.null, Value.null, Value.int 0, Value.int 0, Value.int 0]) (C := RX4) (T := TX4) (N := 8) hx hb hts inX4 tyX4 tyX4_ok hown (hts _ (gw kw_148 rfl)) (hts _ (gw kw_27 rfl)) (hts _ (gw kw_2 rfl)) hK hP hD hS hA rfl (fun j hj => by have h9 : j = 0 ∨ j = 1 ∨ j = 2 ∨ j = 3 ∨ j = 4 ∨ j = 5 ∨ j = 6 ∨ j = 7 := (by omega); rcases h9 with rfl | rfl | rfl | rfl | rfl | rfl | rfl | rfl <;> rfl) (Nat.le_of_ble_eq_true rfl) (Nat.le_of_ble_eq_true rfl) dX9_init_65 (fun q_16 H hP hD hS => ?_)
  have hP := va_P.swap (a := [cO h1 9 [Value.ref q_1, Value.ref q_5, Value.ref q_9, Value.ref q_13, Value.ref q_14, Value.ref q_15, Value.null, Value.null, Value.null, Value.null, Value.null, Value.null, Value.int 0, Value.int 0], cA aC q_1 8 (fun i => if i < 8 then some (r_2 i) else none), cA aC q_5 8 (fun i => if i < 8 then some (r_6 i) else none), cA aC q_9 8 (fun i => if i < 8 then some (r_10 i) else none), cI aC q_13 8 (fun _ => 0), cI aC q_14 8 (fun _ => 0), cI aC q_15 8 (fun _ => 0)]) (b := va_pl L_11 (plE aC g_12)) (c := [cO q_16 4 [Value.null, Value.null, Value.null, Value.null, Value.null, Value.int 0, Value.int 0, Value.int 0]]) hP
  have hD := va_D.swap (a := [cO h1 9 [Value.ref q_1, Value.ref q_5, Value.ref q_9, Value.ref q_13, Value.ref q_14, Value.ref q_15, Value.null, Value.null, Value.null, Value.null, Value.null, Value.null, Value.int 0, Value.int 0], cA aC q_1 8 (fun i => if i < 8 then some (r_2 i) else none), cA aC q_5 8 (fun i => if i < 8 then some (r_6 i) else none), cA aC q_9 8 (fun i => if i < 8 then some (r_10 i) else none), cI aC q_13 8 (fun _ => 0), cI aC q_14 8 (fun _ => 0), cI aC q_15 8 (fun _ => 0)]) (b := va_pl L_11 (plE aC g_12)) (c := [cO q_16 4 [Value.null, Value.null, Value.null, Value.null, Value.null, Value.int 0, Value.int 0, Value.int 0]]) hD
  have hpd9 : PDx (dC, dI) classes A H (wp [cO h1 9 [Value.ref q_1, Value.ref q_5, Value.ref q_9, Value.ref q_13, Value.ref q_14, Value.ref q_15, Value.null, Value.null, Value.null, Value.null, Value.null, Value.null, Value.int 0, Value.int 0], cA aC q_1 8 (fun i => if i < 8 then some (r_2 i) else none), cA aC q_5 8 (fun i => if i < 8 then some (r_6 i) else none), cA aC q_9 8 (fun i => if i < 8 then some (r_10 i) else none), cI aC q_13 8 (fun _ => 0), cI aC q_14 8 (fun _ => 0), cI aC q_15 8 (fun _ => 0), cO q_16 4 [Value.null, Value.null, Value.null, Value.null, Value.null, Value.int 0, Value.int 0, Value.int 0]] (va_pl L_11 (plE aC g_12))) := ⟨hP, hD⟩
  have hP := hpd9.1
  have hD := hpd9.2
  clear hpd9
  refine W.widen (k := 31) (n := 248) (by omega) (by omega) ?_
  refine lv_dup hx hb dX9_init_68 rfl ?_
  have hpd9 := pdf_N (cx := [cO q_16 4 [Value.null, Value.null, Value.null, Value.null, Value.null, Value.int 0, Value.int 0, Value.int 0]]) hP hD hS hA [7] (by decide) rfl
  have hPc := hpd9.1
  have hDc := hpd9.2.1
  have hFc := hpd9.2.2
  clear hpd9
  refine va_callv (va_runIN (As := []) (rest := [Value.ref q_16, Value.ref h1]) ⟨hx, hb, hml, hown, hts⟩ (c_X4_init l dC dI aC H.size q_16 ) ⟨(va_cnB 0 hts (gG kw_30) rfl rfl rfl (hN.1 _ kw_149 rfl) (hts _ (gw kw_2 rfl)) hd_X4_init ⟨Nat.le_of_ble_eq_true rfl, Nat.le_of_ble_eq_true rfl⟩), rfl, (hts _ (gw kw_29 rfl))⟩ ⟨fb_std, pre_std hPc hK hDc hN⟩ rfl rfl hl.1 rfl (lv_room (Nat.le_of_ble_eq_true rfl)) dX9_init_69 ⟨Nat.le_of_ble_eq_true rfl, Nat.le_of_ble_eq_true rfl⟩) hS (fun q _ h => hFc q h) hFc (fun u9 t9 H1 locs ht hvm hw_17 hB hz1 hk1 hS => ?_)
  obtain ⟨u_18, rfl⟩ : ∃ z, z = u9 := ⟨_, rfl⟩
  obtain ⟨q_19, q_20, q_21, q_22, q_23, hP1, hK1, hD1⟩ := hB
  rw [ht] at hP1
  clear hK1
  try dsimp only at hw_17
  have hpd9 : PDx (dC, dI) classes A H1 (wp [cO h1 9 [Value.ref q_1, Value.ref q_5, Value.ref q_9, Value.ref q_13, Value.ref q_14, Value.ref q_15, Value.null, Value.null, Value.null, Value.null, Value.null, Value.null, Value.int 0, Value.int 0], cA aC q_1 8 (fun i => if i < 8 then some (r_2 i) else none), cA aC q_5 8 (fun i => if i < 8 then some (r_6 i) else none), cA aC q_9 8 (fun i => if i < 8 then some (r_10 i) else none), cI aC q_13 8 (fun _ => 0), cI aC q_14 8 (fun _ => 0), cI aC q_15 8 (fun _ => 0), oX4 q_16 q_19 q_20 q_21 q_22 q_23 0 0 0, cI aC q_19 8 (fun _ => 0), cI aC q_20 8 (fun _ => 0), cI aC q_21 8 (fun _ => 0), cI aC q_22 8 (fun _ => 0), cI aC q_23 5 u_18] (va_pl L_11 (plE aC g_12))) := jn_Q (wr := [cO h1 9 [Value.ref q_1, Value.ref q_5, Value.ref q_9, Value.ref q_13, Value.ref q_14, Value.ref q_15, Value.null, Value.null, Value.null, Value.null, Value.null, Value.null, Value.int 0, Value.int 0], cA aC q_1 8 (fun i => if i < 8 then some (r_2 i) else none), cA aC q_5 8 (fun i => if i < 8 then some (r_6 i) else none), cA aC q_9 8 (fun i => if i < 8 then some (r_10 i) else none), cI aC q_13 8 (fun _ => 0), cI aC q_14 8 (fun _ => 0), cI aC q_15 8 (fun _ => 0)]) hFc hk1 hP1 hD1 hP hD [7] [0, 1, 2, 3, 4, 5, 6] rfl rfl (by decide) (by decide)
  have hP := hpd9.1
  have hD := hpd9.2
  clear hpd9
  generalize H1 = H at hP hS ⊢
  clear hPc hDc hFc hz1 hk1 hP1 hD1 ht hvm
  refine W.widen (k := 36) (n := 285) (by omega) (by omega) ?_
  have hv9 := hw_17
  refine va_putF (D := (dC, dI)) (ci := 9) (v := Value.ref q_16) (ty := .object "EldestSays$Evening") (C := RX9) (T := TX9) (N := 14) hx hb hts inX9 tyX9 tyX9_ok nmX9 hown hK hP hD hS 0 rfl rfl 6 (by decide) (hts _ (gw kw_162 rfl)) (fun _ h9 => h9) rfl hin rfl (by decide +kernel) rfl rfl (Nat.le_of_ble_eq_true rfl) dX9_init_72 (fun H locs hP hD hS => ?_)
  have hpd9 : PDx (dC, dI) classes A H (wp [cO h1 9 [Value.ref q_1, Value.ref q_5, Value.ref q_9, Value.ref q_13, Value.ref q_14, Value.ref q_15, Value.ref q_16, Value.null, Value.null, Value.null, Value.null, Value.null, Value.int 0, Value.int 0], cA aC q_1 8 (fun i => if i < 8 then some (r_2 i) else none), cA aC q_5 8 (fun i => if i < 8 then some (r_6 i) else none), cA aC q_9 8 (fun i => if i < 8 then some (r_10 i) else none), cI aC q_13 8 (fun _ => 0), cI aC q_14 8 (fun _ => 0), cI aC q_15 8 (fun _ => 0), oX4 q_16 q_19 q_20 q_21 q_22 q_23 0 0 0, cI aC q_19 8 (fun _ => 0), cI aC q_20 8 (fun _ => 0), cI aC q_21 8 (fun _ => 0), cI aC q_22 8 (fun _ => 0), cI aC q_23 5 u_18] (va_pl L_11 (plE aC g_12))) := ⟨hP, hD⟩
  have hP := hpd9.1
  have hD := hpd9.2
  clear hpd9
  refine lv_aload_n hx hb dX9_init_75 rfl (lv_at hl 0 rfl) ?_
  refine lv_bipush (v := 7) hx hb dX9_init_76 (by decide) ?_
  refine va_newaI (N' := 7) (a0 := (7, .inl (fun _ => 0))) hx hb (hts _ (gw kw_73 rfl)) hK hP hD hS hA (by decide) (by decide) (by decide) (Nat.le_of_ble_eq_true rfl) (Nat.le_of_ble_eq_true rfl) dX9_init_78 rfl (fun q_24 H hP hD hS => ?_)
  have hP := va_P.swap (a := [cO h1 9 [Value.ref q_1, Value.ref q_5, Value.ref q_9, Value.ref q_13, Value.ref q_14, Value.ref q_15, Value.ref q_16, Value.null, Value.null, Value.null, Value.null, Value.null, Value.int 0, Value.int 0], cA aC q_1 8 (fun i => if i < 8 then some (r_2 i) else none), cA aC q_5 8 (fun i => if i < 8 then some (r_6 i) else none), cA aC q_9 8 (fun i => if i < 8 then some (r_10 i) else none), cI aC q_13 8 (fun _ => 0), cI aC q_14 8 (fun _ => 0), cI aC q_15 8 (fun _ => 0), oX4 q_16 q_19 q_20 q_21 q_22 q_23 0 0 0, cI aC q_19 8 (fun _ => 0), cI aC q_20 8 (fun _ => 0), cI aC q_21 8 (fun _ => 0), cI aC q_22 8 (fun _ => 0), cI aC q_23 5 u_18]) (b := va_pl L_11 (plE aC g_12)) (c := [cI aC q_24 7 (fun _ => 0)]) hP
  have hD := va_D.swap (a := [cO h1 9 [Value.ref q_1, Value.ref q_5, Value.ref q_9, Value.ref q_13, Value.ref q_14, Value.ref q_15, Value.ref q_16, Value.null, Value.null, Value.null, Value.null, Value.null, Value.int 0, Value.int 0], cA aC q_1 8 (fun i => if i < 8 then some (r_2 i) else none), cA aC q_5 8 (fun i => if i < 8 then some (r_6 i) else none), cA aC q_9 8 (fun i => if i < 8 then some (r_10 i) else none), cI aC q_13 8 (fun _ => 0), cI aC q_14 8 (fun _ => 0), cI aC q_15 8 (fun _ => 0), oX4 q_16 q_19 q_20 q_21 q_22 q_23 0 0 0, cI aC q_19 8 (fun _ => 0), cI aC q_20 8 (fun _ => 0), cI aC q_21 8 (fun _ => 0), cI aC q_22 8 (fun _ => 0), cI aC q_23 5 u_18]) (b := va_pl L_11 (plE aC g_12)) (c := [cI aC q_24 7 (fun _ => 0)]) hD
  have hpd9 : PDx (dC, dI) classes A H (wp [cO h1 9 [Value.ref q_1, Value.ref q_5, Value.ref q_9, Value.ref q_13, Value.ref q_14, Value.ref q_15, Value.ref q_16, Value.null, Value.null, Value.null, Value.null, Value.null, Value.int 0, Value.int 0], cA aC q_1 8 (fun i => if i < 8 then some (r_2 i) else none), cA aC q_5 8 (fun i => if i < 8 then some (r_6 i) else none), cA aC q_9 8 (fun i => if i < 8 then some (r_10 i) else none), cI aC q_13 8 (fun _ => 0), cI aC q_14 8 (fun _ => 0), cI aC q_15 8 (fun _ => 0), oX4 q_16 q_19 q_20 q_21 q_22 q_23 0 0 0, cI aC q_19 8 (fun _ => 0), cI aC q_20 8 (fun _ => 0), cI aC q_21 8 (fun _ => 0), cI aC q_22 8 (fun _ => 0), cI aC q_23 5 u_18, cI aC q_24 7 (fun _ => 0)] (va_pl L_11 (plE aC g_12))) := ⟨hP, hD⟩
  have hP := hpd9.1
  have hD := hpd9.2
  clear hpd9
  refine W.widen (k := 37) (n := 292) (by omega) (by omega) ?_
  refine va_putF (D := (dC, dI)) (ci := 9) (v := Value.ref q_24) (ty := .array .int) (C := RX9) (T := TX9) (N := 14) hx hb hts inX9 tyX9 tyX9_ok nmX9 hown hK hP hD hS 0 rfl rfl 8 (by decide) (hts _ (gw kw_165 rfl)) (fun _ h9 => h9) rfl hin rfl (by decide +kernel) rfl rfl (Nat.le_of_ble_eq_true rfl) dX9_init_80 (fun H locs hP hD hS => ?_)
  have hpd9 : PDx (dC, dI) classes A H (wp [cO h1 9 [Value.ref q_1, Value.ref q_5, Value.ref q_9, Value.ref q_13, Value.ref q_14, Value.ref q_15, Value.ref q_16, Value.null, Value.ref q_24, Value.null, Value.null, Value.null, Value.int 0, Value.int 0], cA aC q_1 8 (fun i => if i < 8 then some (r_2 i) else none), cA aC q_5 8 (fun i => if i < 8 then some (r_6 i) else none), cA aC q_9 8 (fun i => if i < 8 then some (r_10 i) else none), cI aC q_13 8 (fun _ => 0), cI aC q_14 8 (fun _ => 0), cI aC q_15 8 (fun _ => 0), oX4 q_16 q_19 q_20 q_21 q_22 q_23 0 0 0, cI aC q_19 8 (fun _ => 0), cI aC q_20 8 (fun _ => 0), cI aC q_21 8 (fun _ => 0), cI aC q_22 8 (fun _ => 0), cI aC q_23 5 u_18, cI aC q_24 7 (fun _ => 0)] (va_pl L_11 (plE aC g_12))) := ⟨hP, hD⟩
  have hP := hpd9.1
  have hD := hpd9.2
  clear hpd9
  refine lv_aload_n hx hb dX9_init_83 rfl (lv_at hl 0 rfl) ?_
  refine lv_bipush (v := 7) hx hb dX9_init_84 (by decide) ?_
  refine va_newaI (N' := 7) (a0 := (7, .inl (fun _ => 0))) hx hb (hts _ (gw kw_73 rfl)) hK hP hD hS hA (by decide) (by decide) (by decide) (Nat.le_of_ble_eq_true rfl) (Nat.le_of_ble_eq_true rfl) dX9_init_86 rfl (fun q_25 H hP hD hS => ?_)
  have hP := va_P.swap (a := [cO h1 9 [Value.ref q_1, Value.ref q_5, Value.ref q_9, Value.ref q_13, Value.ref q_14, Value.ref q_15, Value.ref q_16, Value.null, Value.ref q_24, Value.null, Value.null, Value.null, Value.int 0, Value.int 0], cA aC q_1 8 (fun i => if i < 8 then some (r_2 i) else none), cA aC q_5 8 (fun i => if i < 8 then some (r_6 i) else none), cA aC q_9 8 (fun i => if i < 8 then some (r_10 i) else none), cI aC q_13 8 (fun _ => 0), cI aC q_14 8 (fun _ => 0), cI aC q_15 8 (fun _ => 0), oX4 q_16 q_19 q_20 q_21 q_22 q_23 0 0 0, cI aC q_19 8 (fun _ => 0), cI aC q_20 8 (fun _ => 0), cI aC q_21 8 (fun _ => 0), cI aC q_22 8 (fun _ => 0), cI aC q_23 5 u_18, cI aC q_24 7 (fun _ => 0)]) (b := va_pl L_11 (plE aC g_12)) (c := [cI aC q_25 7 (fun _ => 0)]) hP
  have hD := va_D.swap (a := [cO h1 9 [Value.ref q_1, Value.ref q_5, Value.ref q_9, Value.ref q_13, Value.ref q_14, Value.ref q_15, Value.ref q_16, Value.null, Value.ref q_24, Value.null, Value.null, Value.null, Value.int 0, Value.int 0], cA aC q_1 8 (fun i => if i < 8 then some (r_2 i) else none), cA aC q_5 8 (fun i => if i < 8 then some (r_6 i) else none), cA aC q_9 8 (fun i => if i < 8 then some (r_10 i) else none), cI aC q_13 8 (fun _ => 0), cI aC q_14 8 (fun _ => 0), cI aC q_15 8 (fun _ => 0), oX4 q_16 q_19 q_20 q_21 q_22 q_23 0 0 0, cI aC q_19 8 (fun _ => 0), cI aC q_20 8 (fun _ => 0), cI aC q_21 8 (fun _ => 0), cI aC q_22 8 (fun _ => 0), cI aC q_23 5 u_18, cI aC q_24 7 (fun _ => 0)]) (b := va_pl L_11 (plE aC g_12)) (c := [cI aC q_25 7 (fun _ => 0)]) hD
  have hpd9 : PDx (dC, dI) classes A H (wp [cO h1 9 [Value.ref q_1, Value.ref q_5, Value.ref q_9, Value.ref q_13, Value.ref q_14, Value.ref q_15, Value.ref q_16, Value.null, Value.ref q_24, Value.null, Value.null, Value.null, Value.int 0, Value.int 0], cA aC q_1 8 (fun i => if i < 8 then some (r_2 i) else none), cA aC q_5 8 (fun i => if i < 8 then some (r_6 i) else none), cA aC q_9 8 (fun i => if i < 8 then some (r_10 i) else none), cI aC q_13 8 (fun _ => 0), cI aC q_14 8 (fun _ => 0), cI aC q_15 8 (fun _ => 0), oX4 q_16 q_19 q_20 q_21 q_22 q_23 0 0 0, cI aC q_19 8 (fun _ => 0), cI aC q_20 8 (fun _ => 0), cI aC q_21 8 (fun _ => 0), cI aC q_22 8 (fun _ => 0), cI aC q_23 5 u_18, cI aC q_24 7 (fun _ => 0), cI aC q_25 7 (fun _ => 0)] (va_pl L_11 (plE aC g_12))) := ⟨hP, hD⟩
  have hP := hpd9.1
  have hD := hpd9.2
  clear hpd9
  refine W.widen (k := 38) (n := 299) (by omega) (by omega) ?_
  refine va_putF (D := (dC, dI)) (ci := 9) (v := Value.ref q_25) (ty := .array .int) (C := RX9) (T := TX9) (N := 14) hx hb hts inX9 tyX9 tyX9_ok nmX9 hown hK hP hD hS 0 rfl rfl 9 (by decide) (hts _ (gw kw_166 rfl)) (fun _ h9 => h9) rfl hin rfl (by decide +kernel) rfl rfl (Nat.le_of_ble_eq_true rfl) dX9_init_88 (fun H locs hP hD hS => ?_)
  have hpd9 : PDx (dC, dI) classes A H (wp [cO h1 9 [Value.ref q_1, Value.ref q_5, Value.ref q_9, Value.ref q_13, Value.ref q_14, Value.ref q_15, Value.ref q_16, Value.null, Value.ref q_24, Value.ref q_25, Value.null, Value.null, Value.int 0, Value.int 0], cA aC q_1 8 (fun i => if i < 8 then some (r_2 i) else none), cA aC q_5 8 (fun i => if i < 8 then some (r_6 i) else none), cA aC q_9 8 (fun i => if i < 8 then some (r_10 i) else none), cI aC q_13 8 (fun _ => 0), cI aC q_14 8 (fun _ => 0), cI aC q_15 8 (fun _ => 0), oX4 q_16 q_19 q_20 q_21 q_22 q_23 0 0 0, cI aC q_19 8 (fun _ => 0), cI aC q_20 8 (fun _ => 0), cI aC q_21 8 (fun _ => 0), cI aC q_22 8 (fun _ => 0), cI aC q_23 5 u_18, cI aC q_24 7 (fun _ => 0), cI aC q_25 7 (fun _ => 0)] (va_pl L_11 (plE aC g_12))) := ⟨hP, hD⟩
  have hP := hpd9.1
  have hD := hpd9.2
  clear hpd9
  refine lv_aload_n hx hb dX9_init_91 rfl (lv_at hl 0 rfl) ?_
  refine lv_sipush (v := 128) hx hb dX9_init_92 (by decide) ?_
  refine va_newaI (N' := 128) (a0 := (128, .inl (fun _ => 0))) hx hb (hts _ (gw kw_73 rfl)) hK hP hD hS hA (by decide) (by decide) (by decide) (Nat.le_of_ble_eq_true rfl) (Nat.le_of_ble_eq_true rfl) dX9_init_95 rfl (fun q_26 H hP hD hS => ?_)
  have hP := va_P.swap (a := [cO h1 9 [Value.ref q_1, Value.ref q_5, Value.ref q_9, Value.ref q_13, Value.ref q_14, Value.ref q_15, Value.ref q_16, Value.null, Value.ref q_24, Value.ref q_25, Value.null, Value.null, Value.int 0, Value.int 0], cA aC q_1 8 (fun i => if i < 8 then some (r_2 i) else none), cA aC q_5 8 (fun i => if i < 8 then some (r_6 i) else none), cA aC q_9 8 (fun i => if i < 8 then some (r_10 i) else none), cI aC q_13 8 (fun _ => 0), cI aC q_14 8 (fun _ => 0), cI aC q_15 8 (fun _ => 0), oX4 q_16 q_19 q_20 q_21 q_22 q_23 0 0 0, cI aC q_19 8 (fun _ => 0), cI aC q_20 8 (fun _ => 0), cI aC q_21 8 (fun _ => 0), cI aC q_22 8 (fun _ => 0), cI aC q_23 5 u_18, cI aC q_24 7 (fun _ => 0), cI aC q_25 7 (fun _ => 0)]) (b := va_pl L_11 (plE aC g_12)) (c := [cI aC q_26 128 (fun _ => 0)]) hP
  have hD := va_D.swap (a := [cO h1 9 [Value.ref q_1, Value.ref q_5, Value.ref q_9, Value.ref q_13, Value.ref q_14, Value.ref q_15, Value.ref q_16, Value.null, Value.ref q_24, Value.ref q_25, Value.null, Value.null, Value.int 0, Value.int 0], cA aC q_1 8 (fun i => if i < 8 then some (r_2 i) else none), cA aC q_5 8 (fun i => if i < 8 then some (r_6 i) else none), cA aC q_9 8 (fun i => if i < 8 then some (r_10 i) else none), cI aC q_13 8 (fun _ => 0), cI aC q_14 8 (fun _ => 0), cI aC q_15 8 (fun _ => 0), oX4 q_16 q_19 q_20 q_21 q_22 q_23 0 0 0, cI aC q_19 8 (fun _ => 0), cI aC q_20 8 (fun _ => 0), cI aC q_21 8 (fun _ => 0), cI aC q_22 8 (fun _ => 0), cI aC q_23 5 u_18, cI aC q_24 7 (fun _ => 0), cI aC q_25 7 (fun _ => 0)]) (b := va_pl L_11 (plE aC g_12)) (c := [cI aC q_26 128 (fun _ => 0)]) hD
  have hpd9 : PDx (dC, dI) classes A H (wp [cO h1 9 [Value.ref q_1, Value.ref q_5, Value.ref q_9, Value.ref q_13, Value.ref q_14, Value.ref q_15, Value.ref q_16, Value.null, Value.ref q_24, Value.ref q_25, Value.null, Value.null, Value.int 0, Value.int 0], cA aC q_1 8 (fun i => if i < 8 then some (r_2 i) else none), cA aC q_5 8 (fun i => if i < 8 then some (r_6 i) else none), cA aC q_9 8 (fun i => if i < 8 then some (r_10 i) else none), cI aC q_13 8 (fun _ => 0), cI aC q_14 8 (fun _ => 0), cI aC q_15 8 (fun _ => 0), oX4 q_16 q_19 q_20 q_21 q_22 q_23 0 0 0, cI aC q_19 8 (fun _ => 0), cI aC q_20 8 (fun _ => 0), cI aC q_21 8 (fun _ => 0), cI aC q_22 8 (fun _ => 0), cI aC q_23 5 u_18, cI aC q_24 7 (fun _ => 0), cI aC q_25 7 (fun _ => 0), cI aC q_26 128 (fun _ => 0)] (va_pl L_11 (plE aC g_12))) := ⟨hP, hD⟩
  have hP := hpd9.1
  have hD := hpd9.2
  clear hpd9
  refine W.widen (k := 39) (n := 427) (by omega) (by omega) ?_
  refine va_putF (D := (dC, dI)) (ci := 9) (v := Value.ref q_26) (ty := .array .int) (C := RX9) (T := TX9) (N := 14) hx hb hts inX9 tyX9 tyX9_ok nmX9 hown hK hP hD hS 0 rfl rfl 10 (by decide) (hts _ (gw kw_167 rfl)) (fun _ h9 => h9) rfl hin rfl (by decide +kernel) rfl rfl (Nat.le_of_ble_eq_true rfl) dX9_init_97 (fun H locs hP hD hS => ?_)
  have hpd9 : PDx (dC, dI) classes A H (wp [cO h1 9 [Value.ref q_1, Value.ref q_5, Value.ref q_9, Value.ref q_13, Value.ref q_14, Value.ref q_15, Value.ref q_16, Value.null, Value.ref q_24, Value.ref q_25, Value.ref q_26, Value.null, Value.int 0, Value.int 0], cA aC q_1 8 (fun i => if i < 8 then some (r_2 i) else none), cA aC q_5 8 (fun i => if i < 8 then some (r_6 i) else none), cA aC q_9 8 (fun i => if i < 8 then some (r_10 i) else none), cI aC q_13 8 (fun _ => 0), cI aC q_14 8 (fun _ => 0), cI aC q_15 8 (fun _ => 0), oX4 q_16 q_19 q_20 q_21 q_22 q_23 0 0 0, cI aC q_19 8 (fun _ => 0), cI aC q_20 8 (fun _ => 0), cI aC q_21 8 (fun _ => 0), cI aC q_22 8 (fun _ => 0), cI aC q_23 5 u_18, cI aC q_24 7 (fun _ => 0), cI aC q_25 7 (fun _ => 0), cI aC q_26 128 (fun _ => 0)] (va_pl L_11 (plE aC g_12))) := ⟨hP, hD⟩
  have hP := hpd9.1
  have hD := hpd9.2
  clear hpd9
  refine lv_aload_n hx hb dX9_init_100 rfl (lv_at hl 0 rfl) ?_
  refine lv_sipush (v := 128) hx hb dX9_init_101 (by decide) ?_
  refine va_newaI (N' := 128) (a0 := (128, .inl (fun _ => 0))) hx hb (hts _ (gw kw_73 rfl)) hK hP hD hS hA (by decide) (by decide) (by decide) (Nat.le_of_ble_eq_true rfl) (Nat.le_of_ble_eq_true rfl) dX9_init_104 rfl (fun q_27 H hP hD hS => ?_)
  have hP := va_P.swap (a := [cO h1 9 [Value.ref q_1, Value.ref q_5, Value.ref q_9, Value.ref q_13, Value.ref q_14, Value.ref q_15, Value.ref q_16, Value.null, Value.ref q_24, Value.ref q_25, Value.ref q_26, Value.null, Value.int 0, Value.int 0], cA aC q_1 8 (fun i => if i < 8 then some (r_2 i) else none), cA aC q_5 8 (fun i => if i < 8 then some (r_6 i) else none), cA aC q_9 8 (fun i => if i < 8 then some (r_10 i) else none), cI aC q_13 8 (fun _ => 0), cI aC q_14 8 (fun _ => 0), cI aC q_15 8 (fun _ => 0), oX4 q_16 q_19 q_20 q_21 q_22 q_23 0 0 0, cI aC q_19 8 (fun _ => 0), cI aC q_20 8 (fun _ => 0), cI aC q_21 8 (fun _ => 0), cI aC q_22 8 (fun _ => 0), cI aC q_23 5 u_18, cI aC q_24 7 (fun _ => 0), cI aC q_25 7 (fun _ => 0), cI aC q_26 128 (fun _ => 0)]) (b := va_pl L_11 (plE aC g_12)) (c := [cI aC q_27 128 (fun _ => 0)]) hP
  have hD := va_D.swap (a := [cO h1 9 [Value.ref q_1, Value.ref q_5, Value.ref q_9, Value.ref q_13, Value.ref q_14, Value.ref q_15, Value.ref q_16, Value.null, Value.ref q_24, Value.ref q_25, Value.ref q_26, Value.null, Value.int 0, Value.int 0], cA aC q_1 8 (fun i => if i < 8 then some (r_2 i) else none), cA aC q_5 8 (fun i => if i < 8 then some (r_6 i) else none), cA aC q_9 8 (fun i => if i < 8 then some (r_10 i) else none), cI aC q_13 8 (fun _ => 0), cI aC q_14 8 (fun _ => 0), cI aC q_15 8 (fun _ => 0), oX4 q_16 q_19 q_20 q_21 q_22 q_23 0 0 0, cI aC q_19 8 (fun _ => 0), cI aC q_20 8 (fun _ => 0), cI aC q_21 8 (fun _ => 0), cI aC q_22 8 (fun _ => 0), cI aC q_23 5 u_18, cI aC q_24 7 (fun _ => 0), cI aC q_25 7 (fun _ => 0), cI aC q_26 128 (fun _ => 0)]) (b := va_pl L_11 (plE aC g_12)) (c := [cI aC q_27 128 (fun _ => 0)]) hD
  have hpd9 : PDx (dC, dI) classes A H (wp [cO h1 9 [Value.ref q_1, Value.ref q_5, Value.ref q_9, Value.ref q_13, Value.ref q_14, Value.ref q_15, Value.ref q_16, Value.null, Value.ref q_24, Value.ref q_25, Value.ref q_26, Value.null, Value.int 0, Value.int 0], cA aC q_1 8 (fun i => if i < 8 then some (r_2 i) else none), cA aC q_5 8 (fun i => if i < 8 then some (r_6 i) else none), cA aC q_9 8 (fun i => if i < 8 then some (r_10 i) else none), cI aC q_13 8 (fun _ => 0), cI aC q_14 8 (fun _ => 0), cI aC q_15 8 (fun _ => 0), oX4 q_16 q_19 q_20 q_21 q_22 q_23 0 0 0, cI aC q_19 8 (fun _ => 0), cI aC q_20 8 (fun _ => 0), cI aC q_21 8 (fun _ => 0), cI aC q_22 8 (fun _ => 0), cI aC q_23 5 u_18, cI aC q_24 7 (fun _ => 0), cI aC q_25 7 (fun _ => 0), cI aC q_26 128 (fun _ => 0), cI aC q_27 128 (fun _ => 0)] (va_pl L_11 (plE aC g_12))) := ⟨hP, hD⟩
  have hP := hpd9.1
  have hD := hpd9.2
  clear hpd9
  refine W.widen (k := 40) (n := 555) (by omega) (by omega) ?_
  refine va_putF (D := (dC, dI)) (ci := 9) (v := Value.ref q_27) (ty := .array .int) (C := RX9) (T := TX9) (N := 14) hx hb hts inX9 tyX9 tyX9_ok nmX9 hown hK hP hD hS 0 rfl rfl 11 (by decide) (hts _ (gw kw_168 rfl)) (fun _ h9 => h9) rfl hin rfl (by decide +kernel) rfl rfl (Nat.le_of_ble_eq_true rfl) dX9_init_106 (fun H locs hP hD hS => ?_)
  have hpd9 : PDx (dC, dI) classes A H (wp [cO h1 9 [Value.ref q_1, Value.ref q_5, Value.ref q_9, Value.ref q_13, Value.ref q_14, Value.ref q_15, Value.ref q_16, Value.null, Value.ref q_24, Value.ref q_25, Value.ref q_26, Value.ref q_27, Value.int 0, Value.int 0], cA aC q_1 8 (fun i => if i < 8 then some (r_2 i) else none), cA aC q_5 8 (fun i => if i < 8 then some (r_6 i) else none), cA aC q_9 8 (fun i => if i < 8 then some (r_10 i) else none), cI aC q_13 8 (fun _ => 0), cI aC q_14 8 (fun _ => 0), cI aC q_15 8 (fun _ => 0), oX4 q_16 q_19 q_20 q_21 q_22 q_23 0 0 0, cI aC q_19 8 (fun _ => 0), cI aC q_20 8 (fun _ => 0), cI aC q_21 8 (fun _ => 0), cI aC q_22 8 (fun _ => 0), cI aC q_23 5 u_18, cI aC q_24 7 (fun _ => 0), cI aC q_25 7 (fun _ => 0), cI aC q_26 128 (fun _ => 0), cI aC q_27 128 (fun _ => 0)] (va_pl L_11 (plE aC g_12))) := ⟨hP, hD⟩
  have hP := hpd9.1
  have hD := hpd9.2
  clear hpd9
  refine lv_aload_n hx hb dX9_init_109 rfl (lv_at hl 0 rfl) ?_
  refine lv_aload_n hx hb dX9_init_110 rfl (lv_at hl 1 rfl) ?_
  refine va_putF (D := (dC, dI)) (ci := 9) (v := Value.ref kk) (ty := .array (.object "EldestSays$Clever")) (C := RX9) (T := TX9) (N := 14) hx hb hts inX9 tyX9 tyX9_ok nmX9 hown hK hP hD hS 0 rfl rfl 7 (by decide) (hts _ (gw kw_164 rfl)) (fun _ h9 => h9) rfl hin rfl (by decide +kernel) rfl rfl (Nat.le_of_ble_eq_true rfl) dX9_init_111 (fun H locs hP hD hS => ?_)
  have hpd9 : PDx (dC, dI) classes A H (wp [oX9 h1 q_1 q_5 q_9 q_13 q_14 q_15 q_16 kk q_24 q_25 q_26 q_27 0 0, cA aC q_1 8 (fun i => if i < 8 then some (r_2 i) else none), cA aC q_5 8 (fun i => if i < 8 then some (r_6 i) else none), cA aC q_9 8 (fun i => if i < 8 then some (r_10 i) else none), cI aC q_13 8 (fun _ => 0), cI aC q_14 8 (fun _ => 0), cI aC q_15 8 (fun _ => 0), oX4 q_16 q_19 q_20 q_21 q_22 q_23 0 0 0, cI aC q_19 8 (fun _ => 0), cI aC q_20 8 (fun _ => 0), cI aC q_21 8 (fun _ => 0), cI aC q_22 8 (fun _ => 0), cI aC q_23 5 u_18, cI aC q_24 7 (fun _ => 0), cI aC q_25 7 (fun _ => 0), cI aC q_26 128 (fun _ => 0), cI aC q_27 128 (fun _ => 0)] (va_pl L_11 (plE aC g_12))) := ⟨hP, hD⟩
  have hP := hpd9.1
  have hD := hpd9.2
  clear hpd9
  have hpd9 := pd_P (cx := [oX9 h1 q_1 q_5 q_9 q_13 q_14 q_15 q_16 kk q_24 q_25 q_26 q_27 0 0, cA aC q_1 8 (fun i => if i < 8 then some (r_2 i) else none), cA aC q_5 8 (fun i => if i < 8 then some (r_6 i) else none), cA aC q_9 8 (fun i => if i < 8 then some (r_10 i) else none), cI aC q_13 8 (fun _ => 0), cI aC q_14 8 (fun _ => 0), cI aC q_15 8 (fun _ => 0), oX4 q_16 q_19 q_20 q_21 q_22 q_23 0 0 0, cI aC q_19 8 (fun _ => 0), cI aC q_20 8 (fun _ => 0), cI aC q_21 8 (fun _ => 0), cI aC q_22 8 (fun _ => 0), cI aC q_23 5 u_18, cI aC q_24 7 (fun _ => 0), cI aC q_25 7 (fun _ => 0), cI aC q_26 128 (fun _ => 0), cI aC q_27 128 (fun _ => 0)]) hP hD [0, 1, 2, 3, 4, 5, 6, 7, 8, 9, 10, 11, 12, 13, 14, 15, 16] (by decide) rfl
  have hP9 := hpd9.1
  have hD9 := hpd9.2
  refine W.widen (k := 40) (n := 555) (by omega) (by omega) ?_
  exact W.vret hx hb hr (fun t ht hW => ⟨⟨(u_18, L_11, g_12, r_2, r_6, r_10, (fun i => if i < 8 then some (r_2 i) else none), (fun i => if i < 8 then some (r_6 i) else none), (fun i => if i < 8 then some (r_10 i) else none)), rfl, ⟨hv9, GRD_mk r_2_i r_2_a r_2_s r_6_i r_6_a r_6_s r_10_i r_10_a r_10_s⟩, q_1, q_5, q_9, q_13, q_14, q_15, q_16, q_24, q_25, q_26, q_27, q_19, q_20, q_21, q_22, q_23, by rw [ht]; exact hP9, va_K.moved hW.alike hK, hD9⟩, hS.F ht⟩) hS.2.2 dX9_init_114

end

section
/-! 90.ctorx -/
set_option maxHeartbeats 1000000 in
set_option maxRecDepth 100000 in
/-- X11_init -/
theorem c_X11_init (l : Launch) (dC : Nat → ClassId) (dI : Nat → Nat → Nat) (aC : Nat → ClassId) (sz : Nat) (h0 : Nat) (L : List Nat) (g : Nat → Nat → Int32)  : Met l yX11_init (wW yX11_init cX11_init 3 (none : Option FieldType)) ({ frames := 4, cells := 106, slots := 1538, locals := 72 } : Room) (va_Pc [Value.ref h0] (fun U => U.heap.size = sz ∧ va_P (dC, dI) classes (wp [cO h0 11 [Value.null, Value.null, Value.null, Value.null, Value.null, Value.null, Value.null, Value.null, Value.null, Value.null, Value.null, Value.int 0, Value.int 0, Value.int 0]] (va_pl L (plE aC g))) U.heap ∧ va_K (dC, dI) classes (TY aC) U ∧ va_D (fun _ => True) (wp [cO h0 11 [Value.null, Value.null, Value.null, Value.null, Value.null, Value.null, Value.null, Value.null, Value.null, Value.null, Value.null, Value.int 0, Value.int 0, Value.int 0]] (va_pl L (plE aC g))) ∧ NX U)) (va_Qv (fun (u : (Nat → Int32) × (Nat → Int32) × (Nat → Int32) × List Nat × (Nat → Nat → Int32) × (Nat → Nat) × (Nat → Nat) × (Nat → Nat) × (Nat → Nat) × (Nat → Nat) × (Nat → Nat) × (Nat → Option Nat) × (Nat → Option Nat) × (Nat → Option Nat) × (Nat → Option Nat) × (Nat → Option Nat) × (Nat → Option Nat) × (Nat → Option Nat) × Nat × Nat × Nat × Nat × Nat × Nat × Nat) => match u with | (stf, tsf, kstf, L2, g2, ro, rp, rs, tro, trp, trs, fo, fp, fs, tfo, tfp, tfs, fk, k0, k1, k2, k3, k4, k5, k6) => (stf = SET0 ∧ tsf = SET0 ∧ kstf = SET0) ∧ GRD L2 fo fp fs ro rp rs ∧ GRD L2 tfo tfp tfs tro trp trs ∧ DIS ro rp rs tro trp trs ∧ KDS fk k0 k1 k2 k3 k4 k5 k6) (fun (u : (Nat → Int32) × (Nat → Int32) × (Nat → Int32) × List Nat × (Nat → Nat → Int32) × (Nat → Nat) × (Nat → Nat) × (Nat → Nat) × (Nat → Nat) × (Nat → Nat) × (Nat → Nat) × (Nat → Option Nat) × (Nat → Option Nat) × (Nat → Option Nat) × (Nat → Option Nat) × (Nat → Option Nat) × (Nat → Option Nat) × (Nat → Option Nat) × Nat × Nat × Nat × Nat × Nat × Nat × Nat) (t : State) => match u with | (stf, tsf, kstf, L2, g2, ro, rp, rs, tro, trp, trs, fo, fp, fs, tfo, tfp, tfs, fk, k0, k1, k2, k3, k4, k5, k6) => ∃ (xp xtp xn xt xk xl xc xo xto xr xch ek ef ew ep es tek tef tew tep tes kek kef kew kep kes po pp ps pa pe pb pk pu pw pq pt tpo tpp tps tpa tpe tpb tpu tpw tpq tpt lsg cs ca cf : Nat), va_P (dC, dI) classes (wp [oX11 h0 xp xtp xn xt xk xl xc xo xto xr xch 0 0 1, oX9 xp po pp ps pa pe pb xn pk pu pw pq pt 0 0, oX4 xn ek ef ew ep es 0 0 0, cI aC ek 8 (fun _ => 0), cI aC ef 8 (fun _ => 0), cI aC ew 8 (fun _ => 0), cI aC ep 8 (fun _ => 0), cI aC es 5 stf, cA aC po 8 fo, cA aC pp 8 fp, cA aC ps 8 fs, cK aC pk 7 fk, cO k0 0 [], cO k1 1 [], cO k2 3 [], cO k3 5 [], cO k4 6 [], cO k5 10 [], cO k6 8 [], cI aC pa 8 (fun _ => 0), cI aC pe 8 (fun _ => 0), cI aC pb 8 (fun _ => 0), cI aC pu 7 (fun _ => 0), cI aC pw 7 (fun _ => 0), cI aC pq 128 (fun _ => 0), cI aC pt 128 (fun _ => 0), oX4 xt tek tef tew tep tes 0 0 0, cI aC tek 8 (fun _ => 0), cI aC tef 8 (fun _ => 0), cI aC tew 8 (fun _ => 0), cI aC tep 8 (fun _ => 0), cI aC tes 5 tsf, oX9 xtp tpo tpp tps tpa tpe tpb xt pk tpu tpw tpq tpt 0 0, cA aC tpo 8 tfo, cA aC tpp 8 tfp, cA aC tps 8 tfs, cI aC tpa 8 (fun _ => 0), cI aC tpe 8 (fun _ => 0), cI aC tpb 8 (fun _ => 0), cI aC tpu 7 (fun _ => 0), cI aC tpw 7 (fun _ => 0), cI aC tpq 128 (fun _ => 0), cI aC tpt 128 (fun _ => 0), oX4 xk kek kef kew kep kes 0 0 0, cI aC kek 8 (fun _ => 0), cI aC kef 8 (fun _ => 0), cI aC kew 8 (fun _ => 0), cI aC kep 8 (fun _ => 0), cI aC kes 5 kstf, oX7 xl 0 lsg, cC aC lsg 64 (fun _ => 0), oX2 xc cs ca cf k0 0 0, cI aC cs 60 (fun _ => 0), cI aC ca 60 (fun _ => 0), cI aC cf 60 (fun _ => 0), cI aC xo 8 (fun _ => 0), cI aC xto 8 (fun _ => 0), cI aC xr 7 (fun _ => 0), cL aC xch 73 (fun _ => 0)] (va_pl L2 (plE aC g2))) t.heap ∧ va_K (dC, dI) classes (TY aC) t ∧ va_D (va_A (wp [cO h0 11 [Value.null, Value.null, Value.null, Value.null, Value.null, Value.null, Value.null, Value.null, Value.null, Value.null, Value.null, Value.int 0, Value.int 0, Value.int 0]] (va_pl L (plE aC g))) sz) (wp [oX11 h0 xp xtp xn xt xk xl xc xo xto xr xch 0 0 1, oX9 xp po pp ps pa pe pb xn pk pu pw pq pt 0 0, oX4 xn ek ef ew ep es 0 0 0, cI aC ek 8 (fun _ => 0), cI aC ef 8 (fun _ => 0), cI aC ew 8 (fun _ => 0), cI aC ep 8 (fun _ => 0), cI aC es 5 stf, cA aC po 8 fo, cA aC pp 8 fp, cA aC ps 8 fs, cK aC pk 7 fk, cO k0 0 [], cO k1 1 [], cO k2 3 [], cO k3 5 [], cO k4 6 [], cO k5 10 [], cO k6 8 [], cI aC pa 8 (fun _ => 0), cI aC pe 8 (fun _ => 0), cI aC pb 8 (fun _ => 0), cI aC pu 7 (fun _ => 0), cI aC pw 7 (fun _ => 0), cI aC pq 128 (fun _ => 0), cI aC pt 128 (fun _ => 0), oX4 xt tek tef tew tep tes 0 0 0, cI aC tek 8 (fun _ => 0), cI aC tef 8 (fun _ => 0), cI aC tew 8 (fun _ => 0), cI aC tep 8 (fun _ => 0), cI aC tes 5 tsf, oX9 xtp tpo tpp tps tpa tpe tpb xt pk tpu tpw tpq tpt 0 0, cA aC tpo 8 tfo, cA aC tpp 8 tfp, cA aC tps 8 tfs, cI aC tpa 8 (fun _ => 0), cI aC tpe 8 (fun _ => 0), cI aC tpb 8 (fun _ => 0), cI aC tpu 7 (fun _ => 0), cI aC tpw 7 (fun _ => 0), cI aC tpq 128 (fun _ => 0), cI aC tpt 128 (fun _ => 0), oX4 xk kek kef kew kep kes 0 0 0, cI aC kek 8 (fun _ => 0), cI aC kef 8 (fun _ => 0), cI aC kew 8 (fun _ => 0), cI aC kep 8 (fun _ => 0), cI aC kes 5 kstf, oX7 xl 0 lsg, cC aC lsg 64 (fun _ => 0), oX2 xc cs ca cf k0 0 0, cI aC cs 60 (fun _ => 0), cI aC ca 60 (fun _ => 0), cI aC cf 60 (fun _ => 0), cI aC xo 8 (fun _ => 0), cI aC xto 8 (fun _ => 0), cI aC xr 7 (fun _ => 0), cL aC xch 73 (fun _ => 0)] (va_pl L2 (plE aC g2)))) (va_A (wp [cO h0 11 [Value.null, Value.null, Value.null, Value.null, Value.null, Value.null, Value.null, Value.null, Value.null, Value.null, Value.null, Value.int 0, Value.int 0, Value.int 0]] (va_pl L (plE aC g))) sz)) 106 1538 (va_A (wp [cO h0 11 [Value.null, Value.null, Value.null, Value.null, Value.null, Value.null, Value.null, Value.null, Value.null, Value.null, Value.null, Value.int 0, Value.int 0, Value.int 0]] (va_pl L (plE aC g))) sz) := by
  refine Met.ofW (cc := cX11_init) (maxL := 3) (ret := (none : Option FieldType)) (by decide) rfl ?_
  intro p e s m args below meth c s₁ B hml hv
  obtain ⟨rfl, hsz, hP, hK, hD0, hN⟩ := hv
  have hx := B.exec
  have hb := B.bytes
  have hr := B.returns
  have hts0 := atoms_spec (ws := (wW yX11_init cX11_init 3 (none : Option FieldType))) B.pre
  have hts : ∀ w9 ∈ lw_G, w9.before ([Value.ref h0] : List Value).toArray s = true := fun w9 h9 => hts0 w9 (List.mem_cons_of_mem _ h9)
  have hown : s.vm.findClass RX11 = some m.cls := findClass_of_methodNamed (x := yX11_init) B.named
  have hlocks := B.notSynchronized
  have hin : meth.name = "<init>" := (name_of_methodNamed B.named B.method).1
  subst hsz
  have hD := hD0.self (sz := s.heap.size)
  generalize hAe : va_A (wp [cO h0 11 [Value.null, Value.null, Value.null, Value.null, Value.null, Value.null, Value.null, Value.null, Value.null, Value.null, Value.null, Value.int 0, Value.int 0, Value.int 0]] (va_pl L (plE aC g))) s.heap.size = A at hD ⊢
  have hA : ∀ q : Nat, s.heap.size ≤ q → A q := fun q h => by rw [← hAe]; exact Or.inr h
  obtain ⟨H, hHe⟩ : ∃ H : Heap, H = s.heap := ⟨_, rfl⟩
  have hS : va_S A s.heap H [] := by rw [hHe]; exact va_S.rf
  have hP : va_P (dC, dI) classes (wp [cO h0 11 [Value.null, Value.null, Value.null, Value.null, Value.null, Value.null, Value.null, Value.null, Value.null, Value.null, Value.null, Value.int 0, Value.int 0, Value.int 0]] (va_pl L (plE aC g))) H := by rw [hHe]; exact hP
  have hl := lv_entry ([Value.ref h0]) (n := 3) (Nat.le_of_ble_eq_true rfl)
  rw [lg_entry_eq]
  generalize (lg_sl ([Value.ref h0]) ++ List.replicate (3 - (lg_sl ([Value.ref h0])).length) Slot.unset).toArray = ls at hl ⊢
  have hl : lv_has ls 3 [(0, Value.ref h0)] := hl
  rw [← hHe]
  refine lv_aload_n hx hb dX11_init_0 rfl (lv_at hl 0 rfl) ?_
  refine W.objInit hx hb hown (hts _ (gw kw_23 rfl)) (hts _ (gw kw_24 rfl)) (hts _ (gw kw_25 rfl)) rfl (by rw [hml]; exact hl.1) rfl dX11_init_1 (Nat.le_of_ble_eq_true rfl) (Nat.le_of_ble_eq_true rfl) ?_
  refine W.eq (g2 := F0 m 4 ls []) rfl ?_
  refine lv_aload_n hx hb dX11_init_4 rfl (lv_at hl 0 rfl) ?_
  refine va_new (ci := 4) (fs := [Value.null, Value.null, Value.null, Value.null, Value.null, Value.int 0, Value.int 0, Value.int 0]) (C := RX4) (T := TX4) (N := 8) hx hb hts inX4 tyX4 tyX4_ok hown (hts _ (gw kw_26 rfl)) (hts _ (gw kw_27 rfl)) (hts _ (gw kw_2 rfl)) hK hP hD hS hA rfl (fun j hj => by have h9 : j = 0 ∨ j = 1 ∨ j = 2 ∨ j = 3 ∨ j = 4 ∨ j = 5 ∨ j = 6 ∨ j = 7 := (by omega); rcases h9 with rfl | rfl | rfl | rfl | rfl | rfl | rfl | rfl <;> rfl) (Nat.le_of_ble_eq_true rfl) (Nat.le_of_ble_eq_true rfl) dX11_init_5 (fun q_1 H hP hD hS => ?_)
  have hP := va_P.swap (a := [cO h0 11 [Value.null, Value.null, Value.null, Value.null, Value.null, Value.null, Value.null, Value.null, Value.null, Value.null, Value.null, Value.int 0, Value.int 0, Value.int 0]]) (b := va_pl L (plE aC g)) (c := [cO q_1 4 [Value.null, Value.null, Value.null, Value.null, Value.null, Value.int 0, Value.int 0, Value.int 0]]) hP
  have hD := va_D.swap (a := [cO h0 11 [Value.null, Value.null, Value.null, Value.null, Value.null, Value.null, Value.null, Value.null, Value.null, Value.null, Value.null, Value.int 0, Value.int 0, Value.int 0]]) (b := va_pl L (plE aC g)) (c := [cO q_1 4 [Value.null, Value.null, Value.null, Value.null, Value.null, Value.int 0, Value.int 0, Value.int 0]]) hD
  have hpd9 : PDx (dC, dI) classes A H (wp [cO h0 11 [Value.null, Value.null, Value.null, Value.null, Value.null, Value.null, Value.null, Value.null, Value.null, Value.null, Value.null, Value.int 0, Value.int 0, Value.int 0], cO q_1 4 [Value.null, Value.null, Value.null, Value.null, Value.null, Value.int 0, Value.int 0, Value.int 0]] (va_pl L (plE aC g))) := ⟨hP, hD⟩
  have hP := hpd9.1
  have hD := hpd9.2
  clear hpd9
  refine W.widen (k := 1) (n := 8) (by omega) (by omega) ?_
  refine lv_dup hx hb dX11_init_8 rfl ?_
  have hpd9 := pdf_N (cx := [cO q_1 4 [Value.null, Value.null, Value.null, Value.null, Value.null, Value.int 0, Value.int 0, Value.int 0]]) hP hD hS hA [1] (by decide) rfl
  have hPc := hpd9.1
  have hDc := hpd9.2.1
  have hFc := hpd9.2.2
  clear hpd9
  refine va_callv (va_runIN (As := []) (rest := [Value.ref q_1, Value.ref h0]) ⟨hx, hb, hml, hown, hts⟩ (c_X4_init l dC dI aC H.size q_1 ) ⟨(va_cnB 0 hts (gG kw_30) rfl rfl rfl (hN.1 _ kw_28 rfl) (hts _ (gw kw_2 rfl)) hd_X4_init ⟨Nat.le_of_ble_eq_true rfl, Nat.le_of_ble_eq_true rfl⟩), rfl, (hts _ (gw kw_29 rfl))⟩ ⟨fb_std, pre_std hPc hK hDc hN⟩ rfl rfl hl.1 rfl (lv_room (Nat.le_of_ble_eq_true rfl)) dX11_init_9 ⟨Nat.le_of_ble_eq_true rfl, Nat.le_of_ble_eq_true rfl⟩) hS (fun q _ h => hFc q h) hFc (fun u9 t9 H1 locs ht hvm hw_2 hB hz1 hk1 hS => ?_)
  obtain ⟨u_3, rfl⟩ : ∃ z, z = u9 := ⟨_, rfl⟩
  obtain ⟨q_4, q_5, q_6, q_7, q_8, hP1, hK1, hD1⟩ := hB
  rw [ht] at hP1
  clear hK1
  try dsimp only at hw_2
  have hpd9 : PDx (dC, dI) classes A H1 (wp [cO h0 11 [Value.null, Value.null, Value.null, Value.null, Value.null, Value.null, Value.null, Value.null, Value.null, Value.null, Value.null, Value.int 0, Value.int 0, Value.int 0], oX4 q_1 q_4 q_5 q_6 q_7 q_8 0 0 0, cI aC q_4 8 (fun _ => 0), cI aC q_5 8 (fun _ => 0), cI aC q_6 8 (fun _ => 0), cI aC q_7 8 (fun _ => 0), cI aC q_8 5 u_3] (va_pl L (plE aC g))) := jn_Q (wr := [cO h0 11 [Value.null, Value.null, Value.null, Value.null, Value.null, Value.null, Value.null, Value.null, Value.null, Value.null, Value.null, Value.int 0, Value.int 0, Value.int 0]]) hFc hk1 hP1 hD1 hP hD [1] [0] rfl rfl (by decide) (by decide)
  have hP := hpd9.1
  have hD := hpd9.2
  clear hpd9
  generalize H1 = H at hP hS ⊢
  clear hPc hDc hFc hz1 hk1 hP1 hD1 ht hvm
  refine W.widen (k := 6) (n := 45) (by omega) (by omega) ?_
  have hk9 := hw_2
  refine va_putF (D := (dC, dI)) (ci := 11) (v := Value.ref q_1) (ty := .object "EldestSays$Evening") (C := RX11) (T := TX11) (N := 14) hx hb hts inX11 tyX11 tyX11_ok nmX11 hown hK hP hD hS 0 rfl rfl 4 (by decide) (hts _ (gw kw_230 rfl)) (fun _ h9 => h9) rfl hin rfl (by decide +kernel) rfl rfl (Nat.le_of_ble_eq_true rfl) dX11_init_12 (fun H locs hP hD hS => ?_)
  have hpd9 : PDx (dC, dI) classes A H (wp [cO h0 11 [Value.null, Value.null, Value.null, Value.null, Value.ref q_1, Value.null, Value.null, Value.null, Value.null, Value.null, Value.null, Value.int 0, Value.int 0, Value.int 0], oX4 q_1 q_4 q_5 q_6 q_7 q_8 0 0 0, cI aC q_4 8 (fun _ => 0), cI aC q_5 8 (fun _ => 0), cI aC q_6 8 (fun _ => 0), cI aC q_7 8 (fun _ => 0), cI aC q_8 5 u_3] (va_pl L (plE aC g))) := ⟨hP, hD⟩
  have hP := hpd9.1
  have hD := hpd9.2
  clear hpd9
  refine lv_aload_n hx hb dX11_init_15 rfl (lv_at hl 0 rfl) ?_
  refine va_new (ci := 7) (fs := [Value.int 0, Value.null]) (C := RX7) (T := TX7) (N := 2) hx hb hts inX7 tyX7 tyX7_ok hown (hts _ (gw kw_74 rfl)) (hts _ (gw kw_75 rfl)) (hts _ (gw kw_3 rfl)) hK hP hD hS hA rfl (fun j hj => by have h9 : j = 0 ∨ j = 1 := (by omega); rcases h9 with rfl | rfl <;> rfl) (Nat.le_of_ble_eq_true rfl) (Nat.le_of_ble_eq_true rfl) dX11_init_16 (fun q_9 H hP hD hS => ?_)
  have hP := va_P.swap (a := [cO h0 11 [Value.null, Value.null, Value.null, Value.null, Value.ref q_1, Value.null, Value.null, Value.null, Value.null, Value.null, Value.null, Value.int 0, Value.int 0, Value.int 0], oX4 q_1 q_4 q_5 q_6 q_7 q_8 0 0 0, cI aC q_4 8 (fun _ => 0), cI aC q_5 8 (fun _ => 0), cI aC q_6 8 (fun _ => 0), cI aC q_7 8 (fun _ => 0), cI aC q_8 5 u_3]) (b := va_pl L (plE aC g)) (c := [cO q_9 7 [Value.int 0, Value.null]]) hP
  have hD := va_D.swap (a := [cO h0 11 [Value.null, Value.null, Value.null, Value.null, Value.ref q_1, Value.null, Value.null, Value.null, Value.null, Value.null, Value.null, Value.int 0, Value.int 0, Value.int 0], oX4 q_1 q_4 q_5 q_6 q_7 q_8 0 0 0, cI aC q_4 8 (fun _ => 0), cI aC q_5 8 (fun _ => 0), cI aC q_6 8 (fun _ => 0), cI aC q_7 8 (fun _ => 0), cI aC q_8 5 u_3]) (b := va_pl L (plE aC g)) (c := [cO q_9 7 [Value.int 0, Value.null]]) hD
  have hpd9 : PDx (dC, dI) classes A H (wp [cO h0 11 [Value.null, Value.null, Value.null, Value.null, Value.ref q_1, Value.null, Value.null, Value.null, Value.null, Value.null, Value.null, Value.int 0, Value.int 0, Value.int 0], oX4 q_1 q_4 q_5 q_6 q_7 q_8 0 0 0, cI aC q_4 8 (fun _ => 0), cI aC q_5 8 (fun _ => 0), cI aC q_6 8 (fun _ => 0), cI aC q_7 8 (fun _ => 0), cI aC q_8 5 u_3, cO q_9 7 [Value.int 0, Value.null]] (va_pl L (plE aC g))) := ⟨hP, hD⟩
  have hP := hpd9.1
  have hD := hpd9.2
  clear hpd9
  refine W.widen (k := 7) (n := 47) (by omega) (by omega) ?_
  refine lv_dup hx hb dX11_init_19 rfl ?_
  have hpd9 := pdf_N (cx := [cO q_9 7 [Value.int 0, Value.null]]) hP hD hS hA [7] (by decide) rfl
  have hPc := hpd9.1
  have hDc := hpd9.2.1
  have hFc := hpd9.2.2
  clear hpd9
  refine va_callv (va_runIN (As := []) (rest := [Value.ref q_9, Value.ref h0]) ⟨hx, hb, hml, hown, hts⟩ (c_X7_init l dC dI aC H.size q_9 ) ⟨(va_cnB 0 hts (gG kw_78) rfl rfl rfl (hN.1 _ kw_76 rfl) (hts _ (gw kw_3 rfl)) hd_X7_init ⟨Nat.le_of_ble_eq_true rfl, Nat.le_of_ble_eq_true rfl⟩), rfl, (hts _ (gw kw_77 rfl))⟩ ⟨fb_std, pre_std hPc hK hDc hN⟩ rfl rfl hl.1 rfl (lv_room (Nat.le_of_ble_eq_true rfl)) dX11_init_20 ⟨Nat.le_of_ble_eq_true rfl, Nat.le_of_ble_eq_true rfl⟩) hS (fun q _ h => hFc q h) hFc (fun u9 t9 H1 locs ht hvm hw_10 hB hz1 hk1 hS => ?_)
  obtain ⟨q_11, hP1, hK1, hD1⟩ := hB
  rw [ht] at hP1
  clear hK1
  try dsimp only at hw_10
  have hpd9 : PDx (dC, dI) classes A H1 (wp [cO h0 11 [Value.null, Value.null, Value.null, Value.null, Value.ref q_1, Value.null, Value.null, Value.null, Value.null, Value.null, Value.null, Value.int 0, Value.int 0, Value.int 0], oX4 q_1 q_4 q_5 q_6 q_7 q_8 0 0 0, cI aC q_4 8 (fun _ => 0), cI aC q_5 8 (fun _ => 0), cI aC q_6 8 (fun _ => 0), cI aC q_7 8 (fun _ => 0), cI aC q_8 5 u_3, oX7 q_9 0 q_11, cC aC q_11 64 (fun _ => 0)] (va_pl L (plE aC g))) := jn_Q (wr := [cO h0 11 [Value.null, Value.null, Value.null, Value.null, Value.ref q_1, Value.null, Value.null, Value.null, Value.null, Value.null, Value.null, Value.int 0, Value.int 0, Value.int 0], oX4 q_1 q_4 q_5 q_6 q_7 q_8 0 0 0, cI aC q_4 8 (fun _ => 0), cI aC q_5 8 (fun _ => 0), cI aC q_6 8 (fun _ => 0), cI aC q_7 8 (fun _ => 0), cI aC q_8 5 u_3]) hFc hk1 hP1 hD1 hP hD [7] [0, 1, 2, 3, 4, 5, 6] rfl rfl (by decide) (by decide)
  have hP := hpd9.1
  have hD := hpd9.2
  clear hpd9
  generalize H1 = H at hP hS ⊢
  clear hPc hDc hFc hz1 hk1 hP1 hD1 ht hvm
  refine W.widen (k := 8) (n := 111) (by omega) (by omega) ?_
  refine va_putF (D := (dC, dI)) (ci := 11) (v := Value.ref q_9) (ty := .object "EldestSays$Letters") (C := RX11) (T := TX11) (N := 14) hx hb hts inX11 tyX11 tyX11_ok nmX11 hown hK hP hD hS 0 rfl rfl 5 (by decide) (hts _ (gw kw_231 rfl)) (fun _ h9 => h9) rfl hin rfl (by decide +kernel) rfl rfl (Nat.le_of_ble_eq_true rfl) dX11_init_23 (fun H locs hP hD hS => ?_)
  have hpd9 : PDx (dC, dI) classes A H (wp [cO h0 11 [Value.null, Value.null, Value.null, Value.null, Value.ref q_1, Value.ref q_9, Value.null, Value.null, Value.null, Value.null, Value.null, Value.int 0, Value.int 0, Value.int 0], oX4 q_1 q_4 q_5 q_6 q_7 q_8 0 0 0, cI aC q_4 8 (fun _ => 0), cI aC q_5 8 (fun _ => 0), cI aC q_6 8 (fun _ => 0), cI aC q_7 8 (fun _ => 0), cI aC q_8 5 u_3, oX7 q_9 0 q_11, cC aC q_11 64 (fun _ => 0)] (va_pl L (plE aC g))) := ⟨hP, hD⟩
  have hP := hpd9.1
  have hD := hpd9.2
  clear hpd9
  refine lv_aload_n hx hb dX11_init_26 rfl (lv_at hl 0 rfl) ?_
  refine lv_bipush (v := 8) hx hb dX11_init_27 (by decide) ?_
  refine va_newaI (N' := 8) (a0 := (8, .inl (fun _ => 0))) hx hb (hts _ (gw kw_73 rfl)) hK hP hD hS hA (by decide) (by decide) (by decide) (Nat.le_of_ble_eq_true rfl) (Nat.le_of_ble_eq_true rfl) dX11_init_29 rfl (fun q_12 H hP hD hS => ?_)
  have hP := va_P.swap (a := [cO h0 11 [Value.null, Value.null, Value.null, Value.null, Value.ref q_1, Value.ref q_9, Value.null, Value.null, Value.null, Value.null, Value.null, Value.int 0, Value.int 0, Value.int 0], oX4 q_1 q_4 q_5 q_6 q_7 q_8 0 0 0, cI aC q_4 8 (fun _ => 0), cI aC q_5 8 (fun _ => 0), cI aC q_6 8 (fun _ => 0), cI aC q_7 8 (fun _ => 0), cI aC q_8 5 u_3, oX7 q_9 0 q_11, cC aC q_11 64 (fun _ => 0)]) (b := va_pl L (plE aC g)) (c := [cI aC q_12 8 (fun _ => 0)]) hP
  have hD := va_D.swap (a := [cO h0 11 [Value.null, Value.null, Value.null, Value.null, Value.ref q_1, Value.ref q_9, Value.null, Value.null, Value.null, Value.null, Value.null, Value.int 0, Value.int 0, Value.int 0], oX4 q_1 q_4 q_5 q_6 q_7 q_8 0 0 0, cI aC q_4 8 (fun _ => 0), cI aC q_5 8 (fun _ => 0), cI aC q_6 8 (fun _ => 0), cI aC q_7 8 (fun _ => 0), cI aC q_8 5 u_3, oX7 q_9 0 q_11, cC aC q_11 64 (fun _ => 0)]) (b := va_pl L (plE aC g)) (c := [cI aC q_12 8 (fun _ => 0)]) hD
  have hpd9 : PDx (dC, dI) classes A H (wp [cO h0 11 [Value.null, Value.null, Value.null, Value.null, Value.ref q_1, Value.ref q_9, Value.null, Value.null, Value.null, Value.null, Value.null, Value.int 0, Value.int 0, Value.int 0], oX4 q_1 q_4 q_5 q_6 q_7 q_8 0 0 0, cI aC q_4 8 (fun _ => 0), cI aC q_5 8 (fun _ => 0), cI aC q_6 8 (fun _ => 0), cI aC q_7 8 (fun _ => 0), cI aC q_8 5 u_3, oX7 q_9 0 q_11, cC aC q_11 64 (fun _ => 0), cI aC q_12 8 (fun _ => 0)] (va_pl L (plE aC g))) := ⟨hP, hD⟩
  have hP := hpd9.1
  have hD := hpd9.2
  clear hpd9
  refine W.widen (k := 9) (n := 119) (by omega) (by omega) ?_
  refine va_putF (D := (dC, dI)) (ci := 11) (v := Value.ref q_12) (ty := .array .int) (C := RX11) (T := TX11) (N := 14) hx hb hts inX11 tyX11 tyX11_ok nmX11 hown hK hP hD hS 0 rfl rfl 7 (by decide) (hts _ (gw kw_233 rfl)) (fun _ h9 => h9) rfl hin rfl (by decide +kernel) rfl rfl (Nat.le_of_ble_eq_true rfl) dX11_init_31 (fun H locs hP hD hS => ?_)
  have hpd9 : PDx (dC, dI) classes A H (wp [cO h0 11 [Value.null, Value.null, Value.null, Value.null, Value.ref q_1, Value.ref q_9, Value.null, Value.ref q_12, Value.null, Value.null, Value.null, Value.int 0, Value.int 0, Value.int 0], oX4 q_1 q_4 q_5 q_6 q_7 q_8 0 0 0, cI aC q_4 8 (fun _ => 0), cI aC q_5 8 (fun _ => 0), cI aC q_6 8 (fun _ => 0), cI aC q_7 8 (fun _ => 0), cI aC q_8 5 u_3, oX7 q_9 0 q_11, cC aC q_11 64 (fun _ => 0), cI aC q_12 8 (fun _ => 0)] (va_pl L (plE aC g))) := ⟨hP, hD⟩
  have hP := hpd9.1
  have hD := hpd9.2
  clear hpd9
  refine lv_aload_n hx hb dX11_init_34 rfl (lv_at hl 0 rfl) ?_
  refine lv_bipush (v := 8) hx hb dX11_init_35 (by decide) ?_
  refine va_newaI (N' := 8) (a0 := (8, .inl (fun _ => 0))) hx hb (hts _ (gw kw_73 rfl)) hK hP hD hS hA (by decide) (by decide) (by decide) (Nat.le_of_ble_eq_true rfl) (Nat.le_of_ble_eq_true rfl) dX11_init_37 rfl (fun q_13 H hP hD hS => ?_)
  have hP := va_P.swap (a := [cO h0 11 [Value.null, Value.null, Value.null, Value.null, Value.ref q_1, Value.ref q_9, Value.null, Value.ref q_12, Value.null, Value.null, Value.null, Value.int 0, Value.int 0, Value.int 0], oX4 q_1 q_4 q_5 q_6 q_7 q_8 0 0 0, cI aC q_4 8 (fun _ => 0), cI aC q_5 8 (fun _ => 0), cI aC q_6 8 (fun _ => 0), cI aC q_7 8 (fun _ => 0), cI aC q_8 5 u_3, oX7 q_9 0 q_11, cC aC q_11 64 (fun _ => 0), cI aC q_12 8 (fun _ => 0)]) (b := va_pl L (plE aC g)) (c := [cI aC q_13 8 (fun _ => 0)]) hP
  have hD := va_D.swap (a := [cO h0 11 [Value.null, Value.null, Value.null, Value.null, Value.ref q_1, Value.ref q_9, Value.null, Value.ref q_12, Value.null, Value.null, Value.null, Value.int 0, Value.int 0, Value.int 0], oX4 q_1 q_4 q_5 q_6 q_7 q_8 0 0 0, cI aC q_4 8 (fun _ => 0), cI aC q_5 8 (fun _ => 0), cI aC q_6 8 (fun _ => 0), cI aC q_7 8 (fun _ => 0), cI aC q_8 5 u_3, oX7 q_9 0 q_11, cC aC q_11 64 (fun _ => 0), cI aC q_12 8 (fun _ => 0)]) (b := va_pl L (plE aC g)) (c := [cI aC q_13 8 (fun _ => 0)]) hD
  have hpd9 : PDx (dC, dI) classes A H (wp [cO h0 11 [Value.null, Value.null, Value.null, Value.null, Value.ref q_1, Value.ref q_9, Value.null, Value.ref q_12, Value.null, Value.null, Value.null, Value.int 0, Value.int 0, Value.int 0], oX4 q_1 q_4 q_5 q_6 q_7 q_8 0 0 0, cI aC q_4 8 (fun _ => 0), cI aC q_5 8 (fun _ => 0), cI aC q_6 8 (fun _ => 0), cI aC q_7 8 (fun _ => 0), cI aC q_8 5 u_3, oX7 q_9 0 q_11, cC aC q_11 64 (fun _ => 0), cI aC q_12 8 (fun _ => 0), cI aC q_13 8 (fun _ => 0)] (va_pl L (plE aC g))) := ⟨hP, hD⟩
  have hP := hpd9.1
  have hD := hpd9.2
  clear hpd9
  refine W.widen (k := 10) (n := 127) (by omega) (by omega) ?_
  refine va_putF (D := (dC, dI)) (ci := 11) (v := Value.ref q_13) (ty := .array .int) (C := RX11) (T := TX11) (N := 14) hx hb hts inX11 tyX11 tyX11_ok nmX11 hown hK hP hD hS 0 rfl rfl 8 (by decide) (hts _ (gw kw_234 rfl)) (fun _ h9 => h9) rfl hin rfl (by decide +kernel) rfl rfl (Nat.le_of_ble_eq_true rfl) dX11_init_39 (fun H locs hP hD hS => ?_)
  have hpd9 : PDx (dC, dI) classes A H (wp [cO h0 11 [Value.null, Value.null, Value.null, Value.null, Value.ref q_1, Value.ref q_9, Value.null, Value.ref q_12, Value.ref q_13, Value.null, Value.null, Value.int 0, Value.int 0, Value.int 0], oX4 q_1 q_4 q_5 q_6 q_7 q_8 0 0 0, cI aC q_4 8 (fun _ => 0), cI aC q_5 8 (fun _ => 0), cI aC q_6 8 (fun _ => 0), cI aC q_7 8 (fun _ => 0), cI aC q_8 5 u_3, oX7 q_9 0 q_11, cC aC q_11 64 (fun _ => 0), cI aC q_12 8 (fun _ => 0), cI aC q_13 8 (fun _ => 0)] (va_pl L (plE aC g))) := ⟨hP, hD⟩
  have hP := hpd9.1
  have hD := hpd9.2
  clear hpd9
  refine lv_aload_n hx hb dX11_init_42 rfl (lv_at hl 0 rfl) ?_
  refine lv_bipush (v := 7) hx hb dX11_init_43 (by decide) ?_
  refine va_newaI (N' := 7) (a0 := (7, .inl (fun _ => 0))) hx hb (hts _ (gw kw_73 rfl)) hK hP hD hS hA (by decide) (by decide) (by decide) (Nat.le_of_ble_eq_true rfl) (Nat.le_of_ble_eq_true rfl) dX11_init_45 rfl (fun q_14 H hP hD hS => ?_)
  have hP := va_P.swap (a := [cO h0 11 [Value.null, Value.null, Value.null, Value.null, Value.ref q_1, Value.ref q_9, Value.null, Value.ref q_12, Value.ref q_13, Value.null, Value.null, Value.int 0, Value.int 0, Value.int 0], oX4 q_1 q_4 q_5 q_6 q_7 q_8 0 0 0, cI aC q_4 8 (fun _ => 0), cI aC q_5 8 (fun _ => 0), cI aC q_6 8 (fun _ => 0), cI aC q_7 8 (fun _ => 0), cI aC q_8 5 u_3, oX7 q_9 0 q_11, cC aC q_11 64 (fun _ => 0), cI aC q_12 8 (fun _ => 0), cI aC q_13 8 (fun _ => 0)]) (b := va_pl L (plE aC g)) (c := [cI aC q_14 7 (fun _ => 0)]) hP
  have hD := va_D.swap (a := [cO h0 11 [Value.null, Value.null, Value.null, Value.null, Value.ref q_1, Value.ref q_9, Value.null, Value.ref q_12, Value.ref q_13, Value.null, Value.null, Value.int 0, Value.int 0, Value.int 0], oX4 q_1 q_4 q_5 q_6 q_7 q_8 0 0 0, cI aC q_4 8 (fun _ => 0), cI aC q_5 8 (fun _ => 0), cI aC q_6 8 (fun _ => 0), cI aC q_7 8 (fun _ => 0), cI aC q_8 5 u_3, oX7 q_9 0 q_11, cC aC q_11 64 (fun _ => 0), cI aC q_12 8 (fun _ => 0), cI aC q_13 8 (fun _ => 0)]) (b := va_pl L (plE aC g)) (c := [cI aC q_14 7 (fun _ => 0)]) hD
  have hpd9 : PDx (dC, dI) classes A H (wp [cO h0 11 [Value.null, Value.null, Value.null, Value.null, Value.ref q_1, Value.ref q_9, Value.null, Value.ref q_12, Value.ref q_13, Value.null, Value.null, Value.int 0, Value.int 0, Value.int 0], oX4 q_1 q_4 q_5 q_6 q_7 q_8 0 0 0, cI aC q_4 8 (fun _ => 0), cI aC q_5 8 (fun _ => 0), cI aC q_6 8 (fun _ => 0), cI aC q_7 8 (fun _ => 0), cI aC q_8 5 u_3, oX7 q_9 0 q_11, cC aC q_11 64 (fun _ => 0), cI aC q_12 8 (fun _ => 0), cI aC q_13 8 (fun _ => 0), cI aC q_14 7 (fun _ => 0)] (va_pl L (plE aC g))) := ⟨hP, hD⟩
  have hP := hpd9.1
  have hD := hpd9.2
  clear hpd9
  refine W.widen (k := 11) (n := 134) (by omega) (by omega) ?_
  refine va_putF (D := (dC, dI)) (ci := 11) (v := Value.ref q_14) (ty := .array .int) (C := RX11) (T := TX11) (N := 14) hx hb hts inX11 tyX11 tyX11_ok nmX11 hown hK hP hD hS 0 rfl rfl 9 (by decide) (hts _ (gw kw_235 rfl)) (fun _ h9 => h9) rfl hin rfl (by decide +kernel) rfl rfl (Nat.le_of_ble_eq_true rfl) dX11_init_47 (fun H locs hP hD hS => ?_)
  have hpd9 : PDx (dC, dI) classes A H (wp [cO h0 11 [Value.null, Value.null, Value.null, Value.null, Value.ref q_1, Value.ref q_9, Value.null, Value.ref q_12, Value.ref q_13, Value.ref q_14, Value.null, Value.int 0, Value.int 0, Value.int 0], oX4 q_1 q_4 q_5 q_6 q_7 q_8 0 0 0, cI aC q_4 8 (fun _ => 0), cI aC q_5 8 (fun _ => 0), cI aC q_6 8 (fun _ => 0), cI aC q_7 8 (fun _ => 0), cI aC q_8 5 u_3, oX7 q_9 0 q_11, cC aC q_11 64 (fun _ => 0), cI aC q_12 8 (fun _ => 0), cI aC q_13 8 (fun _ => 0), cI aC q_14 7 (fun _ => 0)] (va_pl L (plE aC g))) := ⟨hP, hD⟩
  have hP := hpd9.1
  have hD := hpd9.2
  clear hpd9
  refine lv_aload_n hx hb dX11_init_50 rfl (lv_at hl 0 rfl) ?_
  refine lv_bipush (v := 73) hx hb dX11_init_51 (by decide) ?_
  refine va_newaL (N' := 73) (a0 := (73, .inr (.inl (fun _ => 0)))) hx hb (hts _ (gw kw_96 rfl)) hK hP hD hS hA (by decide) (by decide) (by decide) (Nat.le_of_ble_eq_true rfl) (Nat.le_of_ble_eq_true rfl) dX11_init_53 rfl (fun q_15 H hP hD hS => ?_)
  have hP := va_P.swap (a := [cO h0 11 [Value.null, Value.null, Value.null, Value.null, Value.ref q_1, Value.ref q_9, Value.null, Value.ref q_12, Value.ref q_13, Value.ref q_14, Value.null, Value.int 0, Value.int 0, Value.int 0], oX4 q_1 q_4 q_5 q_6 q_7 q_8 0 0 0, cI aC q_4 8 (fun _ => 0), cI aC q_5 8 (fun _ => 0), cI aC q_6 8 (fun _ => 0), cI aC q_7 8 (fun _ => 0), cI aC q_8 5 u_3, oX7 q_9 0 q_11, cC aC q_11 64 (fun _ => 0), cI aC q_12 8 (fun _ => 0), cI aC q_13 8 (fun _ => 0), cI aC q_14 7 (fun _ => 0)]) (b := va_pl L (plE aC g)) (c := [cL aC q_15 73 (fun _ => 0)]) hP
  have hD := va_D.swap (a := [cO h0 11 [Value.null, Value.null, Value.null, Value.null, Value.ref q_1, Value.ref q_9, Value.null, Value.ref q_12, Value.ref q_13, Value.ref q_14, Value.null, Value.int 0, Value.int 0, Value.int 0], oX4 q_1 q_4 q_5 q_6 q_7 q_8 0 0 0, cI aC q_4 8 (fun _ => 0), cI aC q_5 8 (fun _ => 0), cI aC q_6 8 (fun _ => 0), cI aC q_7 8 (fun _ => 0), cI aC q_8 5 u_3, oX7 q_9 0 q_11, cC aC q_11 64 (fun _ => 0), cI aC q_12 8 (fun _ => 0), cI aC q_13 8 (fun _ => 0), cI aC q_14 7 (fun _ => 0)]) (b := va_pl L (plE aC g)) (c := [cL aC q_15 73 (fun _ => 0)]) hD
  have hpd9 : PDx (dC, dI) classes A H (wp [cO h0 11 [Value.null, Value.null, Value.null, Value.null, Value.ref q_1, Value.ref q_9, Value.null, Value.ref q_12, Value.ref q_13, Value.ref q_14, Value.null, Value.int 0, Value.int 0, Value.int 0], oX4 q_1 q_4 q_5 q_6 q_7 q_8 0 0 0, cI aC q_4 8 (fun _ => 0), cI aC q_5 8 (fun _ => 0), cI aC q_6 8 (fun _ => 0), cI aC q_7 8 (fun _ => 0), cI aC q_8 5 u_3, oX7 q_9 0 q_11, cC aC q_11 64 (fun _ => 0), cI aC q_12 8 (fun _ => 0), cI aC q_13 8 (fun _ => 0), cI aC q_14 7 (fun _ => 0), cL aC q_15 73 (fun _ => 0)] (va_pl L (plE aC g))) := ⟨hP, hD⟩
  have hP := hpd9.1
  have hD := hpd9.2
  clear hpd9
  refine W.widen (k := 12) (n := 207) (by omega) (by omega) ?_
  refine va_putF (D := (dC, dI)) (ci := 11) (v := Value.ref q_15) (ty := .array .long) (C := RX11) (T := TX11) (N := 14) hx hb hts inX11 tyX11 tyX11_ok nmX11 hown hK hP hD hS 0 rfl rfl 10 (by decide) (hts _ (gw kw_236 rfl)) (fun _ h9 => h9) rfl hin rfl (by decide +kernel) rfl rfl (Nat.le_of_ble_eq_true rfl) dX11_init_55 (fun H locs hP hD hS => ?_)
  have hpd9 : PDx (dC, dI) classes A H (wp [cO h0 11 [Value.null, Value.null, Value.null, Value.null, Value.ref q_1, Value.ref q_9, Value.null, Value.ref q_12, Value.ref q_13, Value.ref q_14, Value.ref q_15, Value.int 0, Value.int 0, Value.int 0], oX4 q_1 q_4 q_5 q_6 q_7 q_8 0 0 0, cI aC q_4 8 (fun _ => 0), cI aC q_5 8 (fun _ => 0), cI aC q_6 8 (fun _ => 0), cI aC q_7 8 (fun _ => 0), cI aC q_8 5 u_3, oX7 q_9 0 q_11, cC aC q_11 64 (fun _ => 0), cI aC q_12 8 (fun _ => 0), cI aC q_13 8 (fun _ => 0), cI aC q_14 7 (fun _ => 0), cL aC q_15 73 (fun _ => 0)] (va_pl L (plE aC g))) := ⟨hP, hD⟩
  have hP := hpd9.1
  have hD := hpd9.2
  clear hpd9
  refine lv_aload_n hx hb dX11_init_58 rfl (lv_at hl 0 rfl) ?_
  refine lv_iconst (v := 1) hx hb dX11_init_59 (by decide) ?_
  refine va_put (D := (dC, dI)) (ci := 11) (v := Value.int 1) (ty := .boolean) (C := RX11) (T := TX11) (N := 14) hx hb hts inX11 tyX11 tyX11_ok nmX11 hown hK hP hD hS 0 rfl rfl 13 (by decide) (hts _ (gw kw_239 rfl)) (fun _ h9 => h9) rfl (by decide +kernel) rfl rfl (Nat.le_of_ble_eq_true rfl) dX11_init_60 (fun H locs hP hD hS => ?_)
  have hpd9 : PDx (dC, dI) classes A H (wp [cO h0 11 [Value.null, Value.null, Value.null, Value.null, Value.ref q_1, Value.ref q_9, Value.null, Value.ref q_12, Value.ref q_13, Value.ref q_14, Value.ref q_15, Value.int 0, Value.int 0, Value.int 1], oX4 q_1 q_4 q_5 q_6 q_7 q_8 0 0 0, cI aC q_4 8 (fun _ => 0), cI aC q_5 8 (fun _ => 0), cI aC q_6 8 (fun _ => 0), cI aC q_7 8 (fun _ => 0), cI aC q_8 5 u_3, oX7 q_9 0 q_11, cC aC q_11 64 (fun _ => 0), cI aC q_12 8 (fun _ => 0), cI aC q_13 8 (fun _ => 0), cI aC q_14 7 (fun _ => 0), cL aC q_15 73 (fun _ => 0)] (va_pl L (plE aC g))) := ⟨hP, hD⟩
  have hP := hpd9.1
  have hD := hpd9.2
  clear hpd9
  refine va_new (ci := 0) (fs := []) (C := RX0) (T := TX0) (N := 0) hx hb hts inX0 tyX0 tyX0_ok hown (hts _ (gw kw_89 rfl)) (hts _ (gw kw_90 rfl)) (hts _ (gw kw_4 rfl)) hK hP hD hS hA rfl (fun j hj => absurd hj (Nat.not_lt_zero j)) (Nat.le_of_ble_eq_true rfl) (Nat.le_of_ble_eq_true rfl) dX11_init_63 (fun q_16 H hP hD hS => ?_)
  have hP := va_P.swap (a := [cO h0 11 [Value.null, Value.null, Value.null, Value.null, Value.ref q_1, Value.ref q_9, Value.null, Value.ref q_12, Value.ref q_13, Value.ref q_14, Value.ref q_15, Value.int 0, Value.int 0, Value.int 1], oX4 q_1 q_4 q_5 q_6 q_7 q_8 0 0 0, cI aC q_4 8 (fun _ => 0), cI aC q_5 8 (fun _ => 0), cI aC q_6 8 (fun _ => 0), cI aC q_7 8 (fun _ => 0), cI aC q_8 5 u_3, oX7 q_9 0 q_11, cC aC q_11 64 (fun _ => 0), cI aC q_12 8 (fun _ => 0), cI aC q_13 8 (fun _ => 0), cI aC q_14 7 (fun _ => 0), cL aC q_15 73 (fun _ => 0)]) (b := va_pl L (plE aC g)) (c := [cO q_16 0 []]) hP
  have hD := va_D.swap (a := [cO h0 11 [Value.null, Value.null, Value.null, Value.null, Value.ref q_1, Value.ref q_9, Value.null, Value.ref q_12, Value.ref q_13, Value.ref q_14, Value.ref q_15, Value.int 0, Value.int 0, Value.int 1], oX4 q_1 q_4 q_5 q_6 q_7 q_8 0 0 0, cI aC q_4 8 (fun _ => 0), cI aC q_5 8 (fun _ => 0), cI aC q_6 8 (fun _ => 0), cI aC q_7 8 (fun _ => 0), cI aC q_8 5 u_3, oX7 q_9 0 q_11, cC aC q_11 64 (fun _ => 0), cI aC q_12 8 (fun _ => 0), cI aC q_13 8 (fun _ => 0), cI aC q_14 7 (fun _ => 0), cL aC q_15 73 (fun _ => 0)]) (b := va_pl L (plE aC g)) (c := [cO q_16 0 []]) hD
  have hpd9 : PDx (dC, dI) classes A H (wp [cO h0 11 [Value.null, Value.null, Value.null, Value.null, Value.ref q_1, Value.ref q_9, Value.null, Value.ref q_12, Value.ref q_13, Value.ref q_14, Value.ref q_15, Value.int 0, Value.int 0, Value.int 1], oX4 q_1 q_4 q_5 q_6 q_7 q_8 0 0 0, cI aC q_4 8 (fun _ => 0), cI aC q_5 8 (fun _ => 0), cI aC q_6 8 (fun _ => 0), cI aC q_7 8 (fun _ => 0), cI aC q_8 5 u_3, oX7 q_9 0 q_11, cC aC q_11 64 (fun _ => 0), cI aC q_12 8 (fun _ => 0), cI aC q_13 8 (fun _ => 0), cI aC q_14 7 (fun _ => 0), cL aC q_15 73 (fun _ => 0), cO q_16 0 []] (va_pl L (plE aC g))) := ⟨hP, hD⟩
  have hP := hpd9.1
  have hD := hpd9.2
  clear hpd9
  refine W.widen (k := 13) (n := 207) (by omega) (by omega) ?_
  refine lv_dup hx hb dX11_init_66 rfl ?_
  have hpd9 := pdf_N (cx := []) hP hD hS hA [] (by decide) rfl
  have hPc := hpd9.1
  have hDc := hpd9.2.1
  have hFc := hpd9.2.2
  clear hpd9
  refine va_callv (va_runIN (As := []) (rest := [Value.ref q_16]) ⟨hx, hb, hml, hown, hts⟩ (c_X0_init l dC dI aC H.size q_16 ) ⟨(va_cnB 0 hts (gG kw_93) rfl rfl rfl (hN.1 _ kw_91 rfl) (hts _ (gw kw_4 rfl)) hd_X0_init ⟨Nat.le_of_ble_eq_true rfl, Nat.le_of_ble_eq_true rfl⟩), rfl, (hts _ (gw kw_92 rfl))⟩ ⟨fb_std, pre_std hPc hK hDc hN⟩ rfl rfl hl.1 rfl (lv_room (Nat.le_of_ble_eq_true rfl)) dX11_init_67 ⟨Nat.le_of_ble_eq_true rfl, Nat.le_of_ble_eq_true rfl⟩) hS (fun q _ h => hFc q h) hFc (fun u9 t9 H1 locs ht hvm hw_17 hB hz1 hk1 hS => ?_)
  obtain ⟨hP1, hK1, hD1⟩ := hB
  rw [ht] at hP1
  clear hK1
  try dsimp only at hw_17
  have hpd9 : PDx (dC, dI) classes A H1 (wp [cO h0 11 [Value.null, Value.null, Value.null, Value.null, Value.ref q_1, Value.ref q_9, Value.null, Value.ref q_12, Value.ref q_13, Value.ref q_14, Value.ref q_15, Value.int 0, Value.int 0, Value.int 1], oX4 q_1 q_4 q_5 q_6 q_7 q_8 0 0 0, cI aC q_4 8 (fun _ => 0), cI aC q_5 8 (fun _ => 0), cI aC q_6 8 (fun _ => 0), cI aC q_7 8 (fun _ => 0), cI aC q_8 5 u_3, oX7 q_9 0 q_11, cC aC q_11 64 (fun _ => 0), cI aC q_12 8 (fun _ => 0), cI aC q_13 8 (fun _ => 0), cI aC q_14 7 (fun _ => 0), cL aC q_15 73 (fun _ => 0), cO q_16 0 []] (va_pl L (plE aC g))) := jn_Q (wr := [cO h0 11 [Value.null, Value.null, Value.null, Value.null, Value.ref q_1, Value.ref q_9, Value.null, Value.ref q_12, Value.ref q_13, Value.ref q_14, Value.ref q_15, Value.int 0, Value.int 0, Value.int 1], oX4 q_1 q_4 q_5 q_6 q_7 q_8 0 0 0, cI aC q_4 8 (fun _ => 0), cI aC q_5 8 (fun _ => 0), cI aC q_6 8 (fun _ => 0), cI aC q_7 8 (fun _ => 0), cI aC q_8 5 u_3, oX7 q_9 0 q_11, cC aC q_11 64 (fun _ => 0), cI aC q_12 8 (fun _ => 0), cI aC q_13 8 (fun _ => 0), cI aC q_14 7 (fun _ => 0), cL aC q_15 73 (fun _ => 0), cO q_16 0 []]) hFc hk1 hP1 hD1 hP hD [] [0, 1, 2, 3, 4, 5, 6, 7, 8, 9, 10, 11, 12, 13] rfl rfl (by decide) (by decide)
  have hP := hpd9.1
  have hD := hpd9.2
  clear hpd9
  generalize H1 = H at hP hS ⊢
  clear hPc hDc hFc hz1 hk1 hP1 hD1 ht hvm
  refine lv_astore_n (lv' := [(1, Value.ref q_16), (0, Value.ref h0)]) hx hb dX11_init_70 rfl hl (by decide) rfl (fun ls hl => ?_)
  refine lv_bipush (v := 7) hx hb dX11_init_71 (by decide) ?_
  refine va_newqI (N' := 7) hx hb hown (hts _ (gw kw_89 rfl)) (va_AO.use hN.2.1) hK hP hD hS hA (by decide) (by decide) (by decide) (Nat.le_of_ble_eq_true rfl) (Nat.le_of_ble_eq_true rfl) dX11_init_73 (fun q_18 H hP hD hS => ?_)
  have hP := va_P.swap (a := [cO h0 11 [Value.null, Value.null, Value.null, Value.null, Value.ref q_1, Value.ref q_9, Value.null, Value.ref q_12, Value.ref q_13, Value.ref q_14, Value.ref q_15, Value.int 0, Value.int 0, Value.int 1], oX4 q_1 q_4 q_5 q_6 q_7 q_8 0 0 0, cI aC q_4 8 (fun _ => 0), cI aC q_5 8 (fun _ => 0), cI aC q_6 8 (fun _ => 0), cI aC q_7 8 (fun _ => 0), cI aC q_8 5 u_3, oX7 q_9 0 q_11, cC aC q_11 64 (fun _ => 0), cI aC q_12 8 (fun _ => 0), cI aC q_13 8 (fun _ => 0), cI aC q_14 7 (fun _ => 0), cL aC q_15 73 (fun _ => 0), cO q_16 0 []]) (b := va_pl L (plE aC g)) (c := [cK aC q_18 7 (fun _ => none)]) hP
  have hD := va_D.swap (a := [cO h0 11 [Value.null, Value.null, Value.null, Value.null, Value.ref q_1, Value.ref q_9, Value.null, Value.ref q_12, Value.ref q_13, Value.ref q_14, Value.ref q_15, Value.int 0, Value.int 0, Value.int 1], oX4 q_1 q_4 q_5 q_6 q_7 q_8 0 0 0, cI aC q_4 8 (fun _ => 0), cI aC q_5 8 (fun _ => 0), cI aC q_6 8 (fun _ => 0), cI aC q_7 8 (fun _ => 0), cI aC q_8 5 u_3, oX7 q_9 0 q_11, cC aC q_11 64 (fun _ => 0), cI aC q_12 8 (fun _ => 0), cI aC q_13 8 (fun _ => 0), cI aC q_14 7 (fun _ => 0), cL aC q_15 73 (fun _ => 0), cO q_16 0 []]) (b := va_pl L (plE aC g)) (c := [cK aC q_18 7 (fun _ => none)]) hD
  have hpd9 : PDx (dC, dI) classes A H (wp [cO h0 11 [Value.null, Value.null, Value.null, Value.null, Value.ref q_1, Value.ref q_9, Value.null, Value.ref q_12, Value.ref q_13, Value.ref q_14, Value.ref q_15, Value.int 0, Value.int 0, Value.int 1], oX4 q_1 q_4 q_5 q_6 q_7 q_8 0 0 0, cI aC q_4 8 (fun _ => 0), cI aC q_5 8 (fun _ => 0), cI aC q_6 8 (fun _ => 0), cI aC q_7 8 (fun _ => 0), cI aC q_8 5 u_3, oX7 q_9 0 q_11, cC aC q_11 64 (fun _ => 0), cI aC q_12 8 (fun _ => 0), cI aC q_13 8 (fun _ => 0), cI aC q_14 7 (fun _ => 0), cL aC q_15 73 (fun _ => 0), cO q_16 0 [], cK aC q_18 7 (fun _ => none)] (va_pl L (plE aC g))) := ⟨hP, hD⟩
  have hP := hpd9.1
  have hD := hpd9.2
  clear hpd9
  refine W.widen (k := 14) (n := 214) (by omega) (by omega) ?_
  refine lv_dup hx hb dX11_init_76 rfl ?_
  refine lv_iconst (v := 0) hx hb dX11_init_77 (by decide) ?_
  refine lv_aload_n hx hb dX11_init_78 rfl (lv_at hl 0 rfl) ?_
  have h_19 : vp_in 0 7 := by first | exact vp_in_nI (by omega) (by omega) | (unfold vp_in; decide) | (subst_vars; first | (unfold vp_in; decide) | exact vp_in_nI (by omega) (by omega))
  refine va_astq hx hb hK hP hD hS 14 3 13 0 rfl rfl rfl rfl h_19 dX11_init_79 (fun H locs hP hD hS => ?_)
  have hpd9 : PDx (dC, dI) classes A H (wp [cO h0 11 [Value.null, Value.null, Value.null, Value.null, Value.ref q_1, Value.ref q_9, Value.null, Value.ref q_12, Value.ref q_13, Value.ref q_14, Value.ref q_15, Value.int 0, Value.int 0, Value.int 1], oX4 q_1 q_4 q_5 q_6 q_7 q_8 0 0 0, cI aC q_4 8 (fun _ => 0), cI aC q_5 8 (fun _ => 0), cI aC q_6 8 (fun _ => 0), cI aC q_7 8 (fun _ => 0), cI aC q_8 5 u_3, oX7 q_9 0 q_11, cC aC q_11 64 (fun _ => 0), cI aC q_12 8 (fun _ => 0), cI aC q_13 8 (fun _ => 0), cI aC q_14 7 (fun _ => 0), cL aC q_15 73 (fun _ => 0), cO q_16 0 [], cK aC q_18 7 (va_up (fun _ => none) (0 : Int32).toNatClampNeg (some q_16))] (va_pl L (plE aC g))) := ⟨hP, hD⟩
  have hP := hpd9.1
  have hD := hpd9.2
  clear hpd9
  refine lv_dup hx hb dX11_init_80 rfl ?_
  refine lv_iconst (v := 1) hx hb dX11_init_81 (by decide) ?_
  refine va_new (ci := 1) (fs := []) (C := RX1) (T := TX1) (N := 0) hx hb hts inX1 tyX1 tyX1_ok hown (hts _ (gw kw_98 rfl)) (hts _ (gw kw_99 rfl)) (hts _ (gw kw_5 rfl)) hK hP hD hS hA rfl (fun j hj => absurd hj (Nat.not_lt_zero j)) (Nat.le_of_ble_eq_true rfl) (Nat.le_of_ble_eq_true rfl) dX11_init_82 (fun q_20 H hP hD hS => ?_)
  have hP := va_P.swap (a := [cO h0 11 [Value.null, Value.null, Value.null, Value.null, Value.ref q_1, Value.ref q_9, Value.null, Value.ref q_12, Value.ref q_13, Value.ref q_14, Value.ref q_15, Value.int 0, Value.int 0, Value.int 1], oX4 q_1 q_4 q_5 q_6 q_7 q_8 0 0 0, cI aC q_4 8 (fun _ => 0), cI aC q_5 8 (fun _ => 0), cI aC q_6 8 (fun _ => 0), cI aC q_7 8 (fun _ => 0), cI aC q_8 5 u_3, oX7 q_9 0 q_11, cC aC q_11 64 (fun _ => 0), cI aC q_12 8 (fun _ => 0), cI aC q_13 8 (fun _ => 0), cI aC q_14 7 (fun _ => 0), cL aC q_15 73 (fun _ => 0), cO q_16 0 [], cK aC q_18 7 (va_up (fun _ => none) (0 : Int32).toNatClampNeg (some q_16))]) (b := va_pl L (plE aC g)) (c := [cO q_20 1 []]) hP
  have hD := va_D.swap (a := [cO h0 11 [Value.null, Value.null, Value.null, Value.null, Value.ref q_1, Value.ref q_9, Value.null, Value.ref q_12, Value.ref q_13, Value.ref q_14, Value.ref q_15, Value.int 0, Value.int 0, Value.int 1], oX4 q_1 q_4 q_5 q_6 q_7 q_8 0 0 0, cI aC q_4 8 (fun _ => 0), cI aC q_5 8 (fun _ => 0), cI aC q_6 8 (fun _ => 0), cI aC q_7 8 (fun _ => 0), cI aC q_8 5 u_3, oX7 q_9 0 q_11, cC aC q_11 64 (fun _ => 0), cI aC q_12 8 (fun _ => 0), cI aC q_13 8 (fun _ => 0), cI aC q_14 7 (fun _ => 0), cL aC q_15 73 (fun _ => 0), cO q_16 0 [], cK aC q_18 7 (va_up (fun _ => none) (0 : Int32).toNatClampNeg (some q_16))]) (b := va_pl L (plE aC g)) (c := [cO q_20 1 []]) hD
  have hpd9 : PDx (dC, dI) classes A H (wp [cO h0 11 [Value.null, Value.null, Value.null, Value.null, Value.ref q_1, Value.ref q_9, Value.null, Value.ref q_12, Value.ref q_13, Value.ref q_14, Value.ref q_15, Value.int 0, Value.int 0, Value.int 1], oX4 q_1 q_4 q_5 q_6 q_7 q_8 0 0 0, cI aC q_4 8 (fun _ => 0), cI aC q_5 8 (fun _ => 0), cI aC q_6 8 (fun _ => 0), cI aC q_7 8 (fun _ => 0), cI aC q_8 5 u_3, oX7 q_9 0 q_11, cC aC q_11 64 (fun _ => 0), cI aC q_12 8 (fun _ => 0), cI aC q_13 8 (fun _ => 0), cI aC q_14 7 (fun _ => 0), cL aC q_15 73 (fun _ => 0), cO q_16 0 [], cK aC q_18 7 (va_up (fun _ => none) (0 : Int32).toNatClampNeg (some q_16)), cO q_20 1 []] (va_pl L (plE aC g))) := ⟨hP, hD⟩
  have hP := hpd9.1
  have hD := hpd9.2
  clear hpd9
  refine W.widen (k := 15) (n := 214) (by omega) (by omega) ?_
  refine lv_dup hx hb dX11_init_85 rfl ?_
  have hpd9 := pdf_N (cx := []) hP hD hS hA [] (by decide) rfl
  have hPc := hpd9.1
  have hDc := hpd9.2.1
  have hFc := hpd9.2.2
  clear hpd9
  refine va_callv (va_runIN (As := []) (rest := [Value.ref q_20, Value.int 1, Value.ref q_18, Value.ref q_18]) ⟨hx, hb, hml, hown, hts⟩ (c_X1_init l dC dI aC H.size q_20 ) ⟨(va_cnB 0 hts (gG kw_102) rfl rfl rfl (hN.1 _ kw_100 rfl) (hts _ (gw kw_5 rfl)) hd_X1_init ⟨Nat.le_of_ble_eq_true rfl, Nat.le_of_ble_eq_true rfl⟩), rfl, (hts _ (gw kw_101 rfl))⟩ ⟨fb_std, pre_std hPc hK hDc hN⟩ rfl rfl hl.1 rfl (lv_room (Nat.le_of_ble_eq_true rfl)) dX11_init_86 ⟨Nat.le_of_ble_eq_true rfl, Nat.le_of_ble_eq_true rfl⟩) hS (fun q _ h => hFc q h) hFc (fun u9 t9 H1 locs ht hvm hw_21 hB hz1 hk1 hS => ?_)
  obtain ⟨hP1, hK1, hD1⟩ := hB
  rw [ht] at hP1
  clear hK1
  try dsimp only at hw_21
  have hpd9 : PDx (dC, dI) classes A H1 (wp [cO h0 11 [Value.null, Value.null, Value.null, Value.null, Value.ref q_1, Value.ref q_9, Value.null, Value.ref q_12, Value.ref q_13, Value.ref q_14, Value.ref q_15, Value.int 0, Value.int 0, Value.int 1], oX4 q_1 q_4 q_5 q_6 q_7 q_8 0 0 0, cI aC q_4 8 (fun _ => 0), cI aC q_5 8 (fun _ => 0), cI aC q_6 8 (fun _ => 0), cI aC q_7 8 (fun _ => 0), cI aC q_8 5 u_3, oX7 q_9 0 q_11, cC aC q_11 64 (fun _ => 0), cI aC q_12 8 (fun _ => 0), cI aC q_13 8 (fun _ => 0), cI aC q_14 7 (fun _ => 0), cL aC q_15 73 (fun _ => 0), cO q_16 0 [], cK aC q_18 7 (va_up (fun _ => none) (0 : Int32).toNatClampNeg (some q_16)), cO q_20 1 []] (va_pl L (plE aC g))) := jn_Q (wr := [cO h0 11 [Value.null, Value.null, Value.null, Value.null, Value.ref q_1, Value.ref q_9, Value.null, Value.ref q_12, Value.ref q_13, Value.ref q_14, Value.ref q_15, Value.int 0, Value.int 0, Value.int 1], oX4 q_1 q_4 q_5 q_6 q_7 q_8 0 0 0, cI aC q_4 8 (fun _ => 0), cI aC q_5 8 (fun _ => 0), cI aC q_6 8 (fun _ => 0), cI aC q_7 8 (fun _ => 0), cI aC q_8 5 u_3, oX7 q_9 0 q_11, cC aC q_11 64 (fun _ => 0), cI aC q_12 8 (fun _ => 0), cI aC q_13 8 (fun _ => 0), cI aC q_14 7 (fun _ => 0), cL aC q_15 73 (fun _ => 0), cO q_16 0 [], cK aC q_18 7 (va_up (fun _ => none) (0 : Int32).toNatClampNeg (some q_16)), cO q_20 1 []]) hFc hk1 hP1 hD1 hP hD [] [0, 1, 2, 3, 4, 5, 6, 7, 8, 9, 10, 11, 12, 13, 14, 15] rfl rfl (by decide) (by decide)
  have hP := hpd9.1
  have hD := hpd9.2
  clear hpd9
  generalize H1 = H at hP hS ⊢
  clear hPc hDc hFc hz1 hk1 hP1 hD1 ht hvm
  have h_22 : vp_in 1 7 := by first | exact vp_in_nI (by omega) (by omega) | (unfold vp_in; decide) | (subst_vars; first | (unfold vp_in; decide) | exact vp_in_nI (by omega) (by omega))
  refine va_astqO hx hb hK hP hD hS 14 3 15 1 rfl rfl (hN.1 _ kw_1100 rfl) rfl rfl h_22 dX11_init_89 (fun H locs hP hD hS => ?_)
  have hpd9 : PDx (dC, dI) classes A H (wp [cO h0 11 [Value.null, Value.null, Value.null, Value.null, Value.ref q_1, Value.ref q_9, Value.null, Value.ref q_12, Value.ref q_13, Value.ref q_14, Value.ref q_15, Value.int 0, Value.int 0, Value.int 1], oX4 q_1 q_4 q_5 q_6 q_7 q_8 0 0 0, cI aC q_4 8 (fun _ => 0), cI aC q_5 8 (fun _ => 0), cI aC q_6 8 (fun _ => 0), cI aC q_7 8 (fun _ => 0), cI aC q_8 5 u_3, oX7 q_9 0 q_11, cC aC q_11 64 (fun _ => 0), cI aC q_12 8 (fun _ => 0), cI aC q_13 8 (fun _ => 0), cI aC q_14 7 (fun _ => 0), cL aC q_15 73 (fun _ => 0), cO q_16 0 [], cK aC q_18 7 (va_up (va_up (fun _ => none) (0 : Int32).toNatClampNeg (some q_16)) (1 : Int32).toNatClampNeg (some q_20)), cO q_20 1 []] (va_pl L (plE aC g))) := ⟨hP, hD⟩
  have hP := hpd9.1
  have hD := hpd9.2
  clear hpd9
  refine lv_dup hx hb dX11_init_90 rfl ?_
  refine lv_iconst (v := 2) hx hb dX11_init_91 (by decide) ?_
  refine va_new (ci := 3) (fs := []) (C := RX3) (T := TX3) (N := 0) hx hb hts inX3 tyX3 tyX3_ok hown (hts _ (gw kw_105 rfl)) (hts _ (gw kw_106 rfl)) (hts _ (gw kw_6 rfl)) hK hP hD hS hA rfl (fun j hj => absurd hj (Nat.not_lt_zero j)) (Nat.le_of_ble_eq_true rfl) (Nat.le_of_ble_eq_true rfl) dX11_init_92 (fun q_23 H hP hD hS => ?_)
  have hP := va_P.swap (a := [cO h0 11 [Value.null, Value.null, Value.null, Value.null, Value.ref q_1, Value.ref q_9, Value.null, Value.ref q_12, Value.ref q_13, Value.ref q_14, Value.ref q_15, Value.int 0, Value.int 0, Value.int 1], oX4 q_1 q_4 q_5 q_6 q_7 q_8 0 0 0, cI aC q_4 8 (fun _ => 0), cI aC q_5 8 (fun _ => 0), cI aC q_6 8 (fun _ => 0), cI aC q_7 8 (fun _ => 0), cI aC q_8 5 u_3, oX7 q_9 0 q_11, cC aC q_11 64 (fun _ => 0), cI aC q_12 8 (fun _ => 0), cI aC q_13 8 (fun _ => 0), cI aC q_14 7 (fun _ => 0), cL aC q_15 73 (fun _ => 0), cO q_16 0 [], cK aC q_18 7 (va_up (va_up (fun _ => none) (0 : Int32).toNatClampNeg (some q_16)) (1 : Int32).toNatClampNeg (some q_20)), cO q_20 1 []]) (b := va_pl L (plE aC g)) (c := [cO q_23 3 []]) hP
  have hD := va_D.swap (a := [cO h0 11 [Value.null, Value.null, Value.null, Value.null, Value.ref q_1, Value.ref q_9, Value.null, Value.ref q_12, Value.ref q_13, Value.ref q_14, Value.ref q_15, Value.int 0, Value.int 0, Value.int 1], oX4 q_1 q_4 q_5 q_6 q_7 q_8 0 0 0, cI aC q_4 8 (fun _ => 0), cI aC q_5 8 (fun _ => 0), cI aC q_6 8 (fun _ => 0), cI aC q_7 8 (fun _ => 0), cI aC q_8 5 u_3, oX7 q_9 0 q_11, cC aC q_11 64 (fun _ => 0), cI aC q_12 8 (fun _ => 0), cI aC q_13 8 (fun _ => 0), cI aC q_14 7 (fun _ => 0), cL aC q_15 73 (fun _ => 0), cO q_16 0 [], cK aC q_18 7 (va_up (va_up (fun _ => none) (0 : Int32).toNatClampNeg (some q_16)) (1 : Int32).toNatClampNeg (some q_20)), cO q_20 1 []]) (b := va_pl L (plE aC g)) (c := [cO q_23 3 []]) hD
  have hpd9 : PDx (dC, dI) classes A H (wp [cO h0 11 [Value.null, Value.null, Value.null, Value.null, Value.ref q_1, Value.ref q_9, Value.null, Value.ref q_12, Value.ref q_13, Value.ref q_14, Value.ref q_15, Value.int 0, Value.int 0, Value.int 1], oX4 q_1 q_4 q_5 q_6 q_7 q_8 0 0 0, cI aC q_4 8 (fun _ => 0), cI aC q_5 8 (fun _ => 0), cI aC q_6 8 (fun _ => 0), cI aC q_7 8 (fun _ => 0), cI aC q_8 5 u_3, oX7 q_9 0 q_11, cC aC q_11 64 (fun _ => 0), cI aC q_12 8 (fun _ => 0), cI aC q_13 8 (fun _ => 0), cI aC q_14 7 (fun _ => 0), cL aC q_15 73 (fun _ => 0), cO q_16 0 [], cK aC q_18 7 (va_up (va_up (fun _ => none) (0 : Int32).toNatClampNeg (some q_16)) (1 : Int32).toNatClampNeg (some q_20)), cO q_20 1 [], cO q_23 3 []] (va_pl L (plE aC g))) := ⟨hP, hD⟩
  have hP := hpd9.1
  have hD := hpd9.2
  clear hpd9
  refine W.widen (k := 16) (n := 214) (by omega) (by omega) ?_
  refine lv_dup hx hb dX11_init_95 rfl ?_
  have hpd9 := pdf_N (cx := []) hP hD hS hA [] (by decide) rfl
  have hPc := hpd9.1
  have hDc := hpd9.2.1
  have hFc := hpd9.2.2
  clear hpd9
  refine va_callv (va_runIN (As := []) (rest := [Value.ref q_23, Value.int 2, Value.ref q_18, Value.ref q_18]) ⟨hx, hb, hml, hown, hts⟩ (c_X3_init l dC dI aC H.size q_23 ) ⟨(va_cnB 0 hts (gG kw_109) rfl rfl rfl (hN.1 _ kw_107 rfl) (hts _ (gw kw_6 rfl)) hd_X3_init ⟨Nat.le_of_ble_eq_true rfl, Nat.le_of_ble_eq_true rfl⟩), rfl, (hts _ (gw kw_108 rfl))⟩ ⟨fb_std, pre_std hPc hK hDc hN⟩ rfl rfl hl.1 rfl (lv_room (Nat.le_of_ble_eq_true rfl)) dX11_init_96 ⟨Nat.le_of_ble_eq_true rfl, Nat.le_of_ble_eq_true rfl⟩) hS (fun q _ h => hFc q h) hFc (fun u9 t9 H1 locs ht hvm hw_24 hB hz1 hk1 hS => ?_)
  obtain ⟨hP1, hK1, hD1⟩ := hB
  rw [ht] at hP1
  clear hK1
  try dsimp only at hw_24
  have hpd9 : PDx (dC, dI) classes A H1 (wp [cO h0 11 [Value.null, Value.null, Value.null, Value.null, Value.ref q_1, Value.ref q_9, Value.null, Value.ref q_12, Value.ref q_13, Value.ref q_14, Value.ref q_15, Value.int 0, Value.int 0, Value.int 1], oX4 q_1 q_4 q_5 q_6 q_7 q_8 0 0 0, cI aC q_4 8 (fun _ => 0), cI aC q_5 8 (fun _ => 0), cI aC q_6 8 (fun _ => 0), cI aC q_7 8 (fun _ => 0), cI aC q_8 5 u_3, oX7 q_9 0 q_11, cC aC q_11 64 (fun _ => 0), cI aC q_12 8 (fun _ => 0), cI aC q_13 8 (fun _ => 0), cI aC q_14 7 (fun _ => 0), cL aC q_15 73 (fun _ => 0), cO q_16 0 [], cK aC q_18 7 (va_up (va_up (fun _ => none) (0 : Int32).toNatClampNeg (some q_16)) (1 : Int32).toNatClampNeg (some q_20)), cO q_20 1 [], cO q_23 3 []] (va_pl L (plE aC g))) := jn_Q (wr := [cO h0 11 [Value.null, Value.null, Value.null, Value.null, Value.ref q_1, Value.ref q_9, Value.null, Value.ref q_12, Value.ref q_13, Value.ref q_14, Value.ref q_15, Value.int 0, Value.int 0, Value.int 1], oX4 q_1 q_4 q_5 q_6 q_7 q_8 0 0 0, cI aC q_4 8 (fun _ => 0), cI aC q_5 8 (fun _ => 0), cI aC q_6 8 (fun _ => 0), cI aC q_7 8 (fun _ => 0), cI aC q_8 5 u_3, oX7 q_9 0 q_11, cC aC q_11 64 (fun _ => 0), cI aC q_12 8 (fun _ => 0), cI aC q_13 8 (fun _ => 0), cI aC q_14 7 (fun _ => 0), cL aC q_15 73 (fun _ => 0), cO q_16 0 [], cK aC q_18 7 (va_up (va_up (fun _ => none) (0 : Int32).toNatClampNeg (some q_16)) (1 : Int32).toNatClampNeg (some q_20)), cO q_20 1 [], cO q_23 3 []]) hFc hk1 hP1 hD1 hP hD [] [0, 1, 2, 3, 4, 5, 6, 7, 8, 9, 10, 11, 12, 13, 14, 15, 16] rfl rfl (by decide) (by decide)
  have hP := hpd9.1
  have hD := hpd9.2
  clear hpd9
  generalize H1 = H at hP hS ⊢
  clear hPc hDc hFc hz1 hk1 hP1 hD1 ht hvm
  have h_25 : vp_in 2 7 := by first | exact vp_in_nI (by omega) (by omega) | (unfold vp_in; decide) | (subst_vars; first | (unfold vp_in; decide) | exact vp_in_nI (by omega) (by omega))
  refine va_astqO hx hb hK hP hD hS 14 3 16 3 rfl rfl (hN.1 _ kw_1101 rfl) rfl rfl h_25 dX11_init_99 (fun H locs hP hD hS => ?_)
  have hpd9 : PDx (dC, dI) classes A H (wp [cO h0 11 [Value.null, Value.null, Value.null, Value.null, Value.ref q_1, Value.ref q_9, Value.null, Value.ref q_12, Value.ref q_13, Value.ref q_14, Value.ref q_15, Value.int 0, Value.int 0, Value.int 1], oX4 q_1 q_4 q_5 q_6 q_7 q_8 0 0 0, cI aC q_4 8 (fun _ => 0), cI aC q_5 8 (fun _ => 0), cI aC q_6 8 (fun _ => 0), cI aC q_7 8 (fun _ => 0), cI aC q_8 5 u_3, oX7 q_9 0 q_11, cC aC q_11 64 (fun _ => 0), cI aC q_12 8 (fun _ => 0), cI aC q_13 8 (fun _ => 0), cI aC q_14 7 (fun _ => 0), cL aC q_15 73 (fun _ => 0), cO q_16 0 [], cK aC q_18 7 (va_up (va_up (va_up (fun _ => none) (0 : Int32).toNatClampNeg (some q_16)) (1 : Int32).toNatClampNeg (some q_20)) (2 : Int32).toNatClampNeg (some q_23)), cO q_20 1 [], cO q_23 3 []] (va_pl L (plE aC g))) := ⟨hP, hD⟩
  have hP := hpd9.1
  have hD := hpd9.2
  clear hpd9
  refine lv_dup hx hb dX11_init_100 rfl ?_
  refine lv_iconst (v := 3) hx hb dX11_init_101 (by decide) ?_
  refine va_new (ci := 5) (fs := []) (C := RX5) (T := TX5) (N := 0) hx hb hts inX5 tyX5 tyX5_ok hown (hts _ (gw kw_112 rfl)) (hts _ (gw kw_113 rfl)) (hts _ (gw kw_7 rfl)) hK hP hD hS hA rfl (fun j hj => absurd hj (Nat.not_lt_zero j)) (Nat.le_of_ble_eq_true rfl) (Nat.le_of_ble_eq_true rfl) dX11_init_102 (fun q_26 H hP hD hS => ?_)
  have hP := va_P.swap (a := [cO h0 11 [Value.null, Value.null, Value.null, Value.null, Value.ref q_1, Value.ref q_9, Value.null, Value.ref q_12, Value.ref q_13, Value.ref q_14, Value.ref q_15, Value.int 0, Value.int 0, Value.int 1], oX4 q_1 q_4 q_5 q_6 q_7 q_8 0 0 0, cI aC q_4 8 (fun _ => 0), cI aC q_5 8 (fun _ => 0), cI aC q_6 8 (fun _ => 0), cI aC q_7 8 (fun _ => 0), cI aC q_8 5 u_3, oX7 q_9 0 q_11, cC aC q_11 64 (fun _ => 0), cI aC q_12 8 (fun _ => 0), cI aC q_13 8 (fun _ => 0), cI aC q_14 7 (fun _ => 0), cL aC q_15 73 (fun _ => 0), cO q_16 0 [], cK aC q_18 7 (va_up (va_up (va_up (fun _ => none) (0 : Int32).toNatClampNeg (some q_16)) (1 : Int32).toNatClampNeg (some q_20)) (2 : Int32).toNatClampNeg (some q_23)), cO q_20 1 [], cO q_23 3 []]) (b := va_pl L (plE aC g)) (c := [cO q_26 5 []]) hP
  have hD := va_D.swap (a := [cO h0 11 [Value.null, Value.null, Value.null, Value.null, Value.ref q_1, Value.ref q_9, Value.null, Value.ref q_12, Value.ref q_13, Value.ref q_14, Value.ref q_15, Value.int 0, Value.int 0, Value.int 1], oX4 q_1 q_4 q_5 q_6 q_7 q_8 0 0 0, cI aC q_4 8 (fun _ => 0), cI aC q_5 8 (fun _ => 0), cI aC q_6 8 (fun _ => 0), cI aC q_7 8 (fun _ => 0), cI aC q_8 5 u_3, oX7 q_9 0 q_11, cC aC q_11 64 (fun _ => 0), cI aC q_12 8 (fun _ => 0), cI aC q_13 8 (fun _ => 0), cI aC q_14 7 (fun _ => 0), cL aC q_15 73 (fun _ => 0), cO q_16 0 [], cK aC q_18 7 (va_up (va_up (va_up (fun _ => none) (0 : Int32).toNatClampNeg (some q_16)) (1 : Int32).toNatClampNeg (some q_20)) (2 : Int32).toNatClampNeg (some q_23)), cO q_20 1 [], cO q_23 3 []]) (b := va_pl L (plE aC g)) (c := [cO q_26 5 []]) hD
  have hpd9 : PDx (dC, dI) classes A H (wp [cO h0 11 [Value.null, Value.null, Value.null, Value.null, Value.ref q_1, Value.ref q_9, Value.null, Value.ref q_12, Value.ref q_13, Value.ref q_14, Value.ref q_15, Value.int 0, Value.int 0, Value.int 1], oX4 q_1 q_4 q_5 q_6 q_7 q_8 0 0 0, cI aC q_4 8 (fun _ => 0), cI aC q_5 8 (fun _ => 0), cI aC q_6 8 (fun _ => 0), cI aC q_7 8 (fun _ => 0), cI aC q_8 5 u_3, oX7 q_9 0 q_11, cC aC q_11 64 (fun _ => 0), cI aC q_12 8 (fun _ => 0), cI aC q_13 8 (fun _ => 0), cI aC q_14 7 (fun _ => 0), cL aC q_15 73 (fun _ => 0), cO q_16 0 [], cK aC q_18 7 (va_up (va_up (va_up (fun _ => none) (0 : Int32).toNatClampNeg (some q_16)) (1 : Int32).toNatClampNeg (some q_20)) (2 : Int32).toNatClampNeg (some q_23)), cO q_20 1 [], cO q_23 3 [], cO q_26 5 []] (va_pl L (plE aC g))) := ⟨hP, hD⟩
  have hP := hpd9.1
  have hD := hpd9.2
  clear hpd9
  refine W.widen (k := 17) (n := 214) (by omega) (by omega) ?_
  refine lv_dup hx hb dX11_init_105 rfl ?_
  have hpd9 := pdf_N (cx := []) hP hD hS hA [] (by decide) rfl
  have hPc := hpd9.1
  have hDc := hpd9.2.1
  have hFc := hpd9.2.2
  clear hpd9
  refine va_callv (va_runIN (As := []) (rest := [Value.ref q_26, Value.int 3, Value.ref q_18, Value.ref q_18]) ⟨hx, hb, hml, hown, hts⟩ (c_X5_init l dC dI aC H.size q_26 ) ⟨(va_cnB 0 hts (gG kw_116) rfl rfl rfl (hN.1 _ kw_114 rfl) (hts _ (gw kw_7 rfl)) hd_X5_init ⟨Nat.le_of_ble_eq_true rfl, Nat.le_of_ble_eq_true rfl⟩), rfl, (hts _ (gw kw_115 rfl))⟩ ⟨fb_std, pre_std hPc hK hDc hN⟩ rfl rfl hl.1 rfl (lv_room (Nat.le_of_ble_eq_true rfl)) dX11_init_106 ⟨Nat.le_of_ble_eq_true rfl, Nat.le_of_ble_eq_true rfl⟩) hS (fun q _ h => hFc q h) hFc (fun u9 t9 H1 locs ht hvm hw_27 hB hz1 hk1 hS => ?_)
  obtain ⟨hP1, hK1, hD1⟩ := hB
  rw [ht] at hP1
  clear hK1
  try dsimp only at hw_27
  have hpd9 : PDx (dC, dI) classes A H1 (wp [cO h0 11 [Value.null, Value.null, Value.null, Value.null, Value.ref q_1, Value.ref q_9, Value.null, Value.ref q_12, Value.ref q_13, Value.ref q_14, Value.ref q_15, Value.int 0, Value.int 0, Value.int 1], oX4 q_1 q_4 q_5 q_6 q_7 q_8 0 0 0, cI aC q_4 8 (fun _ => 0), cI aC q_5 8 (fun _ => 0), cI aC q_6 8 (fun _ => 0), cI aC q_7 8 (fun _ => 0), cI aC q_8 5 u_3, oX7 q_9 0 q_11, cC aC q_11 64 (fun _ => 0), cI aC q_12 8 (fun _ => 0), cI aC q_13 8 (fun _ => 0), cI aC q_14 7 (fun _ => 0), cL aC q_15 73 (fun _ => 0), cO q_16 0 [], cK aC q_18 7 (va_up (va_up (va_up (fun _ => none) (0 : Int32).toNatClampNeg (some q_16)) (1 : Int32).toNatClampNeg (some q_20)) (2 : Int32).toNatClampNeg (some q_23)), cO q_20 1 [], cO q_23 3 [], cO q_26 5 []] (va_pl L (plE aC g))) := jn_Q (wr := [cO h0 11 [Value.null, Value.null, Value.null, Value.null, Value.ref q_1, Value.ref q_9, Value.null, Value.ref q_12, Value.ref q_13, Value.ref q_14, Value.ref q_15, Value.int 0, Value.int 0, Value.int 1], oX4 q_1 q_4 q_5 q_6 q_7 q_8 0 0 0, cI aC q_4 8 (fun _ => 0), cI aC q_5 8 (fun _ => 0), cI aC q_6 8 (fun _ => 0), cI aC q_7 8 (fun _ => 0), cI aC q_8 5 u_3, oX7 q_9 0 q_11, cC aC q_11 64 (fun _ => 0), cI aC q_12 8 (fun _ => 0), cI aC q_13 8 (fun _ => 0), cI aC q_14 7 (fun _ => 0), cL aC q_15 73 (fun _ => 0), cO q_16 0 [], cK aC q_18 7 (va_up (va_up (va_up (fun _ => none) (0 : Int32).toNatClampNeg (some q_16)) (1 : Int32).toNatClampNeg (some q_20)) (2 : Int32).toNatClampNeg (some q_23)), cO q_20 1 [], cO q_23 3 [], cO q_26 5 []]) hFc hk1 hP1 hD1 hP hD [] [0, 1, 2, 3, 4, 5, 6, 7, 8, 9, 10, 11, 12, 13, 14, 15, 16, 17] rfl rfl (by decide) (by decide)
  have hP := hpd9.1
  have hD := hpd9.2
  clear hpd9
  generalize H1 = H at hP hS ⊢
  clear hPc hDc hFc hz1 hk1 hP1 hD1 ht hvm
  have h_28 : vp_in 3 7 := by first | exact vp_in_nI (by omega) (by omega) | (unfold vp_in; decide) | (subst_vars; first | (unfold vp_in; decide) | exact vp_in_nI (by omega) (by omega))
  refine va_astqO hx hb hK hP hD hS 14 3 17 5 rfl rfl (hN.1 _ kw_1102 rfl) rfl rfl h_28 dX11_init_109 (fun H locs hP hD hS => ?_)
  have hpd9 : PDx (dC, dI) classes A H (wp [cO h0 11 [Value.null, Value.null, Value.null, Value.null, Value.ref q_1, Value.ref q_9, Value.null, Value.ref q_12, Value.ref q_13, Value.ref q_14, Value.ref q_15, Value.int 0, Value.int 0, Value.int 1], oX4 q_1 q_4 q_5 q_6 q_7 q_8 0 0 0, cI aC q_4 8 (fun _ => 0), cI aC q_5 8 (fun _ => 0), cI aC q_6 8 (fun _ => 0), cI aC q_7 8 (fun _ => 0), cI aC q_8 5 u_3, oX7 q_9 0 q_11, cC aC q_11 64 (fun _ => 0), cI aC q_12 8 (fun _ => 0), cI aC q_13 8 (fun _ => 0), cI aC q_14 7 (fun _ => 0), cL aC q_15 73 (fun _ => 0), cO q_16 0 [], cK aC q_18 7 (va_up (va_up (va_up (va_up (fun _ => none) (0 : Int32).toNatClampNeg (some q_16)) (1 : Int32).toNatClampNeg (some q_20)) (2 : Int32).toNatClampNeg (some q_23)) (3 : Int32).toNatClampNeg (some q_26)), cO q_20 1 [], cO q_23 3 [], cO q_26 5 []] (va_pl L (plE aC g))) := ⟨hP, hD⟩
  have hP := hpd9.1
  have hD := hpd9.2
  clear hpd9
  refine lv_dup hx hb dX11_init_110 rfl ?_
  refine lv_iconst (v := 4) hx hb dX11_init_111 (by decide) ?_
  refine va_new (ci := 6) (fs := []) (C := RX6) (T := TX6) (N := 0) hx hb hts inX6 tyX6 tyX6_ok hown (hts _ (gw kw_119 rfl)) (hts _ (gw kw_120 rfl)) (hts _ (gw kw_8 rfl)) hK hP hD hS hA rfl (fun j hj => absurd hj (Nat.not_lt_zero j)) (Nat.le_of_ble_eq_true rfl) (Nat.le_of_ble_eq_true rfl) dX11_init_112 (fun q_29 H hP hD hS => ?_)
  have hP := va_P.swap (a := [cO h0 11 [Value.null, Value.null, Value.null, Value.null, Value.ref q_1, Value.ref q_9, Value.null, Value.ref q_12, Value.ref q_13, Value.ref q_14, Value.ref q_15, Value.int 0, Value.int 0, Value.int 1], oX4 q_1 q_4 q_5 q_6 q_7 q_8 0 0 0, cI aC q_4 8 (fun _ => 0), cI aC q_5 8 (fun _ => 0), cI aC q_6 8 (fun _ => 0), cI aC q_7 8 (fun _ => 0), cI aC q_8 5 u_3, oX7 q_9 0 q_11, cC aC q_11 64 (fun _ => 0), cI aC q_12 8 (fun _ => 0), cI aC q_13 8 (fun _ => 0), cI aC q_14 7 (fun _ => 0), cL aC q_15 73 (fun _ => 0), cO q_16 0 [], cK aC q_18 7 (va_up (va_up (va_up (va_up (fun _ => none) (0 : Int32).toNatClampNeg (some q_16)) (1 : Int32).toNatClampNeg (some q_20)) (2 : Int32).toNatClampNeg (some q_23)) (3 : Int32).toNatClampNeg (some q_26)), cO q_20 1 [], cO q_23 3 [], cO q_26 5 []]) (b := va_pl L (plE aC g)) (c := [cO q_29 6 []]) hP
  have hD := va_D.swap (a := [cO h0 11 [Value.null, Value.null, Value.null, Value.null, Value.ref q_1, Value.ref q_9, Value.null, Value.ref q_12, Value.ref q_13, Value.ref q_14, Value.ref q_15, Value.int 0, Value.int 0, Value.int 1], oX4 q_1 q_4 q_5 q_6 q_7 q_8 0 0 0, cI aC q_4 8 (fun _ => 0), cI aC q_5 8 (fun _ => 0), cI aC q_6 8 (fun _ => 0), cI aC q_7 8 (fun _ => 0), cI aC q_8 5 u_3, oX7 q_9 0 q_11, cC aC q_11 64 (fun _ => 0), cI aC q_12 8 (fun _ => 0), cI aC q_13 8 (fun _ => 0), cI aC q_14 7 (fun _ => 0), cL aC q_15 73 (fun _ => 0), cO q_16 0 [], cK aC q_18 7 (va_up (va_up (va_up (va_up (fun _ => none) (0 : Int32).toNatClampNeg (some q_16)) (1 : Int32).toNatClampNeg (some q_20)) (2 : Int32).toNatClampNeg (some q_23)) (3 : Int32).toNatClampNeg (some q_26)), cO q_20 1 [], cO q_23 3 [], cO q_26 5 []]) (b := va_pl L (plE aC g)) (c := [cO q_29 6 []]) hD
  have hpd9 : PDx (dC, dI) classes A H (wp [cO h0 11 [Value.null, Value.null, Value.null, Value.null, Value.ref q_1, Value.ref q_9, Value.null, Value.ref q_12, Value.ref q_13, Value.ref q_14, Value.ref q_15, Value.int 0, Value.int 0, Value.int 1], oX4 q_1 q_4 q_5 q_6 q_7 q_8 0 0 0, cI aC q_4 8 (fun _ => 0), cI aC q_5 8 (fun _ => 0), cI aC q_6 8 (fun _ => 0), cI aC q_7 8 (fun _ => 0), cI aC q_8 5 u_3, oX7 q_9 0 q_11, cC aC q_11 64 (fun _ => 0), cI aC q_12 8 (fun _ => 0), cI aC q_13 8 (fun _ => 0), cI aC q_14 7 (fun _ => 0), cL aC q_15 73 (fun _ => 0), cO q_16 0 [], cK aC q_18 7 (va_up (va_up (va_up (va_up (fun _ => none) (0 : Int32).toNatClampNeg (some q_16)) (1 : Int32).toNatClampNeg (some q_20)) (2 : Int32).toNatClampNeg (some q_23)) (3 : Int32).toNatClampNeg (some q_26)), cO q_20 1 [], cO q_23 3 [], cO q_26 5 [], cO q_29 6 []] (va_pl L (plE aC g))) := ⟨hP, hD⟩
  have hP := hpd9.1
  have hD := hpd9.2
  clear hpd9
  refine W.widen (k := 18) (n := 214) (by omega) (by omega) ?_
  refine lv_dup hx hb dX11_init_115 rfl ?_
  have hpd9 := pdf_N (cx := []) hP hD hS hA [] (by decide) rfl
  have hPc := hpd9.1
  have hDc := hpd9.2.1
  have hFc := hpd9.2.2
  clear hpd9
  refine va_callv (va_runIN (As := []) (rest := [Value.ref q_29, Value.int 4, Value.ref q_18, Value.ref q_18]) ⟨hx, hb, hml, hown, hts⟩ (c_X6_init l dC dI aC H.size q_29 ) ⟨(va_cnB 0 hts (gG kw_123) rfl rfl rfl (hN.1 _ kw_121 rfl) (hts _ (gw kw_8 rfl)) hd_X6_init ⟨Nat.le_of_ble_eq_true rfl, Nat.le_of_ble_eq_true rfl⟩), rfl, (hts _ (gw kw_122 rfl))⟩ ⟨fb_std, pre_std hPc hK hDc hN⟩ rfl rfl hl.1 rfl (lv_room (Nat.le_of_ble_eq_true rfl)) dX11_init_116 ⟨Nat.le_of_ble_eq_true rfl, Nat.le_of_ble_eq_true rfl⟩) hS (fun q _ h => hFc q h) hFc (fun u9 t9 H1 locs ht hvm hw_30 hB hz1 hk1 hS => ?_)
  obtain ⟨hP1, hK1, hD1⟩ := hB
  rw [ht] at hP1
  clear hK1
  try dsimp only at hw_30
  have hpd9 : PDx (dC, dI) classes A H1 (wp [cO h0 11 [Value.null, Value.null, Value.null, Value.null, Value.ref q_1, Value.ref q_9, Value.null, Value.ref q_12, Value.ref q_13, Value.ref q_14, Value.ref q_15, Value.int 0, Value.int 0, Value.int 1], oX4 q_1 q_4 q_5 q_6 q_7 q_8 0 0 0, cI aC q_4 8 (fun _ => 0), cI aC q_5 8 (fun _ => 0), cI aC q_6 8 (fun _ => 0), cI aC q_7 8 (fun _ => 0), cI aC q_8 5 u_3, oX7 q_9 0 q_11, cC aC q_11 64 (fun _ => 0), cI aC q_12 8 (fun _ => 0), cI aC q_13 8 (fun _ => 0), cI aC q_14 7 (fun _ => 0), cL aC q_15 73 (fun _ => 0), cO q_16 0 [], cK aC q_18 7 (va_up (va_up (va_up (va_up (fun _ => none) (0 : Int32).toNatClampNeg (some q_16)) (1 : Int32).toNatClampNeg (some q_20)) (2 : Int32).toNatClampNeg (some q_23)) (3 : Int32).toNatClampNeg (some q_26)), cO q_20 1 [], cO q_23 3 [], cO q_26 5 [], cO q_29 6 []] (va_pl L (plE aC g))) := jn_Q (wr := [cO h0 11 [Value.null, Value.null, Value.null, Value.null, Value.ref q_1, Value.ref q_9, Value.null, Value.ref q_12, Value.ref q_13, Value.ref q_14, Value.ref q_15, Value.int 0, Value.int 0, Value.int 1], oX4 q_1 q_4 q_5 q_6 q_7 q_8 0 0 0, cI aC q_4 8 (fun _ => 0), cI aC q_5 8 (fun _ => 0), cI aC q_6 8 (fun _ => 0), cI aC q_7 8 (fun _ => 0), cI aC q_8 5 u_3, oX7 q_9 0 q_11, cC aC q_11 64 (fun _ => 0), cI aC q_12 8 (fun _ => 0), cI aC q_13 8 (fun _ => 0), cI aC q_14 7 (fun _ => 0), cL aC q_15 73 (fun _ => 0), cO q_16 0 [], cK aC q_18 7 (va_up (va_up (va_up (va_up (fun _ => none) (0 : Int32).toNatClampNeg (some q_16)) (1 : Int32).toNatClampNeg (some q_20)) (2 : Int32).toNatClampNeg (some q_23)) (3 : Int32).toNatClampNeg (some q_26)), cO q_20 1 [], cO q_23 3 [], cO q_26 5 [], cO q_29 6 []]) hFc hk1 hP1 hD1 hP hD [] [0, 1, 2, 3, 4, 5, 6, 7, 8, 9, 10, 11, 12, 13, 14, 15, 16, 17, 18] rfl rfl (by decide) (by decide)
  have hP := hpd9.1
  have hD := hpd9.2
  clear hpd9
  generalize H1 = H at hP hS ⊢
  clear hPc hDc hFc hz1 hk1 hP1 hD1 ht hvm
  have h_31 : vp_in 4 7 := by first | exact vp_in_nI (by omega) (by omega) | (unfold vp_in; decide) | (subst_vars; first | (unfold vp_in; decide) | exact vp_in_nI (by omega) (by omega))
  refine va_astqO hx hb hK hP hD hS 14 3 18 6 rfl rfl (hN.1 _ kw_1103 rfl) rfl rfl h_31 dX11_init_119 (fun H locs hP hD hS => ?_)
  have hpd9 : PDx (dC, dI) classes A H (wp [cO h0 11 [Value.null, Value.null, Value.null, Value.null, Value.ref q_1, Value.ref q_9, Value.null, Value.ref q_12, Value.ref q_13, Value.ref q_14, Value.ref q_15, Value.int 0, Value.int 0, Value.int 1], oX4 q_1 q_4 q_5 q_6 q_7 q_8 0 0 0, cI aC q_4 8 (fun _ => 0), cI aC q_5 8 (fun _ => 0), cI aC q_6 8 (fun _ => 0), cI aC q_7 8 (fun _ => 0), cI aC q_8 5 u_3, oX7 q_9 0 q_11, cC aC q_11 64 (fun _ => 0), cI aC q_12 8 (fun _ => 0), cI aC q_13 8 (fun _ => 0), cI aC q_14 7 (fun _ => 0), cL aC q_15 73 (fun _ => 0), cO q_16 0 [], cK aC q_18 7 (va_up (va_up (va_up (va_up (va_up (fun _ => none) (0 : Int32).toNatClampNeg (some q_16)) (1 : Int32).toNatClampNeg (some q_20)) (2 : Int32).toNatClampNeg (some q_23)) (3 : Int32).toNatClampNeg (some q_26)) (4 : Int32).toNatClampNeg (some q_29)), cO q_20 1 [], cO q_23 3 [], cO q_26 5 [], cO q_29 6 []] (va_pl L (plE aC g))) := ⟨hP, hD⟩
  have hP := hpd9.1
  have hD := hpd9.2
  clear hpd9
  refine lv_dup hx hb dX11_init_120 rfl ?_
  refine lv_iconst (v := 5) hx hb dX11_init_121 (by decide) ?_
  refine va_new (ci := 10) (fs := []) (C := RX10) (T := TX10) (N := 0) hx hb hts inX10 tyX10 tyX10_ok hown (hts _ (gw kw_126 rfl)) (hts _ (gw kw_127 rfl)) (hts _ (gw kw_9 rfl)) hK hP hD hS hA rfl (fun j hj => absurd hj (Nat.not_lt_zero j)) (Nat.le_of_ble_eq_true rfl) (Nat.le_of_ble_eq_true rfl) dX11_init_122 (fun q_32 H hP hD hS => ?_)
  have hP := va_P.swap (a := [cO h0 11 [Value.null, Value.null, Value.null, Value.null, Value.ref q_1, Value.ref q_9, Value.null, Value.ref q_12, Value.ref q_13, Value.ref q_14, Value.ref q_15, Value.int 0, Value.int 0, Value.int 1], oX4 q_1 q_4 q_5 q_6 q_7 q_8 0 0 0, cI aC q_4 8 (fun _ => 0), cI aC q_5 8 (fun _ => 0), cI aC q_6 8 (fun _ => 0), cI aC q_7 8 (fun _ => 0), cI aC q_8 5 u_3, oX7 q_9 0 q_11, cC aC q_11 64 (fun _ => 0), cI aC q_12 8 (fun _ => 0), cI aC q_13 8 (fun _ => 0), cI aC q_14 7 (fun _ => 0), cL aC q_15 73 (fun _ => 0), cO q_16 0 [], cK aC q_18 7 (va_up (va_up (va_up (va_up (va_up (fun _ => none) (0 : Int32).toNatClampNeg (some q_16)) (1 : Int32).toNatClampNeg (some q_20)) (2 : Int32).toNatClampNeg (some q_23)) (3 : Int32).toNatClampNeg (some q_26)) (4 : Int32).toNatClampNeg (some q_29)), cO q_20 1 [], cO q_23 3 [], cO q_26 5 [], cO q_29 6 []]) (b := va_pl L (plE aC g)) (c := [cO q_32 10 []]) hP
  have hD := va_D.swap (a := [cO h0 11 [Value.null, Value.null, Value.null, Value.null, Value.ref q_1, Value.ref q_9, Value.null, Value.ref q_12, Value.ref q_13, Value.ref q_14, Value.ref q_15, Value.int 0, Value.int 0, Value.int 1], oX4 q_1 q_4 q_5 q_6 q_7 q_8 0 0 0, cI aC q_4 8 (fun _ => 0), cI aC q_5 8 (fun _ => 0), cI aC q_6 8 (fun _ => 0), cI aC q_7 8 (fun _ => 0), cI aC q_8 5 u_3, oX7 q_9 0 q_11, cC aC q_11 64 (fun _ => 0), cI aC q_12 8 (fun _ => 0), cI aC q_13 8 (fun _ => 0), cI aC q_14 7 (fun _ => 0), cL aC q_15 73 (fun _ => 0), cO q_16 0 [], cK aC q_18 7 (va_up (va_up (va_up (va_up (va_up (fun _ => none) (0 : Int32).toNatClampNeg (some q_16)) (1 : Int32).toNatClampNeg (some q_20)) (2 : Int32).toNatClampNeg (some q_23)) (3 : Int32).toNatClampNeg (some q_26)) (4 : Int32).toNatClampNeg (some q_29)), cO q_20 1 [], cO q_23 3 [], cO q_26 5 [], cO q_29 6 []]) (b := va_pl L (plE aC g)) (c := [cO q_32 10 []]) hD
  have hpd9 : PDx (dC, dI) classes A H (wp [cO h0 11 [Value.null, Value.null, Value.null, Value.null, Value.ref q_1, Value.ref q_9, Value.null, Value.ref q_12, Value.ref q_13, Value.ref q_14, Value.ref q_15, Value.int 0, Value.int 0, Value.int 1], oX4 q_1 q_4 q_5 q_6 q_7 q_8 0 0 0, cI aC q_4 8 (fun _ => 0), cI aC q_5 8 (fun _ => 0), cI aC q_6 8 (fun _ => 0), cI aC q_7 8 (fun _ => 0), cI aC q_8 5 u_3, oX7 q_9 0 q_11, cC aC q_11 64 (fun _ => 0), cI aC q_12 8 (fun _ => 0), cI aC q_13 8 (fun _ => 0), cI aC q_14 7 (fun _ => 0), cL aC q_15 73 (fun _ => 0), cO q_16 0 [], cK aC q_18 7 (va_up (va_up (va_up (va_up (va_up (fun _ => none) (0 : Int32).toNatClampNeg (some q_16)) (1 : Int32).toNatClampNeg (some q_20)) (2 : Int32).toNatClampNeg (some q_23)) (3 : Int32).toNatClampNeg (some q_26)) (4 : Int32).toNatClampNeg (some q_29)), cO q_20 1 [], cO q_23 3 [], cO q_26 5 [], cO q_29 6 [], cO q_32 10 []] (va_pl L (plE aC g))) := ⟨hP, hD⟩
  have hP := hpd9.1
  have hD := hpd9.2
  clear hpd9
  refine W.widen (k := 19) (n := 214) (by omega) (by omega) ?_
  refine lv_dup hx hb dX11_init_125 rfl ?_
  have hpd9 := pdf_N (cx := []) hP hD hS hA [] (by decide) rfl
  have hPc := hpd9.1
  have hDc := hpd9.2.1
  have hFc := hpd9.2.2
  clear hpd9
  refine va_callv (va_runIN (As := []) (rest := [Value.ref q_32, Value.int 5, Value.ref q_18, Value.ref q_18]) ⟨hx, hb, hml, hown, hts⟩ (c_X10_init l dC dI aC H.size q_32 ) ⟨(va_cnB 0 hts (gG kw_130) rfl rfl rfl (hN.1 _ kw_128 rfl) (hts _ (gw kw_9 rfl)) hd_X10_init ⟨Nat.le_of_ble_eq_true rfl, Nat.le_of_ble_eq_true rfl⟩), rfl, (hts _ (gw kw_129 rfl))⟩ ⟨fb_std, pre_std hPc hK hDc hN⟩ rfl rfl hl.1 rfl (lv_room (Nat.le_of_ble_eq_true rfl)) dX11_init_126 ⟨Nat.le_of_ble_eq_true rfl, Nat.le_of_ble_eq_true rfl⟩) hS (fun q _ h => hFc q h) hFc (fun u9 t9 H1 locs ht hvm hw_33 hB hz1 hk1 hS => ?_)
  obtain ⟨hP1, hK1, hD1⟩ := hB
  rw [ht] at hP1
  clear hK1
  try dsimp only at hw_33
  have hpd9 : PDx (dC, dI) classes A H1 (wp [cO h0 11 [Value.null, Value.null, Value.null, Value.null, Value.ref q_1, Value.ref q_9, Value.null, Value.ref q_12, Value.ref q_13, Value.ref q_14, Value.ref q_15, Value.int 0, Value.int 0, Value.int 1], oX4 q_1 q_4 q_5 q_6 q_7 q_8 0 0 0, cI aC q_4 8 (fun _ => 0), cI aC q_5 8 (fun _ => 0), cI aC q_6 8 (fun _ => 0), cI aC q_7 8 (fun _ => 0), cI aC q_8 5 u_3, oX7 q_9 0 q_11, cC aC q_11 64 (fun _ => 0), cI aC q_12 8 (fun _ => 0), cI aC q_13 8 (fun _ => 0), cI aC q_14 7 (fun _ => 0), cL aC q_15 73 (fun _ => 0), cO q_16 0 [], cK aC q_18 7 (va_up (va_up (va_up (va_up (va_up (fun _ => none) (0 : Int32).toNatClampNeg (some q_16)) (1 : Int32).toNatClampNeg (some q_20)) (2 : Int32).toNatClampNeg (some q_23)) (3 : Int32).toNatClampNeg (some q_26)) (4 : Int32).toNatClampNeg (some q_29)), cO q_20 1 [], cO q_23 3 [], cO q_26 5 [], cO q_29 6 [], cO q_32 10 []] (va_pl L (plE aC g))) := jn_Q (wr := [cO h0 11 [Value.null, Value.null, Value.null, Value.null, Value.ref q_1, Value.ref q_9, Value.null, Value.ref q_12, Value.ref q_13, Value.ref q_14, Value.ref q_15, Value.int 0, Value.int 0, Value.int 1], oX4 q_1 q_4 q_5 q_6 q_7 q_8 0 0 0, cI aC q_4 8 (fun _ => 0), cI aC q_5 8 (fun _ => 0), cI aC q_6 8 (fun _ => 0), cI aC q_7 8 (fun _ => 0), cI aC q_8 5 u_3, oX7 q_9 0 q_11, cC aC q_11 64 (fun _ => 0), cI aC q_12 8 (fun _ => 0), cI aC q_13 8 (fun _ => 0), cI aC q_14 7 (fun _ => 0), cL aC q_15 73 (fun _ => 0), cO q_16 0 [], cK aC q_18 7 (va_up (va_up (va_up (va_up (va_up (fun _ => none) (0 : Int32).toNatClampNeg (some q_16)) (1 : Int32).toNatClampNeg (some q_20)) (2 : Int32).toNatClampNeg (some q_23)) (3 : Int32).toNatClampNeg (some q_26)) (4 : Int32).toNatClampNeg (some q_29)), cO q_20 1 [], cO q_23 3 [], cO q_26 5 [], cO q_29 6 [], cO q_32 10 []]) hFc hk1 hP1 hD1 hP hD [] [0, 1, 2, 3, 4, 5, 6, 7, 8, 9, 10, 11, 12, 13, 14, 15, 16, 17, 18, 19] rfl rfl (by decide) (by decide)
  have hP := hpd9.1
  have hD := hpd9.2
  clear hpd9
  generalize H1 = H at hP hS ⊢
  clear hPc hDc hFc hz1 hk1 hP1 hD1 ht hvm
  have h_34 : vp_in 5 7 := by first | exact vp_in_nI (by omega) (by omega) | (unfold vp_in; decide) | (subst_vars; first | (unfold vp_in; decide) | exact vp_in_nI (by omega) (by omega))
  refine va_astqO hx hb hK hP hD hS 14 3 19 10 rfl rfl (hN.1 _ kw_1104 rfl) rfl rfl h_34 dX11_init_129 (fun H locs hP hD hS => ?_)
  have hpd9 : PDx (dC, dI) classes A H (wp [cO h0 11 [Value.null, Value.null, Value.null, Value.null, Value.ref q_1, Value.ref q_9, Value.null, Value.ref q_12, Value.ref q_13, Value.ref q_14, Value.ref q_15, Value.int 0, Value.int 0, Value.int 1], oX4 q_1 q_4 q_5 q_6 q_7 q_8 0 0 0, cI aC q_4 8 (fun _ => 0), cI aC q_5 8 (fun _ => 0), cI aC q_6 8 (fun _ => 0), cI aC q_7 8 (fun _ => 0), cI aC q_8 5 u_3, oX7 q_9 0 q_11, cC aC q_11 64 (fun _ => 0), cI aC q_12 8 (fun _ => 0), cI aC q_13 8 (fun _ => 0), cI aC q_14 7 (fun _ => 0), cL aC q_15 73 (fun _ => 0), cO q_16 0 [], cK aC q_18 7 (va_up (va_up (va_up (va_up (va_up (va_up (fun _ => none) (0 : Int32).toNatClampNeg (some q_16)) (1 : Int32).toNatClampNeg (some q_20)) (2 : Int32).toNatClampNeg (some q_23)) (3 : Int32).toNatClampNeg (some q_26)) (4 : Int32).toNatClampNeg (some q_29)) (5 : Int32).toNatClampNeg (some q_32)), cO q_20 1 [], cO q_23 3 [], cO q_26 5 [], cO q_29 6 [], cO q_32 10 []] (va_pl L (plE aC g))) := ⟨hP, hD⟩
  have hP := hpd9.1
  have hD := hpd9.2
  clear hpd9
  refine lv_dup hx hb dX11_init_130 rfl ?_
  refine lv_bipush (v := 6) hx hb dX11_init_131 (by decide) ?_
  refine va_new (ci := 8) (fs := []) (C := RX8) (T := TX8) (N := 0) hx hb hts inX8 tyX8 tyX8_ok hown (hts _ (gw kw_133 rfl)) (hts _ (gw kw_134 rfl)) (hts _ (gw kw_10 rfl)) hK hP hD hS hA rfl (fun j hj => absurd hj (Nat.not_lt_zero j)) (Nat.le_of_ble_eq_true rfl) (Nat.le_of_ble_eq_true rfl) dX11_init_133 (fun q_35 H hP hD hS => ?_)
  have hP := va_P.swap (a := [cO h0 11 [Value.null, Value.null, Value.null, Value.null, Value.ref q_1, Value.ref q_9, Value.null, Value.ref q_12, Value.ref q_13, Value.ref q_14, Value.ref q_15, Value.int 0, Value.int 0, Value.int 1], oX4 q_1 q_4 q_5 q_6 q_7 q_8 0 0 0, cI aC q_4 8 (fun _ => 0), cI aC q_5 8 (fun _ => 0), cI aC q_6 8 (fun _ => 0), cI aC q_7 8 (fun _ => 0), cI aC q_8 5 u_3, oX7 q_9 0 q_11, cC aC q_11 64 (fun _ => 0), cI aC q_12 8 (fun _ => 0), cI aC q_13 8 (fun _ => 0), cI aC q_14 7 (fun _ => 0), cL aC q_15 73 (fun _ => 0), cO q_16 0 [], cK aC q_18 7 (va_up (va_up (va_up (va_up (va_up (va_up (fun _ => none) (0 : Int32).toNatClampNeg (some q_16)) (1 : Int32).toNatClampNeg (some q_20)) (2 : Int32).toNatClampNeg (some q_23)) (3 : Int32).toNatClampNeg (some q_26)) (4 : Int32).toNatClampNeg (some q_29)) (5 : Int32).toNatClampNeg (some q_32)), cO q_20 1 [], cO q_23 3 [], cO q_26 5 [], cO q_29 6 [], cO q_32 10 []]) (b := va_pl L (plE aC g)) (c := [cO q_35 8 []]) hP
  have hD := va_D.swap (a := [cO h0 11 [Value.null, Value.null, Value.null, Value.null, Value.ref q_1, Value.ref q_9, Value.null, Value.ref q_12, Value.ref q_13, Value.ref q_14, Value.ref q_15, Value.int 0, Value.int 0, Value.int 1], oX4 q_1 q_4 q_5 q_6 q_7 q_8 0 0 0, cI aC q_4 8 (fun _ => 0), cI aC q_5 8 (fun _ => 0), cI aC q_6 8 (fun _ => 0), cI aC q_7 8 (fun _ => 0), cI aC q_8 5 u_3, oX7 q_9 0 q_11, cC aC q_11 64 (fun _ => 0), cI aC q_12 8 (fun _ => 0), cI aC q_13 8 (fun _ => 0), cI aC q_14 7 (fun _ => 0), cL aC q_15 73 (fun _ => 0), cO q_16 0 [], cK aC q_18 7 (va_up (va_up (va_up (va_up (va_up (va_up (fun _ => none) (0 : Int32).toNatClampNeg (some q_16)) (1 : Int32).toNatClampNeg (some q_20)) (2 : Int32).toNatClampNeg (some q_23)) (3 : Int32).toNatClampNeg (some q_26)) (4 : Int32).toNatClampNeg (some q_29)) (5 : Int32).toNatClampNeg (some q_32)), cO q_20 1 [], cO q_23 3 [], cO q_26 5 [], cO q_29 6 [], cO q_32 10 []]) (b := va_pl L (plE aC g)) (c := [cO q_35 8 []]) hD
  have hpd9 : PDx (dC, dI) classes A H (wp [cO h0 11 [Value.null, Value.null, Value.null, Value.null, Value.ref q_1, Value.ref q_9, Value.null, Value.ref q_12, Value.ref q_13, Value.ref q_14, Value.ref q_15, Value.int 0, Value.int 0, Value.int 1], oX4 q_1 q_4 q_5 q_6 q_7 q_8 0 0 0, cI aC q_4 8 (fun _ => 0), cI aC q_5 8 (fun _ => 0), cI aC q_6 8 (fun _ => 0), cI aC q_7 8 (fun _ => 0), cI aC q_8 5 u_3, oX7 q_9 0 q_11, cC aC q_11 64 (fun _ => 0), cI aC q_12 8 (fun _ => 0), cI aC q_13 8 (fun _ => 0), cI aC q_14 7 (fun _ => 0), cL aC q_15 73 (fun _ => 0), cO q_16 0 [], cK aC q_18 7 (va_up (va_up (va_up (va_up (va_up (va_up (fun _ => none) (0 : Int32).toNatClampNeg (some q_16)) (1 : Int32).toNatClampNeg (some q_20)) (2 : Int32).toNatClampNeg (some q_23)) (3 : Int32).toNatClampNeg (some q_26)) (4 : Int32).toNatClampNeg (some q_29)) (5 : Int32).toNatClampNeg (some q_32)), cO q_20 1 [], cO q_23 3 [], cO q_26 5 [], cO q_29 6 [], cO q_32 10 [], cO q_35 8 []] (va_pl L (plE aC g))) := ⟨hP, hD⟩
  have hP := hpd9.1
  have hD := hpd9.2
  clear hpd9
  refine W.widen (k := 20) (n := 214) (by omega) (by omega) ?_
  refine lv_dup hx hb dX11_init_136 rfl ?_
  have hpd9 := pdf_N (cx := []) hP hD hS hA [] (by decide) rfl
  have hPc := hpd9.1
  have hDc := hpd9.2.1
  have hFc := hpd9.2.2
  clear hpd9
  refine va_callv (va_runIN (As := []) (rest := [Value.ref q_35, Value.int 6, Value.ref q_18, Value.ref q_18]) ⟨hx, hb, hml, hown, hts⟩ (c_X8_init l dC dI aC H.size q_35 ) ⟨(va_cnB 0 hts (gG kw_137) rfl rfl rfl (hN.1 _ kw_135 rfl) (hts _ (gw kw_10 rfl)) hd_X8_init ⟨Nat.le_of_ble_eq_true rfl, Nat.le_of_ble_eq_true rfl⟩), rfl, (hts _ (gw kw_136 rfl))⟩ ⟨fb_std, pre_std hPc hK hDc hN⟩ rfl rfl hl.1 rfl (lv_room (Nat.le_of_ble_eq_true rfl)) dX11_init_137 ⟨Nat.le_of_ble_eq_true rfl, Nat.le_of_ble_eq_true rfl⟩) hS (fun q _ h => hFc q h) hFc (fun u9 t9 H1 locs ht hvm hw_36 hB hz1 hk1 hS => ?_)
  obtain ⟨hP1, hK1, hD1⟩ := hB
  rw [ht] at hP1
  clear hK1
  try dsimp only at hw_36
  have hpd9 : PDx (dC, dI) classes A H1 (wp [cO h0 11 [Value.null, Value.null, Value.null, Value.null, Value.ref q_1, Value.ref q_9, Value.null, Value.ref q_12, Value.ref q_13, Value.ref q_14, Value.ref q_15, Value.int 0, Value.int 0, Value.int 1], oX4 q_1 q_4 q_5 q_6 q_7 q_8 0 0 0, cI aC q_4 8 (fun _ => 0), cI aC q_5 8 (fun _ => 0), cI aC q_6 8 (fun _ => 0), cI aC q_7 8 (fun _ => 0), cI aC q_8 5 u_3, oX7 q_9 0 q_11, cC aC q_11 64 (fun _ => 0), cI aC q_12 8 (fun _ => 0), cI aC q_13 8 (fun _ => 0), cI aC q_14 7 (fun _ => 0), cL aC q_15 73 (fun _ => 0), cO q_16 0 [], cK aC q_18 7 (va_up (va_up (va_up (va_up (va_up (va_up (fun _ => none) (0 : Int32).toNatClampNeg (some q_16)) (1 : Int32).toNatClampNeg (some q_20)) (2 : Int32).toNatClampNeg (some q_23)) (3 : Int32).toNatClampNeg (some q_26)) (4 : Int32).toNatClampNeg (some q_29)) (5 : Int32).toNatClampNeg (some q_32)), cO q_20 1 [], cO q_23 3 [], cO q_26 5 [], cO q_29 6 [], cO q_32 10 [], cO q_35 8 []] (va_pl L (plE aC g))) := jn_Q (wr := [cO h0 11 [Value.null, Value.null, Value.null, Value.null, Value.ref q_1, Value.ref q_9, Value.null, Value.ref q_12, Value.ref q_13, Value.ref q_14, Value.ref q_15, Value.int 0, Value.int 0, Value.int 1], oX4 q_1 q_4 q_5 q_6 q_7 q_8 0 0 0, cI aC q_4 8 (fun _ => 0), cI aC q_5 8 (fun _ => 0), cI aC q_6 8 (fun _ => 0), cI aC q_7 8 (fun _ => 0), cI aC q_8 5 u_3, oX7 q_9 0 q_11, cC aC q_11 64 (fun _ => 0), cI aC q_12 8 (fun _ => 0), cI aC q_13 8 (fun _ => 0), cI aC q_14 7 (fun _ => 0), cL aC q_15 73 (fun _ => 0), cO q_16 0 [], cK aC q_18 7 (va_up (va_up (va_up (va_up (va_up (va_up (fun _ => none) (0 : Int32).toNatClampNeg (some q_16)) (1 : Int32).toNatClampNeg (some q_20)) (2 : Int32).toNatClampNeg (some q_23)) (3 : Int32).toNatClampNeg (some q_26)) (4 : Int32).toNatClampNeg (some q_29)) (5 : Int32).toNatClampNeg (some q_32)), cO q_20 1 [], cO q_23 3 [], cO q_26 5 [], cO q_29 6 [], cO q_32 10 [], cO q_35 8 []]) hFc hk1 hP1 hD1 hP hD [] [0, 1, 2, 3, 4, 5, 6, 7, 8, 9, 10, 11, 12, 13, 14, 15, 16, 17, 18, 19, 20] rfl rfl (by decide) (by decide)
  have hP := hpd9.1
  have hD := hpd9.2
  clear hpd9
  generalize H1 = H at hP hS ⊢
  clear hPc hDc hFc hz1 hk1 hP1 hD1 ht hvm
  have h_37 : vp_in 6 7 := by first | exact vp_in_nI (by omega) (by omega) | (unfold vp_in; decide) | (subst_vars; first | (unfold vp_in; decide) | exact vp_in_nI (by omega) (by omega))
  refine va_astqO hx hb hK hP hD hS 14 3 20 8 rfl rfl (hN.1 _ kw_1105 rfl) rfl rfl h_37 dX11_init_140 (fun H locs hP hD hS => ?_)
  have hpd9 : PDx (dC, dI) classes A H (wp [cO h0 11 [Value.null, Value.null, Value.null, Value.null, Value.ref q_1, Value.ref q_9, Value.null, Value.ref q_12, Value.ref q_13, Value.ref q_14, Value.ref q_15, Value.int 0, Value.int 0, Value.int 1], oX4 q_1 q_4 q_5 q_6 q_7 q_8 0 0 0, cI aC q_4 8 (fun _ => 0), cI aC q_5 8 (fun _ => 0), cI aC q_6 8 (fun _ => 0), cI aC q_7 8 (fun _ => 0), cI aC q_8 5 u_3, oX7 q_9 0 q_11, cC aC q_11 64 (fun _ => 0), cI aC q_12 8 (fun _ => 0), cI aC q_13 8 (fun _ => 0), cI aC q_14 7 (fun _ => 0), cL aC q_15 73 (fun _ => 0), cO q_16 0 [], cK aC q_18 7 (va_up (va_up (va_up (va_up (va_up (va_up (va_up (fun _ => none) (0 : Int32).toNatClampNeg (some q_16)) (1 : Int32).toNatClampNeg (some q_20)) (2 : Int32).toNatClampNeg (some q_23)) (3 : Int32).toNatClampNeg (some q_26)) (4 : Int32).toNatClampNeg (some q_29)) (5 : Int32).toNatClampNeg (some q_32)) (6 : Int32).toNatClampNeg (some q_35)), cO q_20 1 [], cO q_23 3 [], cO q_26 5 [], cO q_29 6 [], cO q_32 10 [], cO q_35 8 []] (va_pl L (plE aC g))) := ⟨hP, hD⟩
  have hP := hpd9.1
  have hD := hpd9.2
  clear hpd9
  refine lv_astore_n (lv' := [(2, Value.ref q_18), (1, Value.ref q_16), (0, Value.ref h0)]) hx hb dX11_init_141 rfl hl (by decide) rfl (fun ls hl => ?_)
  refine lv_aload_n hx hb dX11_init_142 rfl (lv_at hl 2 rfl) ?_
  refine va_new (ci := 9) (fs := [Value.null, Value.null, Value.null, Value.null, Value.null, Value.null, Value.null, Value.null, Value.null, Value.null, Value.null, Value.null, Value.int 0, Value.int 0]) (C := RX9) (T := TX9) (N := 14) hx hb hts inX9 tyX9 tyX9_ok hown (hts _ (gw kw_140 rfl)) (hts _ (gw kw_141 rfl)) (hts _ (gw kw_11 rfl)) hK hP hD hS hA rfl (fun j hj => by have h9 : j = 0 ∨ j = 1 ∨ j = 2 ∨ j = 3 ∨ j = 4 ∨ j = 5 ∨ j = 6 ∨ j = 7 ∨ j = 8 ∨ j = 9 ∨ j = 10 ∨ j = 11 ∨ j = 12 ∨ j = 13 := (by omega); rcases h9 with rfl | rfl | rfl | rfl | rfl | rfl | rfl | rfl | rfl | rfl | rfl | rfl | rfl | rfl <;> rfl) (Nat.le_of_ble_eq_true rfl) (Nat.le_of_ble_eq_true rfl) dX11_init_143 (fun q_38 H hP hD hS => ?_)
  have hP := va_P.swap (a := [cO h0 11 [Value.null, Value.null, Value.null, Value.null, Value.ref q_1, Value.ref q_9, Value.null, Value.ref q_12, Value.ref q_13, Value.ref q_14, Value.ref q_15, Value.int 0, Value.int 0, Value.int 1], oX4 q_1 q_4 q_5 q_6 q_7 q_8 0 0 0, cI aC q_4 8 (fun _ => 0), cI aC q_5 8 (fun _ => 0), cI aC q_6 8 (fun _ => 0), cI aC q_7 8 (fun _ => 0), cI aC q_8 5 u_3, oX7 q_9 0 q_11, cC aC q_11 64 (fun _ => 0), cI aC q_12 8 (fun _ => 0), cI aC q_13 8 (fun _ => 0), cI aC q_14 7 (fun _ => 0), cL aC q_15 73 (fun _ => 0), cO q_16 0 [], cK aC q_18 7 (va_up (va_up (va_up (va_up (va_up (va_up (va_up (fun _ => none) (0 : Int32).toNatClampNeg (some q_16)) (1 : Int32).toNatClampNeg (some q_20)) (2 : Int32).toNatClampNeg (some q_23)) (3 : Int32).toNatClampNeg (some q_26)) (4 : Int32).toNatClampNeg (some q_29)) (5 : Int32).toNatClampNeg (some q_32)) (6 : Int32).toNatClampNeg (some q_35)), cO q_20 1 [], cO q_23 3 [], cO q_26 5 [], cO q_29 6 [], cO q_32 10 [], cO q_35 8 []]) (b := va_pl L (plE aC g)) (c := [cO q_38 9 [Value.null, Value.null, Value.null, Value.null, Value.null, Value.null, Value.null, Value.null, Value.null, Value.null, Value.null, Value.null, Value.int 0, Value.int 0]]) hP
  have hD := va_D.swap (a := [cO h0 11 [Value.null, Value.null, Value.null, Value.null, Value.ref q_1, Value.ref q_9, Value.null, Value.ref q_12, Value.ref q_13, Value.ref q_14, Value.ref q_15, Value.int 0, Value.int 0, Value.int 1], oX4 q_1 q_4 q_5 q_6 q_7 q_8 0 0 0, cI aC q_4 8 (fun _ => 0), cI aC q_5 8 (fun _ => 0), cI aC q_6 8 (fun _ => 0), cI aC q_7 8 (fun _ => 0), cI aC q_8 5 u_3, oX7 q_9 0 q_11, cC aC q_11 64 (fun _ => 0), cI aC q_12 8 (fun _ => 0), cI aC q_13 8 (fun _ => 0), cI aC q_14 7 (fun _ => 0), cL aC q_15 73 (fun _ => 0), cO q_16 0 [], cK aC q_18 7 (va_up (va_up (va_up (va_up (va_up (va_up (va_up (fun _ => none) (0 : Int32).toNatClampNeg (some q_16)) (1 : Int32).toNatClampNeg (some q_20)) (2 : Int32).toNatClampNeg (some q_23)) (3 : Int32).toNatClampNeg (some q_26)) (4 : Int32).toNatClampNeg (some q_29)) (5 : Int32).toNatClampNeg (some q_32)) (6 : Int32).toNatClampNeg (some q_35)), cO q_20 1 [], cO q_23 3 [], cO q_26 5 [], cO q_29 6 [], cO q_32 10 [], cO q_35 8 []]) (b := va_pl L (plE aC g)) (c := [cO q_38 9 [Value.null, Value.null, Value.null, Value.null, Value.null, Value.null, Value.null, Value.null, Value.null, Value.null, Value.null, Value.null, Value.int 0, Value.int 0]]) hD
  have hpd9 : PDx (dC, dI) classes A H (wp [cO h0 11 [Value.null, Value.null, Value.null, Value.null, Value.ref q_1, Value.ref q_9, Value.null, Value.ref q_12, Value.ref q_13, Value.ref q_14, Value.ref q_15, Value.int 0, Value.int 0, Value.int 1], oX4 q_1 q_4 q_5 q_6 q_7 q_8 0 0 0, cI aC q_4 8 (fun _ => 0), cI aC q_5 8 (fun _ => 0), cI aC q_6 8 (fun _ => 0), cI aC q_7 8 (fun _ => 0), cI aC q_8 5 u_3, oX7 q_9 0 q_11, cC aC q_11 64 (fun _ => 0), cI aC q_12 8 (fun _ => 0), cI aC q_13 8 (fun _ => 0), cI aC q_14 7 (fun _ => 0), cL aC q_15 73 (fun _ => 0), cO q_16 0 [], cK aC q_18 7 (va_up (va_up (va_up (va_up (va_up (va_up (va_up (fun _ => none) (0 : Int32).toNatClampNeg (some q_16)) (1 : Int32).toNatClampNeg (some q_20)) (2 : Int32).toNatClampNeg (some q_23)) (3 : Int32).toNatClampNeg (some q_26)) (4 : Int32).toNatClampNeg (some q_29)) (5 : Int32).toNatClampNeg (some q_32)) (6 : Int32).toNatClampNeg (some q_35)), cO q_20 1 [], cO q_23 3 [], cO q_26 5 [], cO q_29 6 [], cO q_32 10 [], cO q_35 8 [], cO q_38 9 [Value.null, Value.null, Value.null, Value.null, Value.null, Value.null, Value.null, Value.null, Value.null, Value.null, Value.null, Value.null, Value.int 0, Value.int 0]] (va_pl L (plE aC g))) := ⟨hP, hD⟩
  have hP := hpd9.1
  have hD := hpd9.2
  clear hpd9
  refine W.widen (k := 21) (n := 228) (by omega) (by omega) ?_
  refine lv_dup hx hb dX11_init_146 rfl ?_
  refine lv_aload_n hx hb dX11_init_147 rfl (lv_at hl 0 rfl) ?_
  have hpd9 := pdf_P (cx := [cO q_38 9 [Value.null, Value.null, Value.null, Value.null, Value.null, Value.null, Value.null, Value.null, Value.null, Value.null, Value.null, Value.null, Value.int 0, Value.int 0]]) hP hD hS hA [21] (by decide) rfl
  have hPc := hpd9.1
  have hDc := hpd9.2.1
  have hFc := hpd9.2.2
  clear hpd9
  refine va_callv (va_runI (As := [Value.ref q_18]) (rest := [Value.ref q_38, Value.ref h0]) ⟨hx, hb, hml, hown, hts⟩ (c_X9_init l dC dI aC H.size q_38 q_18 L g ) ⟨(callB_of 1 hts (gG kw_144) rfl rfl rfl (hts _ (gw kw_11 rfl)) (hts _ (gw kw_142 rfl)) hd_X9_init ⟨Nat.le_of_ble_eq_true rfl, Nat.le_of_ble_eq_true rfl⟩), rfl, (hts _ (gw kw_143 rfl))⟩ ⟨fb_std, pre_std hPc hK hDc hN⟩ rfl rfl hl.1 rfl (lv_room (Nat.le_of_ble_eq_true rfl)) dX11_init_148 ⟨Nat.le_of_ble_eq_true rfl, Nat.le_of_ble_eq_true rfl⟩) hS (fun q _ h => hFc q h) hFc (fun u9 t9 H1 locs ht hvm hw_39 hB hz1 hk1 hS => ?_)
  obtain ⟨u_40, u_41, u_42, u_43, u_44, u_45, u_46, u_47, u_48⟩ := u9
  obtain ⟨q_49, q_50, q_51, q_52, q_53, q_54, q_55, q_56, q_57, q_58, q_59, q_60, q_61, q_62, q_63, q_64, hP1, hK1, hD1⟩ := hB
  rw [ht] at hP1
  clear hK1
  try dsimp only at hw_39
  have hpd9 : PDx (dC, dI) classes A H1 (wp [cO h0 11 [Value.null, Value.null, Value.null, Value.null, Value.ref q_1, Value.ref q_9, Value.null, Value.ref q_12, Value.ref q_13, Value.ref q_14, Value.ref q_15, Value.int 0, Value.int 0, Value.int 1], oX4 q_1 q_4 q_5 q_6 q_7 q_8 0 0 0, cI aC q_4 8 (fun _ => 0), cI aC q_5 8 (fun _ => 0), cI aC q_6 8 (fun _ => 0), cI aC q_7 8 (fun _ => 0), cI aC q_8 5 u_3, oX7 q_9 0 q_11, cC aC q_11 64 (fun _ => 0), cI aC q_12 8 (fun _ => 0), cI aC q_13 8 (fun _ => 0), cI aC q_14 7 (fun _ => 0), cL aC q_15 73 (fun _ => 0), cO q_16 0 [], cK aC q_18 7 (va_up (va_up (va_up (va_up (va_up (va_up (va_up (fun _ => none) (0 : Int32).toNatClampNeg (some q_16)) (1 : Int32).toNatClampNeg (some q_20)) (2 : Int32).toNatClampNeg (some q_23)) (3 : Int32).toNatClampNeg (some q_26)) (4 : Int32).toNatClampNeg (some q_29)) (5 : Int32).toNatClampNeg (some q_32)) (6 : Int32).toNatClampNeg (some q_35)), cO q_20 1 [], cO q_23 3 [], cO q_26 5 [], cO q_29 6 [], cO q_32 10 [], cO q_35 8 [], oX9 q_38 q_49 q_50 q_51 q_52 q_53 q_54 q_55 q_18 q_56 q_57 q_58 q_59 0 0, cA aC q_49 8 u_46, cA aC q_50 8 u_47, cA aC q_51 8 u_48, cI aC q_52 8 (fun _ => 0), cI aC q_53 8 (fun _ => 0), cI aC q_54 8 (fun _ => 0), oX4 q_55 q_60 q_61 q_62 q_63 q_64 0 0 0, cI aC q_60 8 (fun _ => 0), cI aC q_61 8 (fun _ => 0), cI aC q_62 8 (fun _ => 0), cI aC q_63 8 (fun _ => 0), cI aC q_64 5 u_40, cI aC q_56 7 (fun _ => 0), cI aC q_57 7 (fun _ => 0), cI aC q_58 128 (fun _ => 0), cI aC q_59 128 (fun _ => 0)] (va_pl u_41 (plE aC u_42))) := jn_P (wr := [cO h0 11 [Value.null, Value.null, Value.null, Value.null, Value.ref q_1, Value.ref q_9, Value.null, Value.ref q_12, Value.ref q_13, Value.ref q_14, Value.ref q_15, Value.int 0, Value.int 0, Value.int 1], oX4 q_1 q_4 q_5 q_6 q_7 q_8 0 0 0, cI aC q_4 8 (fun _ => 0), cI aC q_5 8 (fun _ => 0), cI aC q_6 8 (fun _ => 0), cI aC q_7 8 (fun _ => 0), cI aC q_8 5 u_3, oX7 q_9 0 q_11, cC aC q_11 64 (fun _ => 0), cI aC q_12 8 (fun _ => 0), cI aC q_13 8 (fun _ => 0), cI aC q_14 7 (fun _ => 0), cL aC q_15 73 (fun _ => 0), cO q_16 0 [], cK aC q_18 7 (va_up (va_up (va_up (va_up (va_up (va_up (va_up (fun _ => none) (0 : Int32).toNatClampNeg (some q_16)) (1 : Int32).toNatClampNeg (some q_20)) (2 : Int32).toNatClampNeg (some q_23)) (3 : Int32).toNatClampNeg (some q_26)) (4 : Int32).toNatClampNeg (some q_29)) (5 : Int32).toNatClampNeg (some q_32)) (6 : Int32).toNatClampNeg (some q_35)), cO q_20 1 [], cO q_23 3 [], cO q_26 5 [], cO q_29 6 [], cO q_32 10 [], cO q_35 8 []]) hFc hk1 hP1 hD1 hP hD [21] [0, 1, 2, 3, 4, 5, 6, 7, 8, 9, 10, 11, 12, 13, 14, 15, 16, 17, 18, 19, 20] rfl rfl (by decide) (by decide)
  have hP := hpd9.1
  have hD := hpd9.2
  clear hpd9
  generalize H1 = H at hP hS ⊢
  clear hPc hDc hFc hz1 hk1 hP1 hD1 ht hvm
  refine W.widen (k := 61) (n := 783) (by omega) (by omega) ?_
  have hp148 := hw_39
  refine va_putF (D := (dC, dI)) (ci := 11) (v := Value.ref q_38) (ty := .object "EldestSays$Plans") (C := RX11) (T := TX11) (N := 14) hx hb hts inX11 tyX11 tyX11_ok nmX11 hown hK hP hD hS 0 rfl rfl 0 (by decide) (hts _ (gw kw_226 rfl)) (fun _ h9 => h9) rfl hin rfl (by decide +kernel) rfl rfl (Nat.le_of_ble_eq_true rfl) dX11_init_151 (fun H locs hP hD hS => ?_)
  have hpd9 : PDx (dC, dI) classes A H (wp [cO h0 11 [Value.ref q_38, Value.null, Value.null, Value.null, Value.ref q_1, Value.ref q_9, Value.null, Value.ref q_12, Value.ref q_13, Value.ref q_14, Value.ref q_15, Value.int 0, Value.int 0, Value.int 1], oX4 q_1 q_4 q_5 q_6 q_7 q_8 0 0 0, cI aC q_4 8 (fun _ => 0), cI aC q_5 8 (fun _ => 0), cI aC q_6 8 (fun _ => 0), cI aC q_7 8 (fun _ => 0), cI aC q_8 5 u_3, oX7 q_9 0 q_11, cC aC q_11 64 (fun _ => 0), cI aC q_12 8 (fun _ => 0), cI aC q_13 8 (fun _ => 0), cI aC q_14 7 (fun _ => 0), cL aC q_15 73 (fun _ => 0), cO q_16 0 [], cK aC q_18 7 (va_up (va_up (va_up (va_up (va_up (va_up (va_up (fun _ => none) (0 : Int32).toNatClampNeg (some q_16)) (1 : Int32).toNatClampNeg (some q_20)) (2 : Int32).toNatClampNeg (some q_23)) (3 : Int32).toNatClampNeg (some q_26)) (4 : Int32).toNatClampNeg (some q_29)) (5 : Int32).toNatClampNeg (some q_32)) (6 : Int32).toNatClampNeg (some q_35)), cO q_20 1 [], cO q_23 3 [], cO q_26 5 [], cO q_29 6 [], cO q_32 10 [], cO q_35 8 [], oX9 q_38 q_49 q_50 q_51 q_52 q_53 q_54 q_55 q_18 q_56 q_57 q_58 q_59 0 0, cA aC q_49 8 u_46, cA aC q_50 8 u_47, cA aC q_51 8 u_48, cI aC q_52 8 (fun _ => 0), cI aC q_53 8 (fun _ => 0), cI aC q_54 8 (fun _ => 0), oX4 q_55 q_60 q_61 q_62 q_63 q_64 0 0 0, cI aC q_60 8 (fun _ => 0), cI aC q_61 8 (fun _ => 0), cI aC q_62 8 (fun _ => 0), cI aC q_63 8 (fun _ => 0), cI aC q_64 5 u_40, cI aC q_56 7 (fun _ => 0), cI aC q_57 7 (fun _ => 0), cI aC q_58 128 (fun _ => 0), cI aC q_59 128 (fun _ => 0)] (va_pl u_41 (plE aC u_42))) := ⟨hP, hD⟩
  have hP := hpd9.1
  have hD := hpd9.2
  clear hpd9
  refine lv_aload_n hx hb dX11_init_154 rfl (lv_at hl 2 rfl) ?_
  refine va_new (ci := 9) (fs := [Value.null, Value.null, Value.null, Value.null, Value.null, Value.null, Value.null, Value.null, Value.null, Value.null, Value.null, Value.null, Value.int 0, Value.int 0]) (C := RX9) (T := TX9) (N := 14) hx hb hts inX9 tyX9 tyX9_ok hown (hts _ (gw kw_140 rfl)) (hts _ (gw kw_141 rfl)) (hts _ (gw kw_11 rfl)) hK hP hD hS hA rfl (fun j hj => by have h9 : j = 0 ∨ j = 1 ∨ j = 2 ∨ j = 3 ∨ j = 4 ∨ j = 5 ∨ j = 6 ∨ j = 7 ∨ j = 8 ∨ j = 9 ∨ j = 10 ∨ j = 11 ∨ j = 12 ∨ j = 13 := (by omega); rcases h9 with rfl | rfl | rfl | rfl | rfl | rfl | rfl | rfl | rfl | rfl | rfl | rfl | rfl | rfl <;> rfl) (Nat.le_of_ble_eq_true rfl) (Nat.le_of_ble_eq_true rfl) dX11_init_155 (fun q_65 H hP hD hS => ?_)
  have hP := va_P.swap (a := [cO h0 11 [Value.ref q_38, Value.null, Value.null, Value.null, Value.ref q_1, Value.ref q_9, Value.null, Value.ref q_12, Value.ref q_13, Value.ref q_14, Value.ref q_15, Value.int 0, Value.int 0, Value.int 1], oX4 q_1 q_4 q_5 q_6 q_7 q_8 0 0 0, cI aC q_4 8 (fun _ => 0), cI aC q_5 8 (fun _ => 0), cI aC q_6 8 (fun _ => 0), cI aC q_7 8 (fun _ => 0), cI aC q_8 5 u_3, oX7 q_9 0 q_11, cC aC q_11 64 (fun _ => 0), cI aC q_12 8 (fun _ => 0), cI aC q_13 8 (fun _ => 0), cI aC q_14 7 (fun _ => 0), cL aC q_15 73 (fun _ => 0), cO q_16 0 [], cK aC q_18 7 (va_up (va_up (va_up (va_up (va_up (va_up (va_up (fun _ => none) (0 : Int32).toNatClampNeg (some q_16)) (1 : Int32).toNatClampNeg (some q_20)) (2 : Int32).toNatClampNeg (some q_23)) (3 : Int32).toNatClampNeg (some q_26)) (4 : Int32).toNatClampNeg (some q_29)) (5 : Int32).toNatClampNeg (some q_32)) (6 : Int32).toNatClampNeg (some q_35)), cO q_20 1 [], cO q_23 3 [], cO q_26 5 [], cO q_29 6 [], cO q_32 10 [], cO q_35 8 [], oX9 q_38 q_49 q_50 q_51 q_52 q_53 q_54 q_55 q_18 q_56 q_57 q_58 q_59 0 0, cA aC q_49 8 u_46, cA aC q_50 8 u_47, cA aC q_51 8 u_48, cI aC q_52 8 (fun _ => 0), cI aC q_53 8 (fun _ => 0), cI aC q_54 8 (fun _ => 0), oX4 q_55 q_60 q_61 q_62 q_63 q_64 0 0 0, cI aC q_60 8 (fun _ => 0), cI aC q_61 8 (fun _ => 0), cI aC q_62 8 (fun _ => 0), cI aC q_63 8 (fun _ => 0), cI aC q_64 5 u_40, cI aC q_56 7 (fun _ => 0), cI aC q_57 7 (fun _ => 0), cI aC q_58 128 (fun _ => 0), cI aC q_59 128 (fun _ => 0)]) (b := va_pl u_41 (plE aC u_42)) (c := [cO q_65 9 [Value.null, Value.null, Value.null, Value.null, Value.null, Value.null, Value.null, Value.null, Value.null, Value.null, Value.null, Value.null, Value.int 0, Value.int 0]]) hP
  have hD := va_D.swap (a := [cO h0 11 [Value.ref q_38, Value.null, Value.null, Value.null, Value.ref q_1, Value.ref q_9, Value.null, Value.ref q_12, Value.ref q_13, Value.ref q_14, Value.ref q_15, Value.int 0, Value.int 0, Value.int 1], oX4 q_1 q_4 q_5 q_6 q_7 q_8 0 0 0, cI aC q_4 8 (fun _ => 0), cI aC q_5 8 (fun _ => 0), cI aC q_6 8 (fun _ => 0), cI aC q_7 8 (fun _ => 0), cI aC q_8 5 u_3, oX7 q_9 0 q_11, cC aC q_11 64 (fun _ => 0), cI aC q_12 8 (fun _ => 0), cI aC q_13 8 (fun _ => 0), cI aC q_14 7 (fun _ => 0), cL aC q_15 73 (fun _ => 0), cO q_16 0 [], cK aC q_18 7 (va_up (va_up (va_up (va_up (va_up (va_up (va_up (fun _ => none) (0 : Int32).toNatClampNeg (some q_16)) (1 : Int32).toNatClampNeg (some q_20)) (2 : Int32).toNatClampNeg (some q_23)) (3 : Int32).toNatClampNeg (some q_26)) (4 : Int32).toNatClampNeg (some q_29)) (5 : Int32).toNatClampNeg (some q_32)) (6 : Int32).toNatClampNeg (some q_35)), cO q_20 1 [], cO q_23 3 [], cO q_26 5 [], cO q_29 6 [], cO q_32 10 [], cO q_35 8 [], oX9 q_38 q_49 q_50 q_51 q_52 q_53 q_54 q_55 q_18 q_56 q_57 q_58 q_59 0 0, cA aC q_49 8 u_46, cA aC q_50 8 u_47, cA aC q_51 8 u_48, cI aC q_52 8 (fun _ => 0), cI aC q_53 8 (fun _ => 0), cI aC q_54 8 (fun _ => 0), oX4 q_55 q_60 q_61 q_62 q_63 q_64 0 0 0, cI aC q_60 8 (fun _ => 0), cI aC q_61 8 (fun _ => 0), cI aC q_62 8 (fun _ => 0), cI aC q_63 8 (fun _ => 0), cI aC q_64 5 u_40, cI aC q_56 7 (fun _ => 0), cI aC q_57 7 (fun _ => 0), cI aC q_58 128 (fun _ => 0), cI aC q_59 128 (fun _ => 0)]) (b := va_pl u_41 (plE aC u_42)) (c := [cO q_65 9 [Value.null, Value.null, Value.null, Value.null, Value.null, Value.null, Value.null, Value.null, Value.null, Value.null, Value.null, Value.null, Value.int 0, Value.int 0]]) hD
  have hpd9 : PDx (dC, dI) classes A H (wp [cO h0 11 [Value.ref q_38, Value.null, Value.null, Value.null, Value.ref q_1, Value.ref q_9, Value.null, Value.ref q_12, Value.ref q_13, Value.ref q_14, Value.ref q_15, Value.int 0, Value.int 0, Value.int 1], oX4 q_1 q_4 q_5 q_6 q_7 q_8 0 0 0, cI aC q_4 8 (fun _ => 0), cI aC q_5 8 (fun _ => 0), cI aC q_6 8 (fun _ => 0), cI aC q_7 8 (fun _ => 0), cI aC q_8 5 u_3, oX7 q_9 0 q_11, cC aC q_11 64 (fun _ => 0), cI aC q_12 8 (fun _ => 0), cI aC q_13 8 (fun _ => 0), cI aC q_14 7 (fun _ => 0), cL aC q_15 73 (fun _ => 0), cO q_16 0 [], cK aC q_18 7 (va_up (va_up (va_up (va_up (va_up (va_up (va_up (fun _ => none) (0 : Int32).toNatClampNeg (some q_16)) (1 : Int32).toNatClampNeg (some q_20)) (2 : Int32).toNatClampNeg (some q_23)) (3 : Int32).toNatClampNeg (some q_26)) (4 : Int32).toNatClampNeg (some q_29)) (5 : Int32).toNatClampNeg (some q_32)) (6 : Int32).toNatClampNeg (some q_35)), cO q_20 1 [], cO q_23 3 [], cO q_26 5 [], cO q_29 6 [], cO q_32 10 [], cO q_35 8 [], oX9 q_38 q_49 q_50 q_51 q_52 q_53 q_54 q_55 q_18 q_56 q_57 q_58 q_59 0 0, cA aC q_49 8 u_46, cA aC q_50 8 u_47, cA aC q_51 8 u_48, cI aC q_52 8 (fun _ => 0), cI aC q_53 8 (fun _ => 0), cI aC q_54 8 (fun _ => 0), oX4 q_55 q_60 q_61 q_62 q_63 q_64 0 0 0, cI aC q_60 8 (fun _ => 0), cI aC q_61 8 (fun _ => 0), cI aC q_62 8 (fun _ => 0), cI aC q_63 8 (fun _ => 0), cI aC q_64 5 u_40, cI aC q_56 7 (fun _ => 0), cI aC q_57 7 (fun _ => 0), cI aC q_58 128 (fun _ => 0), cI aC q_59 128 (fun _ => 0), cO q_65 9 [Value.null, Value.null, Value.null, Value.null, Value.null, Value.null, Value.null, Value.null, Value.null, Value.null, Value.null, Value.null, Value.int 0, Value.int 0]] (va_pl u_41 (plE aC u_42))) := ⟨hP, hD⟩
  have hP := hpd9.1
  have hD := hpd9.2
  clear hpd9
  refine W.widen (k := 62) (n := 797) (by omega) (by omega) ?_
  refine lv_dup hx hb dX11_init_158 rfl ?_
  refine lv_aload_n hx hb dX11_init_159 rfl (lv_at hl 0 rfl) ?_
  have hpd9 := pdf_P (cx := [cO q_65 9 [Value.null, Value.null, Value.null, Value.null, Value.null, Value.null, Value.null, Value.null, Value.null, Value.null, Value.null, Value.null, Value.int 0, Value.int 0]]) hP hD hS hA [38] (by decide) rfl
  have hPc := hpd9.1
  have hDc := hpd9.2.1
  have hFc := hpd9.2.2
  clear hpd9
  refine va_callv (va_runI (As := [Value.ref q_18]) (rest := [Value.ref q_65, Value.ref h0]) ⟨hx, hb, hml, hown, hts⟩ (c_X9_init l dC dI aC H.size q_65 q_18 u_41 u_42 ) ⟨(callB_of 1 hts (gG kw_144) rfl rfl rfl (hts _ (gw kw_11 rfl)) (hts _ (gw kw_142 rfl)) hd_X9_init ⟨Nat.le_of_ble_eq_true rfl, Nat.le_of_ble_eq_true rfl⟩), rfl, (hts _ (gw kw_143 rfl))⟩ ⟨fb_std, pre_std hPc hK hDc hN⟩ rfl rfl hl.1 rfl (lv_room (Nat.le_of_ble_eq_true rfl)) dX11_init_160 ⟨Nat.le_of_ble_eq_true rfl, Nat.le_of_ble_eq_true rfl⟩) hS (fun q _ h => hFc q h) hFc (fun u9 t9 H1 locs ht hvm hw_66 hB hz1 hk1 hS => ?_)
  obtain ⟨u_67, u_68, u_69, u_70, u_71, u_72, u_73, u_74, u_75⟩ := u9
  obtain ⟨q_76, q_77, q_78, q_79, q_80, q_81, q_82, q_83, q_84, q_85, q_86, q_87, q_88, q_89, q_90, q_91, hP1, hK1, hD1⟩ := hB
  rw [ht] at hP1
  clear hK1
  try dsimp only at hw_66
  have hpd9 : PDx (dC, dI) classes A H1 (wp [cO h0 11 [Value.ref q_38, Value.null, Value.null, Value.null, Value.ref q_1, Value.ref q_9, Value.null, Value.ref q_12, Value.ref q_13, Value.ref q_14, Value.ref q_15, Value.int 0, Value.int 0, Value.int 1], oX4 q_1 q_4 q_5 q_6 q_7 q_8 0 0 0, cI aC q_4 8 (fun _ => 0), cI aC q_5 8 (fun _ => 0), cI aC q_6 8 (fun _ => 0), cI aC q_7 8 (fun _ => 0), cI aC q_8 5 u_3, oX7 q_9 0 q_11, cC aC q_11 64 (fun _ => 0), cI aC q_12 8 (fun _ => 0), cI aC q_13 8 (fun _ => 0), cI aC q_14 7 (fun _ => 0), cL aC q_15 73 (fun _ => 0), cO q_16 0 [], cK aC q_18 7 (va_up (va_up (va_up (va_up (va_up (va_up (va_up (fun _ => none) (0 : Int32).toNatClampNeg (some q_16)) (1 : Int32).toNatClampNeg (some q_20)) (2 : Int32).toNatClampNeg (some q_23)) (3 : Int32).toNatClampNeg (some q_26)) (4 : Int32).toNatClampNeg (some q_29)) (5 : Int32).toNatClampNeg (some q_32)) (6 : Int32).toNatClampNeg (some q_35)), cO q_20 1 [], cO q_23 3 [], cO q_26 5 [], cO q_29 6 [], cO q_32 10 [], cO q_35 8 [], oX9 q_38 q_49 q_50 q_51 q_52 q_53 q_54 q_55 q_18 q_56 q_57 q_58 q_59 0 0, cA aC q_49 8 u_46, cA aC q_50 8 u_47, cA aC q_51 8 u_48, cI aC q_52 8 (fun _ => 0), cI aC q_53 8 (fun _ => 0), cI aC q_54 8 (fun _ => 0), oX4 q_55 q_60 q_61 q_62 q_63 q_64 0 0 0, cI aC q_60 8 (fun _ => 0), cI aC q_61 8 (fun _ => 0), cI aC q_62 8 (fun _ => 0), cI aC q_63 8 (fun _ => 0), cI aC q_64 5 u_40, cI aC q_56 7 (fun _ => 0), cI aC q_57 7 (fun _ => 0), cI aC q_58 128 (fun _ => 0), cI aC q_59 128 (fun _ => 0), oX9 q_65 q_76 q_77 q_78 q_79 q_80 q_81 q_82 q_18 q_83 q_84 q_85 q_86 0 0, cA aC q_76 8 u_73, cA aC q_77 8 u_74, cA aC q_78 8 u_75, cI aC q_79 8 (fun _ => 0), cI aC q_80 8 (fun _ => 0), cI aC q_81 8 (fun _ => 0), oX4 q_82 q_87 q_88 q_89 q_90 q_91 0 0 0, cI aC q_87 8 (fun _ => 0), cI aC q_88 8 (fun _ => 0), cI aC q_89 8 (fun _ => 0), cI aC q_90 8 (fun _ => 0), cI aC q_91 5 u_67, cI aC q_83 7 (fun _ => 0), cI aC q_84 7 (fun _ => 0), cI aC q_85 128 (fun _ => 0), cI aC q_86 128 (fun _ => 0)] (va_pl u_68 (plE aC u_69))) := jn_P (wr := [cO h0 11 [Value.ref q_38, Value.null, Value.null, Value.null, Value.ref q_1, Value.ref q_9, Value.null, Value.ref q_12, Value.ref q_13, Value.ref q_14, Value.ref q_15, Value.int 0, Value.int 0, Value.int 1], oX4 q_1 q_4 q_5 q_6 q_7 q_8 0 0 0, cI aC q_4 8 (fun _ => 0), cI aC q_5 8 (fun _ => 0), cI aC q_6 8 (fun _ => 0), cI aC q_7 8 (fun _ => 0), cI aC q_8 5 u_3, oX7 q_9 0 q_11, cC aC q_11 64 (fun _ => 0), cI aC q_12 8 (fun _ => 0), cI aC q_13 8 (fun _ => 0), cI aC q_14 7 (fun _ => 0), cL aC q_15 73 (fun _ => 0), cO q_16 0 [], cK aC q_18 7 (va_up (va_up (va_up (va_up (va_up (va_up (va_up (fun _ => none) (0 : Int32).toNatClampNeg (some q_16)) (1 : Int32).toNatClampNeg (some q_20)) (2 : Int32).toNatClampNeg (some q_23)) (3 : Int32).toNatClampNeg (some q_26)) (4 : Int32).toNatClampNeg (some q_29)) (5 : Int32).toNatClampNeg (some q_32)) (6 : Int32).toNatClampNeg (some q_35)), cO q_20 1 [], cO q_23 3 [], cO q_26 5 [], cO q_29 6 [], cO q_32 10 [], cO q_35 8 [], oX9 q_38 q_49 q_50 q_51 q_52 q_53 q_54 q_55 q_18 q_56 q_57 q_58 q_59 0 0, cA aC q_49 8 u_46, cA aC q_50 8 u_47, cA aC q_51 8 u_48, cI aC q_52 8 (fun _ => 0), cI aC q_53 8 (fun _ => 0), cI aC q_54 8 (fun _ => 0), oX4 q_55 q_60 q_61 q_62 q_63 q_64 0 0 0, cI aC q_60 8 (fun _ => 0), cI aC q_61 8 (fun _ => 0), cI aC q_62 8 (fun _ => 0), cI aC q_63 8 (fun _ => 0), cI aC q_64 5 u_40, cI aC q_56 7 (fun _ => 0), cI aC q_57 7 (fun _ => 0), cI aC q_58 128 (fun _ => 0), cI aC q_59 128 (fun _ => 0)]) hFc hk1 hP1 hD1 hP hD [38] [0, 1, 2, 3, 4, 5, 6, 7, 8, 9, 10, 11, 12, 13, 14, 15, 16, 17, 18, 19, 20, 21, 22, 23, 24, 25, 26, 27, 28, 29, 30, 31, 32, 33, 34, 35, 36, 37] rfl rfl (by decide) (by decide)
  have hP := hpd9.1
  have hD := hpd9.2
  clear hpd9
  generalize H1 = H at hP hS ⊢
  clear hPc hDc hFc hz1 hk1 hP1 hD1 ht hvm
  refine W.widen (k := 102) (n := 1352) (by omega) (by omega) ?_
  have hp160 := hw_66
  refine va_putF (D := (dC, dI)) (ci := 11) (v := Value.ref q_65) (ty := .object "EldestSays$Plans") (C := RX11) (T := TX11) (N := 14) hx hb hts inX11 tyX11 tyX11_ok nmX11 hown hK hP hD hS 0 rfl rfl 1 (by decide) (hts _ (gw kw_227 rfl)) (fun _ h9 => h9) rfl hin rfl (by decide +kernel) rfl rfl (Nat.le_of_ble_eq_true rfl) dX11_init_163 (fun H locs hP hD hS => ?_)
  have hpd9 : PDx (dC, dI) classes A H (wp [cO h0 11 [Value.ref q_38, Value.ref q_65, Value.null, Value.null, Value.ref q_1, Value.ref q_9, Value.null, Value.ref q_12, Value.ref q_13, Value.ref q_14, Value.ref q_15, Value.int 0, Value.int 0, Value.int 1], oX4 q_1 q_4 q_5 q_6 q_7 q_8 0 0 0, cI aC q_4 8 (fun _ => 0), cI aC q_5 8 (fun _ => 0), cI aC q_6 8 (fun _ => 0), cI aC q_7 8 (fun _ => 0), cI aC q_8 5 u_3, oX7 q_9 0 q_11, cC aC q_11 64 (fun _ => 0), cI aC q_12 8 (fun _ => 0), cI aC q_13 8 (fun _ => 0), cI aC q_14 7 (fun _ => 0), cL aC q_15 73 (fun _ => 0), cO q_16 0 [], cK aC q_18 7 (va_up (va_up (va_up (va_up (va_up (va_up (va_up (fun _ => none) (0 : Int32).toNatClampNeg (some q_16)) (1 : Int32).toNatClampNeg (some q_20)) (2 : Int32).toNatClampNeg (some q_23)) (3 : Int32).toNatClampNeg (some q_26)) (4 : Int32).toNatClampNeg (some q_29)) (5 : Int32).toNatClampNeg (some q_32)) (6 : Int32).toNatClampNeg (some q_35)), cO q_20 1 [], cO q_23 3 [], cO q_26 5 [], cO q_29 6 [], cO q_32 10 [], cO q_35 8 [], oX9 q_38 q_49 q_50 q_51 q_52 q_53 q_54 q_55 q_18 q_56 q_57 q_58 q_59 0 0, cA aC q_49 8 u_46, cA aC q_50 8 u_47, cA aC q_51 8 u_48, cI aC q_52 8 (fun _ => 0), cI aC q_53 8 (fun _ => 0), cI aC q_54 8 (fun _ => 0), oX4 q_55 q_60 q_61 q_62 q_63 q_64 0 0 0, cI aC q_60 8 (fun _ => 0), cI aC q_61 8 (fun _ => 0), cI aC q_62 8 (fun _ => 0), cI aC q_63 8 (fun _ => 0), cI aC q_64 5 u_40, cI aC q_56 7 (fun _ => 0), cI aC q_57 7 (fun _ => 0), cI aC q_58 128 (fun _ => 0), cI aC q_59 128 (fun _ => 0), oX9 q_65 q_76 q_77 q_78 q_79 q_80 q_81 q_82 q_18 q_83 q_84 q_85 q_86 0 0, cA aC q_76 8 u_73, cA aC q_77 8 u_74, cA aC q_78 8 u_75, cI aC q_79 8 (fun _ => 0), cI aC q_80 8 (fun _ => 0), cI aC q_81 8 (fun _ => 0), oX4 q_82 q_87 q_88 q_89 q_90 q_91 0 0 0, cI aC q_87 8 (fun _ => 0), cI aC q_88 8 (fun _ => 0), cI aC q_89 8 (fun _ => 0), cI aC q_90 8 (fun _ => 0), cI aC q_91 5 u_67, cI aC q_83 7 (fun _ => 0), cI aC q_84 7 (fun _ => 0), cI aC q_85 128 (fun _ => 0), cI aC q_86 128 (fun _ => 0)] (va_pl u_68 (plE aC u_69))) := ⟨hP, hD⟩
  have hP := hpd9.1
  have hD := hpd9.2
  clear hpd9
  refine lv_aload_n hx hb dX11_init_166 rfl (lv_at hl 2 rfl) ?_
  refine lv_aload_n hx hb dX11_init_167 rfl (lv_at hl 2 rfl) ?_
  refine va_get (D := (dC, dI)) (ci := 11) (v := Value.ref q_38) (C := RX11) (T := TX11) (N := 14) hx hb hts inX11 hown hK hP 0 rfl rfl 0 (by decide) (hts _ (gw kw_226 rfl)) (fun _ h9 => h9) rfl dX11_init_168 ?_
  refine va_get (D := (dC, dI)) (ci := 9) (v := Value.ref q_55) (C := RX9) (T := TX9) (N := 14) hx hb hts inX9 hown hK hP 21 rfl rfl 6 (by decide) (hts _ (gw kw_163 rfl)) (fun _ h9 => h9) rfl dX11_init_171 ?_
  refine va_putF (D := (dC, dI)) (ci := 11) (v := Value.ref q_55) (ty := .object "EldestSays$Evening") (C := RX11) (T := TX11) (N := 14) hx hb hts inX11 tyX11 tyX11_ok nmX11 hown hK hP hD hS 0 rfl rfl 2 (by decide) (hts _ (gw kw_228 rfl)) (fun _ h9 => h9) rfl hin rfl (by decide +kernel) rfl rfl (Nat.le_of_ble_eq_true rfl) dX11_init_174 (fun H locs hP hD hS => ?_)
  have hpd9 : PDx (dC, dI) classes A H (wp [cO h0 11 [Value.ref q_38, Value.ref q_65, Value.ref q_55, Value.null, Value.ref q_1, Value.ref q_9, Value.null, Value.ref q_12, Value.ref q_13, Value.ref q_14, Value.ref q_15, Value.int 0, Value.int 0, Value.int 1], oX4 q_1 q_4 q_5 q_6 q_7 q_8 0 0 0, cI aC q_4 8 (fun _ => 0), cI aC q_5 8 (fun _ => 0), cI aC q_6 8 (fun _ => 0), cI aC q_7 8 (fun _ => 0), cI aC q_8 5 u_3, oX7 q_9 0 q_11, cC aC q_11 64 (fun _ => 0), cI aC q_12 8 (fun _ => 0), cI aC q_13 8 (fun _ => 0), cI aC q_14 7 (fun _ => 0), cL aC q_15 73 (fun _ => 0), cO q_16 0 [], cK aC q_18 7 (va_up (va_up (va_up (va_up (va_up (va_up (va_up (fun _ => none) (0 : Int32).toNatClampNeg (some q_16)) (1 : Int32).toNatClampNeg (some q_20)) (2 : Int32).toNatClampNeg (some q_23)) (3 : Int32).toNatClampNeg (some q_26)) (4 : Int32).toNatClampNeg (some q_29)) (5 : Int32).toNatClampNeg (some q_32)) (6 : Int32).toNatClampNeg (some q_35)), cO q_20 1 [], cO q_23 3 [], cO q_26 5 [], cO q_29 6 [], cO q_32 10 [], cO q_35 8 [], oX9 q_38 q_49 q_50 q_51 q_52 q_53 q_54 q_55 q_18 q_56 q_57 q_58 q_59 0 0, cA aC q_49 8 u_46, cA aC q_50 8 u_47, cA aC q_51 8 u_48, cI aC q_52 8 (fun _ => 0), cI aC q_53 8 (fun _ => 0), cI aC q_54 8 (fun _ => 0), oX4 q_55 q_60 q_61 q_62 q_63 q_64 0 0 0, cI aC q_60 8 (fun _ => 0), cI aC q_61 8 (fun _ => 0), cI aC q_62 8 (fun _ => 0), cI aC q_63 8 (fun _ => 0), cI aC q_64 5 u_40, cI aC q_56 7 (fun _ => 0), cI aC q_57 7 (fun _ => 0), cI aC q_58 128 (fun _ => 0), cI aC q_59 128 (fun _ => 0), oX9 q_65 q_76 q_77 q_78 q_79 q_80 q_81 q_82 q_18 q_83 q_84 q_85 q_86 0 0, cA aC q_76 8 u_73, cA aC q_77 8 u_74, cA aC q_78 8 u_75, cI aC q_79 8 (fun _ => 0), cI aC q_80 8 (fun _ => 0), cI aC q_81 8 (fun _ => 0), oX4 q_82 q_87 q_88 q_89 q_90 q_91 0 0 0, cI aC q_87 8 (fun _ => 0), cI aC q_88 8 (fun _ => 0), cI aC q_89 8 (fun _ => 0), cI aC q_90 8 (fun _ => 0), cI aC q_91 5 u_67, cI aC q_83 7 (fun _ => 0), cI aC q_84 7 (fun _ => 0), cI aC q_85 128 (fun _ => 0), cI aC q_86 128 (fun _ => 0)] (va_pl u_68 (plE aC u_69))) := ⟨hP, hD⟩
  have hP := hpd9.1
  have hD := hpd9.2
  clear hpd9
  refine lv_aload_n hx hb dX11_init_177 rfl (lv_at hl 2 rfl) ?_
  refine lv_aload_n hx hb dX11_init_178 rfl (lv_at hl 2 rfl) ?_
  refine va_get (D := (dC, dI)) (ci := 11) (v := Value.ref q_65) (C := RX11) (T := TX11) (N := 14) hx hb hts inX11 hown hK hP 0 rfl rfl 1 (by decide) (hts _ (gw kw_227 rfl)) (fun _ h9 => h9) rfl dX11_init_179 ?_
  refine va_get (D := (dC, dI)) (ci := 9) (v := Value.ref q_82) (C := RX9) (T := TX9) (N := 14) hx hb hts inX9 hown hK hP 38 rfl rfl 6 (by decide) (hts _ (gw kw_163 rfl)) (fun _ h9 => h9) rfl dX11_init_182 ?_
  refine va_putF (D := (dC, dI)) (ci := 11) (v := Value.ref q_82) (ty := .object "EldestSays$Evening") (C := RX11) (T := TX11) (N := 14) hx hb hts inX11 tyX11 tyX11_ok nmX11 hown hK hP hD hS 0 rfl rfl 3 (by decide) (hts _ (gw kw_229 rfl)) (fun _ h9 => h9) rfl hin rfl (by decide +kernel) rfl rfl (Nat.le_of_ble_eq_true rfl) dX11_init_185 (fun H locs hP hD hS => ?_)
  have hpd9 : PDx (dC, dI) classes A H (wp [cO h0 11 [Value.ref q_38, Value.ref q_65, Value.ref q_55, Value.ref q_82, Value.ref q_1, Value.ref q_9, Value.null, Value.ref q_12, Value.ref q_13, Value.ref q_14, Value.ref q_15, Value.int 0, Value.int 0, Value.int 1], oX4 q_1 q_4 q_5 q_6 q_7 q_8 0 0 0, cI aC q_4 8 (fun _ => 0), cI aC q_5 8 (fun _ => 0), cI aC q_6 8 (fun _ => 0), cI aC q_7 8 (fun _ => 0), cI aC q_8 5 u_3, oX7 q_9 0 q_11, cC aC q_11 64 (fun _ => 0), cI aC q_12 8 (fun _ => 0), cI aC q_13 8 (fun _ => 0), cI aC q_14 7 (fun _ => 0), cL aC q_15 73 (fun _ => 0), cO q_16 0 [], cK aC q_18 7 (va_up (va_up (va_up (va_up (va_up (va_up (va_up (fun _ => none) (0 : Int32).toNatClampNeg (some q_16)) (1 : Int32).toNatClampNeg (some q_20)) (2 : Int32).toNatClampNeg (some q_23)) (3 : Int32).toNatClampNeg (some q_26)) (4 : Int32).toNatClampNeg (some q_29)) (5 : Int32).toNatClampNeg (some q_32)) (6 : Int32).toNatClampNeg (some q_35)), cO q_20 1 [], cO q_23 3 [], cO q_26 5 [], cO q_29 6 [], cO q_32 10 [], cO q_35 8 [], oX9 q_38 q_49 q_50 q_51 q_52 q_53 q_54 q_55 q_18 q_56 q_57 q_58 q_59 0 0, cA aC q_49 8 u_46, cA aC q_50 8 u_47, cA aC q_51 8 u_48, cI aC q_52 8 (fun _ => 0), cI aC q_53 8 (fun _ => 0), cI aC q_54 8 (fun _ => 0), oX4 q_55 q_60 q_61 q_62 q_63 q_64 0 0 0, cI aC q_60 8 (fun _ => 0), cI aC q_61 8 (fun _ => 0), cI aC q_62 8 (fun _ => 0), cI aC q_63 8 (fun _ => 0), cI aC q_64 5 u_40, cI aC q_56 7 (fun _ => 0), cI aC q_57 7 (fun _ => 0), cI aC q_58 128 (fun _ => 0), cI aC q_59 128 (fun _ => 0), oX9 q_65 q_76 q_77 q_78 q_79 q_80 q_81 q_82 q_18 q_83 q_84 q_85 q_86 0 0, cA aC q_76 8 u_73, cA aC q_77 8 u_74, cA aC q_78 8 u_75, cI aC q_79 8 (fun _ => 0), cI aC q_80 8 (fun _ => 0), cI aC q_81 8 (fun _ => 0), oX4 q_82 q_87 q_88 q_89 q_90 q_91 0 0 0, cI aC q_87 8 (fun _ => 0), cI aC q_88 8 (fun _ => 0), cI aC q_89 8 (fun _ => 0), cI aC q_90 8 (fun _ => 0), cI aC q_91 5 u_67, cI aC q_83 7 (fun _ => 0), cI aC q_84 7 (fun _ => 0), cI aC q_85 128 (fun _ => 0), cI aC q_86 128 (fun _ => 0)] (va_pl u_68 (plE aC u_69))) := ⟨hP, hD⟩
  have hP := hpd9.1
  have hD := hpd9.2
  clear hpd9
  refine lv_aload_n hx hb dX11_init_188 rfl (lv_at hl 2 rfl) ?_
  refine va_new (ci := 2) (fs := [Value.null, Value.null, Value.null, Value.null, Value.int 0, Value.int 0]) (C := RX2) (T := TX2) (N := 6) hx hb hts inX2 tyX2 tyX2_ok hown (hts _ (gw kw_200 rfl)) (hts _ (gw kw_201 rfl)) (hts _ (gw kw_12 rfl)) hK hP hD hS hA rfl (fun j hj => by have h9 : j = 0 ∨ j = 1 ∨ j = 2 ∨ j = 3 ∨ j = 4 ∨ j = 5 := (by omega); rcases h9 with rfl | rfl | rfl | rfl | rfl | rfl <;> rfl) (Nat.le_of_ble_eq_true rfl) (Nat.le_of_ble_eq_true rfl) dX11_init_189 (fun q_92 H hP hD hS => ?_)
  have hP := va_P.swap (a := [cO h0 11 [Value.ref q_38, Value.ref q_65, Value.ref q_55, Value.ref q_82, Value.ref q_1, Value.ref q_9, Value.null, Value.ref q_12, Value.ref q_13, Value.ref q_14, Value.ref q_15, Value.int 0, Value.int 0, Value.int 1], oX4 q_1 q_4 q_5 q_6 q_7 q_8 0 0 0, cI aC q_4 8 (fun _ => 0), cI aC q_5 8 (fun _ => 0), cI aC q_6 8 (fun _ => 0), cI aC q_7 8 (fun _ => 0), cI aC q_8 5 u_3, oX7 q_9 0 q_11, cC aC q_11 64 (fun _ => 0), cI aC q_12 8 (fun _ => 0), cI aC q_13 8 (fun _ => 0), cI aC q_14 7 (fun _ => 0), cL aC q_15 73 (fun _ => 0), cO q_16 0 [], cK aC q_18 7 (va_up (va_up (va_up (va_up (va_up (va_up (va_up (fun _ => none) (0 : Int32).toNatClampNeg (some q_16)) (1 : Int32).toNatClampNeg (some q_20)) (2 : Int32).toNatClampNeg (some q_23)) (3 : Int32).toNatClampNeg (some q_26)) (4 : Int32).toNatClampNeg (some q_29)) (5 : Int32).toNatClampNeg (some q_32)) (6 : Int32).toNatClampNeg (some q_35)), cO q_20 1 [], cO q_23 3 [], cO q_26 5 [], cO q_29 6 [], cO q_32 10 [], cO q_35 8 [], oX9 q_38 q_49 q_50 q_51 q_52 q_53 q_54 q_55 q_18 q_56 q_57 q_58 q_59 0 0, cA aC q_49 8 u_46, cA aC q_50 8 u_47, cA aC q_51 8 u_48, cI aC q_52 8 (fun _ => 0), cI aC q_53 8 (fun _ => 0), cI aC q_54 8 (fun _ => 0), oX4 q_55 q_60 q_61 q_62 q_63 q_64 0 0 0, cI aC q_60 8 (fun _ => 0), cI aC q_61 8 (fun _ => 0), cI aC q_62 8 (fun _ => 0), cI aC q_63 8 (fun _ => 0), cI aC q_64 5 u_40, cI aC q_56 7 (fun _ => 0), cI aC q_57 7 (fun _ => 0), cI aC q_58 128 (fun _ => 0), cI aC q_59 128 (fun _ => 0), oX9 q_65 q_76 q_77 q_78 q_79 q_80 q_81 q_82 q_18 q_83 q_84 q_85 q_86 0 0, cA aC q_76 8 u_73, cA aC q_77 8 u_74, cA aC q_78 8 u_75, cI aC q_79 8 (fun _ => 0), cI aC q_80 8 (fun _ => 0), cI aC q_81 8 (fun _ => 0), oX4 q_82 q_87 q_88 q_89 q_90 q_91 0 0 0, cI aC q_87 8 (fun _ => 0), cI aC q_88 8 (fun _ => 0), cI aC q_89 8 (fun _ => 0), cI aC q_90 8 (fun _ => 0), cI aC q_91 5 u_67, cI aC q_83 7 (fun _ => 0), cI aC q_84 7 (fun _ => 0), cI aC q_85 128 (fun _ => 0), cI aC q_86 128 (fun _ => 0)]) (b := va_pl u_68 (plE aC u_69)) (c := [cO q_92 2 [Value.null, Value.null, Value.null, Value.null, Value.int 0, Value.int 0]]) hP
  have hD := va_D.swap (a := [cO h0 11 [Value.ref q_38, Value.ref q_65, Value.ref q_55, Value.ref q_82, Value.ref q_1, Value.ref q_9, Value.null, Value.ref q_12, Value.ref q_13, Value.ref q_14, Value.ref q_15, Value.int 0, Value.int 0, Value.int 1], oX4 q_1 q_4 q_5 q_6 q_7 q_8 0 0 0, cI aC q_4 8 (fun _ => 0), cI aC q_5 8 (fun _ => 0), cI aC q_6 8 (fun _ => 0), cI aC q_7 8 (fun _ => 0), cI aC q_8 5 u_3, oX7 q_9 0 q_11, cC aC q_11 64 (fun _ => 0), cI aC q_12 8 (fun _ => 0), cI aC q_13 8 (fun _ => 0), cI aC q_14 7 (fun _ => 0), cL aC q_15 73 (fun _ => 0), cO q_16 0 [], cK aC q_18 7 (va_up (va_up (va_up (va_up (va_up (va_up (va_up (fun _ => none) (0 : Int32).toNatClampNeg (some q_16)) (1 : Int32).toNatClampNeg (some q_20)) (2 : Int32).toNatClampNeg (some q_23)) (3 : Int32).toNatClampNeg (some q_26)) (4 : Int32).toNatClampNeg (some q_29)) (5 : Int32).toNatClampNeg (some q_32)) (6 : Int32).toNatClampNeg (some q_35)), cO q_20 1 [], cO q_23 3 [], cO q_26 5 [], cO q_29 6 [], cO q_32 10 [], cO q_35 8 [], oX9 q_38 q_49 q_50 q_51 q_52 q_53 q_54 q_55 q_18 q_56 q_57 q_58 q_59 0 0, cA aC q_49 8 u_46, cA aC q_50 8 u_47, cA aC q_51 8 u_48, cI aC q_52 8 (fun _ => 0), cI aC q_53 8 (fun _ => 0), cI aC q_54 8 (fun _ => 0), oX4 q_55 q_60 q_61 q_62 q_63 q_64 0 0 0, cI aC q_60 8 (fun _ => 0), cI aC q_61 8 (fun _ => 0), cI aC q_62 8 (fun _ => 0), cI aC q_63 8 (fun _ => 0), cI aC q_64 5 u_40, cI aC q_56 7 (fun _ => 0), cI aC q_57 7 (fun _ => 0), cI aC q_58 128 (fun _ => 0), cI aC q_59 128 (fun _ => 0), oX9 q_65 q_76 q_77 q_78 q_79 q_80 q_81 q_82 q_18 q_83 q_84 q_85 q_86 0 0, cA aC q_76 8 u_73, cA aC q_77 8 u_74, cA aC q_78 8 u_75, cI aC q_79 8 (fun _ => 0), cI aC q_80 8 (fun _ => 0), cI aC q_81 8 (fun _ => 0), oX4 q_82 q_87 q_88 q_89 q_90 q_91 0 0 0, cI aC q_87 8 (fun _ => 0), cI aC q_88 8 (fun _ => 0), cI aC q_89 8 (fun _ => 0), cI aC q_90 8 (fun _ => 0), cI aC q_91 5 u_67, cI aC q_83 7 (fun _ => 0), cI aC q_84 7 (fun _ => 0), cI aC q_85 128 (fun _ => 0), cI aC q_86 128 (fun _ => 0)]) (b := va_pl u_68 (plE aC u_69)) (c := [cO q_92 2 [Value.null, Value.null, Value.null, Value.null, Value.int 0, Value.int 0]]) hD
  have hpd9 : PDx (dC, dI) classes A H (wp [cO h0 11 [Value.ref q_38, Value.ref q_65, Value.ref q_55, Value.ref q_82, Value.ref q_1, Value.ref q_9, Value.null, Value.ref q_12, Value.ref q_13, Value.ref q_14, Value.ref q_15, Value.int 0, Value.int 0, Value.int 1], oX4 q_1 q_4 q_5 q_6 q_7 q_8 0 0 0, cI aC q_4 8 (fun _ => 0), cI aC q_5 8 (fun _ => 0), cI aC q_6 8 (fun _ => 0), cI aC q_7 8 (fun _ => 0), cI aC q_8 5 u_3, oX7 q_9 0 q_11, cC aC q_11 64 (fun _ => 0), cI aC q_12 8 (fun _ => 0), cI aC q_13 8 (fun _ => 0), cI aC q_14 7 (fun _ => 0), cL aC q_15 73 (fun _ => 0), cO q_16 0 [], cK aC q_18 7 (va_up (va_up (va_up (va_up (va_up (va_up (va_up (fun _ => none) (0 : Int32).toNatClampNeg (some q_16)) (1 : Int32).toNatClampNeg (some q_20)) (2 : Int32).toNatClampNeg (some q_23)) (3 : Int32).toNatClampNeg (some q_26)) (4 : Int32).toNatClampNeg (some q_29)) (5 : Int32).toNatClampNeg (some q_32)) (6 : Int32).toNatClampNeg (some q_35)), cO q_20 1 [], cO q_23 3 [], cO q_26 5 [], cO q_29 6 [], cO q_32 10 [], cO q_35 8 [], oX9 q_38 q_49 q_50 q_51 q_52 q_53 q_54 q_55 q_18 q_56 q_57 q_58 q_59 0 0, cA aC q_49 8 u_46, cA aC q_50 8 u_47, cA aC q_51 8 u_48, cI aC q_52 8 (fun _ => 0), cI aC q_53 8 (fun _ => 0), cI aC q_54 8 (fun _ => 0), oX4 q_55 q_60 q_61 q_62 q_63 q_64 0 0 0, cI aC q_60 8 (fun _ => 0), cI aC q_61 8 (fun _ => 0), cI aC q_62 8 (fun _ => 0), cI aC q_63 8 (fun _ => 0), cI aC q_64 5 u_40, cI aC q_56 7 (fun _ => 0), cI aC q_57 7 (fun _ => 0), cI aC q_58 128 (fun _ => 0), cI aC q_59 128 (fun _ => 0), oX9 q_65 q_76 q_77 q_78 q_79 q_80 q_81 q_82 q_18 q_83 q_84 q_85 q_86 0 0, cA aC q_76 8 u_73, cA aC q_77 8 u_74, cA aC q_78 8 u_75, cI aC q_79 8 (fun _ => 0), cI aC q_80 8 (fun _ => 0), cI aC q_81 8 (fun _ => 0), oX4 q_82 q_87 q_88 q_89 q_90 q_91 0 0 0, cI aC q_87 8 (fun _ => 0), cI aC q_88 8 (fun _ => 0), cI aC q_89 8 (fun _ => 0), cI aC q_90 8 (fun _ => 0), cI aC q_91 5 u_67, cI aC q_83 7 (fun _ => 0), cI aC q_84 7 (fun _ => 0), cI aC q_85 128 (fun _ => 0), cI aC q_86 128 (fun _ => 0), cO q_92 2 [Value.null, Value.null, Value.null, Value.null, Value.int 0, Value.int 0]] (va_pl u_68 (plE aC u_69))) := ⟨hP, hD⟩
  have hP := hpd9.1
  have hD := hpd9.2
  clear hpd9
  refine W.widen (k := 103) (n := 1358) (by omega) (by omega) ?_
  refine lv_dup hx hb dX11_init_192 rfl ?_
  refine lv_aload_n hx hb dX11_init_193 rfl (lv_at hl 1 rfl) ?_
  have hpd9 := pdf_N (cx := [cO q_92 2 [Value.null, Value.null, Value.null, Value.null, Value.int 0, Value.int 0]]) hP hD hS hA [55] (by decide) rfl
  have hPc := hpd9.1
  have hDc := hpd9.2.1
  have hFc := hpd9.2.2
  clear hpd9
  refine va_callv (va_runI (As := [Value.ref q_16]) (rest := [Value.ref q_92, Value.ref h0]) ⟨hx, hb, hml, hown, hts⟩ (c_X2_init l dC dI aC H.size q_92 q_16 ) ⟨(callB_of 1 hts (gG kw_204) rfl rfl rfl (hts _ (gw kw_12 rfl)) (hts _ (gw kw_202 rfl)) hd_X2_init ⟨Nat.le_of_ble_eq_true rfl, Nat.le_of_ble_eq_true rfl⟩), rfl, (hts _ (gw kw_203 rfl))⟩ ⟨fb_std, pre_std hPc hK hDc hN⟩ rfl rfl hl.1 rfl (lv_room (Nat.le_of_ble_eq_true rfl)) dX11_init_194 ⟨Nat.le_of_ble_eq_true rfl, Nat.le_of_ble_eq_true rfl⟩) hS (fun q _ h => hFc q h) hFc (fun u9 t9 H1 locs ht hvm hw_93 hB hz1 hk1 hS => ?_)
  obtain ⟨q_94, q_95, q_96, hP1, hK1, hD1⟩ := hB
  rw [ht] at hP1
  clear hK1
  try dsimp only at hw_93
  have hpd9 : PDx (dC, dI) classes A H1 (wp [cO h0 11 [Value.ref q_38, Value.ref q_65, Value.ref q_55, Value.ref q_82, Value.ref q_1, Value.ref q_9, Value.null, Value.ref q_12, Value.ref q_13, Value.ref q_14, Value.ref q_15, Value.int 0, Value.int 0, Value.int 1], oX4 q_1 q_4 q_5 q_6 q_7 q_8 0 0 0, cI aC q_4 8 (fun _ => 0), cI aC q_5 8 (fun _ => 0), cI aC q_6 8 (fun _ => 0), cI aC q_7 8 (fun _ => 0), cI aC q_8 5 u_3, oX7 q_9 0 q_11, cC aC q_11 64 (fun _ => 0), cI aC q_12 8 (fun _ => 0), cI aC q_13 8 (fun _ => 0), cI aC q_14 7 (fun _ => 0), cL aC q_15 73 (fun _ => 0), cO q_16 0 [], cK aC q_18 7 (va_up (va_up (va_up (va_up (va_up (va_up (va_up (fun _ => none) (0 : Int32).toNatClampNeg (some q_16)) (1 : Int32).toNatClampNeg (some q_20)) (2 : Int32).toNatClampNeg (some q_23)) (3 : Int32).toNatClampNeg (some q_26)) (4 : Int32).toNatClampNeg (some q_29)) (5 : Int32).toNatClampNeg (some q_32)) (6 : Int32).toNatClampNeg (some q_35)), cO q_20 1 [], cO q_23 3 [], cO q_26 5 [], cO q_29 6 [], cO q_32 10 [], cO q_35 8 [], oX9 q_38 q_49 q_50 q_51 q_52 q_53 q_54 q_55 q_18 q_56 q_57 q_58 q_59 0 0, cA aC q_49 8 u_46, cA aC q_50 8 u_47, cA aC q_51 8 u_48, cI aC q_52 8 (fun _ => 0), cI aC q_53 8 (fun _ => 0), cI aC q_54 8 (fun _ => 0), oX4 q_55 q_60 q_61 q_62 q_63 q_64 0 0 0, cI aC q_60 8 (fun _ => 0), cI aC q_61 8 (fun _ => 0), cI aC q_62 8 (fun _ => 0), cI aC q_63 8 (fun _ => 0), cI aC q_64 5 u_40, cI aC q_56 7 (fun _ => 0), cI aC q_57 7 (fun _ => 0), cI aC q_58 128 (fun _ => 0), cI aC q_59 128 (fun _ => 0), oX9 q_65 q_76 q_77 q_78 q_79 q_80 q_81 q_82 q_18 q_83 q_84 q_85 q_86 0 0, cA aC q_76 8 u_73, cA aC q_77 8 u_74, cA aC q_78 8 u_75, cI aC q_79 8 (fun _ => 0), cI aC q_80 8 (fun _ => 0), cI aC q_81 8 (fun _ => 0), oX4 q_82 q_87 q_88 q_89 q_90 q_91 0 0 0, cI aC q_87 8 (fun _ => 0), cI aC q_88 8 (fun _ => 0), cI aC q_89 8 (fun _ => 0), cI aC q_90 8 (fun _ => 0), cI aC q_91 5 u_67, cI aC q_83 7 (fun _ => 0), cI aC q_84 7 (fun _ => 0), cI aC q_85 128 (fun _ => 0), cI aC q_86 128 (fun _ => 0), oX2 q_92 q_94 q_95 q_96 q_16 0 0, cI aC q_94 60 (fun _ => 0), cI aC q_95 60 (fun _ => 0), cI aC q_96 60 (fun _ => 0)] (va_pl u_68 (plE aC u_69))) := jn_Q (wr := [cO h0 11 [Value.ref q_38, Value.ref q_65, Value.ref q_55, Value.ref q_82, Value.ref q_1, Value.ref q_9, Value.null, Value.ref q_12, Value.ref q_13, Value.ref q_14, Value.ref q_15, Value.int 0, Value.int 0, Value.int 1], oX4 q_1 q_4 q_5 q_6 q_7 q_8 0 0 0, cI aC q_4 8 (fun _ => 0), cI aC q_5 8 (fun _ => 0), cI aC q_6 8 (fun _ => 0), cI aC q_7 8 (fun _ => 0), cI aC q_8 5 u_3, oX7 q_9 0 q_11, cC aC q_11 64 (fun _ => 0), cI aC q_12 8 (fun _ => 0), cI aC q_13 8 (fun _ => 0), cI aC q_14 7 (fun _ => 0), cL aC q_15 73 (fun _ => 0), cO q_16 0 [], cK aC q_18 7 (va_up (va_up (va_up (va_up (va_up (va_up (va_up (fun _ => none) (0 : Int32).toNatClampNeg (some q_16)) (1 : Int32).toNatClampNeg (some q_20)) (2 : Int32).toNatClampNeg (some q_23)) (3 : Int32).toNatClampNeg (some q_26)) (4 : Int32).toNatClampNeg (some q_29)) (5 : Int32).toNatClampNeg (some q_32)) (6 : Int32).toNatClampNeg (some q_35)), cO q_20 1 [], cO q_23 3 [], cO q_26 5 [], cO q_29 6 [], cO q_32 10 [], cO q_35 8 [], oX9 q_38 q_49 q_50 q_51 q_52 q_53 q_54 q_55 q_18 q_56 q_57 q_58 q_59 0 0, cA aC q_49 8 u_46, cA aC q_50 8 u_47, cA aC q_51 8 u_48, cI aC q_52 8 (fun _ => 0), cI aC q_53 8 (fun _ => 0), cI aC q_54 8 (fun _ => 0), oX4 q_55 q_60 q_61 q_62 q_63 q_64 0 0 0, cI aC q_60 8 (fun _ => 0), cI aC q_61 8 (fun _ => 0), cI aC q_62 8 (fun _ => 0), cI aC q_63 8 (fun _ => 0), cI aC q_64 5 u_40, cI aC q_56 7 (fun _ => 0), cI aC q_57 7 (fun _ => 0), cI aC q_58 128 (fun _ => 0), cI aC q_59 128 (fun _ => 0), oX9 q_65 q_76 q_77 q_78 q_79 q_80 q_81 q_82 q_18 q_83 q_84 q_85 q_86 0 0, cA aC q_76 8 u_73, cA aC q_77 8 u_74, cA aC q_78 8 u_75, cI aC q_79 8 (fun _ => 0), cI aC q_80 8 (fun _ => 0), cI aC q_81 8 (fun _ => 0), oX4 q_82 q_87 q_88 q_89 q_90 q_91 0 0 0, cI aC q_87 8 (fun _ => 0), cI aC q_88 8 (fun _ => 0), cI aC q_89 8 (fun _ => 0), cI aC q_90 8 (fun _ => 0), cI aC q_91 5 u_67, cI aC q_83 7 (fun _ => 0), cI aC q_84 7 (fun _ => 0), cI aC q_85 128 (fun _ => 0), cI aC q_86 128 (fun _ => 0)]) hFc hk1 hP1 hD1 hP hD [55] [0, 1, 2, 3, 4, 5, 6, 7, 8, 9, 10, 11, 12, 13, 14, 15, 16, 17, 18, 19, 20, 21, 22, 23, 24, 25, 26, 27, 28, 29, 30, 31, 32, 33, 34, 35, 36, 37, 38, 39, 40, 41, 42, 43, 44, 45, 46, 47, 48, 49, 50, 51, 52, 53, 54] rfl rfl (by decide) (by decide)
  have hP := hpd9.1
  have hD := hpd9.2
  clear hpd9
  generalize H1 = H at hP hS ⊢
  clear hPc hDc hFc hz1 hk1 hP1 hD1 ht hvm
  refine W.widen (k := 106) (n := 1538) (by omega) (by omega) ?_
  refine va_putF (D := (dC, dI)) (ci := 11) (v := Value.ref q_92) (ty := .object "EldestSays$Crowd") (C := RX11) (T := TX11) (N := 14) hx hb hts inX11 tyX11 tyX11_ok nmX11 hown hK hP hD hS 0 rfl rfl 6 (by decide) (hts _ (gw kw_232 rfl)) (fun _ h9 => h9) rfl hin rfl (by decide +kernel) rfl rfl (Nat.le_of_ble_eq_true rfl) dX11_init_197 (fun H locs hP hD hS => ?_)
  have hpd9 : PDx (dC, dI) classes A H (wp [oX11 h0 q_38 q_65 q_55 q_82 q_1 q_9 q_92 q_12 q_13 q_14 q_15 0 0 1, oX4 q_1 q_4 q_5 q_6 q_7 q_8 0 0 0, cI aC q_4 8 (fun _ => 0), cI aC q_5 8 (fun _ => 0), cI aC q_6 8 (fun _ => 0), cI aC q_7 8 (fun _ => 0), cI aC q_8 5 u_3, oX7 q_9 0 q_11, cC aC q_11 64 (fun _ => 0), cI aC q_12 8 (fun _ => 0), cI aC q_13 8 (fun _ => 0), cI aC q_14 7 (fun _ => 0), cL aC q_15 73 (fun _ => 0), cO q_16 0 [], cK aC q_18 7 (va_up (va_up (va_up (va_up (va_up (va_up (va_up (fun _ => none) (0 : Int32).toNatClampNeg (some q_16)) (1 : Int32).toNatClampNeg (some q_20)) (2 : Int32).toNatClampNeg (some q_23)) (3 : Int32).toNatClampNeg (some q_26)) (4 : Int32).toNatClampNeg (some q_29)) (5 : Int32).toNatClampNeg (some q_32)) (6 : Int32).toNatClampNeg (some q_35)), cO q_20 1 [], cO q_23 3 [], cO q_26 5 [], cO q_29 6 [], cO q_32 10 [], cO q_35 8 [], oX9 q_38 q_49 q_50 q_51 q_52 q_53 q_54 q_55 q_18 q_56 q_57 q_58 q_59 0 0, cA aC q_49 8 u_46, cA aC q_50 8 u_47, cA aC q_51 8 u_48, cI aC q_52 8 (fun _ => 0), cI aC q_53 8 (fun _ => 0), cI aC q_54 8 (fun _ => 0), oX4 q_55 q_60 q_61 q_62 q_63 q_64 0 0 0, cI aC q_60 8 (fun _ => 0), cI aC q_61 8 (fun _ => 0), cI aC q_62 8 (fun _ => 0), cI aC q_63 8 (fun _ => 0), cI aC q_64 5 u_40, cI aC q_56 7 (fun _ => 0), cI aC q_57 7 (fun _ => 0), cI aC q_58 128 (fun _ => 0), cI aC q_59 128 (fun _ => 0), oX9 q_65 q_76 q_77 q_78 q_79 q_80 q_81 q_82 q_18 q_83 q_84 q_85 q_86 0 0, cA aC q_76 8 u_73, cA aC q_77 8 u_74, cA aC q_78 8 u_75, cI aC q_79 8 (fun _ => 0), cI aC q_80 8 (fun _ => 0), cI aC q_81 8 (fun _ => 0), oX4 q_82 q_87 q_88 q_89 q_90 q_91 0 0 0, cI aC q_87 8 (fun _ => 0), cI aC q_88 8 (fun _ => 0), cI aC q_89 8 (fun _ => 0), cI aC q_90 8 (fun _ => 0), cI aC q_91 5 u_67, cI aC q_83 7 (fun _ => 0), cI aC q_84 7 (fun _ => 0), cI aC q_85 128 (fun _ => 0), cI aC q_86 128 (fun _ => 0), oX2 q_92 q_94 q_95 q_96 q_16 0 0, cI aC q_94 60 (fun _ => 0), cI aC q_95 60 (fun _ => 0), cI aC q_96 60 (fun _ => 0)] (va_pl u_68 (plE aC u_69))) := ⟨hP, hD⟩
  have hP := hpd9.1
  have hD := hpd9.2
  clear hpd9
  have hpd9 := pd_P (cx := [oX11 h0 q_38 q_65 q_55 q_82 q_1 q_9 q_92 q_12 q_13 q_14 q_15 0 0 1, oX9 q_38 q_49 q_50 q_51 q_52 q_53 q_54 q_55 q_18 q_56 q_57 q_58 q_59 0 0, oX4 q_55 q_60 q_61 q_62 q_63 q_64 0 0 0, cI aC q_60 8 (fun _ => 0), cI aC q_61 8 (fun _ => 0), cI aC q_62 8 (fun _ => 0), cI aC q_63 8 (fun _ => 0), cI aC q_64 5 u_40, cA aC q_49 8 u_46, cA aC q_50 8 u_47, cA aC q_51 8 u_48, cK aC q_18 7 (va_up (va_up (va_up (va_up (va_up (va_up (va_up (fun _ => none) (0 : Int32).toNatClampNeg (some q_16)) (1 : Int32).toNatClampNeg (some q_20)) (2 : Int32).toNatClampNeg (some q_23)) (3 : Int32).toNatClampNeg (some q_26)) (4 : Int32).toNatClampNeg (some q_29)) (5 : Int32).toNatClampNeg (some q_32)) (6 : Int32).toNatClampNeg (some q_35)), cO q_16 0 [], cO q_20 1 [], cO q_23 3 [], cO q_26 5 [], cO q_29 6 [], cO q_32 10 [], cO q_35 8 [], cI aC q_52 8 (fun _ => 0), cI aC q_53 8 (fun _ => 0), cI aC q_54 8 (fun _ => 0), cI aC q_56 7 (fun _ => 0), cI aC q_57 7 (fun _ => 0), cI aC q_58 128 (fun _ => 0), cI aC q_59 128 (fun _ => 0), oX4 q_82 q_87 q_88 q_89 q_90 q_91 0 0 0, cI aC q_87 8 (fun _ => 0), cI aC q_88 8 (fun _ => 0), cI aC q_89 8 (fun _ => 0), cI aC q_90 8 (fun _ => 0), cI aC q_91 5 u_67, oX9 q_65 q_76 q_77 q_78 q_79 q_80 q_81 q_82 q_18 q_83 q_84 q_85 q_86 0 0, cA aC q_76 8 u_73, cA aC q_77 8 u_74, cA aC q_78 8 u_75, cI aC q_79 8 (fun _ => 0), cI aC q_80 8 (fun _ => 0), cI aC q_81 8 (fun _ => 0), cI aC q_83 7 (fun _ => 0), cI aC q_84 7 (fun _ => 0), cI aC q_85 128 (fun _ => 0), cI aC q_86 128 (fun _ => 0), oX4 q_1 q_4 q_5 q_6 q_7 q_8 0 0 0, cI aC q_4 8 (fun _ => 0), cI aC q_5 8 (fun _ => 0), cI aC q_6 8 (fun _ => 0), cI aC q_7 8 (fun _ => 0), cI aC q_8 5 u_3, oX7 q_9 0 q_11, cC aC q_11 64 (fun _ => 0), oX2 q_92 q_94 q_95 q_96 q_16 0 0, cI aC q_94 60 (fun _ => 0), cI aC q_95 60 (fun _ => 0), cI aC q_96 60 (fun _ => 0), cI aC q_12 8 (fun _ => 0), cI aC q_13 8 (fun _ => 0), cI aC q_14 7 (fun _ => 0), cL aC q_15 73 (fun _ => 0)]) hP hD [0, 21, 28, 29, 30, 31, 32, 33, 22, 23, 24, 14, 13, 15, 16, 17, 18, 19, 20, 25, 26, 27, 34, 35, 36, 37, 45, 46, 47, 48, 49, 50, 38, 39, 40, 41, 42, 43, 44, 51, 52, 53, 54, 1, 2, 3, 4, 5, 6, 7, 8, 55, 56, 57, 58, 9, 10, 11, 12] (by decide) rfl
  have hP9 := hpd9.1
  have hD9 := hpd9.2
  refine W.widen (k := 106) (n := 1538) (by omega) (by omega) ?_
  exact W.vret hx hb hr (fun t ht hW => ⟨⟨(u_40, u_67, u_3, u_68, u_69, u_43, u_44, u_45, u_70, u_71, u_72, u_46, u_47, u_48, u_73, u_74, u_75, (va_up (va_up (va_up (va_up (va_up (va_up (va_up (fun _ => none) (0 : Int32).toNatClampNeg (some q_16)) (1 : Int32).toNatClampNeg (some q_20)) (2 : Int32).toNatClampNeg (some q_23)) (3 : Int32).toNatClampNeg (some q_26)) (4 : Int32).toNatClampNeg (some q_29)) (5 : Int32).toNatClampNeg (some q_32)) (6 : Int32).toNatClampNeg (some q_35)), q_16, q_20, q_23, q_26, q_29, q_32, q_35), rfl, ⟨⟨hp148.1, hp160.1, hk9⟩, GRD_mono hp148.2.1 hp160.2.2.1, hp160.2.1, DIS_mk hp148.2.1 hp160.2.2.2, by refine ⟨?_, ?_, ?_, ?_, ?_, ?_, ?_⟩ <;> rfl⟩, q_38, q_65, q_55, q_82, q_1, q_9, q_92, q_12, q_13, q_14, q_15, q_60, q_61, q_62, q_63, q_64, q_87, q_88, q_89, q_90, q_91, q_4, q_5, q_6, q_7, q_8, q_49, q_50, q_51, q_52, q_53, q_54, q_18, q_56, q_57, q_58, q_59, q_76, q_77, q_78, q_79, q_80, q_81, q_83, q_84, q_85, q_86, q_11, q_94, q_95, q_96, by rw [ht]; exact hP9, va_K.moved hW.alike hK, hD9⟩, hS.F ht⟩) hS.2.2 dX11_init_200

end

