/-- what a new object has -/
def SET0 : Nat → Int32 := upd (upd (upd (upd (upd (fun _ => 0) 0 10) 1 0) 2 0) 3 0) 4 10
section PLN9
variable {p : Program} {l : Launch} {e : Env} {R : Room} {s : State} {m : MethodId} {args : Array Value} {below : List Frame} {meth : Method} {c : Code} {H : Heap} {locs : List Loc} {cells slots : Nat} {Q : State → Prop}
variable {cc : ByteArray} {pc : Nat} {ls : Array Slot} {rest : List Value} {D : va_G} {cl : List vw_C} {A : Nat → Prop} {aC : Nat → ClassId} {X : va_W} {H0 : Heap} {L : List Nat} {g : Nat → Nat → Int32}
/-- int[8][8] into the pool -/
theorem pl_mna (hexec : p.tables.exec = Jvm.exec) (hb : c.code = cc) {own : String} {index : Nat} (hown : s.vm.findClass own = some m.cls) (hclink : (Cond.classLink own index ("[" ++ (FieldType.array .int).toString)).before args s = true) (hover : (Cond.arrayOver (.array .int)).before args s = true) (harr : (Cond.arrayClass .int).before args s = true)
    (hK : va_K D cl (TY aC) s) (hP : va_P D cl (X ++ va_pl L (plE aC g)) H) (hD : va_D A (X ++ va_pl L (plE aC g))) (hS : va_S A H0 H locs) (hA : ∀ q, H0.size ≤ q → A q) (hcells : cells + 9 ≤ R.cells) (hslots : slots + 72 ≤ R.slots) (hdg : decode cc pc = .ok (.multianewarray index 2, 4))
    (kk : ∀ (q : Nat) (r : Nat → Nat) (L1 : List Nat) (g1 : Nat → Nat → Int32) (H1 : Heap), (∀ i j : Nat, i < 8 → j < 8 → r i = r j → i = j) → (∀ i : Nat, i < 8 → r i ∉ L ∧ r i ∈ L1) → (∀ a : Nat, a ∈ L → a ∈ L1) →
      va_P D cl ((X ++ [(q, .inl (aC 4, 8, .inr (.inr (.inr (.inr (fun i => if i < 8 then some (r i) else none))))))]) ++ va_pl L1 (plE aC g1)) H1 → va_D A ((X ++ [(q, .inl (aC 4, 8, .inr (.inr (.inr (.inr (fun i => if i < 8 then some (r i) else none))))))]) ++ va_pl L1 (plE aC g1)) → va_S A H0 H1 locs →
      W p l e R s m args below meth c H1 locs (cells + 1 + 8) (slots + 8 + 8 * 8) Q (F0 m (pc + 4) ls (.ref q :: rest))) : W p l e R s m args below meth c H locs cells slots Q (F0 m pc ls (.int 8 :: .int 8 :: rest)) := by
  have hcy : s.vm.findClass (FieldType.array .int).toString = some (aC 0) := (hK.2 0 _ rfl).2
  refine va_mna (X := X) (L := L) (f := plE aC g) (N' := 8) (K' := 8) (z := (8, .inl (fun _ => 0))) (ty := .int) hexec hb hown hclink hover harr hcy hK hP hD hS hA (by decide) (by decide) (by decide) (by decide) (by decide) (by decide) (by decide) rfl rfl hcells hslots (fun c => by show _ = arrV c 8 (fun _ => .int 0); rw [← arrV_new]; rfl) hdg (fun q r cA H1 k0 k9 k1 k2 k3 k4 => ?_)
  have h9 : cA = aC 4 := k1.one (i := 5) (j := 4) rfl rfl
  subst h9
  have e9 : vr_up (plE aC g) ((List.range 8).map r) (.inl (aC 0, (8, .inl (fun _ => 0)))) = plE aC (vr_up g ((List.range 8).map r) (fun _ => 0)) := by
    funext a
    by_cases h : a ∈ (List.range 8).map r
    · rw [vr_up_in h]; show _ = Sum.inl (aC 0, 8, Sum.inl (vr_up g ((List.range 8).map r) (fun _ => 0) a)); rw [vr_up_in h]
    · rw [vr_up_ne h]; show _ = Sum.inl (aC 0, 8, Sum.inl (vr_up g ((List.range 8).map r) (fun _ => 0) a)); rw [vr_up_ne h]
  rw [e9] at k2 k3
  exact kk q r _ _ H1 k0 (fun i hi => ⟨k9 i hi, List.mem_append_right _ (List.mem_map_of_mem (List.mem_range.mpr hi))⟩) (fun a h => List.mem_append_left _ h) k2 k3 k4
end PLN9
theorem GRD_mk {L L1 L2 L3 : List Nat} {r1 r2 r3 : Nat → Nat} (i1 : ∀ i j : Nat, i < 8 → j < 8 → r1 i = r1 j → i = j) (a1 : ∀ i : Nat, i < 8 → r1 i ∉ L ∧ r1 i ∈ L1) (s1 : ∀ a : Nat, a ∈ L → a ∈ L1) (i2 : ∀ i j : Nat, i < 8 → j < 8 → r2 i = r2 j → i = j) (a2 : ∀ i : Nat, i < 8 → r2 i ∉ L1 ∧ r2 i ∈ L2) (s2 : ∀ a : Nat, a ∈ L1 → a ∈ L2) (i3 : ∀ i j : Nat, i < 8 → j < 8 → r3 i = r3 j → i = j) (a3 : ∀ i : Nat, i < 8 → r3 i ∉ L2 ∧ r3 i ∈ L3) (s3 : ∀ a : Nat, a ∈ L2 → a ∈ L3) :
    GRD L3 (fun i => if i < 8 then some (r1 i) else none) (fun i => if i < 8 then some (r2 i) else none) (fun i => if i < 8 then some (r3 i) else none) r1 r2 r3 ∧ (∀ a, a ∈ L → a ∈ L3) ∧ ∀ q, q < 8 → r1 q ∉ L ∧ r2 q ∉ L ∧ r3 q ∉ L := by
  refine ⟨⟨fun q hq => ⟨⟨if_pos hq, s3 _ (s2 _ (a1 q hq).2)⟩, ⟨if_pos hq, s3 _ (a2 q hq).2⟩, ⟨if_pos hq, (a3 q hq).2⟩⟩, fun q r hq hr => ⟨i1 q r hq hr, i2 q r hq hr, i3 q r hq hr, fun e => (a2 r hr).1 (e ▸ (a1 q hq).2), fun e => (a3 r hr).1 (e ▸ s2 _ (a1 q hq).2), fun e => (a3 r hr).1 (e ▸ (a2 q hq).2)⟩⟩, fun a h => s3 _ (s2 _ (s1 a h)), fun q hq => ⟨(a1 q hq).1, fun h => (a2 q hq).1 (s1 _ h), fun h => (a3 q hq).1 (s2 _ (s1 _ h))⟩⟩
theorem GRD_mono {L M : List Nat} {fo fp fs : Nat → Option Nat} {ro rp rs : Nat → Nat} (h : GRD L fo fp fs ro rp rs) (hs : ∀ a, a ∈ L → a ∈ M) : GRD M fo fp fs ro rp rs :=
  ⟨fun q hq => ⟨⟨(h.1 q hq).1.1, hs _ (h.1 q hq).1.2⟩, ⟨(h.1 q hq).2.1.1, hs _ (h.1 q hq).2.1.2⟩, ⟨(h.1 q hq).2.2.1, hs _ (h.1 q hq).2.2.2⟩⟩, h.2⟩
theorem DIS_mk {L : List Nat} {fo fp fs : Nat → Option Nat} {ro rp rs so sp ss : Nat → Nat} (h : GRD L fo fp fs ro rp rs) (hn : ∀ q, q < 8 → so q ∉ L ∧ sp q ∉ L ∧ ss q ∉ L) : DIS ro rp rs so sp ss := fun q hq =>
  ⟨fun k hk => ⟨fun e => (hn k hk).1 (e ▸ (h.1 q hq).1.2), fun e => (hn k hk).2.1 (e ▸ (h.1 q hq).1.2), fun e => (hn k hk).2.2 (e ▸ (h.1 q hq).1.2)⟩,
   fun k hk => ⟨fun e => (hn k hk).1 (e ▸ (h.1 q hq).2.1.2), fun e => (hn k hk).2.1 (e ▸ (h.1 q hq).2.1.2), fun e => (hn k hk).2.2 (e ▸ (h.1 q hq).2.1.2)⟩,
   fun k hk => ⟨fun e => (hn k hk).1 (e ▸ (h.1 q hq).2.2.2), fun e => (hn k hk).2.1 (e ▸ (h.1 q hq).2.2.2), fun e => (hn k hk).2.2 (e ▸ (h.1 q hq).2.2.2)⟩⟩

set_option maxHeartbeats 1000000 in
set_option maxRecDepth 100000 in
/-- X0_init -/
theorem c_X0_init (l : Launch) (dC : Nat → ClassId) (dI : Nat → Nat → Nat) (aC : Nat → ClassId) (sz : Nat) (h0 : Nat)  : Met l yX0_init (wW yX0_init cX0_init 1 (none : Option FieldType)) ({ frames := 1, cells := 0, slots := 0, locals := 12 } : Room) (va_Pc [Value.ref h0] (fun U => U.heap.size = sz ∧ va_P (dC, dI) classes [] U.heap ∧ va_K (dC, dI) classes (TY aC) U ∧ va_D (fun _ => True) [] ∧ NX U)) (va_Qv (fun (_ : Unit) => True) (fun (_ : Unit) (t : State) => va_P (dC, dI) classes [] t.heap ∧ va_K (dC, dI) classes (TY aC) t ∧ va_D (va_A [] sz) []) (va_A [] sz)) 0 0 (va_A [] sz) := by
  refine Met.ofW (cc := cX0_init) (maxL := 1) (ret := (none : Option FieldType)) (by decide) rfl ?_
  intro p e s m args below meth c s₁ B hml hv
  obtain ⟨rfl, hsz, hP, hK, hD0, hN⟩ := hv
  have hx := B.exec
  have hb := B.bytes
  have hr := B.returns
  have hts0 := atoms_spec (ws := (wW yX0_init cX0_init 1 (none : Option FieldType))) B.pre
  have hts : ∀ w9 ∈ lw_G, w9.before ([Value.ref h0] : List Value).toArray s = true := fun w9 h9 => hts0 w9 (List.mem_cons_of_mem _ h9)
  have hown : s.vm.findClass RX0 = some m.cls := findClass_of_methodNamed (x := yX0_init) B.named
  have hlocks := B.notSynchronized
  have hin : meth.name = "<init>" := (name_of_methodNamed B.named B.method).1
  subst hsz
  have hD := hD0.self (sz := s.heap.size)
  generalize hAe : va_A [] s.heap.size = A at hD ⊢
  have hA : ∀ q : Nat, s.heap.size ≤ q → A q := fun q h => by rw [← hAe]; exact Or.inr h
  obtain ⟨H, hHe⟩ : ∃ H : Heap, H = s.heap := ⟨_, rfl⟩
  have hS : va_S A s.heap H [] := by rw [hHe]; exact va_S.rf
  have hP : va_P (dC, dI) classes [] H := by rw [hHe]; exact hP
  have hl := lv_entry ([Value.ref h0]) (n := 1) (Nat.le_of_ble_eq_true rfl)
  rw [lg_entry_eq]
  generalize (lg_sl ([Value.ref h0]) ++ List.replicate (1 - (lg_sl ([Value.ref h0])).length) Slot.unset).toArray = ls at hl ⊢
  have hl : lv_has ls 1 [(0, Value.ref h0)] := hl
  rw [← hHe]
  refine lv_aload_n hx hb dX0_init_0 rfl (lv_at hl 0 rfl) ?_
  refine W.objInit hx hb hown (hts _ (gw kw_94 rfl)) (hts _ (gw kw_24 rfl)) (hts _ (gw kw_25 rfl)) rfl (by rw [hml]; exact hl.1) rfl dX0_init_1 (Nat.le_of_ble_eq_true rfl) (Nat.le_of_ble_eq_true rfl) ?_
  refine W.eq (g2 := F0 m 4 ls []) rfl ?_
  have hpd9 := pd_N (cx := []) hP hD [] (by decide) rfl
  have hP9 := hpd9.1
  have hD9 := hpd9.2
  refine W.widen (k := 0) (n := 0) (by omega) (by omega) ?_
  exact W.vret hx hb hr (fun t ht hW => ⟨⟨(), rfl, trivial, by rw [ht]; exact hP9, va_K.moved hW.alike hK, hD9⟩, hS.F ht⟩) hS.2.2 dX0_init_4

set_option maxHeartbeats 1000000 in
set_option maxRecDepth 100000 in
/-- X1_init -/
theorem c_X1_init (l : Launch) (dC : Nat → ClassId) (dI : Nat → Nat → Nat) (aC : Nat → ClassId) (sz : Nat) (h0 : Nat)  : Met l yX1_init (wW yX1_init cX1_init 1 (none : Option FieldType)) ({ frames := 2, cells := 0, slots := 0, locals := 32 } : Room) (va_Pc [Value.ref h0] (fun U => U.heap.size = sz ∧ va_P (dC, dI) classes [] U.heap ∧ va_K (dC, dI) classes (TY aC) U ∧ va_D (fun _ => True) [] ∧ NX U)) (va_Qv (fun (_ : Unit) => True) (fun (_ : Unit) (t : State) => va_P (dC, dI) classes [] t.heap ∧ va_K (dC, dI) classes (TY aC) t ∧ va_D (va_A [] sz) []) (va_A [] sz)) 0 0 (va_A [] sz) := by
  refine Met.ofW (cc := cX1_init) (maxL := 1) (ret := (none : Option FieldType)) (by decide) rfl ?_
  intro p e s m args below meth c s₁ B hml hv
  obtain ⟨rfl, hsz, hP, hK, hD0, hN⟩ := hv
  have hx := B.exec
  have hb := B.bytes
  have hr := B.returns
  have hts0 := atoms_spec (ws := (wW yX1_init cX1_init 1 (none : Option FieldType))) B.pre
  have hts : ∀ w9 ∈ lw_G, w9.before ([Value.ref h0] : List Value).toArray s = true := fun w9 h9 => hts0 w9 (List.mem_cons_of_mem _ h9)
  have hown : s.vm.findClass RX1 = some m.cls := findClass_of_methodNamed (x := yX1_init) B.named
  have hlocks := B.notSynchronized
  have hin : meth.name = "<init>" := (name_of_methodNamed B.named B.method).1
  subst hsz
  have hD := hD0.self (sz := s.heap.size)
  generalize hAe : va_A [] s.heap.size = A at hD ⊢
  have hA : ∀ q : Nat, s.heap.size ≤ q → A q := fun q h => by rw [← hAe]; exact Or.inr h
  obtain ⟨H, hHe⟩ : ∃ H : Heap, H = s.heap := ⟨_, rfl⟩
  have hS : va_S A s.heap H [] := by rw [hHe]; exact va_S.rf
  have hP : va_P (dC, dI) classes [] H := by rw [hHe]; exact hP
  have hl := lv_entry ([Value.ref h0]) (n := 1) (Nat.le_of_ble_eq_true rfl)
  rw [lg_entry_eq]
  generalize (lg_sl ([Value.ref h0]) ++ List.replicate (1 - (lg_sl ([Value.ref h0])).length) Slot.unset).toArray = ls at hl ⊢
  have hl : lv_has ls 1 [(0, Value.ref h0)] := hl
  rw [← hHe]
  refine lv_aload_n hx hb dX1_init_0 rfl (lv_at hl 0 rfl) ?_
  have hpd9 := pdf_N (cx := []) hP hD hS hA [] (by decide) rfl
  have hPc := hpd9.1
  have hDc := hpd9.2.1
  have hFc := hpd9.2.2
  clear hpd9
  refine va_callv (va_runIN (As := []) (rest := []) ⟨hx, hb, hml, hown, hts⟩ (c_X0_init l dC dI aC H.size h0 ) ⟨(va_cnB 0 hts (gG kw_93) rfl rfl rfl (hN.1 _ kw_103 rfl) (hts _ (gw kw_4 rfl)) hd_X0_init ⟨Nat.le_of_ble_eq_true rfl, Nat.le_of_ble_eq_true rfl⟩), rfl, (hts _ (gw kw_92 rfl))⟩ ⟨fb_std, pre_std hPc hK hDc hN⟩ rfl rfl hl.1 rfl (lv_room (Nat.le_of_ble_eq_true rfl)) dX1_init_1 ⟨Nat.le_of_ble_eq_true rfl, Nat.le_of_ble_eq_true rfl⟩) hS (fun q _ h => hFc q h) hFc (fun u9 t9 H1 locs ht hvm hw_1 hB hz1 hk1 hS => ?_)
  obtain ⟨hP1, hK1, hD1⟩ := hB
  rw [ht] at hP1
  clear hK1
  try dsimp only at hw_1
  have hpd9 : PDx (dC, dI) classes A H1 [] := jn_N (wr := []) hFc hk1 hP1 hD1 hP hD [] [] rfl rfl (by decide) (by decide)
  have hP := hpd9.1
  have hD := hpd9.2
  clear hpd9
  generalize H1 = H at hP hS ⊢
  clear hPc hDc hFc hz1 hk1 hP1 hD1 ht hvm
  have hpd9 := pd_N (cx := []) hP hD [] (by decide) rfl
  have hP9 := hpd9.1
  have hD9 := hpd9.2
  refine W.widen (k := 0) (n := 0) (by omega) (by omega) ?_
  exact W.vret hx hb hr (fun t ht hW => ⟨⟨(), rfl, trivial, by rw [ht]; exact hP9, va_K.moved hW.alike hK, hD9⟩, hS.F ht⟩) hS.2.2 dX1_init_4

set_option maxHeartbeats 1000000 in
set_option maxRecDepth 100000 in
/-- X3_init -/
theorem c_X3_init (l : Launch) (dC : Nat → ClassId) (dI : Nat → Nat → Nat) (aC : Nat → ClassId) (sz : Nat) (h0 : Nat)  : Met l yX3_init (wW yX3_init cX3_init 1 (none : Option FieldType)) ({ frames := 2, cells := 0, slots := 0, locals := 32 } : Room) (va_Pc [Value.ref h0] (fun U => U.heap.size = sz ∧ va_P (dC, dI) classes [] U.heap ∧ va_K (dC, dI) classes (TY aC) U ∧ va_D (fun _ => True) [] ∧ NX U)) (va_Qv (fun (_ : Unit) => True) (fun (_ : Unit) (t : State) => va_P (dC, dI) classes [] t.heap ∧ va_K (dC, dI) classes (TY aC) t ∧ va_D (va_A [] sz) []) (va_A [] sz)) 0 0 (va_A [] sz) := by
  refine Met.ofW (cc := cX3_init) (maxL := 1) (ret := (none : Option FieldType)) (by decide) rfl ?_
  intro p e s m args below meth c s₁ B hml hv
  obtain ⟨rfl, hsz, hP, hK, hD0, hN⟩ := hv
  have hx := B.exec
  have hb := B.bytes
  have hr := B.returns
  have hts0 := atoms_spec (ws := (wW yX3_init cX3_init 1 (none : Option FieldType))) B.pre
  have hts : ∀ w9 ∈ lw_G, w9.before ([Value.ref h0] : List Value).toArray s = true := fun w9 h9 => hts0 w9 (List.mem_cons_of_mem _ h9)
  have hown : s.vm.findClass RX3 = some m.cls := findClass_of_methodNamed (x := yX3_init) B.named
  have hlocks := B.notSynchronized
  have hin : meth.name = "<init>" := (name_of_methodNamed B.named B.method).1
  subst hsz
  have hD := hD0.self (sz := s.heap.size)
  generalize hAe : va_A [] s.heap.size = A at hD ⊢
  have hA : ∀ q : Nat, s.heap.size ≤ q → A q := fun q h => by rw [← hAe]; exact Or.inr h
  obtain ⟨H, hHe⟩ : ∃ H : Heap, H = s.heap := ⟨_, rfl⟩
  have hS : va_S A s.heap H [] := by rw [hHe]; exact va_S.rf
  have hP : va_P (dC, dI) classes [] H := by rw [hHe]; exact hP
  have hl := lv_entry ([Value.ref h0]) (n := 1) (Nat.le_of_ble_eq_true rfl)
  rw [lg_entry_eq]
  generalize (lg_sl ([Value.ref h0]) ++ List.replicate (1 - (lg_sl ([Value.ref h0])).length) Slot.unset).toArray = ls at hl ⊢
  have hl : lv_has ls 1 [(0, Value.ref h0)] := hl
  rw [← hHe]
  refine lv_aload_n hx hb dX3_init_0 rfl (lv_at hl 0 rfl) ?_
  have hpd9 := pdf_N (cx := []) hP hD hS hA [] (by decide) rfl
  have hPc := hpd9.1
  have hDc := hpd9.2.1
  have hFc := hpd9.2.2
  clear hpd9
  refine va_callv (va_runIN (As := []) (rest := []) ⟨hx, hb, hml, hown, hts⟩ (c_X0_init l dC dI aC H.size h0 ) ⟨(va_cnB 0 hts (gG kw_93) rfl rfl rfl (hN.1 _ kw_110 rfl) (hts _ (gw kw_4 rfl)) hd_X0_init ⟨Nat.le_of_ble_eq_true rfl, Nat.le_of_ble_eq_true rfl⟩), rfl, (hts _ (gw kw_92 rfl))⟩ ⟨fb_std, pre_std hPc hK hDc hN⟩ rfl rfl hl.1 rfl (lv_room (Nat.le_of_ble_eq_true rfl)) dX3_init_1 ⟨Nat.le_of_ble_eq_true rfl, Nat.le_of_ble_eq_true rfl⟩) hS (fun q _ h => hFc q h) hFc (fun u9 t9 H1 locs ht hvm hw_1 hB hz1 hk1 hS => ?_)
  obtain ⟨hP1, hK1, hD1⟩ := hB
  rw [ht] at hP1
  clear hK1
  try dsimp only at hw_1
  have hpd9 : PDx (dC, dI) classes A H1 [] := jn_N (wr := []) hFc hk1 hP1 hD1 hP hD [] [] rfl rfl (by decide) (by decide)
  have hP := hpd9.1
  have hD := hpd9.2
  clear hpd9
  generalize H1 = H at hP hS ⊢
  clear hPc hDc hFc hz1 hk1 hP1 hD1 ht hvm
  have hpd9 := pd_N (cx := []) hP hD [] (by decide) rfl
  have hP9 := hpd9.1
  have hD9 := hpd9.2
  refine W.widen (k := 0) (n := 0) (by omega) (by omega) ?_
  exact W.vret hx hb hr (fun t ht hW => ⟨⟨(), rfl, trivial, by rw [ht]; exact hP9, va_K.moved hW.alike hK, hD9⟩, hS.F ht⟩) hS.2.2 dX3_init_4

set_option maxHeartbeats 1000000 in
set_option maxRecDepth 100000 in
/-- X6_init -/
theorem c_X6_init (l : Launch) (dC : Nat → ClassId) (dI : Nat → Nat → Nat) (aC : Nat → ClassId) (sz : Nat) (h0 : Nat)  : Met l yX6_init (wW yX6_init cX6_init 1 (none : Option FieldType)) ({ frames := 2, cells := 0, slots := 0, locals := 32 } : Room) (va_Pc [Value.ref h0] (fun U => U.heap.size = sz ∧ va_P (dC, dI) classes [] U.heap ∧ va_K (dC, dI) classes (TY aC) U ∧ va_D (fun _ => True) [] ∧ NX U)) (va_Qv (fun (_ : Unit) => True) (fun (_ : Unit) (t : State) => va_P (dC, dI) classes [] t.heap ∧ va_K (dC, dI) classes (TY aC) t ∧ va_D (va_A [] sz) []) (va_A [] sz)) 0 0 (va_A [] sz) := by
  refine Met.ofW (cc := cX6_init) (maxL := 1) (ret := (none : Option FieldType)) (by decide) rfl ?_
  intro p e s m args below meth c s₁ B hml hv
  obtain ⟨rfl, hsz, hP, hK, hD0, hN⟩ := hv
  have hx := B.exec
  have hb := B.bytes
  have hr := B.returns
  have hts0 := atoms_spec (ws := (wW yX6_init cX6_init 1 (none : Option FieldType))) B.pre
  have hts : ∀ w9 ∈ lw_G, w9.before ([Value.ref h0] : List Value).toArray s = true := fun w9 h9 => hts0 w9 (List.mem_cons_of_mem _ h9)
  have hown : s.vm.findClass RX6 = some m.cls := findClass_of_methodNamed (x := yX6_init) B.named
  have hlocks := B.notSynchronized
  have hin : meth.name = "<init>" := (name_of_methodNamed B.named B.method).1
  subst hsz
  have hD := hD0.self (sz := s.heap.size)
  generalize hAe : va_A [] s.heap.size = A at hD ⊢
  have hA : ∀ q : Nat, s.heap.size ≤ q → A q := fun q h => by rw [← hAe]; exact Or.inr h
  obtain ⟨H, hHe⟩ : ∃ H : Heap, H = s.heap := ⟨_, rfl⟩
  have hS : va_S A s.heap H [] := by rw [hHe]; exact va_S.rf
  have hP : va_P (dC, dI) classes [] H := by rw [hHe]; exact hP
  have hl := lv_entry ([Value.ref h0]) (n := 1) (Nat.le_of_ble_eq_true rfl)
  rw [lg_entry_eq]
  generalize (lg_sl ([Value.ref h0]) ++ List.replicate (1 - (lg_sl ([Value.ref h0])).length) Slot.unset).toArray = ls at hl ⊢
  have hl : lv_has ls 1 [(0, Value.ref h0)] := hl
  rw [← hHe]
  refine lv_aload_n hx hb dX6_init_0 rfl (lv_at hl 0 rfl) ?_
  have hpd9 := pdf_N (cx := []) hP hD hS hA [] (by decide) rfl
  have hPc := hpd9.1
  have hDc := hpd9.2.1
  have hFc := hpd9.2.2
  clear hpd9
  refine va_callv (va_runIN (As := []) (rest := []) ⟨hx, hb, hml, hown, hts⟩ (c_X0_init l dC dI aC H.size h0 ) ⟨(va_cnB 0 hts (gG kw_93) rfl rfl rfl (hN.1 _ kw_124 rfl) (hts _ (gw kw_4 rfl)) hd_X0_init ⟨Nat.le_of_ble_eq_true rfl, Nat.le_of_ble_eq_true rfl⟩), rfl, (hts _ (gw kw_92 rfl))⟩ ⟨fb_std, pre_std hPc hK hDc hN⟩ rfl rfl hl.1 rfl (lv_room (Nat.le_of_ble_eq_true rfl)) dX6_init_1 ⟨Nat.le_of_ble_eq_true rfl, Nat.le_of_ble_eq_true rfl⟩) hS (fun q _ h => hFc q h) hFc (fun u9 t9 H1 locs ht hvm hw_1 hB hz1 hk1 hS => ?_)
  obtain ⟨hP1, hK1, hD1⟩ := hB
  rw [ht] at hP1
  clear hK1
  try dsimp only at hw_1
  have hpd9 : PDx (dC, dI) classes A H1 [] := jn_N (wr := []) hFc hk1 hP1 hD1 hP hD [] [] rfl rfl (by decide) (by decide)
  have hP := hpd9.1
  have hD := hpd9.2
  clear hpd9
  generalize H1 = H at hP hS ⊢
  clear hPc hDc hFc hz1 hk1 hP1 hD1 ht hvm
  have hpd9 := pd_N (cx := []) hP hD [] (by decide) rfl
  have hP9 := hpd9.1
  have hD9 := hpd9.2
  refine W.widen (k := 0) (n := 0) (by omega) (by omega) ?_
  exact W.vret hx hb hr (fun t ht hW => ⟨⟨(), rfl, trivial, by rw [ht]; exact hP9, va_K.moved hW.alike hK, hD9⟩, hS.F ht⟩) hS.2.2 dX6_init_4

set_option maxHeartbeats 1000000 in
set_option maxRecDepth 100000 in
/-- X5_init -/
theorem c_X5_init (l : Launch) (dC : Nat → ClassId) (dI : Nat → Nat → Nat) (aC : Nat → ClassId) (sz : Nat) (h0 : Nat)  : Met l yX5_init (wW yX5_init cX5_init 1 (none : Option FieldType)) ({ frames := 3, cells := 0, slots := 0, locals := 52 } : Room) (va_Pc [Value.ref h0] (fun U => U.heap.size = sz ∧ va_P (dC, dI) classes [] U.heap ∧ va_K (dC, dI) classes (TY aC) U ∧ va_D (fun _ => True) [] ∧ NX U)) (va_Qv (fun (_ : Unit) => True) (fun (_ : Unit) (t : State) => va_P (dC, dI) classes [] t.heap ∧ va_K (dC, dI) classes (TY aC) t ∧ va_D (va_A [] sz) []) (va_A [] sz)) 0 0 (va_A [] sz) := by
  refine Met.ofW (cc := cX5_init) (maxL := 1) (ret := (none : Option FieldType)) (by decide) rfl ?_
  intro p e s m args below meth c s₁ B hml hv
  obtain ⟨rfl, hsz, hP, hK, hD0, hN⟩ := hv
  have hx := B.exec
  have hb := B.bytes
  have hr := B.returns
  have hts0 := atoms_spec (ws := (wW yX5_init cX5_init 1 (none : Option FieldType))) B.pre
  have hts : ∀ w9 ∈ lw_G, w9.before ([Value.ref h0] : List Value).toArray s = true := fun w9 h9 => hts0 w9 (List.mem_cons_of_mem _ h9)
  have hown : s.vm.findClass RX5 = some m.cls := findClass_of_methodNamed (x := yX5_init) B.named
  have hlocks := B.notSynchronized
  have hin : meth.name = "<init>" := (name_of_methodNamed B.named B.method).1
  subst hsz
  have hD := hD0.self (sz := s.heap.size)
  generalize hAe : va_A [] s.heap.size = A at hD ⊢
  have hA : ∀ q : Nat, s.heap.size ≤ q → A q := fun q h => by rw [← hAe]; exact Or.inr h
  obtain ⟨H, hHe⟩ : ∃ H : Heap, H = s.heap := ⟨_, rfl⟩
  have hS : va_S A s.heap H [] := by rw [hHe]; exact va_S.rf
  have hP : va_P (dC, dI) classes [] H := by rw [hHe]; exact hP
  have hl := lv_entry ([Value.ref h0]) (n := 1) (Nat.le_of_ble_eq_true rfl)
  rw [lg_entry_eq]
  generalize (lg_sl ([Value.ref h0]) ++ List.replicate (1 - (lg_sl ([Value.ref h0])).length) Slot.unset).toArray = ls at hl ⊢
  have hl : lv_has ls 1 [(0, Value.ref h0)] := hl
  rw [← hHe]
  refine lv_aload_n hx hb dX5_init_0 rfl (lv_at hl 0 rfl) ?_
  have hpd9 := pdf_N (cx := []) hP hD hS hA [] (by decide) rfl
  have hPc := hpd9.1
  have hDc := hpd9.2.1
  have hFc := hpd9.2.2
  clear hpd9
  refine va_callv (va_runIN (As := []) (rest := []) ⟨hx, hb, hml, hown, hts⟩ (c_X1_init l dC dI aC H.size h0 ) ⟨(va_cnB 0 hts (gG kw_102) rfl rfl rfl (hN.1 _ kw_117 rfl) (hts _ (gw kw_5 rfl)) hd_X1_init ⟨Nat.le_of_ble_eq_true rfl, Nat.le_of_ble_eq_true rfl⟩), rfl, (hts _ (gw kw_101 rfl))⟩ ⟨fb_std, pre_std hPc hK hDc hN⟩ rfl rfl hl.1 rfl (lv_room (Nat.le_of_ble_eq_true rfl)) dX5_init_1 ⟨Nat.le_of_ble_eq_true rfl, Nat.le_of_ble_eq_true rfl⟩) hS (fun q _ h => hFc q h) hFc (fun u9 t9 H1 locs ht hvm hw_1 hB hz1 hk1 hS => ?_)
  obtain ⟨hP1, hK1, hD1⟩ := hB
  rw [ht] at hP1
  clear hK1
  try dsimp only at hw_1
  have hpd9 : PDx (dC, dI) classes A H1 [] := jn_N (wr := []) hFc hk1 hP1 hD1 hP hD [] [] rfl rfl (by decide) (by decide)
  have hP := hpd9.1
  have hD := hpd9.2
  clear hpd9
  generalize H1 = H at hP hS ⊢
  clear hPc hDc hFc hz1 hk1 hP1 hD1 ht hvm
  have hpd9 := pd_N (cx := []) hP hD [] (by decide) rfl
  have hP9 := hpd9.1
  have hD9 := hpd9.2
  refine W.widen (k := 0) (n := 0) (by omega) (by omega) ?_
  exact W.vret hx hb hr (fun t ht hW => ⟨⟨(), rfl, trivial, by rw [ht]; exact hP9, va_K.moved hW.alike hK, hD9⟩, hS.F ht⟩) hS.2.2 dX5_init_4

set_option maxHeartbeats 1000000 in
set_option maxRecDepth 100000 in
/-- X8_init -/
theorem c_X8_init (l : Launch) (dC : Nat → ClassId) (dI : Nat → Nat → Nat) (aC : Nat → ClassId) (sz : Nat) (h0 : Nat)  : Met l yX8_init (wW yX8_init cX8_init 1 (none : Option FieldType)) ({ frames := 3, cells := 0, slots := 0, locals := 52 } : Room) (va_Pc [Value.ref h0] (fun U => U.heap.size = sz ∧ va_P (dC, dI) classes [] U.heap ∧ va_K (dC, dI) classes (TY aC) U ∧ va_D (fun _ => True) [] ∧ NX U)) (va_Qv (fun (_ : Unit) => True) (fun (_ : Unit) (t : State) => va_P (dC, dI) classes [] t.heap ∧ va_K (dC, dI) classes (TY aC) t ∧ va_D (va_A [] sz) []) (va_A [] sz)) 0 0 (va_A [] sz) := by
  refine Met.ofW (cc := cX8_init) (maxL := 1) (ret := (none : Option FieldType)) (by decide) rfl ?_
  intro p e s m args below meth c s₁ B hml hv
  obtain ⟨rfl, hsz, hP, hK, hD0, hN⟩ := hv
  have hx := B.exec
  have hb := B.bytes
  have hr := B.returns
  have hts0 := atoms_spec (ws := (wW yX8_init cX8_init 1 (none : Option FieldType))) B.pre
  have hts : ∀ w9 ∈ lw_G, w9.before ([Value.ref h0] : List Value).toArray s = true := fun w9 h9 => hts0 w9 (List.mem_cons_of_mem _ h9)
  have hown : s.vm.findClass RX8 = some m.cls := findClass_of_methodNamed (x := yX8_init) B.named
  have hlocks := B.notSynchronized
  have hin : meth.name = "<init>" := (name_of_methodNamed B.named B.method).1
  subst hsz
  have hD := hD0.self (sz := s.heap.size)
  generalize hAe : va_A [] s.heap.size = A at hD ⊢
  have hA : ∀ q : Nat, s.heap.size ≤ q → A q := fun q h => by rw [← hAe]; exact Or.inr h
  obtain ⟨H, hHe⟩ : ∃ H : Heap, H = s.heap := ⟨_, rfl⟩
  have hS : va_S A s.heap H [] := by rw [hHe]; exact va_S.rf
  have hP : va_P (dC, dI) classes [] H := by rw [hHe]; exact hP
  have hl := lv_entry ([Value.ref h0]) (n := 1) (Nat.le_of_ble_eq_true rfl)
  rw [lg_entry_eq]
  generalize (lg_sl ([Value.ref h0]) ++ List.replicate (1 - (lg_sl ([Value.ref h0])).length) Slot.unset).toArray = ls at hl ⊢
  have hl : lv_has ls 1 [(0, Value.ref h0)] := hl
  rw [← hHe]
  refine lv_aload_n hx hb dX8_init_0 rfl (lv_at hl 0 rfl) ?_
  have hpd9 := pdf_N (cx := []) hP hD hS hA [] (by decide) rfl
  have hPc := hpd9.1
  have hDc := hpd9.2.1
  have hFc := hpd9.2.2
  clear hpd9
  refine va_callv (va_runIN (As := []) (rest := []) ⟨hx, hb, hml, hown, hts⟩ (c_X6_init l dC dI aC H.size h0 ) ⟨(va_cnB 0 hts (gG kw_123) rfl rfl rfl (hN.1 _ kw_138 rfl) (hts _ (gw kw_8 rfl)) hd_X6_init ⟨Nat.le_of_ble_eq_true rfl, Nat.le_of_ble_eq_true rfl⟩), rfl, (hts _ (gw kw_122 rfl))⟩ ⟨fb_std, pre_std hPc hK hDc hN⟩ rfl rfl hl.1 rfl (lv_room (Nat.le_of_ble_eq_true rfl)) dX8_init_1 ⟨Nat.le_of_ble_eq_true rfl, Nat.le_of_ble_eq_true rfl⟩) hS (fun q _ h => hFc q h) hFc (fun u9 t9 H1 locs ht hvm hw_1 hB hz1 hk1 hS => ?_)
  obtain ⟨hP1, hK1, hD1⟩ := hB
  rw [ht] at hP1
  clear hK1
  try dsimp only at hw_1
  have hpd9 : PDx (dC, dI) classes A H1 [] := jn_N (wr := []) hFc hk1 hP1 hD1 hP hD [] [] rfl rfl (by decide) (by decide)
  have hP := hpd9.1
  have hD := hpd9.2
  clear hpd9
  generalize H1 = H at hP hS ⊢
  clear hPc hDc hFc hz1 hk1 hP1 hD1 ht hvm
  have hpd9 := pd_N (cx := []) hP hD [] (by decide) rfl
  have hP9 := hpd9.1
  have hD9 := hpd9.2
  refine W.widen (k := 0) (n := 0) (by omega) (by omega) ?_
  exact W.vret hx hb hr (fun t ht hW => ⟨⟨(), rfl, trivial, by rw [ht]; exact hP9, va_K.moved hW.alike hK, hD9⟩, hS.F ht⟩) hS.2.2 dX8_init_4

set_option maxHeartbeats 1000000 in
set_option maxRecDepth 100000 in
/-- X10_init -/
theorem c_X10_init (l : Launch) (dC : Nat → ClassId) (dI : Nat → Nat → Nat) (aC : Nat → ClassId) (sz : Nat) (h0 : Nat)  : Met l yX10_init (wW yX10_init cX10_init 1 (none : Option FieldType)) ({ frames := 3, cells := 0, slots := 0, locals := 52 } : Room) (va_Pc [Value.ref h0] (fun U => U.heap.size = sz ∧ va_P (dC, dI) classes [] U.heap ∧ va_K (dC, dI) classes (TY aC) U ∧ va_D (fun _ => True) [] ∧ NX U)) (va_Qv (fun (_ : Unit) => True) (fun (_ : Unit) (t : State) => va_P (dC, dI) classes [] t.heap ∧ va_K (dC, dI) classes (TY aC) t ∧ va_D (va_A [] sz) []) (va_A [] sz)) 0 0 (va_A [] sz) := by
  refine Met.ofW (cc := cX10_init) (maxL := 1) (ret := (none : Option FieldType)) (by decide) rfl ?_
  intro p e s m args below meth c s₁ B hml hv
  obtain ⟨rfl, hsz, hP, hK, hD0, hN⟩ := hv
  have hx := B.exec
  have hb := B.bytes
  have hr := B.returns
  have hts0 := atoms_spec (ws := (wW yX10_init cX10_init 1 (none : Option FieldType))) B.pre
  have hts : ∀ w9 ∈ lw_G, w9.before ([Value.ref h0] : List Value).toArray s = true := fun w9 h9 => hts0 w9 (List.mem_cons_of_mem _ h9)
  have hown : s.vm.findClass RX10 = some m.cls := findClass_of_methodNamed (x := yX10_init) B.named
  have hlocks := B.notSynchronized
  have hin : meth.name = "<init>" := (name_of_methodNamed B.named B.method).1
  subst hsz
  have hD := hD0.self (sz := s.heap.size)
  generalize hAe : va_A [] s.heap.size = A at hD ⊢
  have hA : ∀ q : Nat, s.heap.size ≤ q → A q := fun q h => by rw [← hAe]; exact Or.inr h
  obtain ⟨H, hHe⟩ : ∃ H : Heap, H = s.heap := ⟨_, rfl⟩
  have hS : va_S A s.heap H [] := by rw [hHe]; exact va_S.rf
  have hP : va_P (dC, dI) classes [] H := by rw [hHe]; exact hP
  have hl := lv_entry ([Value.ref h0]) (n := 1) (Nat.le_of_ble_eq_true rfl)
  rw [lg_entry_eq]
  generalize (lg_sl ([Value.ref h0]) ++ List.replicate (1 - (lg_sl ([Value.ref h0])).length) Slot.unset).toArray = ls at hl ⊢
  have hl : lv_has ls 1 [(0, Value.ref h0)] := hl
  rw [← hHe]
  refine lv_aload_n hx hb dX10_init_0 rfl (lv_at hl 0 rfl) ?_
  have hpd9 := pdf_N (cx := []) hP hD hS hA [] (by decide) rfl
  have hPc := hpd9.1
  have hDc := hpd9.2.1
  have hFc := hpd9.2.2
  clear hpd9
  refine va_callv (va_runIN (As := []) (rest := []) ⟨hx, hb, hml, hown, hts⟩ (c_X3_init l dC dI aC H.size h0 ) ⟨(va_cnB 0 hts (gG kw_109) rfl rfl rfl (hN.1 _ kw_131 rfl) (hts _ (gw kw_6 rfl)) hd_X3_init ⟨Nat.le_of_ble_eq_true rfl, Nat.le_of_ble_eq_true rfl⟩), rfl, (hts _ (gw kw_108 rfl))⟩ ⟨fb_std, pre_std hPc hK hDc hN⟩ rfl rfl hl.1 rfl (lv_room (Nat.le_of_ble_eq_true rfl)) dX10_init_1 ⟨Nat.le_of_ble_eq_true rfl, Nat.le_of_ble_eq_true rfl⟩) hS (fun q _ h => hFc q h) hFc (fun u9 t9 H1 locs ht hvm hw_1 hB hz1 hk1 hS => ?_)
  obtain ⟨hP1, hK1, hD1⟩ := hB
  rw [ht] at hP1
  clear hK1
  try dsimp only at hw_1
  have hpd9 : PDx (dC, dI) classes A H1 [] := jn_N (wr := []) hFc hk1 hP1 hD1 hP hD [] [] rfl rfl (by decide) (by decide)
  have hP := hpd9.1
  have hD := hpd9.2
  clear hpd9
  generalize H1 = H at hP hS ⊢
  clear hPc hDc hFc hz1 hk1 hP1 hD1 ht hvm
  have hpd9 := pd_N (cx := []) hP hD [] (by decide) rfl
  have hP9 := hpd9.1
  have hD9 := hpd9.2
  refine W.widen (k := 0) (n := 0) (by omega) (by omega) ?_
  exact W.vret hx hb hr (fun t ht hW => ⟨⟨(), rfl, trivial, by rw [ht]; exact hP9, va_K.moved hW.alike hK, hD9⟩, hS.F ht⟩) hS.2.2 dX10_init_4

set_option maxHeartbeats 1000000 in
set_option maxRecDepth 100000 in
/-- X4_init -/
theorem c_X4_init (l : Launch) (dC : Nat → ClassId) (dI : Nat → Nat → Nat) (aC : Nat → ClassId) (sz : Nat) (h1 : Nat)  : Met l yX4_init (wW yX4_init cX4_init 1 (none : Option FieldType)) ({ frames := 1, cells := 5, slots := 37, locals := 12 } : Room) (va_Pc [Value.ref h1] (fun U => U.heap.size = sz ∧ va_P (dC, dI) classes [cO h1 4 [Value.null, Value.null, Value.null, Value.null, Value.null, Value.int 0, Value.int 0, Value.int 0]] U.heap ∧ va_K (dC, dI) classes (TY aC) U ∧ va_D (fun _ => True) [cO h1 4 [Value.null, Value.null, Value.null, Value.null, Value.null, Value.int 0, Value.int 0, Value.int 0]] ∧ NX U)) (va_Qv (fun (sf : Nat → Int32) => sf = SET0) (fun (sf : Nat → Int32) (t : State) => ∃ (n1 n2 n3 n4 n5 : Nat), va_P (dC, dI) classes [oX4 h1 n1 n2 n3 n4 n5 0 0 0, cI aC n1 8 (fun _ => 0), cI aC n2 8 (fun _ => 0), cI aC n3 8 (fun _ => 0), cI aC n4 8 (fun _ => 0), cI aC n5 5 sf] t.heap ∧ va_K (dC, dI) classes (TY aC) t ∧ va_D (va_A [cO h1 4 [Value.null, Value.null, Value.null, Value.null, Value.null, Value.int 0, Value.int 0, Value.int 0]] sz) [oX4 h1 n1 n2 n3 n4 n5 0 0 0, cI aC n1 8 (fun _ => 0), cI aC n2 8 (fun _ => 0), cI aC n3 8 (fun _ => 0), cI aC n4 8 (fun _ => 0), cI aC n5 5 sf]) (va_A [cO h1 4 [Value.null, Value.null, Value.null, Value.null, Value.null, Value.int 0, Value.int 0, Value.int 0]] sz)) 5 37 (va_A [cO h1 4 [Value.null, Value.null, Value.null, Value.null, Value.null, Value.int 0, Value.int 0, Value.int 0]] sz) := by
  refine Met.ofW (cc := cX4_init) (maxL := 1) (ret := (none : Option FieldType)) (by decide) rfl ?_
  intro p e s m args below meth c s₁ B hml hv
  obtain ⟨rfl, hsz, hP, hK, hD0, hN⟩ := hv
  have hx := B.exec
  have hb := B.bytes
  have hr := B.returns
  have hts0 := atoms_spec (ws := (wW yX4_init cX4_init 1 (none : Option FieldType))) B.pre
  have hts : ∀ w9 ∈ lw_G, w9.before ([Value.ref h1] : List Value).toArray s = true := fun w9 h9 => hts0 w9 (List.mem_cons_of_mem _ h9)
  have hown : s.vm.findClass RX4 = some m.cls := findClass_of_methodNamed (x := yX4_init) B.named
  have hlocks := B.notSynchronized
  have hin : meth.name = "<init>" := (name_of_methodNamed B.named B.method).1
  subst hsz
  have hD := hD0.self (sz := s.heap.size)
  generalize hAe : va_A [cO h1 4 [Value.null, Value.null, Value.null, Value.null, Value.null, Value.int 0, Value.int 0, Value.int 0]] s.heap.size = A at hD ⊢
  have hA : ∀ q : Nat, s.heap.size ≤ q → A q := fun q h => by rw [← hAe]; exact Or.inr h
  obtain ⟨H, hHe⟩ : ∃ H : Heap, H = s.heap := ⟨_, rfl⟩
  have hS : va_S A s.heap H [] := by rw [hHe]; exact va_S.rf
  have hP : va_P (dC, dI) classes [cO h1 4 [Value.null, Value.null, Value.null, Value.null, Value.null, Value.int 0, Value.int 0, Value.int 0]] H := by rw [hHe]; exact hP
  have hl := lv_entry ([Value.ref h1]) (n := 1) (Nat.le_of_ble_eq_true rfl)
  rw [lg_entry_eq]
  generalize (lg_sl ([Value.ref h1]) ++ List.replicate (1 - (lg_sl ([Value.ref h1])).length) Slot.unset).toArray = ls at hl ⊢
  have hl : lv_has ls 1 [(0, Value.ref h1)] := hl
  rw [← hHe]
  refine lv_aload_n hx hb dX4_init_0 rfl (lv_at hl 0 rfl) ?_
  refine W.objInit hx hb hown (hts _ (gw kw_31 rfl)) (hts _ (gw kw_24 rfl)) (hts _ (gw kw_25 rfl)) rfl (by rw [hml]; exact hl.1) rfl dX4_init_1 (Nat.le_of_ble_eq_true rfl) (Nat.le_of_ble_eq_true rfl) ?_
  refine W.eq (g2 := F0 m 4 ls []) rfl ?_
  refine lv_aload_n hx hb dX4_init_4 rfl (lv_at hl 0 rfl) ?_
  refine lv_bipush (v := 8) hx hb dX4_init_5 (by decide) ?_
  refine va_newaI (N' := 8) (a0 := (8, .inl (fun _ => 0))) hx hb (hts _ (gw kw_73 rfl)) hK hP hD hS hA (by decide) (by decide) (by decide) (Nat.le_of_ble_eq_true rfl) (Nat.le_of_ble_eq_true rfl) dX4_init_7 rfl (fun q_1 H hP hD hS => ?_)
  have hpd9 : PDx (dC, dI) classes A H [cO h1 4 [Value.null, Value.null, Value.null, Value.null, Value.null, Value.int 0, Value.int 0, Value.int 0], cI aC q_1 8 (fun _ => 0)] := ⟨hP, hD⟩
  have hP := hpd9.1
  have hD := hpd9.2
  clear hpd9
  refine W.widen (k := 1) (n := 8) (by omega) (by omega) ?_
  refine va_putF (D := (dC, dI)) (ci := 4) (v := Value.ref q_1) (ty := .array .int) (C := RX4) (T := TX4) (N := 8) hx hb hts inX4 tyX4 tyX4_ok nmX4 hown hK hP hD hS 0 rfl rfl 0 (by decide) (hts _ (gw kw_32 rfl)) (fun _ h9 => h9) rfl hin rfl (by decide +kernel) rfl rfl (Nat.le_of_ble_eq_true rfl) dX4_init_9 (fun H locs hP hD hS => ?_)
  have hpd9 : PDx (dC, dI) classes A H [cO h1 4 [Value.ref q_1, Value.null, Value.null, Value.null, Value.null, Value.int 0, Value.int 0, Value.int 0], cI aC q_1 8 (fun _ => 0)] := ⟨hP, hD⟩
  have hP := hpd9.1
  have hD := hpd9.2
  clear hpd9
  refine lv_aload_n hx hb dX4_init_12 rfl (lv_at hl 0 rfl) ?_
  refine lv_bipush (v := 8) hx hb dX4_init_13 (by decide) ?_
  refine va_newaI (N' := 8) (a0 := (8, .inl (fun _ => 0))) hx hb (hts _ (gw kw_73 rfl)) hK hP hD hS hA (by decide) (by decide) (by decide) (Nat.le_of_ble_eq_true rfl) (Nat.le_of_ble_eq_true rfl) dX4_init_15 rfl (fun q_2 H hP hD hS => ?_)
  have hpd9 : PDx (dC, dI) classes A H [cO h1 4 [Value.ref q_1, Value.null, Value.null, Value.null, Value.null, Value.int 0, Value.int 0, Value.int 0], cI aC q_1 8 (fun _ => 0), cI aC q_2 8 (fun _ => 0)] := ⟨hP, hD⟩
  have hP := hpd9.1
  have hD := hpd9.2
  clear hpd9
  refine W.widen (k := 2) (n := 16) (by omega) (by omega) ?_
  refine va_putF (D := (dC, dI)) (ci := 4) (v := Value.ref q_2) (ty := .array .int) (C := RX4) (T := TX4) (N := 8) hx hb hts inX4 tyX4 tyX4_ok nmX4 hown hK hP hD hS 0 rfl rfl 1 (by decide) (hts _ (gw kw_35 rfl)) (fun _ h9 => h9) rfl hin rfl (by decide +kernel) rfl rfl (Nat.le_of_ble_eq_true rfl) dX4_init_17 (fun H locs hP hD hS => ?_)
  have hpd9 : PDx (dC, dI) classes A H [cO h1 4 [Value.ref q_1, Value.ref q_2, Value.null, Value.null, Value.null, Value.int 0, Value.int 0, Value.int 0], cI aC q_1 8 (fun _ => 0), cI aC q_2 8 (fun _ => 0)] := ⟨hP, hD⟩
  have hP := hpd9.1
  have hD := hpd9.2
  clear hpd9
  refine lv_aload_n hx hb dX4_init_20 rfl (lv_at hl 0 rfl) ?_
  refine lv_bipush (v := 8) hx hb dX4_init_21 (by decide) ?_
  refine va_newaI (N' := 8) (a0 := (8, .inl (fun _ => 0))) hx hb (hts _ (gw kw_73 rfl)) hK hP hD hS hA (by decide) (by decide) (by decide) (Nat.le_of_ble_eq_true rfl) (Nat.le_of_ble_eq_true rfl) dX4_init_23 rfl (fun q_3 H hP hD hS => ?_)
  have hpd9 : PDx (dC, dI) classes A H [cO h1 4 [Value.ref q_1, Value.ref q_2, Value.null, Value.null, Value.null, Value.int 0, Value.int 0, Value.int 0], cI aC q_1 8 (fun _ => 0), cI aC q_2 8 (fun _ => 0), cI aC q_3 8 (fun _ => 0)] := ⟨hP, hD⟩
  have hP := hpd9.1
  have hD := hpd9.2
  clear hpd9
  refine W.widen (k := 3) (n := 24) (by omega) (by omega) ?_
  refine va_putF (D := (dC, dI)) (ci := 4) (v := Value.ref q_3) (ty := .array .int) (C := RX4) (T := TX4) (N := 8) hx hb hts inX4 tyX4 tyX4_ok nmX4 hown hK hP hD hS 0 rfl rfl 2 (by decide) (hts _ (gw kw_38 rfl)) (fun _ h9 => h9) rfl hin rfl (by decide +kernel) rfl rfl (Nat.le_of_ble_eq_true rfl) dX4_init_25 (fun H locs hP hD hS => ?_)
  have hpd9 : PDx (dC, dI) classes A H [cO h1 4 [Value.ref q_1, Value.ref q_2, Value.ref q_3, Value.null, Value.null, Value.int 0, Value.int 0, Value.int 0], cI aC q_1 8 (fun _ => 0), cI aC q_2 8 (fun _ => 0), cI aC q_3 8 (fun _ => 0)] := ⟨hP, hD⟩
  have hP := hpd9.1
  have hD := hpd9.2
  clear hpd9
  refine lv_aload_n hx hb dX4_init_28 rfl (lv_at hl 0 rfl) ?_
  refine lv_bipush (v := 8) hx hb dX4_init_29 (by decide) ?_
  refine va_newaI (N' := 8) (a0 := (8, .inl (fun _ => 0))) hx hb (hts _ (gw kw_73 rfl)) hK hP hD hS hA (by decide) (by decide) (by decide) (Nat.le_of_ble_eq_true rfl) (Nat.le_of_ble_eq_true rfl) dX4_init_31 rfl (fun q_4 H hP hD hS => ?_)
  have hpd9 : PDx (dC, dI) classes A H [cO h1 4 [Value.ref q_1, Value.ref q_2, Value.ref q_3, Value.null, Value.null, Value.int 0, Value.int 0, Value.int 0], cI aC q_1 8 (fun _ => 0), cI aC q_2 8 (fun _ => 0), cI aC q_3 8 (fun _ => 0), cI aC q_4 8 (fun _ => 0)] := ⟨hP, hD⟩
  have hP := hpd9.1
  have hD := hpd9.2
  clear hpd9
  refine W.widen (k := 4) (n := 32) (by omega) (by omega) ?_
  refine va_putF (D := (dC, dI)) (ci := 4) (v := Value.ref q_4) (ty := .array .int) (C := RX4) (T := TX4) (N := 8) hx hb hts inX4 tyX4 tyX4_ok nmX4 hown hK hP hD hS 0 rfl rfl 3 (by decide) (hts _ (gw kw_41 rfl)) (fun _ h9 => h9) rfl hin rfl (by decide +kernel) rfl rfl (Nat.le_of_ble_eq_true rfl) dX4_init_33 (fun H locs hP hD hS => ?_)
  have hpd9 : PDx (dC, dI) classes A H [cO h1 4 [Value.ref q_1, Value.ref q_2, Value.ref q_3, Value.ref q_4, Value.null, Value.int 0, Value.int 0, Value.int 0], cI aC q_1 8 (fun _ => 0), cI aC q_2 8 (fun _ => 0), cI aC q_3 8 (fun _ => 0), cI aC q_4 8 (fun _ => 0)] := ⟨hP, hD⟩
  have hP := hpd9.1
  have hD := hpd9.2
  clear hpd9
  refine lv_aload_n hx hb dX4_init_36 rfl (lv_at hl 0 rfl) ?_
  refine lv_iconst (v := 5) hx hb dX4_init_37 (by decide) ?_
  refine va_newaI (N' := 5) (a0 := (5, .inl (fun _ => 0))) hx hb (hts _ (gw kw_73 rfl)) hK hP hD hS hA (by decide) (by decide) (by decide) (Nat.le_of_ble_eq_true rfl) (Nat.le_of_ble_eq_true rfl) dX4_init_38 rfl (fun q_5 H hP hD hS => ?_)
  have hpd9 : PDx (dC, dI) classes A H [cO h1 4 [Value.ref q_1, Value.ref q_2, Value.ref q_3, Value.ref q_4, Value.null, Value.int 0, Value.int 0, Value.int 0], cI aC q_1 8 (fun _ => 0), cI aC q_2 8 (fun _ => 0), cI aC q_3 8 (fun _ => 0), cI aC q_4 8 (fun _ => 0), cI aC q_5 5 (fun _ => 0)] := ⟨hP, hD⟩
  have hP := hpd9.1
  have hD := hpd9.2
  clear hpd9
  refine W.widen (k := 5) (n := 37) (by omega) (by omega) ?_
  refine lv_dup hx hb dX4_init_40 rfl ?_
  refine lv_iconst (v := 0) hx hb dX4_init_41 (by decide) ?_
  refine lv_bipush (v := 10) hx hb dX4_init_42 (by decide) ?_
  have h_6 : vp_in 0 5 := by first | exact vp_in_nI (by omega) (by omega) | (unfold vp_in; decide) | (subst_vars; first | (unfold vp_in; decide) | exact vp_in_nI (by omega) (by omega))
  refine va_iast hx hb hK hP hD hS 5 0 rfl rfl h_6 dX4_init_44 (fun H locs hP hD hS => ?_)
  obtain ⟨f_7, e_f_7⟩ : ∃ y : Nat → Int32, y = upd (fun _ => 0) (0 : Int32).toNatClampNeg 10 := ⟨_, rfl⟩
  have hpd9 : PDx (dC, dI) classes A H [cO h1 4 [Value.ref q_1, Value.ref q_2, Value.ref q_3, Value.ref q_4, Value.null, Value.int 0, Value.int 0, Value.int 0], cI aC q_1 8 (fun _ => 0), cI aC q_2 8 (fun _ => 0), cI aC q_3 8 (fun _ => 0), cI aC q_4 8 (fun _ => 0), cI aC q_5 5 f_7] := by rw [e_f_7]; exact ⟨hP, hD⟩
  have hP := hpd9.1
  have hD := hpd9.2
  clear hpd9
  refine lv_dup hx hb dX4_init_45 rfl ?_
  refine lv_iconst (v := 1) hx hb dX4_init_46 (by decide) ?_
  refine lv_iconst (v := 0) hx hb dX4_init_47 (by decide) ?_
  have h_8 : vp_in 1 5 := by first | exact vp_in_nI (by omega) (by omega) | (unfold vp_in; decide) | (subst_vars; first | (unfold vp_in; decide) | exact vp_in_nI (by omega) (by omega))
  refine va_iast hx hb hK hP hD hS 5 0 rfl rfl h_8 dX4_init_48 (fun H locs hP hD hS => ?_)
  obtain ⟨f_9, e_f_9⟩ : ∃ y : Nat → Int32, y = upd f_7 (1 : Int32).toNatClampNeg 0 := ⟨_, rfl⟩
  have hpd9 : PDx (dC, dI) classes A H [cO h1 4 [Value.ref q_1, Value.ref q_2, Value.ref q_3, Value.ref q_4, Value.null, Value.int 0, Value.int 0, Value.int 0], cI aC q_1 8 (fun _ => 0), cI aC q_2 8 (fun _ => 0), cI aC q_3 8 (fun _ => 0), cI aC q_4 8 (fun _ => 0), cI aC q_5 5 f_9] := by rw [e_f_9]; exact ⟨hP, hD⟩
  have hP := hpd9.1
  have hD := hpd9.2
  clear hpd9
  refine lv_dup hx hb dX4_init_49 rfl ?_
  refine lv_iconst (v := 2) hx hb dX4_init_50 (by decide) ?_
  refine lv_iconst (v := 0) hx hb dX4_init_51 (by decide) ?_
  have h_10 : vp_in 2 5 := by first | exact vp_in_nI (by omega) (by omega) | (unfold vp_in; decide) | (subst_vars; first | (unfold vp_in; decide) | exact vp_in_nI (by omega) (by omega))
  refine va_iast hx hb hK hP hD hS 5 0 rfl rfl h_10 dX4_init_52 (fun H locs hP hD hS => ?_)
  obtain ⟨f_11, e_f_11⟩ : ∃ y : Nat → Int32, y = upd f_9 (2 : Int32).toNatClampNeg 0 := ⟨_, rfl⟩
  have hpd9 : PDx (dC, dI) classes A H [cO h1 4 [Value.ref q_1, Value.ref q_2, Value.ref q_3, Value.ref q_4, Value.null, Value.int 0, Value.int 0, Value.int 0], cI aC q_1 8 (fun _ => 0), cI aC q_2 8 (fun _ => 0), cI aC q_3 8 (fun _ => 0), cI aC q_4 8 (fun _ => 0), cI aC q_5 5 f_11] := by rw [e_f_11]; exact ⟨hP, hD⟩
  have hP := hpd9.1
  have hD := hpd9.2
  clear hpd9
  refine lv_dup hx hb dX4_init_53 rfl ?_
  refine lv_iconst (v := 3) hx hb dX4_init_54 (by decide) ?_
  refine lv_iconst (v := 0) hx hb dX4_init_55 (by decide) ?_
  have h_12 : vp_in 3 5 := by first | exact vp_in_nI (by omega) (by omega) | (unfold vp_in; decide) | (subst_vars; first | (unfold vp_in; decide) | exact vp_in_nI (by omega) (by omega))
  refine va_iast hx hb hK hP hD hS 5 0 rfl rfl h_12 dX4_init_56 (fun H locs hP hD hS => ?_)
  obtain ⟨f_13, e_f_13⟩ : ∃ y : Nat → Int32, y = upd f_11 (3 : Int32).toNatClampNeg 0 := ⟨_, rfl⟩
  have hpd9 : PDx (dC, dI) classes A H [cO h1 4 [Value.ref q_1, Value.ref q_2, Value.ref q_3, Value.ref q_4, Value.null, Value.int 0, Value.int 0, Value.int 0], cI aC q_1 8 (fun _ => 0), cI aC q_2 8 (fun _ => 0), cI aC q_3 8 (fun _ => 0), cI aC q_4 8 (fun _ => 0), cI aC q_5 5 f_13] := by rw [e_f_13]; exact ⟨hP, hD⟩
  have hP := hpd9.1
  have hD := hpd9.2
  clear hpd9
  refine lv_dup hx hb dX4_init_57 rfl ?_
  refine lv_iconst (v := 4) hx hb dX4_init_58 (by decide) ?_
  refine lv_bipush (v := 10) hx hb dX4_init_59 (by decide) ?_
  have h_14 : vp_in 4 5 := by first | exact vp_in_nI (by omega) (by omega) | (unfold vp_in; decide) | (subst_vars; first | (unfold vp_in; decide) | exact vp_in_nI (by omega) (by omega))
  refine va_iast hx hb hK hP hD hS 5 0 rfl rfl h_14 dX4_init_61 (fun H locs hP hD hS => ?_)
  obtain ⟨f_15, e_f_15⟩ : ∃ y : Nat → Int32, y = upd f_13 (4 : Int32).toNatClampNeg 10 := ⟨_, rfl⟩
  have hpd9 : PDx (dC, dI) classes A H [cO h1 4 [Value.ref q_1, Value.ref q_2, Value.ref q_3, Value.ref q_4, Value.null, Value.int 0, Value.int 0, Value.int 0], cI aC q_1 8 (fun _ => 0), cI aC q_2 8 (fun _ => 0), cI aC q_3 8 (fun _ => 0), cI aC q_4 8 (fun _ => 0), cI aC q_5 5 f_15] := by rw [e_f_15]; exact ⟨hP, hD⟩
  have hP := hpd9.1
  have hD := hpd9.2
  clear hpd9
  refine va_putF (D := (dC, dI)) (ci := 4) (v := Value.ref q_5) (ty := .array .int) (C := RX4) (T := TX4) (N := 8) hx hb hts inX4 tyX4 tyX4_ok nmX4 hown hK hP hD hS 0 rfl rfl 4 (by decide) (hts _ (gw kw_43 rfl)) (fun _ h9 => h9) rfl hin rfl (by decide +kernel) rfl rfl (Nat.le_of_ble_eq_true rfl) dX4_init_62 (fun H locs hP hD hS => ?_)
  have hpd9 : PDx (dC, dI) classes A H [oX4 h1 q_1 q_2 q_3 q_4 q_5 0 0 0, cI aC q_1 8 (fun _ => 0), cI aC q_2 8 (fun _ => 0), cI aC q_3 8 (fun _ => 0), cI aC q_4 8 (fun _ => 0), cI aC q_5 5 f_15] := ⟨hP, hD⟩
  have hP := hpd9.1
  have hD := hpd9.2
  clear hpd9
  have hpd9 := pd_N (cx := [oX4 h1 q_1 q_2 q_3 q_4 q_5 0 0 0, cI aC q_1 8 (fun _ => 0), cI aC q_2 8 (fun _ => 0), cI aC q_3 8 (fun _ => 0), cI aC q_4 8 (fun _ => 0), cI aC q_5 5 f_15]) hP hD [0, 1, 2, 3, 4, 5] (by decide) rfl
  have hP9 := hpd9.1
  have hD9 := hpd9.2
  refine W.widen (k := 5) (n := 37) (by omega) (by omega) ?_
  exact W.vret hx hb hr (fun t ht hW => ⟨⟨(f_15), rfl, by subst e_f_15; subst e_f_13; subst e_f_11; subst e_f_9; subst e_f_7; rfl, q_1, q_2, q_3, q_4, q_5, by rw [ht]; exact hP9, va_K.moved hW.alike hK, hD9⟩, hS.F ht⟩) hS.2.2 dX4_init_65

set_option maxHeartbeats 1000000 in
set_option maxRecDepth 100000 in
/-- X7_init -/
theorem c_X7_init (l : Launch) (dC : Nat → ClassId) (dI : Nat → Nat → Nat) (aC : Nat → ClassId) (sz : Nat) (h1 : Nat)  : Met l yX7_init (wW yX7_init cX7_init 1 (none : Option FieldType)) ({ frames := 1, cells := 1, slots := 64, locals := 12 } : Room) (va_Pc [Value.ref h1] (fun U => U.heap.size = sz ∧ va_P (dC, dI) classes [cO h1 7 [Value.int 0, Value.null]] U.heap ∧ va_K (dC, dI) classes (TY aC) U ∧ va_D (fun _ => True) [cO h1 7 [Value.int 0, Value.null]] ∧ NX U)) (va_Qv (fun (_ : Unit) => True) (fun (_ : Unit) (t : State) => ∃ (n1 : Nat), va_P (dC, dI) classes [oX7 h1 0 n1, cC aC n1 64 (fun _ => 0)] t.heap ∧ va_K (dC, dI) classes (TY aC) t ∧ va_D (va_A [cO h1 7 [Value.int 0, Value.null]] sz) [oX7 h1 0 n1, cC aC n1 64 (fun _ => 0)]) (va_A [cO h1 7 [Value.int 0, Value.null]] sz)) 1 64 (va_A [cO h1 7 [Value.int 0, Value.null]] sz) := by
  refine Met.ofW (cc := cX7_init) (maxL := 1) (ret := (none : Option FieldType)) (by decide) rfl ?_
  intro p e s m args below meth c s₁ B hml hv
  obtain ⟨rfl, hsz, hP, hK, hD0, hN⟩ := hv
  have hx := B.exec
  have hb := B.bytes
  have hr := B.returns
  have hts0 := atoms_spec (ws := (wW yX7_init cX7_init 1 (none : Option FieldType))) B.pre
  have hts : ∀ w9 ∈ lw_G, w9.before ([Value.ref h1] : List Value).toArray s = true := fun w9 h9 => hts0 w9 (List.mem_cons_of_mem _ h9)
  have hown : s.vm.findClass RX7 = some m.cls := findClass_of_methodNamed (x := yX7_init) B.named
  have hlocks := B.notSynchronized
  have hin : meth.name = "<init>" := (name_of_methodNamed B.named B.method).1
  subst hsz
  have hD := hD0.self (sz := s.heap.size)
  generalize hAe : va_A [cO h1 7 [Value.int 0, Value.null]] s.heap.size = A at hD ⊢
  have hA : ∀ q : Nat, s.heap.size ≤ q → A q := fun q h => by rw [← hAe]; exact Or.inr h
  obtain ⟨H, hHe⟩ : ∃ H : Heap, H = s.heap := ⟨_, rfl⟩
  have hS : va_S A s.heap H [] := by rw [hHe]; exact va_S.rf
  have hP : va_P (dC, dI) classes [cO h1 7 [Value.int 0, Value.null]] H := by rw [hHe]; exact hP
  have hl := lv_entry ([Value.ref h1]) (n := 1) (Nat.le_of_ble_eq_true rfl)
  rw [lg_entry_eq]
  generalize (lg_sl ([Value.ref h1]) ++ List.replicate (1 - (lg_sl ([Value.ref h1])).length) Slot.unset).toArray = ls at hl ⊢
  have hl : lv_has ls 1 [(0, Value.ref h1)] := hl
  rw [← hHe]
  refine lv_aload_n hx hb dX7_init_0 rfl (lv_at hl 0 rfl) ?_
  refine W.objInit hx hb hown (hts _ (gw kw_79 rfl)) (hts _ (gw kw_24 rfl)) (hts _ (gw kw_25 rfl)) rfl (by rw [hml]; exact hl.1) rfl dX7_init_1 (Nat.le_of_ble_eq_true rfl) (Nat.le_of_ble_eq_true rfl) ?_
  refine W.eq (g2 := F0 m 4 ls []) rfl ?_
  refine lv_aload_n hx hb dX7_init_4 rfl (lv_at hl 0 rfl) ?_
  refine lv_bipush (v := 64) hx hb dX7_init_5 (by decide) ?_
  refine va_newaC (N' := 64) (a0 := (64, .inl (fun _ => 0))) hx hb (hts _ (gw kw_88 rfl)) hK hP hD hS hA (by decide) (by decide) (by decide) (Nat.le_of_ble_eq_true rfl) (Nat.le_of_ble_eq_true rfl) dX7_init_7 rfl (fun q_1 H hP hD hS => ?_)
  have hpd9 : PDx (dC, dI) classes A H [cO h1 7 [Value.int 0, Value.null], cC aC q_1 64 (fun _ => 0)] := ⟨hP, hD⟩
  have hP := hpd9.1
  have hD := hpd9.2
  clear hpd9
  refine W.widen (k := 1) (n := 64) (by omega) (by omega) ?_
  refine va_putF (D := (dC, dI)) (ci := 7) (v := Value.ref q_1) (ty := .array .char) (C := RX7) (T := TX7) (N := 2) hx hb hts inX7 tyX7 tyX7_ok nmX7 hown hK hP hD hS 0 rfl rfl 1 (by decide) (hts _ (gw kw_82 rfl)) (fun _ h9 => h9) rfl hin rfl (by decide +kernel) rfl rfl (Nat.le_of_ble_eq_true rfl) dX7_init_9 (fun H locs hP hD hS => ?_)
  have hpd9 : PDx (dC, dI) classes A H [oX7 h1 0 q_1, cC aC q_1 64 (fun _ => 0)] := ⟨hP, hD⟩
  have hP := hpd9.1
  have hD := hpd9.2
  clear hpd9
  have hpd9 := pd_N (cx := [oX7 h1 0 q_1, cC aC q_1 64 (fun _ => 0)]) hP hD [0, 1] (by decide) rfl
  have hP9 := hpd9.1
  have hD9 := hpd9.2
  refine W.widen (k := 1) (n := 64) (by omega) (by omega) ?_
  exact W.vret hx hb hr (fun t ht hW => ⟨⟨(), rfl, trivial, q_1, by rw [ht]; exact hP9, va_K.moved hW.alike hK, hD9⟩, hS.F ht⟩) hS.2.2 dX7_init_12

set_option maxHeartbeats 1000000 in
set_option maxRecDepth 100000 in
/-- X2_init -/
theorem c_X2_init (l : Launch) (dC : Nat → ClassId) (dI : Nat → Nat → Nat) (aC : Nat → ClassId) (sz : Nat) (h1 : Nat) (kv : Nat)  : Met l yX2_init (wW yX2_init cX2_init 2 (none : Option FieldType)) ({ frames := 1, cells := 3, slots := 180, locals := 12 } : Room) (va_Pc [Value.ref h1, Value.ref kv] (fun U => U.heap.size = sz ∧ va_P (dC, dI) classes [cO h1 2 [Value.null, Value.null, Value.null, Value.null, Value.int 0, Value.int 0]] U.heap ∧ va_K (dC, dI) classes (TY aC) U ∧ va_D (fun _ => True) [cO h1 2 [Value.null, Value.null, Value.null, Value.null, Value.int 0, Value.int 0]] ∧ NX U)) (va_Qv (fun (_ : Unit) => True) (fun (_ : Unit) (t : State) => ∃ (n1 n2 n3 : Nat), va_P (dC, dI) classes [oX2 h1 n1 n2 n3 kv 0 0, cI aC n1 60 (fun _ => 0), cI aC n2 60 (fun _ => 0), cI aC n3 60 (fun _ => 0)] t.heap ∧ va_K (dC, dI) classes (TY aC) t ∧ va_D (va_A [cO h1 2 [Value.null, Value.null, Value.null, Value.null, Value.int 0, Value.int 0]] sz) [oX2 h1 n1 n2 n3 kv 0 0, cI aC n1 60 (fun _ => 0), cI aC n2 60 (fun _ => 0), cI aC n3 60 (fun _ => 0)]) (va_A [cO h1 2 [Value.null, Value.null, Value.null, Value.null, Value.int 0, Value.int 0]] sz)) 3 180 (va_A [cO h1 2 [Value.null, Value.null, Value.null, Value.null, Value.int 0, Value.int 0]] sz) := by
  refine Met.ofW (cc := cX2_init) (maxL := 2) (ret := (none : Option FieldType)) (by decide) rfl ?_
  intro p e s m args below meth c s₁ B hml hv
  obtain ⟨rfl, hsz, hP, hK, hD0, hN⟩ := hv
  have hx := B.exec
  have hb := B.bytes
  have hr := B.returns
  have hts0 := atoms_spec (ws := (wW yX2_init cX2_init 2 (none : Option FieldType))) B.pre
  have hts : ∀ w9 ∈ lw_G, w9.before ([Value.ref h1, Value.ref kv] : List Value).toArray s = true := fun w9 h9 => hts0 w9 (List.mem_cons_of_mem _ h9)
  have hown : s.vm.findClass RX2 = some m.cls := findClass_of_methodNamed (x := yX2_init) B.named
  have hlocks := B.notSynchronized
  have hin : meth.name = "<init>" := (name_of_methodNamed B.named B.method).1
  subst hsz
  have hD := hD0.self (sz := s.heap.size)
  generalize hAe : va_A [cO h1 2 [Value.null, Value.null, Value.null, Value.null, Value.int 0, Value.int 0]] s.heap.size = A at hD ⊢
  have hA : ∀ q : Nat, s.heap.size ≤ q → A q := fun q h => by rw [← hAe]; exact Or.inr h
  obtain ⟨H, hHe⟩ : ∃ H : Heap, H = s.heap := ⟨_, rfl⟩
  have hS : va_S A s.heap H [] := by rw [hHe]; exact va_S.rf
  have hP : va_P (dC, dI) classes [cO h1 2 [Value.null, Value.null, Value.null, Value.null, Value.int 0, Value.int 0]] H := by rw [hHe]; exact hP
  have hl := lv_entry ([Value.ref h1, Value.ref kv]) (n := 2) (Nat.le_of_ble_eq_true rfl)
  rw [lg_entry_eq]
  generalize (lg_sl ([Value.ref h1, Value.ref kv]) ++ List.replicate (2 - (lg_sl ([Value.ref h1, Value.ref kv])).length) Slot.unset).toArray = ls at hl ⊢
  have hl : lv_has ls 2 [(0, Value.ref h1), (1, Value.ref kv)] := hl
  rw [← hHe]
  refine lv_aload_n hx hb dX2_init_0 rfl (lv_at hl 0 rfl) ?_
  refine W.objInit hx hb hown (hts _ (gw kw_205 rfl)) (hts _ (gw kw_24 rfl)) (hts _ (gw kw_25 rfl)) rfl (by rw [hml]; exact hl.1) rfl dX2_init_1 (Nat.le_of_ble_eq_true rfl) (Nat.le_of_ble_eq_true rfl) ?_
  refine W.eq (g2 := F0 m 4 ls []) rfl ?_
  refine lv_aload_n hx hb dX2_init_4 rfl (lv_at hl 0 rfl) ?_
  refine lv_bipush (v := 60) hx hb dX2_init_5 (by decide) ?_
  refine va_newaI (N' := 60) (a0 := (60, .inl (fun _ => 0))) hx hb (hts _ (gw kw_73 rfl)) hK hP hD hS hA (by decide) (by decide) (by decide) (Nat.le_of_ble_eq_true rfl) (Nat.le_of_ble_eq_true rfl) dX2_init_7 rfl (fun q_1 H hP hD hS => ?_)
  have hpd9 : PDx (dC, dI) classes A H [cO h1 2 [Value.null, Value.null, Value.null, Value.null, Value.int 0, Value.int 0], cI aC q_1 60 (fun _ => 0)] := ⟨hP, hD⟩
  have hP := hpd9.1
  have hD := hpd9.2
  clear hpd9
  refine W.widen (k := 1) (n := 60) (by omega) (by omega) ?_
  refine va_putF (D := (dC, dI)) (ci := 2) (v := Value.ref q_1) (ty := .array .int) (C := RX2) (T := TX2) (N := 6) hx hb hts inX2 tyX2 tyX2_ok nmX2 hown hK hP hD hS 0 rfl rfl 0 (by decide) (hts _ (gw kw_206 rfl)) (fun _ h9 => h9) rfl hin rfl (by decide +kernel) rfl rfl (Nat.le_of_ble_eq_true rfl) dX2_init_9 (fun H locs hP hD hS => ?_)
  have hpd9 : PDx (dC, dI) classes A H [cO h1 2 [Value.ref q_1, Value.null, Value.null, Value.null, Value.int 0, Value.int 0], cI aC q_1 60 (fun _ => 0)] := ⟨hP, hD⟩
  have hP := hpd9.1
  have hD := hpd9.2
  clear hpd9
  refine lv_aload_n hx hb dX2_init_12 rfl (lv_at hl 0 rfl) ?_
  refine lv_bipush (v := 60) hx hb dX2_init_13 (by decide) ?_
  refine va_newaI (N' := 60) (a0 := (60, .inl (fun _ => 0))) hx hb (hts _ (gw kw_73 rfl)) hK hP hD hS hA (by decide) (by decide) (by decide) (Nat.le_of_ble_eq_true rfl) (Nat.le_of_ble_eq_true rfl) dX2_init_15 rfl (fun q_2 H hP hD hS => ?_)
  have hpd9 : PDx (dC, dI) classes A H [cO h1 2 [Value.ref q_1, Value.null, Value.null, Value.null, Value.int 0, Value.int 0], cI aC q_1 60 (fun _ => 0), cI aC q_2 60 (fun _ => 0)] := ⟨hP, hD⟩
  have hP := hpd9.1
  have hD := hpd9.2
  clear hpd9
  refine W.widen (k := 2) (n := 120) (by omega) (by omega) ?_
  refine va_putF (D := (dC, dI)) (ci := 2) (v := Value.ref q_2) (ty := .array .int) (C := RX2) (T := TX2) (N := 6) hx hb hts inX2 tyX2 tyX2_ok nmX2 hown hK hP hD hS 0 rfl rfl 1 (by decide) (hts _ (gw kw_208 rfl)) (fun _ h9 => h9) rfl hin rfl (by decide +kernel) rfl rfl (Nat.le_of_ble_eq_true rfl) dX2_init_17 (fun H locs hP hD hS => ?_)
  have hpd9 : PDx (dC, dI) classes A H [cO h1 2 [Value.ref q_1, Value.ref q_2, Value.null, Value.null, Value.int 0, Value.int 0], cI aC q_1 60 (fun _ => 0), cI aC q_2 60 (fun _ => 0)] := ⟨hP, hD⟩
  have hP := hpd9.1
  have hD := hpd9.2
  clear hpd9
  refine lv_aload_n hx hb dX2_init_20 rfl (lv_at hl 0 rfl) ?_
  refine lv_bipush (v := 60) hx hb dX2_init_21 (by decide) ?_
  refine va_newaI (N' := 60) (a0 := (60, .inl (fun _ => 0))) hx hb (hts _ (gw kw_73 rfl)) hK hP hD hS hA (by decide) (by decide) (by decide) (Nat.le_of_ble_eq_true rfl) (Nat.le_of_ble_eq_true rfl) dX2_init_23 rfl (fun q_3 H hP hD hS => ?_)
  have hpd9 : PDx (dC, dI) classes A H [cO h1 2 [Value.ref q_1, Value.ref q_2, Value.null, Value.null, Value.int 0, Value.int 0], cI aC q_1 60 (fun _ => 0), cI aC q_2 60 (fun _ => 0), cI aC q_3 60 (fun _ => 0)] := ⟨hP, hD⟩
  have hP := hpd9.1
  have hD := hpd9.2
  clear hpd9
  refine W.widen (k := 3) (n := 180) (by omega) (by omega) ?_
  refine va_putF (D := (dC, dI)) (ci := 2) (v := Value.ref q_3) (ty := .array .int) (C := RX2) (T := TX2) (N := 6) hx hb hts inX2 tyX2 tyX2_ok nmX2 hown hK hP hD hS 0 rfl rfl 2 (by decide) (hts _ (gw kw_209 rfl)) (fun _ h9 => h9) rfl hin rfl (by decide +kernel) rfl rfl (Nat.le_of_ble_eq_true rfl) dX2_init_25 (fun H locs hP hD hS => ?_)
  have hpd9 : PDx (dC, dI) classes A H [cO h1 2 [Value.ref q_1, Value.ref q_2, Value.ref q_3, Value.null, Value.int 0, Value.int 0], cI aC q_1 60 (fun _ => 0), cI aC q_2 60 (fun _ => 0), cI aC q_3 60 (fun _ => 0)] := ⟨hP, hD⟩
  have hP := hpd9.1
  have hD := hpd9.2
  clear hpd9
  refine lv_aload_n hx hb dX2_init_28 rfl (lv_at hl 0 rfl) ?_
  refine lv_aload_n hx hb dX2_init_29 rfl (lv_at hl 1 rfl) ?_
  refine va_putF (D := (dC, dI)) (ci := 2) (v := Value.ref kv) (ty := .object "EldestSays$Clever") (C := RX2) (T := TX2) (N := 6) hx hb hts inX2 tyX2 tyX2_ok nmX2 hown hK hP hD hS 0 rfl rfl 3 (by decide) (hts _ (gw kw_210 rfl)) (fun _ h9 => h9) rfl hin rfl (by decide +kernel) rfl rfl (Nat.le_of_ble_eq_true rfl) dX2_init_30 (fun H locs hP hD hS => ?_)
  have hpd9 : PDx (dC, dI) classes A H [oX2 h1 q_1 q_2 q_3 kv 0 0, cI aC q_1 60 (fun _ => 0), cI aC q_2 60 (fun _ => 0), cI aC q_3 60 (fun _ => 0)] := ⟨hP, hD⟩
  have hP := hpd9.1
  have hD := hpd9.2
  clear hpd9
  have hpd9 := pd_N (cx := [oX2 h1 q_1 q_2 q_3 kv 0 0, cI aC q_1 60 (fun _ => 0), cI aC q_2 60 (fun _ => 0), cI aC q_3 60 (fun _ => 0)]) hP hD [0, 1, 2, 3] (by decide) rfl
  have hP9 := hpd9.1
  have hD9 := hpd9.2
  refine W.widen (k := 3) (n := 180) (by omega) (by omega) ?_
  exact W.vret hx hb hr (fun t ht hW => ⟨⟨(), rfl, trivial, q_1, q_2, q_3, by rw [ht]; exact hP9, va_K.moved hW.alike hK, hD9⟩, hS.F ht⟩) hS.2.2 dX2_init_33

set_option maxHeartbeats 1000000 in
set_option maxRecDepth 100000 in
/-- X9_init -/
theorem c_X9_init (l : Launch) (dC : Nat → ClassId) (dI : Nat → Nat → Nat) (aC : Nat → ClassId) (sz : Nat) (h1 : Nat) (kk : Nat) (L : List Nat) (g : Nat → Nat → Int32)  : Met l yX9_init (wW yX9_init cX9_init 2 (none : Option FieldType)) ({ frames := 2, cells := 40, slots := 555, locals := 32 } : Room) (va_Pc [Value.ref h1, Value.ref kk] (fun U => U.heap.size = sz ∧ va_P (dC, dI) classes (wp [cO h1 9 [Value.null, Value.null, Value.null, Value.null, Value.null, Value.null, Value.null, Value.null, Value.null, Value.null, Value.null, Value.null, Value.int 0, Value.int 0]] (va_pl L (plE aC g))) U.heap ∧ va_K (dC, dI) classes (TY aC) U ∧ va_D (fun _ => True) (wp [cO h1 9 [Value.null, Value.null, Value.null, Value.null, Value.null, Value.null, Value.null, Value.null, Value.null, Value.null, Value.null, Value.null, Value.int 0, Value.int 0]] (va_pl L (plE aC g))) ∧ NX U)) (va_Qv (fun (u : (Nat → Int32) × List Nat × (Nat → Nat → Int32) × (Nat → Nat) × (Nat → Nat) × (Nat → Nat) × (Nat → Option Nat) × (Nat → Option Nat) × (Nat → Option Nat)) => match u with | (sf, L2, g2, ro, rp, rs, fo, fp, fs) => sf = SET0 ∧ GRD L2 fo fp fs ro rp rs ∧ (∀ a, a ∈ L → a ∈ L2) ∧ ∀ q, q < 8 → ro q ∉ L ∧ rp q ∉ L ∧ rs q ∉ L) (fun (u : (Nat → Int32) × List Nat × (Nat → Nat → Int32) × (Nat → Nat) × (Nat → Nat) × (Nat → Nat) × (Nat → Option Nat) × (Nat → Option Nat) × (Nat → Option Nat)) (t : State) => match u with | (sf, L2, g2, ro, rp, rs, fo, fp, fs) => ∃ (o1 o2 o3 o4 o5 o6 nev o7 o8 o9 oa n1 n2 n3 n4 n5 : Nat), va_P (dC, dI) classes (wp [oX9 h1 o1 o2 o3 o4 o5 o6 nev kk o7 o8 o9 oa 0 0, cA aC o1 8 fo, cA aC o2 8 fp, cA aC o3 8 fs, cI aC o4 8 (fun _ => 0), cI aC o5 8 (fun _ => 0), cI aC o6 8 (fun _ => 0), oX4 nev n1 n2 n3 n4 n5 0 0 0, cI aC n1 8 (fun _ => 0), cI aC n2 8 (fun _ => 0), cI aC n3 8 (fun _ => 0), cI aC n4 8 (fun _ => 0), cI aC n5 5 sf, cI aC o7 7 (fun _ => 0), cI aC o8 7 (fun _ => 0), cI aC o9 128 (fun _ => 0), cI aC oa 128 (fun _ => 0)] (va_pl L2 (plE aC g2))) t.heap ∧ va_K (dC, dI) classes (TY aC) t ∧ va_D (va_A (wp [cO h1 9 [Value.null, Value.null, Value.null, Value.null, Value.null, Value.null, Value.null, Value.null, Value.null, Value.null, Value.null, Value.null, Value.int 0, Value.int 0]] (va_pl L (plE aC g))) sz) (wp [oX9 h1 o1 o2 o3 o4 o5 o6 nev kk o7 o8 o9 oa 0 0, cA aC o1 8 fo, cA aC o2 8 fp, cA aC o3 8 fs, cI aC o4 8 (fun _ => 0), cI aC o5 8 (fun _ => 0), cI aC o6 8 (fun _ => 0), oX4 nev n1 n2 n3 n4 n5 0 0 0, cI aC n1 8 (fun _ => 0), cI aC n2 8 (fun _ => 0), cI aC n3 8 (fun _ => 0), cI aC n4 8 (fun _ => 0), cI aC n5 5 sf, cI aC o7 7 (fun _ => 0), cI aC o8 7 (fun _ => 0), cI aC o9 128 (fun _ => 0), cI aC oa 128 (fun _ => 0)] (va_pl L2 (plE aC g2)))) (va_A (wp [cO h1 9 [Value.null, Value.null, Value.null, Value.null, Value.null, Value.null, Value.null, Value.null, Value.null, Value.null, Value.null, Value.null, Value.int 0, Value.int 0]] (va_pl L (plE aC g))) sz)) 40 555 (va_A (wp [cO h1 9 [Value.null, Value.null, Value.null, Value.null, Value.null, Value.null, Value.null, Value.null, Value.null, Value.null, Value.null, Value.null, Value.int 0, Value.int 0]] (va_pl L (plE aC g))) sz) := by
  refine Met.ofW (cc := cX9_init) (maxL := 2) (ret := (none : Option FieldType)) (by decide) rfl ?_
  intro p e s m args below meth c s₁ B hml hv
  obtain ⟨rfl, hsz, hP, hK, hD0, hN⟩ := hv
  have hx := B.exec
  have hb := B.bytes
  have hr := B.returns
  have hts0 := atoms_spec (ws := (wW yX9_init cX9_init 2 (none : Option FieldType))) B.pre
  have hts : ∀ w9 ∈ lw_G, w9.before ([Value.ref h1, Value.ref kk] : List Value).toArray s = true := fun w9 h9 => hts0 w9 (List.mem_cons_of_mem _ h9)
  have hown : s.vm.findClass RX9 = some m.cls := findClass_of_methodNamed (x := yX9_init) B.named
  have hlocks := B.notSynchronized
  have hin : meth.name = "<init>" := (name_of_methodNamed B.named B.method).1
  subst hsz
  have hD := hD0.self (sz := s.heap.size)
  generalize hAe : va_A (wp [cO h1 9 [Value.null, Value.null, Value.null, Value.null, Value.null, Value.null, Value.null, Value.null, Value.null, Value.null, Value.null, Value.null, Value.int 0, Value.int 0]] (va_pl L (plE aC g))) s.heap.size = A at hD ⊢
  have hA : ∀ q : Nat, s.heap.size ≤ q → A q := fun q h => by rw [← hAe]; exact Or.inr h
  obtain ⟨H, hHe⟩ : ∃ H : Heap, H = s.heap := ⟨_, rfl⟩
  have hS : va_S A s.heap H [] := by rw [hHe]; exact va_S.rf
  have hP : va_P (dC, dI) classes (wp [cO h1 9 [Value.null, Value.null, Value.null, Value.null, Value.null, Value.null, Value.null, Value.null, Value.null, Value.null, Value.null, Value.null, Value.int 0, Value.int 0]] (va_pl L (plE aC g))) H := by rw [hHe]; exact hP
  have hl := lv_entry ([Value.ref h1, Value.ref kk]) (n := 2) (Nat.le_of_ble_eq_true rfl)
  rw [lg_entry_eq]
  generalize (lg_sl ([Value.ref h1, Value.ref kk]) ++ List.replicate (2 - (lg_sl ([Value.ref h1, Value.ref kk])).length) Slot.unset).toArray = ls at hl ⊢
  have hl : lv_has ls 2 [(0, Value.ref h1), (1, Value.ref kk)] := hl
  rw [← hHe]
  refine lv_aload_n hx hb dX9_init_0 rfl (lv_at hl 0 rfl) ?_
  refine W.objInit hx hb hown (hts _ (gw kw_145 rfl)) (hts _ (gw kw_24 rfl)) (hts _ (gw kw_25 rfl)) rfl (by rw [hml]; exact hl.1) rfl dX9_init_1 (Nat.le_of_ble_eq_true rfl) (Nat.le_of_ble_eq_true rfl) ?_
  refine W.eq (g2 := F0 m 4 ls []) rfl ?_
  refine lv_aload_n hx hb dX9_init_4 rfl (lv_at hl 0 rfl) ?_
  refine lv_bipush (v := 8) hx hb dX9_init_5 (by decide) ?_
  refine lv_bipush (v := 8) hx hb dX9_init_7 (by decide) ?_
  refine pl_mna (X := [cO h1 9 [Value.null, Value.null, Value.null, Value.null, Value.null, Value.null, Value.null, Value.null, Value.null, Value.null, Value.null, Value.null, Value.int 0, Value.int 0]]) hx hb hown (hts _ (gw kw_146 rfl)) (va_AOA.use hN.2.2) (hts _ (gw kw_73 rfl)) hK hP hD hS hA (Nat.le_of_ble_eq_true rfl) (Nat.le_of_ble_eq_true rfl) dX9_init_9 (fun q_1 r_2 L_3 g_4 H r_2_i r_2_a r_2_s hP hD hS => ?_)
  have hpd9 : PDx (dC, dI) classes A H (wp [cO h1 9 [Value.null, Value.null, Value.null, Value.null, Value.null, Value.null, Value.null, Value.null, Value.null, Value.null, Value.null, Value.null, Value.int 0, Value.int 0], cA aC q_1 8 (fun i => if i < 8 then some (r_2 i) else none)] (va_pl L_3 (plE aC g_4))) := ⟨hP, hD⟩
  have hP := hpd9.1
  have hD := hpd9.2
  clear hpd9
  refine W.widen (k := 9) (n := 72) (by omega) (by omega) ?_
  refine va_putF (D := (dC, dI)) (ci := 9) (v := Value.ref q_1) (ty := .array (.array .int)) (C := RX9) (T := TX9) (N := 14) hx hb hts inX9 tyX9 tyX9_ok nmX9 hown hK hP hD hS 0 rfl rfl 0 (by decide) (hts _ (gw kw_150 rfl)) (fun _ h9 => h9) rfl hin rfl (by decide +kernel) rfl rfl (Nat.le_of_ble_eq_true rfl) dX9_init_13 (fun H locs hP hD hS => ?_)
  have hpd9 : PDx (dC, dI) classes A H (wp [cO h1 9 [Value.ref q_1, Value.null, Value.null, Value.null, Value.null, Value.null, Value.null, Value.null, Value.null, Value.null, Value.null, Value.null, Value.int 0, Value.int 0], cA aC q_1 8 (fun i => if i < 8 then some (r_2 i) else none)] (va_pl L_3 (plE aC g_4))) := ⟨hP, hD⟩
  have hP := hpd9.1
  have hD := hpd9.2
  clear hpd9
  refine lv_aload_n hx hb dX9_init_16 rfl (lv_at hl 0 rfl) ?_
  refine lv_bipush (v := 8) hx hb dX9_init_17 (by decide) ?_
  refine lv_bipush (v := 8) hx hb dX9_init_19 (by decide) ?_
  refine pl_mna (X := [cO h1 9 [Value.ref q_1, Value.null, Value.null, Value.null, Value.null, Value.null, Value.null, Value.null, Value.null, Value.null, Value.null, Value.null, Value.int 0, Value.int 0], cA aC q_1 8 (fun i => if i < 8 then some (r_2 i) else none)]) hx hb hown (hts _ (gw kw_146 rfl)) (va_AOA.use hN.2.2) (hts _ (gw kw_73 rfl)) hK hP hD hS hA (Nat.le_of_ble_eq_true rfl) (Nat.le_of_ble_eq_true rfl) dX9_init_21 (fun q_5 r_6 L_7 g_8 H r_6_i r_6_a r_6_s hP hD hS => ?_)
  have hpd9 : PDx (dC, dI) classes A H (wp [cO h1 9 [Value.ref q_1, Value.null, Value.null, Value.null, Value.null, Value.null, Value.null, Value.null, Value.null, Value.null, Value.null, Value.null, Value.int 0, Value.int 0], cA aC q_1 8 (fun i => if i < 8 then some (r_2 i) else none), cA aC q_5 8 (fun i => if i < 8 then some (r_6 i) else none)] (va_pl L_7 (plE aC g_8))) := ⟨hP, hD⟩
  have hP := hpd9.1
  have hD := hpd9.2
  clear hpd9
  refine W.widen (k := 18) (n := 144) (by omega) (by omega) ?_
  refine va_putF (D := (dC, dI)) (ci := 9) (v := Value.ref q_5) (ty := .array (.array .int)) (C := RX9) (T := TX9) (N := 14) hx hb hts inX9 tyX9 tyX9_ok nmX9 hown hK hP hD hS 0 rfl rfl 1 (by decide) (hts _ (gw kw_152 rfl)) (fun _ h9 => h9) rfl hin rfl (by decide +kernel) rfl rfl (Nat.le_of_ble_eq_true rfl) dX9_init_25 (fun H locs hP hD hS => ?_)
  have hpd9 : PDx (dC, dI) classes A H (wp [cO h1 9 [Value.ref q_1, Value.ref q_5, Value.null, Value.null, Value.null, Value.null, Value.null, Value.null, Value.null, Value.null, Value.null, Value.null, Value.int 0, Value.int 0], cA aC q_1 8 (fun i => if i < 8 then some (r_2 i) else none), cA aC q_5 8 (fun i => if i < 8 then some (r_6 i) else none)] (va_pl L_7 (plE aC g_8))) := ⟨hP, hD⟩
  have hP := hpd9.1
  have hD := hpd9.2
  clear hpd9
  refine lv_aload_n hx hb dX9_init_28 rfl (lv_at hl 0 rfl) ?_
  refine lv_bipush (v := 8) hx hb dX9_init_29 (by decide) ?_
  refine lv_bipush (v := 8) hx hb dX9_init_31 (by decide) ?_
  refine pl_mna (X := [cO h1 9 [Value.ref q_1, Value.ref q_5, Value.null, Value.null, Value.null, Value.null, Value.null, Value.null, Value.null, Value.null, Value.null, Value.null, Value.int 0, Value.int 0], cA aC q_1 8 (fun i => if i < 8 then some (r_2 i) else none), cA aC q_5 8 (fun i => if i < 8 then some (r_6 i) else none)]) hx hb hown (hts _ (gw kw_146 rfl)) (va_AOA.use hN.2.2) (hts _ (gw kw_73 rfl)) hK hP hD hS hA (Nat.le_of_ble_eq_true rfl) (Nat.le_of_ble_eq_true rfl) dX9_init_33 (fun q_9 r_10 L_11 g_12 H r_10_i r_10_a r_10_s hP hD hS => ?_)
  have hpd9 : PDx (dC, dI) classes A H (wp [cO h1 9 [Value.ref q_1, Value.ref q_5, Value.null, Value.null, Value.null, Value.null, Value.null, Value.null, Value.null, Value.null, Value.null, Value.null, Value.int 0, Value.int 0], cA aC q_1 8 (fun i => if i < 8 then some (r_2 i) else none), cA aC q_5 8 (fun i => if i < 8 then some (r_6 i) else none), cA aC q_9 8 (fun i => if i < 8 then some (r_10 i) else none)] (va_pl L_11 (plE aC g_12))) := ⟨hP, hD⟩
  have hP := hpd9.1
  have hD := hpd9.2
  clear hpd9
  refine W.widen (k := 27) (n := 216) (by omega) (by omega) ?_
  refine va_putF (D := (dC, dI)) (ci := 9) (v := Value.ref q_9) (ty := .array (.array .int)) (C := RX9) (T := TX9) (N := 14) hx hb hts inX9 tyX9 tyX9_ok nmX9 hown hK hP hD hS 0 rfl rfl 2 (by decide) (hts _ (gw kw_154 rfl)) (fun _ h9 => h9) rfl hin rfl (by decide +kernel) rfl rfl (Nat.le_of_ble_eq_true rfl) dX9_init_37 (fun H locs hP hD hS => ?_)
  have hpd9 : PDx (dC, dI) classes A H (wp [cO h1 9 [Value.ref q_1, Value.ref q_5, Value.ref q_9, Value.null, Value.null, Value.null, Value.null, Value.null, Value.null, Value.null, Value.null, Value.null, Value.int 0, Value.int 0], cA aC q_1 8 (fun i => if i < 8 then some (r_2 i) else none), cA aC q_5 8 (fun i => if i < 8 then some (r_6 i) else none), cA aC q_9 8 (fun i => if i < 8 then some (r_10 i) else none)] (va_pl L_11 (plE aC g_12))) := ⟨hP, hD⟩
  have hP := hpd9.1
  have hD := hpd9.2
  clear hpd9
  refine lv_aload_n hx hb dX9_init_40 rfl (lv_at hl 0 rfl) ?_
  refine lv_bipush (v := 8) hx hb dX9_init_41 (by decide) ?_
  refine va_newaI (N' := 8) (a0 := (8, .inl (fun _ => 0))) hx hb (hts _ (gw kw_73 rfl)) hK hP hD hS hA (by decide) (by decide) (by decide) (Nat.le_of_ble_eq_true rfl) (Nat.le_of_ble_eq_true rfl) dX9_init_43 rfl (fun q_13 H hP hD hS => ?_)
  have hP := va_P.swap (a := [cO h1 9 [Value.ref q_1, Value.ref q_5, Value.ref q_9, Value.null, Value.null, Value.null, Value.null, Value.null, Value.null, Value.null, Value.null, Value.null, Value.int 0, Value.int 0], cA aC q_1 8 (fun i => if i < 8 then some (r_2 i) else none), cA aC q_5 8 (fun i => if i < 8 then some (r_6 i) else none), cA aC q_9 8 (fun i => if i < 8 then some (r_10 i) else none)]) (b := va_pl L_11 (plE aC g_12)) (c := [cI aC q_13 8 (fun _ => 0)]) hP
  have hD := va_D.swap (a := [cO h1 9 [Value.ref q_1, Value.ref q_5, Value.ref q_9, Value.null, Value.null, Value.null, Value.null, Value.null, Value.null, Value.null, Value.null, Value.null, Value.int 0, Value.int 0], cA aC q_1 8 (fun i => if i < 8 then some (r_2 i) else none), cA aC q_5 8 (fun i => if i < 8 then some (r_6 i) else none), cA aC q_9 8 (fun i => if i < 8 then some (r_10 i) else none)]) (b := va_pl L_11 (plE aC g_12)) (c := [cI aC q_13 8 (fun _ => 0)]) hD
  have hpd9 : PDx (dC, dI) classes A H (wp [cO h1 9 [Value.ref q_1, Value.ref q_5, Value.ref q_9, Value.null, Value.null, Value.null, Value.null, Value.null, Value.null, Value.null, Value.null, Value.null, Value.int 0, Value.int 0], cA aC q_1 8 (fun i => if i < 8 then some (r_2 i) else none), cA aC q_5 8 (fun i => if i < 8 then some (r_6 i) else none), cA aC q_9 8 (fun i => if i < 8 then some (r_10 i) else none), cI aC q_13 8 (fun _ => 0)] (va_pl L_11 (plE aC g_12))) := ⟨hP, hD⟩
  have hP := hpd9.1
  have hD := hpd9.2
  clear hpd9
  refine W.widen (k := 28) (n := 224) (by omega) (by omega) ?_
  refine va_putF (D := (dC, dI)) (ci := 9) (v := Value.ref q_13) (ty := .array .int) (C := RX9) (T := TX9) (N := 14) hx hb hts inX9 tyX9 tyX9_ok nmX9 hown hK hP hD hS 0 rfl rfl 3 (by decide) (hts _ (gw kw_156 rfl)) (fun _ h9 => h9) rfl hin rfl (by decide +kernel) rfl rfl (Nat.le_of_ble_eq_true rfl) dX9_init_45 (fun H locs hP hD hS => ?_)
  have hpd9 : PDx (dC, dI) classes A H (wp [cO h1 9 [Value.ref q_1, Value.ref q_5, Value.ref q_9, Value.ref q_13, Value.null, Value.null, Value.null, Value.null, Value.null, Value.null, Value.null, Value.null, Value.int 0, Value.int 0], cA aC q_1 8 (fun i => if i < 8 then some (r_2 i) else none), cA aC q_5 8 (fun i => if i < 8 then some (r_6 i) else none), cA aC q_9 8 (fun i => if i < 8 then some (r_10 i) else none), cI aC q_13 8 (fun _ => 0)] (va_pl L_11 (plE aC g_12))) := ⟨hP, hD⟩
  have hP := hpd9.1
  have hD := hpd9.2
  clear hpd9
  refine lv_aload_n hx hb dX9_init_48 rfl (lv_at hl 0 rfl) ?_
  refine lv_bipush (v := 8) hx hb dX9_init_49 (by decide) ?_
  refine va_newaI (N' := 8) (a0 := (8, .inl (fun _ => 0))) hx hb (hts _ (gw kw_73 rfl)) hK hP hD hS hA (by decide) (by decide) (by decide) (Nat.le_of_ble_eq_true rfl) (Nat.le_of_ble_eq_true rfl) dX9_init_51 rfl (fun q_14 H hP hD hS => ?_)
  have hP := va_P.swap (a := [cO h1 9 [Value.ref q_1, Value.ref q_5, Value.ref q_9, Value.ref q_13, Value.null, Value.null, Value.null, Value.null, Value.null, Value.null, Value.null, Value.null, Value.int 0, Value.int 0], cA aC q_1 8 (fun i => if i < 8 then some (r_2 i) else none), cA aC q_5 8 (fun i => if i < 8 then some (r_6 i) else none), cA aC q_9 8 (fun i => if i < 8 then some (r_10 i) else none), cI aC q_13 8 (fun _ => 0)]) (b := va_pl L_11 (plE aC g_12)) (c := [cI aC q_14 8 (fun _ => 0)]) hP
  have hD := va_D.swap (a := [cO h1 9 [Value.ref q_1, Value.ref q_5, Value.ref q_9, Value.ref q_13, Value.null, Value.null, Value.null, Value.null, Value.null, Value.null, Value.null, Value.null, Value.int 0, Value.int 0], cA aC q_1 8 (fun i => if i < 8 then some (r_2 i) else none), cA aC q_5 8 (fun i => if i < 8 then some (r_6 i) else none), cA aC q_9 8 (fun i => if i < 8 then some (r_10 i) else none), cI aC q_13 8 (fun _ => 0)]) (b := va_pl L_11 (plE aC g_12)) (c := [cI aC q_14 8 (fun _ => 0)]) hD
  have hpd9 : PDx (dC, dI) classes A H (wp [cO h1 9 [Value.ref q_1, Value.ref q_5, Value.ref q_9, Value.ref q_13, Value.null, Value.null, Value.null, Value.null, Value.null, Value.null, Value.null, Value.null, Value.int 0, Value.int 0], cA aC q_1 8 (fun i => if i < 8 then some (r_2 i) else none), cA aC q_5 8 (fun i => if i < 8 then some (r_6 i) else none), cA aC q_9 8 (fun i => if i < 8 then some (r_10 i) else none), cI aC q_13 8 (fun _ => 0), cI aC q_14 8 (fun _ => 0)] (va_pl L_11 (plE aC g_12))) := ⟨hP, hD⟩
  have hP := hpd9.1
  have hD := hpd9.2
  clear hpd9
  refine W.widen (k := 29) (n := 232) (by omega) (by omega) ?_
  refine va_putF (D := (dC, dI)) (ci := 9) (v := Value.ref q_14) (ty := .array .int) (C := RX9) (T := TX9) (N := 14) hx hb hts inX9 tyX9 tyX9_ok nmX9 hown hK hP hD hS 0 rfl rfl 4 (by decide) (hts _ (gw kw_158 rfl)) (fun _ h9 => h9) rfl hin rfl (by decide +kernel) rfl rfl (Nat.le_of_ble_eq_true rfl) dX9_init_53 (fun H locs hP hD hS => ?_)
  have hpd9 : PDx (dC, dI) classes A H (wp [cO h1 9 [Value.ref q_1, Value.ref q_5, Value.ref q_9, Value.ref q_13, Value.ref q_14, Value.null, Value.null, Value.null, Value.null, Value.null, Value.null, Value.null, Value.int 0, Value.int 0], cA aC q_1 8 (fun i => if i < 8 then some (r_2 i) else none), cA aC q_5 8 (fun i => if i < 8 then some (r_6 i) else none), cA aC q_9 8 (fun i => if i < 8 then some (r_10 i) else none), cI aC q_13 8 (fun _ => 0), cI aC q_14 8 (fun _ => 0)] (va_pl L_11 (plE aC g_12))) := ⟨hP, hD⟩
  have hP := hpd9.1
  have hD := hpd9.2
  clear hpd9
  refine lv_aload_n hx hb dX9_init_56 rfl (lv_at hl 0 rfl) ?_
  refine lv_bipush (v := 8) hx hb dX9_init_57 (by decide) ?_
  refine va_newaI (N' := 8) (a0 := (8, .inl (fun _ => 0))) hx hb (hts _ (gw kw_73 rfl)) hK hP hD hS hA (by decide) (by decide) (by decide) (Nat.le_of_ble_eq_true rfl) (Nat.le_of_ble_eq_true rfl) dX9_init_59 rfl (fun q_15 H hP hD hS => ?_)
  have hP := va_P.swap (a := [cO h1 9 [Value.ref q_1, Value.ref q_5, Value.ref q_9, Value.ref q_13, Value.ref q_14, Value.null, Value.null, Value.null, Value.null, Value.null, Value.null, Value.null, Value.int 0, Value.int 0], cA aC q_1 8 (fun i => if i < 8 then some (r_2 i) else none), cA aC q_5 8 (fun i => if i < 8 then some (r_6 i) else none), cA aC q_9 8 (fun i => if i < 8 then some (r_10 i) else none), cI aC q_13 8 (fun _ => 0), cI aC q_14 8 (fun _ => 0)]) (b := va_pl L_11 (plE aC g_12)) (c := [cI aC q_15 8 (fun _ => 0)]) hP
  have hD := va_D.swap (a := [cO h1 9 [Value.ref q_1, Value.ref q_5, Value.ref q_9, Value.ref q_13, Value.ref q_14, Value.null, Value.null, Value.null, Value.null, Value.null, Value.null, Value.null, Value.int 0, Value.int 0], cA aC q_1 8 (fun i => if i < 8 then some (r_2 i) else none), cA aC q_5 8 (fun i => if i < 8 then some (r_6 i) else none), cA aC q_9 8 (fun i => if i < 8 then some (r_10 i) else none), cI aC q_13 8 (fun _ => 0), cI aC q_14 8 (fun _ => 0)]) (b := va_pl L_11 (plE aC g_12)) (c := [cI aC q_15 8 (fun _ => 0)]) hD
  have hpd9 : PDx (dC, dI) classes A H (wp [cO h1 9 [Value.ref q_1, Value.ref q_5, Value.ref q_9, Value.ref q_13, Value.ref q_14, Value.null, Value.null, Value.null, Value.null, Value.null, Value.null, Value.null, Value.int 0, Value.int 0], cA aC q_1 8 (fun i => if i < 8 then some (r_2 i) else none), cA aC q_5 8 (fun i => if i < 8 then some (r_6 i) else none), cA aC q_9 8 (fun i => if i < 8 then some (r_10 i) else none), cI aC q_13 8 (fun _ => 0), cI aC q_14 8 (fun _ => 0), cI aC q_15 8 (fun _ => 0)] (va_pl L_11 (plE aC g_12))) := ⟨hP, hD⟩
  have hP := hpd9.1
  have hD := hpd9.2
  clear hpd9
  refine W.widen (k := 30) (n := 240) (by omega) (by omega) ?_
  refine va_putF (D := (dC, dI)) (ci := 9) (v := Value.ref q_15) (ty := .array .int) (C := RX9) (T := TX9) (N := 14) hx hb hts inX9 tyX9 tyX9_ok nmX9 hown hK hP hD hS 0 rfl rfl 5 (by decide) (hts _ (gw kw_160 rfl)) (fun _ h9 => h9) rfl hin rfl (by decide +kernel) rfl rfl (Nat.le_of_ble_eq_true rfl) dX9_init_61 (fun H locs hP hD hS => ?_)
  have hpd9 : PDx (dC, dI) classes A H (wp [cO h1 9 [Value.ref q_1, Value.ref q_5, Value.ref q_9, Value.ref q_13, Value.ref q_14, Value.ref q_15, Value.null, Value.null, Value.null, Value.null, Value.null, Value.null, Value.int 0, Value.int 0], cA aC q_1 8 (fun i => if i < 8 then some (r_2 i) else none), cA aC q_5 8 (fun i => if i < 8 then some (r_6 i) else none), cA aC q_9 8 (fun i => if i < 8 then some (r_10 i) else none), cI aC q_13 8 (fun _ => 0), cI aC q_14 8 (fun _ => 0), cI aC q_15 8 (fun _ => 0)] (va_pl L_11 (plE aC g_12))) := ⟨hP, hD⟩
  have hP := hpd9.1
  have hD := hpd9.2
  clear hpd9
  refine lv_aload_n hx hb dX9_init_64 rfl (lv_at hl 0 rfl) ?_
  refine va_new (ci := 4) (fs := [Value.null, Value.null, Value.null, Value.null, Value.null, Value.int 0, Value.int 0, Value.int 0]) (C := RX4) (T := TX4) (N := 8) hx hb hts inX4 tyX4 tyX4_ok hown (hts _ (gw kw_148 rfl)) (hts _ (gw kw_27 rfl)) (hts _ (gw kw_2 rfl)) hK hP hD hS hA rfl (fun j hj => by have h9 : j = 0 ∨ j = 1 ∨ j = 2 ∨ j = 3 ∨ j = 4 ∨ j = 5 ∨ j = 6 ∨ j = 7 := (by omega); rcases h9 with rfl | rfl | rfl | rfl | rfl | rfl | rfl | rfl <;> rfl) (Nat.le_of_ble_eq_true rfl) (Nat.le_of_ble_eq_true rfl) dX9_init_65 (fun q_16 H hP hD hS => ?_)
  have hP := va_P.swap (a := [cO h1 9 [Value.ref q_1, Value.ref q_5, Value.ref q_9, Value.ref q_13, Value.ref q_14, Value.ref q_15, Value.null, Value.null, Value.null, Value.null, Value.null, Value.null, Value.int 0, Value.int 0], cA aC q_1 8 (fun i => if i < 8 then some (r_2 i) else none), cA aC q_5 8 (fun i => if i < 8 then some (r_6 i) else none), cA aC q_9 8 (fun i => if i < 8 then some (r_10 i) else none), cI aC q_13 8 (fun _ => 0), cI aC q_14 8 (fun _ => 0), cI aC q_15 8 (fun _ => 0)]) (b := va_pl L_11 (plE aC g_12)) (c := [cO q_16 4 [Value.null, Value.null, Value.null, Value.null, Value.null, Value.int 0, Value.int 0, Value.int 0]]) hP
  have hD := va_D.swap (a := [cO h1 9 [Value.ref q_1, Value.ref q_5, Value.ref q_9, Value.ref q_13, Value.ref q_14, Value.ref q_15, Value.null, Value.null, Value.null, Value.null, Value.null, Value.null, Value.int 0, Value.int 0], cA aC q_1 8 (fun i => if i < 8 then some (r_2 i) else none), cA aC q_5 8 (fun i => if i < 8 then some (r_6 i) else none), cA aC q_9 8 (fun i => if i < 8 then some (r_10 i) else none), cI aC q_13 8 (fun _ => 0), cI aC q_14 8 (fun _ => 0), cI aC q_15 8 (fun _ => 0)]) (b := va_pl L_11 (plE aC g_12)) (c := [cO q_16 4 [Value.null, Value.null, Value.null, Value.null, Value.null, Value.int 0, Value.int 0, Value.int 0]]) hD
  have hpd9 : PDx (dC, dI) classes A H (wp [cO h1 9 [Value.ref q_1, Value.ref q_5, Value.ref q_9, Value.ref q_13, Value.ref q_14, Value.ref q_15, Value.null, Value.null, Value.null, Value.null, Value.null, Value.null, Value.int 0, Value.int 0], cA aC q_1 8 (fun i => if i < 8 then some (r_2 i) else none), cA aC q_5 8 (fun i => if i < 8 then some (r_6 i) else none), cA aC q_9 8 (fun i => if i < 8 then some (r_10 i) else none), cI aC q_13 8 (fun _ => 0), cI aC q_14 8 (fun _ => 0), cI aC q_15 8 (fun _ => 0), cO q_16 4 [Value.null, Value.null, Value.null, Value.null, Value.null, Value.int 0, Value.int 0, Value.int 0]] (va_pl L_11 (plE aC g_12))) := ⟨hP, hD⟩
  have hP := hpd9.1
  have hD := hpd9.2
  clear hpd9
  refine W.widen (k := 31) (n := 248) (by omega) (by omega) ?_
  refine lv_dup hx hb dX9_init_68 rfl ?_
  have hpd9 := pdf_N (cx := [cO q_16 4 [Value.null, Value.null, Value.null, Value.null, Value.null, Value.int 0, Value.int 0, Value.int 0]]) hP hD hS hA [7] (by decide) rfl
  have hPc := hpd9.1
  have hDc := hpd9.2.1
  have hFc := hpd9.2.2
  clear hpd9
  refine va_callv (va_runIN (As := []) (rest := [Value.ref q_16, Value.ref h1]) ⟨hx, hb, hml, hown, hts⟩ (c_X4_init l dC dI aC H.size q_16 ) ⟨(va_cnB 0 hts (gG kw_30) rfl rfl rfl (hN.1 _ kw_149 rfl) (hts _ (gw kw_2 rfl)) hd_X4_init ⟨Nat.le_of_ble_eq_true rfl, Nat.le_of_ble_eq_true rfl⟩), rfl, (hts _ (gw kw_29 rfl))⟩ ⟨fb_std, pre_std hPc hK hDc hN⟩ rfl rfl hl.1 rfl (lv_room (Nat.le_of_ble_eq_true rfl)) dX9_init_69 ⟨Nat.le_of_ble_eq_true rfl, Nat.le_of_ble_eq_true rfl⟩) hS (fun q _ h => hFc q h) hFc (fun u9 t9 H1 locs ht hvm hw_17 hB hz1 hk1 hS => ?_)
  obtain ⟨u_18, rfl⟩ : ∃ z, z = u9 := ⟨_, rfl⟩
  obtain ⟨q_19, q_20, q_21, q_22, q_23, hP1, hK1, hD1⟩ := hB
  rw [ht] at hP1
  clear hK1
  try dsimp only at hw_17
  have hpd9 : PDx (dC, dI) classes A H1 (wp [cO h1 9 [Value.ref q_1, Value.ref q_5, Value.ref q_9, Value.ref q_13, Value.ref q_14, Value.ref q_15, Value.null, Value.null, Value.null, Value.null, Value.null, Value.null, Value.int 0, Value.int 0], cA aC q_1 8 (fun i => if i < 8 then some (r_2 i) else none), cA aC q_5 8 (fun i => if i < 8 then some (r_6 i) else none), cA aC q_9 8 (fun i => if i < 8 then some (r_10 i) else none), cI aC q_13 8 (fun _ => 0), cI aC q_14 8 (fun _ => 0), cI aC q_15 8 (fun _ => 0), oX4 q_16 q_19 q_20 q_21 q_22 q_23 0 0 0, cI aC q_19 8 (fun _ => 0), cI aC q_20 8 (fun _ => 0), cI aC q_21 8 (fun _ => 0), cI aC q_22 8 (fun _ => 0), cI aC q_23 5 u_18] (va_pl L_11 (plE aC g_12))) := jn_Q (wr := [cO h1 9 [Value.ref q_1, Value.ref q_5, Value.ref q_9, Value.ref q_13, Value.ref q_14, Value.ref q_15, Value.null, Value.null, Value.null, Value.null, Value.null, Value.null, Value.int 0, Value.int 0], cA aC q_1 8 (fun i => if i < 8 then some (r_2 i) else none), cA aC q_5 8 (fun i => if i < 8 then some (r_6 i) else none), cA aC q_9 8 (fun i => if i < 8 then some (r_10 i) else none), cI aC q_13 8 (fun _ => 0), cI aC q_14 8 (fun _ => 0), cI aC q_15 8 (fun _ => 0)]) hFc hk1 hP1 hD1 hP hD [7] [0, 1, 2, 3, 4, 5, 6] rfl rfl (by decide) (by decide)
  have hP := hpd9.1
  have hD := hpd9.2
  clear hpd9
  generalize H1 = H at hP hS ⊢
  clear hPc hDc hFc hz1 hk1 hP1 hD1 ht hvm
  refine W.widen (k := 36) (n := 285) (by omega) (by omega) ?_
  have hv9 := hw_17
  refine va_putF (D := (dC, dI)) (ci := 9) (v := Value.ref q_16) (ty := .object "EldestSays$Evening") (C := RX9) (T := TX9) (N := 14) hx hb hts inX9 tyX9 tyX9_ok nmX9 hown hK hP hD hS 0 rfl rfl 6 (by decide) (hts _ (gw kw_162 rfl)) (fun _ h9 => h9) rfl hin rfl (by decide +kernel) rfl rfl (Nat.le_of_ble_eq_true rfl) dX9_init_72 (fun H locs hP hD hS => ?_)
  have hpd9 : PDx (dC, dI) classes A H (wp [cO h1 9 [Value.ref q_1, Value.ref q_5, Value.ref q_9, Value.ref q_13, Value.ref q_14, Value.ref q_15, Value.ref q_16, Value.null, Value.null, Value.null, Value.null, Value.null, Value.int 0, Value.int 0], cA aC q_1 8 (fun i => if i < 8 then some (r_2 i) else none), cA aC q_5 8 (fun i => if i < 8 then some (r_6 i) else none), cA aC q_9 8 (fun i => if i < 8 then some (r_10 i) else none), cI aC q_13 8 (fun _ => 0), cI aC q_14 8 (fun _ => 0), cI aC q_15 8 (fun _ => 0), oX4 q_16 q_19 q_20 q_21 q_22 q_23 0 0 0, cI aC q_19 8 (fun _ => 0), cI aC q_20 8 (fun _ => 0), cI aC q_21 8 (fun _ => 0), cI aC q_22 8 (fun _ => 0), cI aC q_23 5 u_18] (va_pl L_11 (plE aC g_12))) := ⟨hP, hD⟩
  have hP := hpd9.1
  have hD := hpd9.2
  clear hpd9
  refine lv_aload_n hx hb dX9_init_75 rfl (lv_at hl 0 rfl) ?_
  refine lv_bipush (v := 7) hx hb dX9_init_76 (by decide) ?_
  refine va_newaI (N' := 7) (a0 := (7, .inl (fun _ => 0))) hx hb (hts _ (gw kw_73 rfl)) hK hP hD hS hA (by decide) (by decide) (by decide) (Nat.le_of_ble_eq_true rfl) (Nat.le_of_ble_eq_true rfl) dX9_init_78 rfl (fun q_24 H hP hD hS => ?_)
  have hP := va_P.swap (a := [cO h1 9 [Value.ref q_1, Value.ref q_5, Value.ref q_9, Value.ref q_13, Value.ref q_14, Value.ref q_15, Value.ref q_16, Value.null, Value.null, Value.null, Value.null, Value.null, Value.int 0, Value.int 0], cA aC q_1 8 (fun i => if i < 8 then some (r_2 i) else none), cA aC q_5 8 (fun i => if i < 8 then some (r_6 i) else none), cA aC q_9 8 (fun i => if i < 8 then some (r_10 i) else none), cI aC q_13 8 (fun _ => 0), cI aC q_14 8 (fun _ => 0), cI aC q_15 8 (fun _ => 0), oX4 q_16 q_19 q_20 q_21 q_22 q_23 0 0 0, cI aC q_19 8 (fun _ => 0), cI aC q_20 8 (fun _ => 0), cI aC q_21 8 (fun _ => 0), cI aC q_22 8 (fun _ => 0), cI aC q_23 5 u_18]) (b := va_pl L_11 (plE aC g_12)) (c := [cI aC q_24 7 (fun _ => 0)]) hP
  have hD := va_D.swap (a := [cO h1 9 [Value.ref q_1, Value.ref q_5, Value.ref q_9, Value.ref q_13, Value.ref q_14, Value.ref q_15, Value.ref q_16, Value.null, Value.null, Value.null, Value.null, Value.null, Value.int 0, Value.int 0], cA aC q_1 8 (fun i => if i < 8 then some (r_2 i) else none), cA aC q_5 8 (fun i => if i < 8 then some (r_6 i) else none), cA aC q_9 8 (fun i => if i < 8 then some (r_10 i) else none), cI aC q_13 8 (fun _ => 0), cI aC q_14 8 (fun _ => 0), cI aC q_15 8 (fun _ => 0), oX4 q_16 q_19 q_20 q_21 q_22 q_23 0 0 0, cI aC q_19 8 (fun _ => 0), cI aC q_20 8 (fun _ => 0), cI aC q_21 8 (fun _ => 0), cI aC q_22 8 (fun _ => 0), cI aC q_23 5 u_18]) (b := va_pl L_11 (plE aC g_12)) (c := [cI aC q_24 7 (fun _ => 0)]) hD
  have hpd9 : PDx (dC, dI) classes A H (wp [cO h1 9 [Value.ref q_1, Value.ref q_5, Value.ref q_9, Value.ref q_13, Value.ref q_14, Value.ref q_15, Value.ref q_16, Value.null, Value.null, Value.null, Value.null, Value.null, Value.int 0, Value.int 0], cA aC q_1 8 (fun i => if i < 8 then some (r_2 i) else none), cA aC q_5 8 (fun i => if i < 8 then some (r_6 i) else none), cA aC q_9 8 (fun i => if i < 8 then some (r_10 i) else none), cI aC q_13 8 (fun _ => 0), cI aC q_14 8 (fun _ => 0), cI aC q_15 8 (fun _ => 0), oX4 q_16 q_19 q_20 q_21 q_22 q_23 0 0 0, cI aC q_19 8 (fun _ => 0), cI aC q_20 8 (fun _ => 0), cI aC q_21 8 (fun _ => 0), cI aC q_22 8 (fun _ => 0), cI aC q_23 5 u_18, cI aC q_24 7 (fun _ => 0)] (va_pl L_11 (plE aC g_12))) := ⟨hP, hD⟩
  have hP := hpd9.1
  have hD := hpd9.2
  clear hpd9
  refine W.widen (k := 37) (n := 292) (by omega) (by omega) ?_
  refine va_putF (D := (dC, dI)) (ci := 9) (v := Value.ref q_24) (ty := .array .int) (C := RX9) (T := TX9) (N := 14) hx hb hts inX9 tyX9 tyX9_ok nmX9 hown hK hP hD hS 0 rfl rfl 8 (by decide) (hts _ (gw kw_165 rfl)) (fun _ h9 => h9) rfl hin rfl (by decide +kernel) rfl rfl (Nat.le_of_ble_eq_true rfl) dX9_init_80 (fun H locs hP hD hS => ?_)
  have hpd9 : PDx (dC, dI) classes A H (wp [cO h1 9 [Value.ref q_1, Value.ref q_5, Value.ref q_9, Value.ref q_13, Value.ref q_14, Value.ref q_15, Value.ref q_16, Value.null, Value.ref q_24, Value.null, Value.null, Value.null, Value.int 0, Value.int 0], cA aC q_1 8 (fun i => if i < 8 then some (r_2 i) else none), cA aC q_5 8 (fun i => if i < 8 then some (r_6 i) else none), cA aC q_9 8 (fun i => if i < 8 then some (r_10 i) else none), cI aC q_13 8 (fun _ => 0), cI aC q_14 8 (fun _ => 0), cI aC q_15 8 (fun _ => 0), oX4 q_16 q_19 q_20 q_21 q_22 q_23 0 0 0, cI aC q_19 8 (fun _ => 0), cI aC q_20 8 (fun _ => 0), cI aC q_21 8 (fun _ => 0), cI aC q_22 8 (fun _ => 0), cI aC q_23 5 u_18, cI aC q_24 7 (fun _ => 0)] (va_pl L_11 (plE aC g_12))) := ⟨hP, hD⟩
  have hP := hpd9.1
  have hD := hpd9.2
  clear hpd9
  refine lv_aload_n hx hb dX9_init_83 rfl (lv_at hl 0 rfl) ?_
  refine lv_bipush (v := 7) hx hb dX9_init_84 (by decide) ?_
  refine va_newaI (N' := 7) (a0 := (7, .inl (fun _ => 0))) hx hb (hts _ (gw kw_73 rfl)) hK hP hD hS hA (by decide) (by decide) (by decide) (Nat.le_of_ble_eq_true rfl) (Nat.le_of_ble_eq_true rfl) dX9_init_86 rfl (fun q_25 H hP hD hS => ?_)
  have hP := va_P.swap (a := [cO h1 9 [Value.ref q_1, Value.ref q_5, Value.ref q_9, Value.ref q_13, Value.ref q_14, Value.ref q_15, Value.ref q_16, Value.null, Value.ref q_24, Value.null, Value.null, Value.null, Value.int 0, Value.int 0], cA aC q_1 8 (fun i => if i < 8 then some (r_2 i) else none), cA aC q_5 8 (fun i => if i < 8 then some (r_6 i) else none), cA aC q_9 8 (fun i => if i < 8 then some (r_10 i) else none), cI aC q_13 8 (fun _ => 0), cI aC q_14 8 (fun _ => 0), cI aC q_15 8 (fun _ => 0), oX4 q_16 q_19 q_20 q_21 q_22 q_23 0 0 0, cI aC q_19 8 (fun _ => 0), cI aC q_20 8 (fun _ => 0), cI aC q_21 8 (fun _ => 0), cI aC q_22 8 (fun _ => 0), cI aC q_23 5 u_18, cI aC q_24 7 (fun _ => 0)]) (b := va_pl L_11 (plE aC g_12)) (c := [cI aC q_25 7 (fun _ => 0)]) hP
  have hD := va_D.swap (a := [cO h1 9 [Value.ref q_1, Value.ref q_5, Value.ref q_9, Value.ref q_13, Value.ref q_14, Value.ref q_15, Value.ref q_16, Value.null, Value.ref q_24, Value.null, Value.null, Value.null, Value.int 0, Value.int 0], cA aC q_1 8 (fun i => if i < 8 then some (r_2 i) else none), cA aC q_5 8 (fun i => if i < 8 then some (r_6 i) else none), cA aC q_9 8 (fun i => if i < 8 then some (r_10 i) else none), cI aC q_13 8 (fun _ => 0), cI aC q_14 8 (fun _ => 0), cI aC q_15 8 (fun _ => 0), oX4 q_16 q_19 q_20 q_21 q_22 q_23 0 0 0, cI aC q_19 8 (fun _ => 0), cI aC q_20 8 (fun _ => 0), cI aC q_21 8 (fun _ => 0), cI aC q_22 8 (fun _ => 0), cI aC q_23 5 u_18, cI aC q_24 7 (fun _ => 0)]) (b := va_pl L_11 (plE aC g_12)) (c := [cI aC q_25 7 (fun _ => 0)]) hD
  have hpd9 : PDx (dC, dI) classes A H (wp [cO h1 9 [Value.ref q_1, Value.ref q_5, Value.ref q_9, Value.ref q_13, Value.ref q_14, Value.ref q_15, Value.ref q_16, Value.null, Value.ref q_24, Value.null, Value.null, Value.null, Value.int 0, Value.int 0], cA aC q_1 8 (fun i => if i < 8 then some (r_2 i) else none), cA aC q_5 8 (fun i => if i < 8 then some (r_6 i) else none), cA aC q_9 8 (fun i => if i < 8 then some (r_10 i) else none), cI aC q_13 8 (fun _ => 0), cI aC q_14 8 (fun _ => 0), cI aC q_15 8 (fun _ => 0), oX4 q_16 q_19 q_20 q_21 q_22 q_23 0 0 0, cI aC q_19 8 (fun _ => 0), cI aC q_20 8 (fun _ => 0), cI aC q_21 8 (fun _ => 0), cI aC q_22 8 (fun _ => 0), cI aC q_23 5 u_18, cI aC q_24 7 (fun _ => 0), cI aC q_25 7 (fun _ => 0)] (va_pl L_11 (plE aC g_12))) := ⟨hP, hD⟩
  have hP := hpd9.1
  have hD := hpd9.2
  clear hpd9
  refine W.widen (k := 38) (n := 299) (by omega) (by omega) ?_
  refine va_putF (D := (dC, dI)) (ci := 9) (v := Value.ref q_25) (ty := .array .int) (C := RX9) (T := TX9) (N := 14) hx hb hts inX9 tyX9 tyX9_ok nmX9 hown hK hP hD hS 0 rfl rfl 9 (by decide) (hts _ (gw kw_166 rfl)) (fun _ h9 => h9) rfl hin rfl (by decide +kernel) rfl rfl (Nat.le_of_ble_eq_true rfl) dX9_init_88 (fun H locs hP hD hS => ?_)
  have hpd9 : PDx (dC, dI) classes A H (wp [cO h1 9 [Value.ref q_1, Value.ref q_5, Value.ref q_9, Value.ref q_13, Value.ref q_14, Value.ref q_15, Value.ref q_16, Value.null, Value.ref q_24, Value.ref q_25, Value.null, Value.null, Value.int 0, Value.int 0], cA aC q_1 8 (fun i => if i < 8 then some (r_2 i) else none), cA aC q_5 8 (fun i => if i < 8 then some (r_6 i) else none), cA aC q_9 8 (fun i => if i < 8 then some (r_10 i) else none), cI aC q_13 8 (fun _ => 0), cI aC q_14 8 (fun _ => 0), cI aC q_15 8 (fun _ => 0), oX4 q_16 q_19 q_20 q_21 q_22 q_23 0 0 0, cI aC q_19 8 (fun _ => 0), cI aC q_20 8 (fun _ => 0), cI aC q_21 8 (fun _ => 0), cI aC q_22 8 (fun _ => 0), cI aC q_23 5 u_18, cI aC q_24 7 (fun _ => 0), cI aC q_25 7 (fun _ => 0)] (va_pl L_11 (plE aC g_12))) := ⟨hP, hD⟩
  have hP := hpd9.1
  have hD := hpd9.2
  clear hpd9
  refine lv_aload_n hx hb dX9_init_91 rfl (lv_at hl 0 rfl) ?_
  refine lv_sipush (v := 128) hx hb dX9_init_92 (by decide) ?_
  refine va_newaI (N' := 128) (a0 := (128, .inl (fun _ => 0))) hx hb (hts _ (gw kw_73 rfl)) hK hP hD hS hA (by decide) (by decide) (by decide) (Nat.le_of_ble_eq_true rfl) (Nat.le_of_ble_eq_true rfl) dX9_init_95 rfl (fun q_26 H hP hD hS => ?_)
  have hP := va_P.swap (a := [cO h1 9 [Value.ref q_1, Value.ref q_5, Value.ref q_9, Value.ref q_13, Value.ref q_14, Value.ref q_15, Value.ref q_16, Value.null, Value.ref q_24, Value.ref q_25, Value.null, Value.null, Value.int 0, Value.int 0], cA aC q_1 8 (fun i => if i < 8 then some (r_2 i) else none), cA aC q_5 8 (fun i => if i < 8 then some (r_6 i) else none), cA aC q_9 8 (fun i => if i < 8 then some (r_10 i) else none), cI aC q_13 8 (fun _ => 0), cI aC q_14 8 (fun _ => 0), cI aC q_15 8 (fun _ => 0), oX4 q_16 q_19 q_20 q_21 q_22 q_23 0 0 0, cI aC q_19 8 (fun _ => 0), cI aC q_20 8 (fun _ => 0), cI aC q_21 8 (fun _ => 0), cI aC q_22 8 (fun _ => 0), cI aC q_23 5 u_18, cI aC q_24 7 (fun _ => 0), cI aC q_25 7 (fun _ => 0)]) (b := va_pl L_11 (plE aC g_12)) (c := [cI aC q_26 128 (fun _ => 0)]) hP
  have hD := va_D.swap (a := [cO h1 9 [Value.ref q_1, Value.ref q_5, Value.ref q_9, Value.ref q_13, Value.ref q_14, Value.ref q_15, Value.ref q_16, Value.null, Value.ref q_24, Value.ref q_25, Value.null, Value.null, Value.int 0, Value.int 0], cA aC q_1 8 (fun i => if i < 8 then some (r_2 i) else none), cA aC q_5 8 (fun i => if i < 8 then some (r_6 i) else none), cA aC q_9 8 (fun i => if i < 8 then some (r_10 i) else none), cI aC q_13 8 (fun _ => 0), cI aC q_14 8 (fun _ => 0), cI aC q_15 8 (fun _ => 0), oX4 q_16 q_19 q_20 q_21 q_22 q_23 0 0 0, cI aC q_19 8 (fun _ => 0), cI aC q_20 8 (fun _ => 0), cI aC q_21 8 (fun _ => 0), cI aC q_22 8 (fun _ => 0), cI aC q_23 5 u_18, cI aC q_24 7 (fun _ => 0), cI aC q_25 7 (fun _ => 0)]) (b := va_pl L_11 (plE aC g_12)) (c := [cI aC q_26 128 (fun _ => 0)]) hD
  have hpd9 : PDx (dC, dI) classes A H (wp [cO h1 9 [Value.ref q_1, Value.ref q_5, Value.ref q_9, Value.ref q_13, Value.ref q_14, Value.ref q_15, Value.ref q_16, Value.null, Value.ref q_24, Value.ref q_25, Value.null, Value.null, Value.int 0, Value.int 0], cA aC q_1 8 (fun i => if i < 8 then some (r_2 i) else none), cA aC q_5 8 (fun i => if i < 8 then some (r_6 i) else none), cA aC q_9 8 (fun i => if i < 8 then some (r_10 i) else none), cI aC q_13 8 (fun _ => 0), cI aC q_14 8 (fun _ => 0), cI aC q_15 8 (fun _ => 0), oX4 q_16 q_19 q_20 q_21 q_22 q_23 0 0 0, cI aC q_19 8 (fun _ => 0), cI aC q_20 8 (fun _ => 0), cI aC q_21 8 (fun _ => 0), cI aC q_22 8 (fun _ => 0), cI aC q_23 5 u_18, cI aC q_24 7 (fun _ => 0), cI aC q_25 7 (fun _ => 0), cI aC q_26 128 (fun _ => 0)] (va_pl L_11 (plE aC g_12))) := ⟨hP, hD⟩
  have hP := hpd9.1
  have hD := hpd9.2
  clear hpd9
  refine W.widen (k := 39) (n := 427) (by omega) (by omega) ?_
  refine va_putF (D := (dC, dI)) (ci := 9) (v := Value.ref q_26) (ty := .array .int) (C := RX9) (T := TX9) (N := 14) hx hb hts inX9 tyX9 tyX9_ok nmX9 hown hK hP hD hS 0 rfl rfl 10 (by decide) (hts _ (gw kw_167 rfl)) (fun _ h9 => h9) rfl hin rfl (by decide +kernel) rfl rfl (Nat.le_of_ble_eq_true rfl) dX9_init_97 (fun H locs hP hD hS => ?_)
  have hpd9 : PDx (dC, dI) classes A H (wp [cO h1 9 [Value.ref q_1, Value.ref q_5, Value.ref q_9, Value.ref q_13, Value.ref q_14, Value.ref q_15, Value.ref q_16, Value.null, Value.ref q_24, Value.ref q_25, Value.ref q_26, Value.null, Value.int 0, Value.int 0], cA aC q_1 8 (fun i => if i < 8 then some (r_2 i) else none), cA aC q_5 8 (fun i => if i < 8 then some (r_6 i) else none), cA aC q_9 8 (fun i => if i < 8 then some (r_10 i) else none), cI aC q_13 8 (fun _ => 0), cI aC q_14 8 (fun _ => 0), cI aC q_15 8 (fun _ => 0), oX4 q_16 q_19 q_20 q_21 q_22 q_23 0 0 0, cI aC q_19 8 (fun _ => 0), cI aC q_20 8 (fun _ => 0), cI aC q_21 8 (fun _ => 0), cI aC q_22 8 (fun _ => 0), cI aC q_23 5 u_18, cI aC q_24 7 (fun _ => 0), cI aC q_25 7 (fun _ => 0), cI aC q_26 128 (fun _ => 0)] (va_pl L_11 (plE aC g_12))) := ⟨hP, hD⟩
  have hP := hpd9.1
  have hD := hpd9.2
  clear hpd9
  refine lv_aload_n hx hb dX9_init_100 rfl (lv_at hl 0 rfl) ?_
  refine lv_sipush (v := 128) hx hb dX9_init_101 (by decide) ?_
  refine va_newaI (N' := 128) (a0 := (128, .inl (fun _ => 0))) hx hb (hts _ (gw kw_73 rfl)) hK hP hD hS hA (by decide) (by decide) (by decide) (Nat.le_of_ble_eq_true rfl) (Nat.le_of_ble_eq_true rfl) dX9_init_104 rfl (fun q_27 H hP hD hS => ?_)
  have hP := va_P.swap (a := [cO h1 9 [Value.ref q_1, Value.ref q_5, Value.ref q_9, Value.ref q_13, Value.ref q_14, Value.ref q_15, Value.ref q_16, Value.null, Value.ref q_24, Value.ref q_25, Value.ref q_26, Value.null, Value.int 0, Value.int 0], cA aC q_1 8 (fun i => if i < 8 then some (r_2 i) else none), cA aC q_5 8 (fun i => if i < 8 then some (r_6 i) else none), cA aC q_9 8 (fun i => if i < 8 then some (r_10 i) else none), cI aC q_13 8 (fun _ => 0), cI aC q_14 8 (fun _ => 0), cI aC q_15 8 (fun _ => 0), oX4 q_16 q_19 q_20 q_21 q_22 q_23 0 0 0, cI aC q_19 8 (fun _ => 0), cI aC q_20 8 (fun _ => 0), cI aC q_21 8 (fun _ => 0), cI aC q_22 8 (fun _ => 0), cI aC q_23 5 u_18, cI aC q_24 7 (fun _ => 0), cI aC q_25 7 (fun _ => 0), cI aC q_26 128 (fun _ => 0)]) (b := va_pl L_11 (plE aC g_12)) (c := [cI aC q_27 128 (fun _ => 0)]) hP
  have hD := va_D.swap (a := [cO h1 9 [Value.ref q_1, Value.ref q_5, Value.ref q_9, Value.ref q_13, Value.ref q_14, Value.ref q_15, Value.ref q_16, Value.null, Value.ref q_24, Value.ref q_25, Value.ref q_26, Value.null, Value.int 0, Value.int 0], cA aC q_1 8 (fun i => if i < 8 then some (r_2 i) else none), cA aC q_5 8 (fun i => if i < 8 then some (r_6 i) else none), cA aC q_9 8 (fun i => if i < 8 then some (r_10 i) else none), cI aC q_13 8 (fun _ => 0), cI aC q_14 8 (fun _ => 0), cI aC q_15 8 (fun _ => 0), oX4 q_16 q_19 q_20 q_21 q_22 q_23 0 0 0, cI aC q_19 8 (fun _ => 0), cI aC q_20 8 (fun _ => 0), cI aC q_21 8 (fun _ => 0), cI aC q_22 8 (fun _ => 0), cI aC q_23 5 u_18, cI aC q_24 7 (fun _ => 0), cI aC q_25 7 (fun _ => 0), cI aC q_26 128 (fun _ => 0)]) (b := va_pl L_11 (plE aC g_12)) (c := [cI aC q_27 128 (fun _ => 0)]) hD
  have hpd9 : PDx (dC, dI) classes A H (wp [cO h1 9 [Value.ref q_1, Value.ref q_5, Value.ref q_9, Value.ref q_13, Value.ref q_14, Value.ref q_15, Value.ref q_16, Value.null, Value.ref q_24, Value.ref q_25, Value.ref q_26, Value.null, Value.int 0, Value.int 0], cA aC q_1 8 (fun i => if i < 8 then some (r_2 i) else none), cA aC q_5 8 (fun i => if i < 8 then some (r_6 i) else none), cA aC q_9 8 (fun i => if i < 8 then some (r_10 i) else none), cI aC q_13 8 (fun _ => 0), cI aC q_14 8 (fun _ => 0), cI aC q_15 8 (fun _ => 0), oX4 q_16 q_19 q_20 q_21 q_22 q_23 0 0 0, cI aC q_19 8 (fun _ => 0), cI aC q_20 8 (fun _ => 0), cI aC q_21 8 (fun _ => 0), cI aC q_22 8 (fun _ => 0), cI aC q_23 5 u_18, cI aC q_24 7 (fun _ => 0), cI aC q_25 7 (fun _ => 0), cI aC q_26 128 (fun _ => 0), cI aC q_27 128 (fun _ => 0)] (va_pl L_11 (plE aC g_12))) := ⟨hP, hD⟩
  have hP := hpd9.1
  have hD := hpd9.2
  clear hpd9
  refine W.widen (k := 40) (n := 555) (by omega) (by omega) ?_
  refine va_putF (D := (dC, dI)) (ci := 9) (v := Value.ref q_27) (ty := .array .int) (C := RX9) (T := TX9) (N := 14) hx hb hts inX9 tyX9 tyX9_ok nmX9 hown hK hP hD hS 0 rfl rfl 11 (by decide) (hts _ (gw kw_168 rfl)) (fun _ h9 => h9) rfl hin rfl (by decide +kernel) rfl rfl (Nat.le_of_ble_eq_true rfl) dX9_init_106 (fun H locs hP hD hS => ?_)
  have hpd9 : PDx (dC, dI) classes A H (wp [cO h1 9 [Value.ref q_1, Value.ref q_5, Value.ref q_9, Value.ref q_13, Value.ref q_14, Value.ref q_15, Value.ref q_16, Value.null, Value.ref q_24, Value.ref q_25, Value.ref q_26, Value.ref q_27, Value.int 0, Value.int 0], cA aC q_1 8 (fun i => if i < 8 then some (r_2 i) else none), cA aC q_5 8 (fun i => if i < 8 then some (r_6 i) else none), cA aC q_9 8 (fun i => if i < 8 then some (r_10 i) else none), cI aC q_13 8 (fun _ => 0), cI aC q_14 8 (fun _ => 0), cI aC q_15 8 (fun _ => 0), oX4 q_16 q_19 q_20 q_21 q_22 q_23 0 0 0, cI aC q_19 8 (fun _ => 0), cI aC q_20 8 (fun _ => 0), cI aC q_21 8 (fun _ => 0), cI aC q_22 8 (fun _ => 0), cI aC q_23 5 u_18, cI aC q_24 7 (fun _ => 0), cI aC q_25 7 (fun _ => 0), cI aC q_26 128 (fun _ => 0), cI aC q_27 128 (fun _ => 0)] (va_pl L_11 (plE aC g_12))) := ⟨hP, hD⟩
  have hP := hpd9.1
  have hD := hpd9.2
  clear hpd9
  refine lv_aload_n hx hb dX9_init_109 rfl (lv_at hl 0 rfl) ?_
  refine lv_aload_n hx hb dX9_init_110 rfl (lv_at hl 1 rfl) ?_
  refine va_putF (D := (dC, dI)) (ci := 9) (v := Value.ref kk) (ty := .array (.object "EldestSays$Clever")) (C := RX9) (T := TX9) (N := 14) hx hb hts inX9 tyX9 tyX9_ok nmX9 hown hK hP hD hS 0 rfl rfl 7 (by decide) (hts _ (gw kw_164 rfl)) (fun _ h9 => h9) rfl hin rfl (by decide +kernel) rfl rfl (Nat.le_of_ble_eq_true rfl) dX9_init_111 (fun H locs hP hD hS => ?_)
  have hpd9 : PDx (dC, dI) classes A H (wp [oX9 h1 q_1 q_5 q_9 q_13 q_14 q_15 q_16 kk q_24 q_25 q_26 q_27 0 0, cA aC q_1 8 (fun i => if i < 8 then some (r_2 i) else none), cA aC q_5 8 (fun i => if i < 8 then some (r_6 i) else none), cA aC q_9 8 (fun i => if i < 8 then some (r_10 i) else none), cI aC q_13 8 (fun _ => 0), cI aC q_14 8 (fun _ => 0), cI aC q_15 8 (fun _ => 0), oX4 q_16 q_19 q_20 q_21 q_22 q_23 0 0 0, cI aC q_19 8 (fun _ => 0), cI aC q_20 8 (fun _ => 0), cI aC q_21 8 (fun _ => 0), cI aC q_22 8 (fun _ => 0), cI aC q_23 5 u_18, cI aC q_24 7 (fun _ => 0), cI aC q_25 7 (fun _ => 0), cI aC q_26 128 (fun _ => 0), cI aC q_27 128 (fun _ => 0)] (va_pl L_11 (plE aC g_12))) := ⟨hP, hD⟩
  have hP := hpd9.1
  have hD := hpd9.2
  clear hpd9
  have hpd9 := pd_P (cx := [oX9 h1 q_1 q_5 q_9 q_13 q_14 q_15 q_16 kk q_24 q_25 q_26 q_27 0 0, cA aC q_1 8 (fun i => if i < 8 then some (r_2 i) else none), cA aC q_5 8 (fun i => if i < 8 then some (r_6 i) else none), cA aC q_9 8 (fun i => if i < 8 then some (r_10 i) else none), cI aC q_13 8 (fun _ => 0), cI aC q_14 8 (fun _ => 0), cI aC q_15 8 (fun _ => 0), oX4 q_16 q_19 q_20 q_21 q_22 q_23 0 0 0, cI aC q_19 8 (fun _ => 0), cI aC q_20 8 (fun _ => 0), cI aC q_21 8 (fun _ => 0), cI aC q_22 8 (fun _ => 0), cI aC q_23 5 u_18, cI aC q_24 7 (fun _ => 0), cI aC q_25 7 (fun _ => 0), cI aC q_26 128 (fun _ => 0), cI aC q_27 128 (fun _ => 0)]) hP hD [0, 1, 2, 3, 4, 5, 6, 7, 8, 9, 10, 11, 12, 13, 14, 15, 16] (by decide) rfl
  have hP9 := hpd9.1
  have hD9 := hpd9.2
  refine W.widen (k := 40) (n := 555) (by omega) (by omega) ?_
  exact W.vret hx hb hr (fun t ht hW => ⟨⟨(u_18, L_11, g_12, r_2, r_6, r_10, (fun i => if i < 8 then some (r_2 i) else none), (fun i => if i < 8 then some (r_6 i) else none), (fun i => if i < 8 then some (r_10 i) else none)), rfl, ⟨hv9, GRD_mk r_2_i r_2_a r_2_s r_6_i r_6_a r_6_s r_10_i r_10_a r_10_s⟩, q_1, q_5, q_9, q_13, q_14, q_15, q_16, q_24, q_25, q_26, q_27, q_19, q_20, q_21, q_22, q_23, by rw [ht]; exact hP9, va_K.moved hW.alike hK, hD9⟩, hS.F ht⟩) hS.2.2 dX9_init_114
