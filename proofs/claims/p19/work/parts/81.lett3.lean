set_option maxHeartbeats 1000000 in
set_option maxRecDepth 100000 in
/-- X7_isFull -/
theorem c_X7_isFull (l : Launch) (dC : Nat → ClassId) (dI : Nat → Nat → Nat) (aC : Nat → ClassId) (sz : Nat) (xl : Nat) (lsg : Nat) (lz : Nat) (Lt : Nat → Nat) (sg : Nat → Int32) (hlt0 : LTR lz Lt sg) : Met l yX7_isFull (wW yX7_isFull cX7_isFull 1 (some .boolean)) ({ frames := 0, cells := 0, slots := 0, locals := 0 } : Room) (va_Pc [Value.ref xl] (fun U => U.heap.size = sz ∧ va_P (dC, dI) classes [oX7 xl (nI lz) lsg] U.heap ∧ va_K (dC, dI) classes (TY aC) U ∧ va_D (fun _ => True) [oX7 xl (nI lz) lsg] ∧ NX U)) (va_Qi (fun (r : Int32) (_ : Unit) => (r = 0 → lz < 64) ∧ (¬ r = 0 → 64 ≤ lz)) (fun (_ : Unit) (t : State) => va_P (dC, dI) classes [oX7 xl (nI lz) lsg] t.heap ∧ va_K (dC, dI) classes (TY aC) t ∧ va_D (va_A [oX7 xl (nI lz) lsg] sz) [oX7 xl (nI lz) lsg]) (va_A [oX7 xl (nI lz) lsg] sz)) 0 0 (va_A [oX7 xl (nI lz) lsg] sz) := by
  refine Met.ofW (cc := cX7_isFull) (maxL := 1) (ret := (some .boolean)) (by decide) rfl ?_
  intro p e s m args below meth c s₁ B hml hv
  obtain ⟨rfl, hsz, hP, hK, hD0, hN⟩ := hv
  have hx := B.exec
  have hb := B.bytes
  have hr := B.returns
  have hts0 := atoms_spec (ws := (wW yX7_isFull cX7_isFull 1 (some .boolean))) B.pre
  have hts : ∀ w9 ∈ lw_G, w9.before ([Value.ref xl] : List Value).toArray s = true := fun w9 h9 => hts0 w9 (List.mem_cons_of_mem _ h9)
  have hown : s.vm.findClass RX7 = some m.cls := findClass_of_methodNamed (x := yX7_isFull) B.named
  have hlocks := B.notSynchronized
  subst hsz
  have hD := hD0.self (sz := s.heap.size)
  generalize hAe : va_A [oX7 xl (nI lz) lsg] s.heap.size = A at hD ⊢
  have hA : ∀ q : Nat, s.heap.size ≤ q → A q := fun q h => by rw [← hAe]; exact Or.inr h
  obtain ⟨H, hHe⟩ : ∃ H : Heap, H = s.heap := ⟨_, rfl⟩
  have hS : va_S A s.heap H [] := by rw [hHe]; exact va_S.rf
  have hP : va_P (dC, dI) classes [oX7 xl (nI lz) lsg] H := by rw [hHe]; exact hP
  have hl := lv_entry ([Value.ref xl]) (n := 1) (Nat.le_of_ble_eq_true rfl)
  rw [lg_entry_eq]
  generalize (lg_sl ([Value.ref xl]) ++ List.replicate (1 - (lg_sl ([Value.ref xl])).length) Slot.unset).toArray = ls at hl ⊢
  have hl : lv_has ls 1 [(0, Value.ref xl)] := hl
  rw [← hHe]
  have hz6 := hlt0.1
  have hL := hlt0.2
  refine lv_aload_n hx hb dX7_isFull_0 rfl (lv_at hl 0 rfl) ?_
  refine va_get (D := (dC, dI)) (ci := 7) (v := Value.int (nI lz)) (C := RX7) (T := TX7) (N := 2) hx hb hts inX7 hown hK hP 0 rfl rfl 0 (by decide) (hts _ (gw kw_80 rfl)) (fun _ h9 => h9) rfl dX7_isFull_1 ?_
  refine lv_bipush (v := 64) hx hb dX7_isFull_4 (by decide) ?_
  refine lv_icmp_lt (tgt := 13) hx hb dX7_isFull_6 (by decide) (fun c_1 => ?_) (fun c_1 => ?_)
  · refine lv_iconst (v := 0) hx hb dX7_isFull_13 (by decide) ?_
    have hpd9 := pd_N (cx := [oX7 xl (nI lz) lsg]) hP hD [0] (by decide) rfl
    have hP9 := hpd9.1
    have hD9 := hpd9.2
    refine W.widen (k := 0) (n := 0) (by omega) (by omega) ?_
    exact W.zret (v := 0) hx hb hr rfl (fun t ht hW => ⟨⟨0, (), rfl, ⟨fun _ => Nat.lt_of_not_le fun z => absurd (nI_le (a := 64) z (by omega)) (Int32.not_le.mpr c_1), fun q => absurd rfl q⟩, by rw [ht]; exact hP9, va_K.moved hW.alike hK, hD9⟩, hS.F ht⟩) hS.2.2 dX7_isFull_14
  · refine lv_iconst (v := 1) hx hb dX7_isFull_9 (by decide) ?_
    refine lv_goto (tgt := 14) hx hb dX7_isFull_10 (by decide) ?_
    have hpd9 := pd_N (cx := [oX7 xl (nI lz) lsg]) hP hD [0] (by decide) rfl
    have hP9 := hpd9.1
    have hD9 := hpd9.2
    refine W.widen (k := 0) (n := 0) (by omega) (by omega) ?_
    exact W.zret (v := 1) hx hb hr rfl (fun t ht hW => ⟨⟨1, (), rfl, ⟨fun q => absurd q (by decide), fun _ => Nat.le_of_not_lt fun z => c_1 (nI_lt (b := 64) z (by omega))⟩, by rw [ht]; exact hP9, va_K.moved hW.alike hK, hD9⟩, hS.F ht⟩) hS.2.2 dX7_isFull_14

set_option maxHeartbeats 1000000 in
set_option maxRecDepth 100000 in
/-- X7_add -/
theorem c_X7_add (l : Launch) (dC : Nat → ClassId) (dI : Nat → Nat → Nat) (aC : Nat → ClassId) (sz : Nat) (xl : Nat) (lsg : Nat) (lz : Nat) (Lt : Nat → Nat) (sg : Nat → Int32) (x : Int32) (hlz : lz < 64) : Met l yX7_add (wW yX7_add cX7_add 2 (some .int)) ({ frames := 0, cells := 0, slots := 0, locals := 0 } : Room) (va_Pc [Value.ref xl, Value.int x] (fun U => U.heap.size = sz ∧ va_P (dC, dI) classes [oX7 xl (nI lz) lsg, cC aC lsg 64 sg] U.heap ∧ va_K (dC, dI) classes (TY aC) U ∧ va_D (fun _ => True) [oX7 xl (nI lz) lsg, cC aC lsg 64 sg] ∧ NX U)) (va_Qi (fun (r : Int32) (sg2 : Nat → Int32) => r = nI (lz + 1) ∧ sg2 = upd sg lz (vp_nar .char x)) (fun (sg2 : Nat → Int32) (t : State) => va_P (dC, dI) classes [oX7 xl (nI (lz + 1)) lsg, cC aC lsg 64 sg2] t.heap ∧ va_K (dC, dI) classes (TY aC) t ∧ va_D (va_A [oX7 xl (nI lz) lsg, cC aC lsg 64 sg] sz) [oX7 xl (nI (lz + 1)) lsg, cC aC lsg 64 sg2]) (va_A [oX7 xl (nI lz) lsg, cC aC lsg 64 sg] sz)) 0 0 (va_A [oX7 xl (nI lz) lsg, cC aC lsg 64 sg] sz) := by
  refine Met.ofW (cc := cX7_add) (maxL := 2) (ret := (some .int)) (by decide) rfl ?_
  intro p e s m args below meth c s₁ B hml hv
  obtain ⟨rfl, hsz, hP, hK, hD0, hN⟩ := hv
  have hx := B.exec
  have hb := B.bytes
  have hr := B.returns
  have hts0 := atoms_spec (ws := (wW yX7_add cX7_add 2 (some .int))) B.pre
  have hts : ∀ w9 ∈ lw_G, w9.before ([Value.ref xl, Value.int x] : List Value).toArray s = true := fun w9 h9 => hts0 w9 (List.mem_cons_of_mem _ h9)
  have hown : s.vm.findClass RX7 = some m.cls := findClass_of_methodNamed (x := yX7_add) B.named
  have hlocks := B.notSynchronized
  subst hsz
  have hD := hD0.self (sz := s.heap.size)
  generalize hAe : va_A [oX7 xl (nI lz) lsg, cC aC lsg 64 sg] s.heap.size = A at hD ⊢
  have hA : ∀ q : Nat, s.heap.size ≤ q → A q := fun q h => by rw [← hAe]; exact Or.inr h
  obtain ⟨H, hHe⟩ : ∃ H : Heap, H = s.heap := ⟨_, rfl⟩
  have hS : va_S A s.heap H [] := by rw [hHe]; exact va_S.rf
  have hP : va_P (dC, dI) classes [oX7 xl (nI lz) lsg, cC aC lsg 64 sg] H := by rw [hHe]; exact hP
  have hl := lv_entry ([Value.ref xl, Value.int x]) (n := 2) (Nat.le_of_ble_eq_true rfl)
  rw [lg_entry_eq]
  generalize (lg_sl ([Value.ref xl, Value.int x]) ++ List.replicate (2 - (lg_sl ([Value.ref xl, Value.int x])).length) Slot.unset).toArray = ls at hl ⊢
  have hl : lv_has ls 2 [(0, Value.ref xl), (1, Value.int x)] := hl
  rw [← hHe]
  refine lv_aload_n hx hb dX7_add_0 rfl (lv_at hl 0 rfl) ?_
  refine va_get (D := (dC, dI)) (ci := 7) (v := Value.int (nI lz)) (C := RX7) (T := TX7) (N := 2) hx hb hts inX7 hown hK hP 0 rfl rfl 0 (by decide) (hts _ (gw kw_80 rfl)) (fun _ h9 => h9) rfl dX7_add_1 ?_
  refine lv_bipush (v := 64) hx hb dX7_add_4 (by decide) ?_
  refine lv_icmp_ge (tgt := 29) hx hb dX7_add_6 (by decide) (fun c_1 => ?_) (fun c_1 => ?_)
  · exact absurd ((nI_leI (a := 64) (b := lz) (by omega) (by omega)).mp c_1) (by omega)
  · refine lv_aload_n hx hb dX7_add_9 rfl (lv_at hl 0 rfl) ?_
    refine va_get (D := (dC, dI)) (ci := 7) (v := Value.ref lsg) (C := RX7) (T := TX7) (N := 2) hx hb hts inX7 hown hK hP 0 rfl rfl 1 (by decide) (hts _ (gw kw_82 rfl)) (fun _ h9 => h9) rfl dX7_add_10 ?_
    refine lv_aload_n hx hb dX7_add_13 rfl (lv_at hl 0 rfl) ?_
    refine va_get (D := (dC, dI)) (ci := 7) (v := Value.int (nI lz)) (C := RX7) (T := TX7) (N := 2) hx hb hts inX7 hown hK hP 0 rfl rfl 0 (by decide) (hts _ (gw kw_80 rfl)) (fun _ h9 => h9) rfl dX7_add_14 ?_
    refine lv_iload_n hx hb dX7_add_17 rfl (lv_at hl 1 rfl) ?_
    have h_2 : vp_in (nI lz) 64 := vp_in_nI (by omega) (by omega)
    refine va_cast hx hb hK hP hD hS 1 1 rfl rfl h_2 dX7_add_18 (fun H locs hP hD hS => ?_)
    obtain ⟨f_3, e_f_3⟩ : ∃ y : Nat → Int32, y = upd sg (nI lz : Int32).toNatClampNeg (vp_nar .char x) := ⟨_, rfl⟩
    have hpd9 : PDx (dC, dI) classes A H [oX7 xl (nI lz) lsg, cC aC lsg 64 f_3] := by rw [e_f_3]; exact ⟨hP, hD⟩
    have hP := hpd9.1
    have hD := hpd9.2
    clear hpd9
    refine lv_aload_n hx hb dX7_add_19 rfl (lv_at hl 0 rfl) ?_
    refine lv_dup hx hb dX7_add_20 rfl ?_
    refine va_get (D := (dC, dI)) (ci := 7) (v := Value.int (nI lz)) (C := RX7) (T := TX7) (N := 2) hx hb hts inX7 hown hK hP 0 rfl rfl 0 (by decide) (hts _ (gw kw_80 rfl)) (fun _ h9 => h9) rfl dX7_add_21 ?_
    refine lv_iconst (v := 1) hx hb dX7_add_24 (by decide) ?_
    refine lv_iadd hx hb dX7_add_25 ?_
    refine lv_topi (fun x_4 e_4 => ?_)
    have h9 : x_4 = nI (lz + 1) := by rw [e_4, nI_1]
    subst h9
    refine va_put (D := (dC, dI)) (ci := 7) (v := Value.int (nI (lz + 1))) (ty := .int) (C := RX7) (T := TX7) (N := 2) hx hb hts inX7 tyX7 tyX7_ok nmX7 hown hK hP hD hS 0 rfl rfl 0 (by decide) (hts _ (gw kw_80 rfl)) (fun _ h9 => h9) rfl (by decide +kernel) rfl rfl (Nat.le_of_ble_eq_true rfl) dX7_add_26 (fun H locs hP hD hS => ?_)
    have hpd9 : PDx (dC, dI) classes A H [oX7 xl (nI (lz + 1)) lsg, cC aC lsg 64 f_3] := ⟨hP, hD⟩
    have hP := hpd9.1
    have hD := hpd9.2
    clear hpd9
    refine lv_aload_n hx hb dX7_add_29 rfl (lv_at hl 0 rfl) ?_
    refine va_get (D := (dC, dI)) (ci := 7) (v := Value.int (nI (lz + 1))) (C := RX7) (T := TX7) (N := 2) hx hb hts inX7 hown hK hP 0 rfl rfl 0 (by decide) (hts _ (gw kw_80 rfl)) (fun _ h9 => h9) rfl dX7_add_30 ?_
    have hpd9 := pd_N (cx := [oX7 xl (nI (lz + 1)) lsg, cC aC lsg 64 f_3]) hP hD [0, 1] (by decide) rfl
    have hP9 := hpd9.1
    have hD9 := hpd9.2
    refine W.widen (k := 0) (n := 0) (by omega) (by omega) ?_
    exact W.iret (v := nI (lz + 1)) hx hb hr (fun t ht hW => ⟨⟨(nI (lz + 1)), (f_3), rfl, ⟨rfl, by rw [e_f_3, nI_clamp (by omega)]⟩, by rw [ht]; exact hP9, va_K.moved hW.alike hK, hD9⟩, hS.F ht⟩) hS.2.2 dX7_add_33

set_option maxHeartbeats 1000000 in
set_option maxRecDepth 100000 in
/-- X7_forget -/
theorem c_X7_forget (l : Launch) (dC : Nat → ClassId) (dI : Nat → Nat → Nat) (aC : Nat → ClassId) (sz : Nat) (xl : Nat) (lsg : Nat) (lz : Nat) (Lt : Nat → Nat) (sg : Nat → Int32)  : Met l yX7_forget (wW yX7_forget cX7_forget 1 (none : Option FieldType)) ({ frames := 0, cells := 0, slots := 0, locals := 0 } : Room) (va_Pc [Value.ref xl] (fun U => U.heap.size = sz ∧ va_P (dC, dI) classes [oX7 xl (nI lz) lsg] U.heap ∧ va_K (dC, dI) classes (TY aC) U ∧ va_D (fun _ => True) [oX7 xl (nI lz) lsg] ∧ NX U)) (va_Qv (fun (_ : Unit) => True) (fun (_ : Unit) (t : State) => va_P (dC, dI) classes [oX7 xl 0 lsg] t.heap ∧ va_K (dC, dI) classes (TY aC) t ∧ va_D (va_A [oX7 xl (nI lz) lsg] sz) [oX7 xl 0 lsg]) (va_A [oX7 xl (nI lz) lsg] sz)) 0 0 (va_A [oX7 xl (nI lz) lsg] sz) := by
  refine Met.ofW (cc := cX7_forget) (maxL := 1) (ret := (none : Option FieldType)) (by decide) rfl ?_
  intro p e s m args below meth c s₁ B hml hv
  obtain ⟨rfl, hsz, hP, hK, hD0, hN⟩ := hv
  have hx := B.exec
  have hb := B.bytes
  have hr := B.returns
  have hts0 := atoms_spec (ws := (wW yX7_forget cX7_forget 1 (none : Option FieldType))) B.pre
  have hts : ∀ w9 ∈ lw_G, w9.before ([Value.ref xl] : List Value).toArray s = true := fun w9 h9 => hts0 w9 (List.mem_cons_of_mem _ h9)
  have hown : s.vm.findClass RX7 = some m.cls := findClass_of_methodNamed (x := yX7_forget) B.named
  have hlocks := B.notSynchronized
  subst hsz
  have hD := hD0.self (sz := s.heap.size)
  generalize hAe : va_A [oX7 xl (nI lz) lsg] s.heap.size = A at hD ⊢
  have hA : ∀ q : Nat, s.heap.size ≤ q → A q := fun q h => by rw [← hAe]; exact Or.inr h
  obtain ⟨H, hHe⟩ : ∃ H : Heap, H = s.heap := ⟨_, rfl⟩
  have hS : va_S A s.heap H [] := by rw [hHe]; exact va_S.rf
  have hP : va_P (dC, dI) classes [oX7 xl (nI lz) lsg] H := by rw [hHe]; exact hP
  have hl := lv_entry ([Value.ref xl]) (n := 1) (Nat.le_of_ble_eq_true rfl)
  rw [lg_entry_eq]
  generalize (lg_sl ([Value.ref xl]) ++ List.replicate (1 - (lg_sl ([Value.ref xl])).length) Slot.unset).toArray = ls at hl ⊢
  have hl : lv_has ls 1 [(0, Value.ref xl)] := hl
  rw [← hHe]
  refine lv_aload_n hx hb dX7_forget_0 rfl (lv_at hl 0 rfl) ?_
  refine lv_iconst (v := 0) hx hb dX7_forget_1 (by decide) ?_
  refine va_put (D := (dC, dI)) (ci := 7) (v := Value.int 0) (ty := .int) (C := RX7) (T := TX7) (N := 2) hx hb hts inX7 tyX7 tyX7_ok nmX7 hown hK hP hD hS 0 rfl rfl 0 (by decide) (hts _ (gw kw_80 rfl)) (fun _ h9 => h9) rfl (by decide +kernel) rfl rfl (Nat.le_of_ble_eq_true rfl) dX7_forget_2 (fun H locs hP hD hS => ?_)
  have hpd9 : PDx (dC, dI) classes A H [oX7 xl 0 lsg] := ⟨hP, hD⟩
  have hP := hpd9.1
  have hD := hpd9.2
  clear hpd9
  have hpd9 := pd_N (cx := [oX7 xl 0 lsg]) hP hD [0] (by decide) rfl
  have hP9 := hpd9.1
  have hD9 := hpd9.2
  refine W.widen (k := 0) (n := 0) (by omega) (by omega) ?_
  exact W.vret hx hb hr (fun t ht hW => ⟨⟨(), rfl, trivial, by rw [ht]; exact hP9, va_K.moved hW.alike hK, hD9⟩, hS.F ht⟩) hS.2.2 dX7_forget_5

set_option maxHeartbeats 1000000 in
set_option maxRecDepth 100000 in
/-- X7_digitsOf -/
theorem c_X7_digitsOf (l : Launch) (dC : Nat → ClassId) (dI : Nat → Nat → Nat) (aC : Nat → ClassId) (sz : Nat) (x : Int32)  : Met l yX7_digitsOf (wW yX7_digitsOf cX7_digitsOf 1 (some .int)) ({ frames := 0, cells := 0, slots := 0, locals := 0 } : Room) (va_Pc [Value.int x] (fun U => U.heap.size = sz ∧ va_P (dC, dI) classes [] U.heap ∧ va_K (dC, dI) classes (TY aC) U ∧ va_D (fun _ => True) [] ∧ NX U)) (va_Qi (fun (r : Int32) (_ : Unit) => r = if x = 109 ∨ x = 108 then 3 else if x = 99 then 1 else 0) (fun (_ : Unit) (t : State) => va_P (dC, dI) classes [] t.heap ∧ va_K (dC, dI) classes (TY aC) t ∧ va_D (va_A [] sz) []) (va_A [] sz)) 0 0 (va_A [] sz) := by
  refine Met.ofW (cc := cX7_digitsOf) (maxL := 1) (ret := (some .int)) (by decide) rfl ?_
  intro p e s m args below meth c s₁ B hml hv
  obtain ⟨rfl, hsz, hP, hK, hD0, hN⟩ := hv
  have hx := B.exec
  have hb := B.bytes
  have hr := B.returns
  have hts0 := atoms_spec (ws := (wW yX7_digitsOf cX7_digitsOf 1 (some .int))) B.pre
  have hts : ∀ w9 ∈ lw_G, w9.before ([Value.int x] : List Value).toArray s = true := fun w9 h9 => hts0 w9 (List.mem_cons_of_mem _ h9)
  have hown : s.vm.findClass RX7 = some m.cls := findClass_of_methodNamed (x := yX7_digitsOf) B.named
  have hlocks := B.notSynchronized
  subst hsz
  have hD := hD0.self (sz := s.heap.size)
  generalize hAe : va_A [] s.heap.size = A at hD ⊢
  have hA : ∀ q : Nat, s.heap.size ≤ q → A q := fun q h => by rw [← hAe]; exact Or.inr h
  obtain ⟨H, hHe⟩ : ∃ H : Heap, H = s.heap := ⟨_, rfl⟩
  have hS : va_S A s.heap H [] := by rw [hHe]; exact va_S.rf
  have hP : va_P (dC, dI) classes [] H := by rw [hHe]; exact hP
  have hl := lv_entry ([Value.int x]) (n := 1) (Nat.le_of_ble_eq_true rfl)
  rw [lg_entry_eq]
  generalize (lg_sl ([Value.int x]) ++ List.replicate (1 - (lg_sl ([Value.int x])).length) Slot.unset).toArray = ls at hl ⊢
  have hl : lv_has ls 1 [(0, Value.int x)] := hl
  rw [← hHe]
  refine lv_iload_n hx hb dX7_digitsOf_0 rfl (lv_at hl 0 rfl) ?_
  refine lv_bipush (v := 109) hx hb dX7_digitsOf_1 (by decide) ?_
  refine lv_icmp_eq (tgt := 12) hx hb dX7_digitsOf_3 (by decide) (fun c_1 => ?_) (fun c_1 => ?_)
  · refine lv_iconst (v := 3) hx hb dX7_digitsOf_12 (by decide) ?_
    have hpd9 := pd_N (cx := []) hP hD [] (by decide) rfl
    have hP9 := hpd9.1
    have hD9 := hpd9.2
    refine W.widen (k := 0) (n := 0) (by omega) (by omega) ?_
    exact W.iret (v := 3) hx hb hr (fun t ht hW => ⟨⟨3, (), rfl, by rw [if_pos (Or.inl c_1)], by rw [ht]; exact hP9, va_K.moved hW.alike hK, hD9⟩, hS.F ht⟩) hS.2.2 dX7_digitsOf_13
  · refine lv_iload_n hx hb dX7_digitsOf_6 rfl (lv_at hl 0 rfl) ?_
    refine lv_bipush (v := 108) hx hb dX7_digitsOf_7 (by decide) ?_
    refine lv_icmp_ne (tgt := 14) hx hb dX7_digitsOf_9 (by decide) (fun c_2 => ?_) (fun c_2 => ?_)
    · refine lv_iload_n hx hb dX7_digitsOf_14 rfl (lv_at hl 0 rfl) ?_
      refine lv_bipush (v := 99) hx hb dX7_digitsOf_15 (by decide) ?_
      refine lv_icmp_ne (tgt := 24) hx hb dX7_digitsOf_17 (by decide) (fun c_3 => ?_) (fun c_3 => ?_)
      · refine lv_iconst (v := 0) hx hb dX7_digitsOf_24 (by decide) ?_
        have hpd9 := pd_N (cx := []) hP hD [] (by decide) rfl
        have hP9 := hpd9.1
        have hD9 := hpd9.2
        refine W.widen (k := 0) (n := 0) (by omega) (by omega) ?_
        exact W.iret (v := 0) hx hb hr (fun t ht hW => ⟨⟨0, (), rfl, by rw [if_neg (fun q => q.elim c_1 c_2), if_neg c_3], by rw [ht]; exact hP9, va_K.moved hW.alike hK, hD9⟩, hS.F ht⟩) hS.2.2 dX7_digitsOf_25
      · refine lv_iconst (v := 1) hx hb dX7_digitsOf_20 (by decide) ?_
        refine lv_goto (tgt := 25) hx hb dX7_digitsOf_21 (by decide) ?_
        have hpd9 := pd_N (cx := []) hP hD [] (by decide) rfl
        have hP9 := hpd9.1
        have hD9 := hpd9.2
        refine W.widen (k := 0) (n := 0) (by omega) (by omega) ?_
        exact W.iret (v := 1) hx hb hr (fun t ht hW => ⟨⟨1, (), rfl, by rw [if_neg (fun q => q.elim c_1 c_2), if_pos c_3], by rw [ht]; exact hP9, va_K.moved hW.alike hK, hD9⟩, hS.F ht⟩) hS.2.2 dX7_digitsOf_25
    · refine lv_iconst (v := 3) hx hb dX7_digitsOf_12 (by decide) ?_
      have hpd9 := pd_N (cx := []) hP hD [] (by decide) rfl
      have hP9 := hpd9.1
      have hD9 := hpd9.2
      refine W.widen (k := 0) (n := 0) (by omega) (by omega) ?_
      exact W.iret (v := 3) hx hb hr (fun t ht hW => ⟨⟨3, (), rfl, by rw [if_pos (Or.inr c_2)], by rw [ht]; exact hP9, va_K.moved hW.alike hK, hD9⟩, hS.F ht⟩) hS.2.2 dX7_digitsOf_13

set_option maxHeartbeats 1000000 in
set_option maxRecDepth 100000 in
/-- X7_isDigit -/
theorem c_X7_isDigit (l : Launch) (dC : Nat → ClassId) (dI : Nat → Nat → Nat) (aC : Nat → ClassId) (sz : Nat) (x : Int32)  : Met l yX7_isDigit (wW yX7_isDigit cX7_isDigit 1 (some .boolean)) ({ frames := 0, cells := 0, slots := 0, locals := 0 } : Room) (va_Pc [Value.int x] (fun U => U.heap.size = sz ∧ va_P (dC, dI) classes [] U.heap ∧ va_K (dC, dI) classes (TY aC) U ∧ va_D (fun _ => True) [] ∧ NX U)) (va_Qi (fun (r : Int32) (_ : Unit) => r = if x < 48 then 0 else if 57 < x then 0 else 1) (fun (_ : Unit) (t : State) => va_P (dC, dI) classes [] t.heap ∧ va_K (dC, dI) classes (TY aC) t ∧ va_D (va_A [] sz) []) (va_A [] sz)) 0 0 (va_A [] sz) := by
  refine Met.ofW (cc := cX7_isDigit) (maxL := 1) (ret := (some .boolean)) (by decide) rfl ?_
  intro p e s m args below meth c s₁ B hml hv
  obtain ⟨rfl, hsz, hP, hK, hD0, hN⟩ := hv
  have hx := B.exec
  have hb := B.bytes
  have hr := B.returns
  have hts0 := atoms_spec (ws := (wW yX7_isDigit cX7_isDigit 1 (some .boolean))) B.pre
  have hts : ∀ w9 ∈ lw_G, w9.before ([Value.int x] : List Value).toArray s = true := fun w9 h9 => hts0 w9 (List.mem_cons_of_mem _ h9)
  have hown : s.vm.findClass RX7 = some m.cls := findClass_of_methodNamed (x := yX7_isDigit) B.named
  have hlocks := B.notSynchronized
  subst hsz
  have hD := hD0.self (sz := s.heap.size)
  generalize hAe : va_A [] s.heap.size = A at hD ⊢
  have hA : ∀ q : Nat, s.heap.size ≤ q → A q := fun q h => by rw [← hAe]; exact Or.inr h
  obtain ⟨H, hHe⟩ : ∃ H : Heap, H = s.heap := ⟨_, rfl⟩
  have hS : va_S A s.heap H [] := by rw [hHe]; exact va_S.rf
  have hP : va_P (dC, dI) classes [] H := by rw [hHe]; exact hP
  have hl := lv_entry ([Value.int x]) (n := 1) (Nat.le_of_ble_eq_true rfl)
  rw [lg_entry_eq]
  generalize (lg_sl ([Value.int x]) ++ List.replicate (1 - (lg_sl ([Value.int x])).length) Slot.unset).toArray = ls at hl ⊢
  have hl : lv_has ls 1 [(0, Value.int x)] := hl
  rw [← hHe]
  refine lv_iload_n hx hb dX7_isDigit_0 rfl (lv_at hl 0 rfl) ?_
  refine lv_bipush (v := 48) hx hb dX7_isDigit_1 (by decide) ?_
  refine lv_icmp_lt (tgt := 16) hx hb dX7_isDigit_3 (by decide) (fun c_1 => ?_) (fun c_1 => ?_)
  · refine lv_iconst (v := 0) hx hb dX7_isDigit_16 (by decide) ?_
    have hpd9 := pd_N (cx := []) hP hD [] (by decide) rfl
    have hP9 := hpd9.1
    have hD9 := hpd9.2
    refine W.widen (k := 0) (n := 0) (by omega) (by omega) ?_
    exact W.zret (v := 0) hx hb hr rfl (fun t ht hW => ⟨⟨0, (), rfl, by rw [if_pos c_1], by rw [ht]; exact hP9, va_K.moved hW.alike hK, hD9⟩, hS.F ht⟩) hS.2.2 dX7_isDigit_17
  · refine lv_iload_n hx hb dX7_isDigit_6 rfl (lv_at hl 0 rfl) ?_
    refine lv_bipush (v := 57) hx hb dX7_isDigit_7 (by decide) ?_
    refine lv_icmp_gt (tgt := 16) hx hb dX7_isDigit_9 (by decide) (fun c_2 => ?_) (fun c_2 => ?_)
    · refine lv_iconst (v := 0) hx hb dX7_isDigit_16 (by decide) ?_
      have hpd9 := pd_N (cx := []) hP hD [] (by decide) rfl
      have hP9 := hpd9.1
      have hD9 := hpd9.2
      refine W.widen (k := 0) (n := 0) (by omega) (by omega) ?_
      exact W.zret (v := 0) hx hb hr rfl (fun t ht hW => ⟨⟨0, (), rfl, by rw [if_neg c_1, if_pos c_2], by rw [ht]; exact hP9, va_K.moved hW.alike hK, hD9⟩, hS.F ht⟩) hS.2.2 dX7_isDigit_17
    · refine lv_iconst (v := 1) hx hb dX7_isDigit_12 (by decide) ?_
      refine lv_goto (tgt := 17) hx hb dX7_isDigit_13 (by decide) ?_
      have hpd9 := pd_N (cx := []) hP hD [] (by decide) rfl
      have hP9 := hpd9.1
      have hD9 := hpd9.2
      refine W.widen (k := 0) (n := 0) (by omega) (by omega) ?_
      exact W.zret (v := 1) hx hb hr rfl (fun t ht hW => ⟨⟨1, (), rfl, by rw [if_neg c_1, if_neg c_2], by rw [ht]; exact hP9, va_K.moved hW.alike hK, hD9⟩, hS.F ht⟩) hS.2.2 dX7_isDigit_17

set_option maxHeartbeats 1000000 in
set_option maxRecDepth 100000 in
/-- X7_digit -/
theorem c_X7_digit (l : Launch) (dC : Nat → ClassId) (dI : Nat → Nat → Nat) (aC : Nat → ClassId) (sz : Nat) (xl : Nat) (lsg : Nat) (lz : Nat) (Lt : Nat → Nat) (sg : Nat → Int32) (q : Nat) (hlt0 : LTR lz Lt sg) (hq : q ≤ 200) : Met l yX7_digit (wW yX7_digit cX7_digit 2 (some .int)) ({ frames := 0, cells := 0, slots := 0, locals := 0 } : Room) (va_Pc [Value.ref xl, Value.int (nI q)] (fun U => U.heap.size = sz ∧ va_P (dC, dI) classes [oX7 xl (nI lz) lsg, cC aC lsg 64 sg] U.heap ∧ va_K (dC, dI) classes (TY aC) U ∧ va_D (fun _ => True) [oX7 xl (nI lz) lsg, cC aC lsg 64 sg] ∧ NX U)) (va_Qi (fun (r : Int32) (_ : Unit) => r = if q < lz then nI (Lt q) - 48 else 0) (fun (_ : Unit) (t : State) => va_P (dC, dI) classes [oX7 xl (nI lz) lsg, cC aC lsg 64 sg] t.heap ∧ va_K (dC, dI) classes (TY aC) t ∧ va_D (va_A [oX7 xl (nI lz) lsg, cC aC lsg 64 sg] sz) [oX7 xl (nI lz) lsg, cC aC lsg 64 sg]) (va_A [oX7 xl (nI lz) lsg, cC aC lsg 64 sg] sz)) 0 0 (va_A [oX7 xl (nI lz) lsg, cC aC lsg 64 sg] sz) := by
  refine Met.ofW (cc := cX7_digit) (maxL := 2) (ret := (some .int)) (by decide) rfl ?_
  intro p e s m args below meth c s₁ B hml hv
  obtain ⟨rfl, hsz, hP, hK, hD0, hN⟩ := hv
  have hx := B.exec
  have hb := B.bytes
  have hr := B.returns
  have hts0 := atoms_spec (ws := (wW yX7_digit cX7_digit 2 (some .int))) B.pre
  have hts : ∀ w9 ∈ lw_G, w9.before ([Value.ref xl, Value.int (nI q)] : List Value).toArray s = true := fun w9 h9 => hts0 w9 (List.mem_cons_of_mem _ h9)
  have hown : s.vm.findClass RX7 = some m.cls := findClass_of_methodNamed (x := yX7_digit) B.named
  have hlocks := B.notSynchronized
  subst hsz
  have hD := hD0.self (sz := s.heap.size)
  generalize hAe : va_A [oX7 xl (nI lz) lsg, cC aC lsg 64 sg] s.heap.size = A at hD ⊢
  have hA : ∀ q : Nat, s.heap.size ≤ q → A q := fun q h => by rw [← hAe]; exact Or.inr h
  obtain ⟨H, hHe⟩ : ∃ H : Heap, H = s.heap := ⟨_, rfl⟩
  have hS : va_S A s.heap H [] := by rw [hHe]; exact va_S.rf
  have hP : va_P (dC, dI) classes [oX7 xl (nI lz) lsg, cC aC lsg 64 sg] H := by rw [hHe]; exact hP
  have hl := lv_entry ([Value.ref xl, Value.int (nI q)]) (n := 2) (Nat.le_of_ble_eq_true rfl)
  rw [lg_entry_eq]
  generalize (lg_sl ([Value.ref xl, Value.int (nI q)]) ++ List.replicate (2 - (lg_sl ([Value.ref xl, Value.int (nI q)])).length) Slot.unset).toArray = ls at hl ⊢
  have hl : lv_has ls 2 [(0, Value.ref xl), (1, Value.int (nI q))] := hl
  rw [← hHe]
  have hz6 := hlt0.1
  have hL := hlt0.2
  refine lv_iload_n hx hb dX7_digit_0 rfl (lv_at hl 1 rfl) ?_
  refine lv_if_lt (tgt := 24) hx hb dX7_digit_1 (by decide) (fun c_1 => ?_) (fun c_1 => ?_)
  · exact absurd c_1 (nI_pos (by omega))
  · refine lv_iload_n hx hb dX7_digit_4 rfl (lv_at hl 1 rfl) ?_
    refine lv_aload_n hx hb dX7_digit_5 rfl (lv_at hl 0 rfl) ?_
    refine va_get (D := (dC, dI)) (ci := 7) (v := Value.int (nI lz)) (C := RX7) (T := TX7) (N := 2) hx hb hts inX7 hown hK hP 0 rfl rfl 0 (by decide) (hts _ (gw kw_80 rfl)) (fun _ h9 => h9) rfl dX7_digit_6 ?_
    refine lv_icmp_ge (tgt := 24) hx hb dX7_digit_9 (by decide) (fun c_2 => ?_) (fun c_2 => ?_)
    · refine lv_iconst (v := 0) hx hb dX7_digit_24 (by decide) ?_
      have hpd9 := pd_N (cx := [oX7 xl (nI lz) lsg, cC aC lsg 64 sg]) hP hD [0, 1] (by decide) rfl
      have hP9 := hpd9.1
      have hD9 := hpd9.2
      refine W.widen (k := 0) (n := 0) (by omega) (by omega) ?_
      exact W.iret (v := 0) hx hb hr (fun t ht hW => ⟨⟨0, (), rfl, by rw [if_neg (fun z => absurd c_2 (nI_ge z (by omega)))], by rw [ht]; exact hP9, va_K.moved hW.alike hK, hD9⟩, hS.F ht⟩) hS.2.2 dX7_digit_25
    · have hlt : q < lz := by
        rcases Nat.lt_or_ge q lz with q | q
        · exact q
        · exact absurd (nI_le q (by omega)) c_2
      refine lv_aload_n hx hb dX7_digit_12 rfl (lv_at hl 0 rfl) ?_
      refine va_get (D := (dC, dI)) (ci := 7) (v := Value.ref lsg) (C := RX7) (T := TX7) (N := 2) hx hb hts inX7 hown hK hP 0 rfl rfl 1 (by decide) (hts _ (gw kw_82 rfl)) (fun _ h9 => h9) rfl dX7_digit_13 ?_
      refine lv_iload_n hx hb dX7_digit_16 rfl (lv_at hl 1 rfl) ?_
      have h_3 : vp_in (nI q) 64 := vp_in_nI (by omega) (by omega)
      refine va_cald hx hb hK hP 1 1 rfl rfl h_3 dX7_digit_17 ?_
      refine lv_topi (fun x_4 e_4 => ?_)
      refine lv_bipush (v := 48) hx hb dX7_digit_18 (by decide) ?_
      refine lv_isub hx hb dX7_digit_20 ?_
      refine lv_topi (fun x_5 e_5 => ?_)
      refine lv_goto (tgt := 25) hx hb dX7_digit_21 (by decide) ?_
      have hpd9 := pd_N (cx := [oX7 xl (nI lz) lsg, cC aC lsg 64 sg]) hP hD [0, 1] (by decide) rfl
      have hP9 := hpd9.1
      have hD9 := hpd9.2
      refine W.widen (k := 0) (n := 0) (by omega) (by omega) ?_
      exact W.iret (v := x_5) hx hb hr (fun t ht hW => ⟨⟨x_5, (), rfl, by rw [e_5, e_4, nI_clamp (by omega), (hL q hlt).1, if_pos hlt], by rw [ht]; exact hP9, va_K.moved hW.alike hK, hD9⟩, hS.F ht⟩) hS.2.2 dX7_digit_25

set_option maxHeartbeats 1000000 in
set_option maxRecDepth 100000 in
/-- X7_brokenAt -/
theorem c_X7_brokenAt (l : Launch) (dC : Nat → ClassId) (dI : Nat → Nat → Nat) (aC : Nat → ClassId) (sz : Nat) (xl : Nat) (lsg : Nat) (lz : Nat) (Lt : Nat → Nat) (sg : Nat → Int32) (hlt0 : LTR lz Lt sg) : Met l yX7_brokenAt (wW yX7_brokenAt cX7_brokenAt 6 (some .int)) ({ frames := 1, cells := 0, slots := 0, locals := 20 } : Room) (va_Pc [Value.ref xl] (fun U => U.heap.size = sz ∧ va_P (dC, dI) classes [oX7 xl (nI lz) lsg, cC aC lsg 64 sg] U.heap ∧ va_K (dC, dI) classes (TY aC) U ∧ va_D (fun _ => True) [oX7 xl (nI lz) lsg, cC aC lsg 64 sg] ∧ NX U)) (va_Qi (fun (r : Int32) (_ : Unit) => r = brR Lt lz) (fun (_ : Unit) (t : State) => va_P (dC, dI) classes [oX7 xl (nI lz) lsg, cC aC lsg 64 sg] t.heap ∧ va_K (dC, dI) classes (TY aC) t ∧ va_D (va_A [oX7 xl (nI lz) lsg, cC aC lsg 64 sg] sz) [oX7 xl (nI lz) lsg, cC aC lsg 64 sg]) (va_A [oX7 xl (nI lz) lsg, cC aC lsg 64 sg] sz)) 0 0 (va_A [oX7 xl (nI lz) lsg, cC aC lsg 64 sg] sz) := by
  refine Met.ofW (cc := cX7_brokenAt) (maxL := 6) (ret := (some .int)) (by decide) rfl ?_
  intro p e s m args below meth c s₁ B hml hv
  obtain ⟨rfl, hsz, hP, hK, hD0, hN⟩ := hv
  have hx := B.exec
  have hb := B.bytes
  have hr := B.returns
  have hts0 := atoms_spec (ws := (wW yX7_brokenAt cX7_brokenAt 6 (some .int))) B.pre
  have hts : ∀ w9 ∈ lw_G, w9.before ([Value.ref xl] : List Value).toArray s = true := fun w9 h9 => hts0 w9 (List.mem_cons_of_mem _ h9)
  have hown : s.vm.findClass RX7 = some m.cls := findClass_of_methodNamed (x := yX7_brokenAt) B.named
  have hlocks := B.notSynchronized
  subst hsz
  have hD := hD0.self (sz := s.heap.size)
  generalize hAe : va_A [oX7 xl (nI lz) lsg, cC aC lsg 64 sg] s.heap.size = A at hD ⊢
  have hA : ∀ q : Nat, s.heap.size ≤ q → A q := fun q h => by rw [← hAe]; exact Or.inr h
  obtain ⟨H, hHe⟩ : ∃ H : Heap, H = s.heap := ⟨_, rfl⟩
  have hS : va_S A s.heap H [] := by rw [hHe]; exact va_S.rf
  have hP : va_P (dC, dI) classes [oX7 xl (nI lz) lsg, cC aC lsg 64 sg] H := by rw [hHe]; exact hP
  have hl := lv_entry ([Value.ref xl]) (n := 6) (Nat.le_of_ble_eq_true rfl)
  rw [lg_entry_eq]
  generalize (lg_sl ([Value.ref xl]) ++ List.replicate (6 - (lg_sl ([Value.ref xl])).length) Slot.unset).toArray = ls at hl ⊢
  have hl : lv_has ls 6 [(0, Value.ref xl)] := hl
  rw [← hHe]
  have hz6 := hlt0.1
  have hL := hlt0.2
  refine lv_iconst (v := 1) hx hb dX7_brokenAt_0 (by decide) ?_
  refine lv_istore_n (lv' := [(1, Value.int 1), (0, Value.ref xl)]) hx hb dX7_brokenAt_1 rfl hl (by decide) rfl (fun ls hl => ?_)
  refine lv_iconst (v := 0) hx hb dX7_brokenAt_2 (by decide) ?_
  refine lv_istore_n (lv' := [(2, Value.int 0), (1, Value.int 1), (0, Value.ref xl)]) hx hb dX7_brokenAt_3 rfl hl (by decide) rfl (fun ls hl => ?_)
  refine lv_iconst (v := 0) hx hb dX7_brokenAt_4 (by decide) ?_
  refine lv_istore_n (lv' := [(3, Value.int 0), (2, Value.int 0), (1, Value.int 1), (0, Value.ref xl)]) hx hb dX7_brokenAt_5 rfl hl (by decide) rfl (fun ls hl => ?_)
  refine lv_iconst (v := 0) hx hb dX7_brokenAt_6 (by decide) ?_
  refine lv_istore (lv' := [(4, Value.int 0), (3, Value.int 0), (2, Value.int 0), (1, Value.int 1), (0, Value.ref xl)]) hx hb dX7_brokenAt_7 hl (by decide) rfl (fun ls hl => ?_)
  have lp_9 : ∀ (fu : Nat) (pp : Nat) (is : Int32) (mu : Int32) (ma : Int32) (hfu : lz - pp < fu) (hp : pp ≤ lz) (hcs : CST (lrn Lt pp) is mu ma) (hf : fps Lt 0 lz = fps Lt pp (lz - pp)) (H : Heap) (locs : List Loc) (ls : Array Slot), va_P (dC, dI) classes [oX7 xl (nI lz) lsg, cC aC lsg 64 sg] H → va_D A [oX7 xl (nI lz) lsg, cC aC lsg 64 sg] → va_S A s.heap H locs → lv_has ls 6 [(0, Value.ref xl), (1, Value.int is), (2, Value.int mu), (3, Value.int ma), (4, Value.int (nI pp))] → W p l e (headSpec (wW yX7_brokenAt cX7_brokenAt 6 (some .int)) ({ frames := 1, cells := 0, slots := 0, locals := 20 } : Room)).room s m ([Value.ref xl] : List Value).toArray below meth c H locs 0 0 (MQ below (va_Qi (fun (r : Int32) (_ : Unit) => r = brR Lt lz) (fun (_ : Unit) (t : State) => va_P (dC, dI) classes [oX7 xl (nI lz) lsg, cC aC lsg 64 sg] t.heap ∧ va_K (dC, dI) classes (TY aC) t ∧ va_D A [oX7 xl (nI lz) lsg, cC aC lsg 64 sg]) A) ([Value.ref xl] : List Value).toArray s 0 0 A) (F0 m 9 ls []) := by
    intro fu
    induction fu with
    | zero => intro pp is mu ma hfu; exact absurd hfu (Nat.not_lt_zero _)
    | succ fu ih_9 =>
      intro pp is mu ma hfu hp hcs hf H locs ls hP hD hS hl
      refine lv_iload hx hb dX7_brokenAt_9 (lv_at hl 4 rfl) ?_
      refine lv_aload_n hx hb dX7_brokenAt_11 rfl (lv_at hl 0 rfl) ?_
      refine va_get (D := (dC, dI)) (ci := 7) (v := Value.int (nI lz)) (C := RX7) (T := TX7) (N := 2) hx hb hts inX7 hown hK hP 0 rfl rfl 0 (by decide) (hts _ (gw kw_80 rfl)) (fun _ h9 => h9) rfl dX7_brokenAt_12 ?_
      refine lv_icmp_ge (tgt := 120) hx hb dX7_brokenAt_15 (by decide) (fun c_1 => ?_) (fun c_1 => ?_)
      · have hpz : pp = lz := by
          rcases Nat.lt_or_ge pp lz with q | q
          · exact absurd c_1 (nI_ge q (by omega))
          · omega
        refine lv_aload_n hx hb dX7_brokenAt_120 rfl (lv_at hl 0 rfl) ?_
        refine va_get (D := (dC, dI)) (ci := 7) (v := Value.int (nI lz)) (C := RX7) (T := TX7) (N := 2) hx hb hts inX7 hown hK hP 0 rfl rfl 0 (by decide) (hts _ (gw kw_80 rfl)) (fun _ h9 => h9) rfl dX7_brokenAt_121 ?_
        refine lv_if_le (tgt := 136) hx hb dX7_brokenAt_124 (by decide) (fun c_2 => ?_) (fun c_2 => ?_)
        · refine lv_aload_n hx hb dX7_brokenAt_136 rfl (lv_at hl 0 rfl) ?_
          refine va_get (D := (dC, dI)) (ci := 7) (v := Value.int (nI lz)) (C := RX7) (T := TX7) (N := 2) hx hb hts inX7 hown hK hP 0 rfl rfl 0 (by decide) (hts _ (gw kw_80 rfl)) (fun _ h9 => h9) rfl dX7_brokenAt_137 ?_
          have hpd9 := pd_N (cx := [oX7 xl (nI lz) lsg, cC aC lsg 64 sg]) hP hD [0, 1] (by decide) rfl
          have hP9 := hpd9.1
          have hD9 := hpd9.2
          refine W.widen (k := 0) (n := 0) (by omega) (by omega) ?_
          exact W.iret (v := nI lz) hx hb hr (fun t ht hW => ⟨⟨(nI lz), (), rfl, by unfold brR; rw [if_neg (fun z => absurd (Int32.lt_of_lt_of_le (nI_lt (a := 0) z.2 (by omega)) c_2) (by decide)), hf]; subst hpz; rw [Nat.sub_self]; rfl, by rw [ht]; exact hP9, va_K.moved hW.alike hK, hD9⟩, hS.F ht⟩) hS.2.2 dX7_brokenAt_140
        · refine lv_iload_n hx hb dX7_brokenAt_127 rfl (lv_at hl 1 rfl) ?_
          refine lv_if_eq (tgt := 136) hx hb dX7_brokenAt_128 (by decide) (fun c_3 => ?_) (fun c_3 => ?_)
          · refine lv_aload_n hx hb dX7_brokenAt_136 rfl (lv_at hl 0 rfl) ?_
            refine va_get (D := (dC, dI)) (ci := 7) (v := Value.int (nI lz)) (C := RX7) (T := TX7) (N := 2) hx hb hts inX7 hown hK hP 0 rfl rfl 0 (by decide) (hts _ (gw kw_80 rfl)) (fun _ h9 => h9) rfl dX7_brokenAt_137 ?_
            have hpd9 := pd_N (cx := [oX7 xl (nI lz) lsg, cC aC lsg 64 sg]) hP hD [0, 1] (by decide) rfl
            have hP9 := hpd9.1
            have hD9 := hpd9.2
            refine W.widen (k := 0) (n := 0) (by omega) (by omega) ?_
            exact W.iret (v := nI lz) hx hb hr (fun t ht hW => ⟨⟨(nI lz), (), rfl, by unfold brR; subst hpz; rw [if_neg (fun z => cst_n (by rw [← c_3]; exact hcs) z.1), hf, Nat.sub_self]; rfl, by rw [ht]; exact hP9, va_K.moved hW.alike hK, hD9⟩, hS.F ht⟩) hS.2.2 dX7_brokenAt_140
          · refine lv_bipush (v := -9) hx hb dX7_brokenAt_131 (by decide) ?_
            refine lv_goto (tgt := 140) hx hb dX7_brokenAt_133 (by decide) ?_
            have hpd9 := pd_N (cx := [oX7 xl (nI lz) lsg, cC aC lsg 64 sg]) hP hD [0, 1] (by decide) rfl
            have hP9 := hpd9.1
            have hD9 := hpd9.2
            refine W.widen (k := 0) (n := 0) (by omega) (by omega) ?_
            exact W.iret (v := -9) hx hb hr (fun t ht hW => ⟨⟨(-9), (), rfl, by unfold brR; subst hpz; rw [if_pos ⟨CST_0 hcs c_3, Nat.pos_of_ne_zero fun z => c_2 (by rw [z]; decide)⟩], by rw [ht]; exact hP9, va_K.moved hW.alike hK, hD9⟩, hS.F ht⟩) hS.2.2 dX7_brokenAt_140
      · have hlt : pp < lz := by
          rcases Nat.lt_or_ge pp lz with q | q
          · exact q
          · exact absurd (nI_le q (by omega)) c_1
        refine lv_aload_n hx hb dX7_brokenAt_18 rfl (lv_at hl 0 rfl) ?_
        refine va_get (D := (dC, dI)) (ci := 7) (v := Value.ref lsg) (C := RX7) (T := TX7) (N := 2) hx hb hts inX7 hown hK hP 0 rfl rfl 1 (by decide) (hts _ (gw kw_82 rfl)) (fun _ h9 => h9) rfl dX7_brokenAt_19 ?_
        refine lv_iload hx hb dX7_brokenAt_22 (lv_at hl 4 rfl) ?_
        have h_4 : vp_in (nI pp) 64 := vp_in_nI (by omega) (by omega)
        refine va_cald hx hb hK hP 1 1 rfl rfl h_4 dX7_brokenAt_24 ?_
        refine lv_topi (fun x_5 e_5 => ?_)
        refine lv_istore (lv' := [(5, Value.int x_5), (0, Value.ref xl), (1, Value.int is), (2, Value.int mu), (3, Value.int ma), (4, Value.int (nI pp))]) hx hb dX7_brokenAt_25 hl (by decide) rfl (fun ls hl => ?_)
        have h9 : x_5 = nI (Lt pp) := by rw [e_5, nI_clamp (by omega)]; exact (hL pp hlt).1
        subst h9
        refine lv_iload_n hx hb dX7_brokenAt_27 rfl (lv_at hl 2 rfl) ?_
        refine lv_if_eq (tgt := 59) hx hb dX7_brokenAt_28 (by decide) (fun c_6 => ?_) (fun c_6 => ?_)
        · have h9 : is = 0 := c_6
          subst h9
          refine lv_iload hx hb dX7_brokenAt_59 (lv_at hl 0 rfl) ?_
          have hpd9 := pdf_N (cx := []) hP hD hS hA [] (by decide) rfl
          have hPc := hpd9.1
          have hDc := hpd9.2.1
          have hFc := hpd9.2.2
          clear hpd9
          refine va_calli (va_runS (As := [Value.int (nI (Lt pp))]) (rest := []) ⟨hx, hb, hml, hown, hts⟩ (c_X7_isDigit l dC dI aC H.size (nI (Lt pp)) ) ⟨(callB_of 1 hts (gG kw_302) rfl rfl rfl (hts _ (gw kw_3 rfl)) (hts _ (gw kw_300 rfl)) hd_X7_isDigit ⟨Nat.le_of_ble_eq_true rfl, Nat.le_of_ble_eq_true rfl⟩), (hts _ (gw kw_301 rfl))⟩ ⟨fb_std, pre_std hPc hK hDc hN⟩ rfl rfl hl.1 rfl (lv_room (Nat.le_of_ble_eq_true rfl)) dX7_brokenAt_61 ⟨Nat.le_of_ble_eq_true rfl, Nat.le_of_ble_eq_true rfl⟩) hS (fun q _ h => hFc q h) hFc (fun x_7 u9 t9 H1 locs ht hvm hw_7 hB hz1 hk1 hS => ?_)
          obtain ⟨hP1, hK1, hD1⟩ := hB
          rw [ht] at hP1
          clear hK1
          try dsimp only at hw_7
          have hpd9 : PDx (dC, dI) classes A H1 [oX7 xl (nI lz) lsg, cC aC lsg 64 sg] := jn_N (wr := [oX7 xl (nI lz) lsg, cC aC lsg 64 sg]) hFc hk1 hP1 hD1 hP hD [] [0, 1] rfl rfl (by decide) (by decide)
          have hP := hpd9.1
          have hD := hpd9.2
          clear hpd9
          generalize H1 = H at hP hS ⊢
          clear hPc hDc hFc hz1 hk1 hP1 hD1 ht hvm
          have hz_61 := hw_7
          refine lv_if_eq (tgt := 77) hx hb dX7_brokenAt_64 (by decide) (fun c_8 => ?_) (fun c_8 => ?_)
          · refine lv_iload hx hb dX7_brokenAt_77 (lv_at hl 0 rfl) ?_
            have hpd9 := pdf_N (cx := []) hP hD hS hA [] (by decide) rfl
            have hPc := hpd9.1
            have hDc := hpd9.2.1
            have hFc := hpd9.2.2
            clear hpd9
            refine va_calli (va_runS (As := [Value.int (nI (Lt pp))]) (rest := []) ⟨hx, hb, hml, hown, hts⟩ (c_X7_isDigit l dC dI aC H.size (nI (Lt pp)) ) ⟨(callB_of 1 hts (gG kw_302) rfl rfl rfl (hts _ (gw kw_3 rfl)) (hts _ (gw kw_300 rfl)) hd_X7_isDigit ⟨Nat.le_of_ble_eq_true rfl, Nat.le_of_ble_eq_true rfl⟩), (hts _ (gw kw_301 rfl))⟩ ⟨fb_std, pre_std hPc hK hDc hN⟩ rfl rfl hl.1 rfl (lv_room (Nat.le_of_ble_eq_true rfl)) dX7_brokenAt_79 ⟨Nat.le_of_ble_eq_true rfl, Nat.le_of_ble_eq_true rfl⟩) hS (fun q _ h => hFc q h) hFc (fun x_9 u9 t9 H1 locs ht hvm hw_9 hB hz1 hk1 hS => ?_)
            obtain ⟨hP1, hK1, hD1⟩ := hB
            rw [ht] at hP1
            clear hK1
            try dsimp only at hw_9
            have hpd9 : PDx (dC, dI) classes A H1 [oX7 xl (nI lz) lsg, cC aC lsg 64 sg] := jn_N (wr := [oX7 xl (nI lz) lsg, cC aC lsg 64 sg]) hFc hk1 hP1 hD1 hP hD [] [0, 1] rfl rfl (by decide) (by decide)
            have hP := hpd9.1
            have hD := hpd9.2
            clear hpd9
            generalize H1 = H at hP hS ⊢
            clear hPc hDc hFc hz1 hk1 hP1 hD1 ht hvm
            have hz_79 := hw_9
            refine lv_if_eq (tgt := 95) hx hb dX7_brokenAt_82 (by decide) (fun c_10 => ?_) (fun c_10 => ?_)
            · refine lv_iload hx hb dX7_brokenAt_95 (lv_at hl 0 rfl) ?_
              refine lv_bipush (v := 59) hx hb dX7_brokenAt_97 (by decide) ?_
              refine lv_icmp_ne (tgt := 111) hx hb dX7_brokenAt_99 (by decide) (fun c_11 => ?_) (fun c_11 => ?_)
              · have h9 : lrn Lt (pp + 1) = 9 := (cst_s hcs).2.2.2 (fun z => (dig_b (hL pp hlt).2 hz_61).1 c_8 ⟨z.1, z.2.1⟩) (fun z => c_11 (by rw [z.1]; rfl))
                refine lv_iload hx hb dX7_brokenAt_111 (lv_at hl 5 rfl) ?_
                have hpd9 := pd_N (cx := [oX7 xl (nI lz) lsg, cC aC lsg 64 sg]) hP hD [0, 1] (by decide) rfl
                have hP9 := hpd9.1
                have hD9 := hpd9.2
                refine W.widen (k := 0) (n := 0) (by omega) (by omega) ?_
                exact W.iret (v := nI pp) hx hb hr (fun t ht hW => ⟨⟨(nI pp), (), rfl, cst_r hf hlt h9, by rw [ht]; exact hP9, va_K.moved hW.alike hK, hD9⟩, hS.F ht⟩) hS.2.2 dX7_brokenAt_113
              · refine lv_iload_n hx hb dX7_brokenAt_102 rfl (lv_at hl 3 rfl) ?_
                refine lv_if_ne (tgt := 111) hx hb dX7_brokenAt_103 (by decide) (fun c_12 => ?_) (fun c_12 => ?_)
                · have h9 : lrn Lt (pp + 1) = 9 := (cst_s hcs).2.2.2 (fun z => (dig_b (hL pp hlt).2 hz_61).1 c_8 ⟨z.1, z.2.1⟩) (fun z => c_12 z.2)
                  refine lv_iload hx hb dX7_brokenAt_111 (lv_at hl 5 rfl) ?_
                  have hpd9 := pd_N (cx := [oX7 xl (nI lz) lsg, cC aC lsg 64 sg]) hP hD [0, 1] (by decide) rfl
                  have hP9 := hpd9.1
                  have hD9 := hpd9.2
                  refine W.widen (k := 0) (n := 0) (by omega) (by omega) ?_
                  exact W.iret (v := nI pp) hx hb hr (fun t ht hW => ⟨⟨(nI pp), (), rfl, cst_r hf hlt h9, by rw [ht]; exact hP9, va_K.moved hW.alike hK, hD9⟩, hS.F ht⟩) hS.2.2 dX7_brokenAt_113
                · refine lv_iconst (v := 1) hx hb dX7_brokenAt_106 (by decide) ?_
                  refine lv_istore_n (lv' := [(1, Value.int 1), (5, Value.int (nI (Lt pp))), (0, Value.ref xl), (2, Value.int mu), (3, Value.int ma), (4, Value.int (nI pp))]) hx hb dX7_brokenAt_107 rfl hl (by decide) rfl (fun ls hl => ?_)
                  refine lv_goto (tgt := 114) hx hb dX7_brokenAt_108 (by decide) ?_
                  have hcs2 : CST (lrn Lt (pp + 1)) (1) (mu) (ma) := (cst_s hcs).2.2.1 (fun z => (dig_b (hL pp hlt).2 hz_61).1 c_8 ⟨z.1, z.2.1⟩) ((nI_b0 (k := 59) (hL pp hlt).2 (by omega)).mp c_11) c_12
                  obtain ⟨x_13, e_13⟩ : ∃ y : Int32, y = (nI pp) + 1 := ⟨_, rfl⟩
                  refine lv_iinc (v := x_13) (lv' := [(4, Value.int x_13), (1, Value.int 1), (5, Value.int (nI (Lt pp))), (0, Value.ref xl), (2, Value.int mu), (3, Value.int ma)]) hx hb dX7_brokenAt_114 hl (k := 5) rfl (by rw [e_13]; rfl) (by decide) rfl (fun ls hl => ?_)
                  have h9 : x_13 = nI (pp + 1) := by rw [e_13, nI_1]
                  subst h9
                  refine lv_goto (tgt := 9) hx hb dX7_brokenAt_117 (by decide) ?_
                  exact ih_9 (pp + 1) 1 mu ma (by omega) (by omega) (hcs2) (cst_f hf hlt hcs2) _ _ _ (hP.sub [0, 1] rfl) (hD.sub [0, 1] (by decide) rfl) hS (lv_sub hl [3, 1, 4, 5, 0] rfl)
            · exact absurd ((hz_79.trans hz_61.symm).trans c_8) c_10
          · refine lv_iload_n hx hb dX7_brokenAt_67 rfl (lv_at hl 3 rfl) ?_
            refine lv_if_le (tgt := 77) hx hb dX7_brokenAt_68 (by decide) (fun c_14 => ?_) (fun c_14 => ?_)
            · refine lv_iload hx hb dX7_brokenAt_77 (lv_at hl 0 rfl) ?_
              have hpd9 := pdf_N (cx := []) hP hD hS hA [] (by decide) rfl
              have hPc := hpd9.1
              have hDc := hpd9.2.1
              have hFc := hpd9.2.2
              clear hpd9
              refine va_calli (va_runS (As := [Value.int (nI (Lt pp))]) (rest := []) ⟨hx, hb, hml, hown, hts⟩ (c_X7_isDigit l dC dI aC H.size (nI (Lt pp)) ) ⟨(callB_of 1 hts (gG kw_302) rfl rfl rfl (hts _ (gw kw_3 rfl)) (hts _ (gw kw_300 rfl)) hd_X7_isDigit ⟨Nat.le_of_ble_eq_true rfl, Nat.le_of_ble_eq_true rfl⟩), (hts _ (gw kw_301 rfl))⟩ ⟨fb_std, pre_std hPc hK hDc hN⟩ rfl rfl hl.1 rfl (lv_room (Nat.le_of_ble_eq_true rfl)) dX7_brokenAt_79 ⟨Nat.le_of_ble_eq_true rfl, Nat.le_of_ble_eq_true rfl⟩) hS (fun q _ h => hFc q h) hFc (fun x_15 u9 t9 H1 locs ht hvm hw_15 hB hz1 hk1 hS => ?_)
              obtain ⟨hP1, hK1, hD1⟩ := hB
              rw [ht] at hP1
              clear hK1
              try dsimp only at hw_15
              have hpd9 : PDx (dC, dI) classes A H1 [oX7 xl (nI lz) lsg, cC aC lsg 64 sg] := jn_N (wr := [oX7 xl (nI lz) lsg, cC aC lsg 64 sg]) hFc hk1 hP1 hD1 hP hD [] [0, 1] rfl rfl (by decide) (by decide)
              have hP := hpd9.1
              have hD := hpd9.2
              clear hpd9
              generalize H1 = H at hP hS ⊢
              clear hPc hDc hFc hz1 hk1 hP1 hD1 ht hvm
              have hz_79 := hw_15
              refine lv_if_eq (tgt := 95) hx hb dX7_brokenAt_82 (by decide) (fun c_16 => ?_) (fun c_16 => ?_)
              · exact absurd ((hz_61.trans hz_79.symm).trans c_16) c_8
              · refine lv_iload_n hx hb dX7_brokenAt_85 rfl (lv_at hl 4 rfl) ?_
                refine lv_if_le (tgt := 95) hx hb dX7_brokenAt_86 (by decide) (fun c_17 => ?_) (fun c_17 => ?_)
                · refine lv_iload hx hb dX7_brokenAt_95 (lv_at hl 0 rfl) ?_
                  refine lv_bipush (v := 59) hx hb dX7_brokenAt_97 (by decide) ?_
                  refine lv_icmp_ne (tgt := 111) hx hb dX7_brokenAt_99 (by decide) (fun c_18 => ?_) (fun c_18 => ?_)
                  · have h9 : lrn Lt (pp + 1) = 9 := (cst_s hcs).2.2.2 (fun z => z.2.2.elim (fun w => absurd c_14 (Int32.not_le.mpr w)) (fun w => absurd c_17 (Int32.not_le.mpr w))) (fun z => c_18 (by rw [z.1]; rfl))
                    refine lv_iload hx hb dX7_brokenAt_111 (lv_at hl 5 rfl) ?_
                    have hpd9 := pd_N (cx := [oX7 xl (nI lz) lsg, cC aC lsg 64 sg]) hP hD [0, 1] (by decide) rfl
                    have hP9 := hpd9.1
                    have hD9 := hpd9.2
                    refine W.widen (k := 0) (n := 0) (by omega) (by omega) ?_
                    exact W.iret (v := nI pp) hx hb hr (fun t ht hW => ⟨⟨(nI pp), (), rfl, cst_r hf hlt h9, by rw [ht]; exact hP9, va_K.moved hW.alike hK, hD9⟩, hS.F ht⟩) hS.2.2 dX7_brokenAt_113
                  · refine lv_iload_n hx hb dX7_brokenAt_102 rfl (lv_at hl 3 rfl) ?_
                    refine lv_if_ne (tgt := 111) hx hb dX7_brokenAt_103 (by decide) (fun c_19 => ?_) (fun c_19 => ?_)
                    · have h9 : lrn Lt (pp + 1) = 9 := (cst_s hcs).2.2.2 (fun z => z.2.2.elim (fun w => absurd c_14 (Int32.not_le.mpr w)) (fun w => absurd c_17 (Int32.not_le.mpr w))) (fun z => c_19 z.2)
                      refine lv_iload hx hb dX7_brokenAt_111 (lv_at hl 5 rfl) ?_
                      have hpd9 := pd_N (cx := [oX7 xl (nI lz) lsg, cC aC lsg 64 sg]) hP hD [0, 1] (by decide) rfl
                      have hP9 := hpd9.1
                      have hD9 := hpd9.2
                      refine W.widen (k := 0) (n := 0) (by omega) (by omega) ?_
                      exact W.iret (v := nI pp) hx hb hr (fun t ht hW => ⟨⟨(nI pp), (), rfl, cst_r hf hlt h9, by rw [ht]; exact hP9, va_K.moved hW.alike hK, hD9⟩, hS.F ht⟩) hS.2.2 dX7_brokenAt_113
                    · refine lv_iconst (v := 1) hx hb dX7_brokenAt_106 (by decide) ?_
                      refine lv_istore_n (lv' := [(1, Value.int 1), (5, Value.int (nI (Lt pp))), (0, Value.ref xl), (2, Value.int mu), (3, Value.int ma), (4, Value.int (nI pp))]) hx hb dX7_brokenAt_107 rfl hl (by decide) rfl (fun ls hl => ?_)
                      refine lv_goto (tgt := 114) hx hb dX7_brokenAt_108 (by decide) ?_
                      have hcs2 : CST (lrn Lt (pp + 1)) (1) (mu) (ma) := (cst_s hcs).2.2.1 (fun z => z.2.2.elim (fun w => absurd c_14 (Int32.not_le.mpr w)) (fun w => absurd c_17 (Int32.not_le.mpr w))) ((nI_b0 (k := 59) (hL pp hlt).2 (by omega)).mp c_18) c_19
                      obtain ⟨x_20, e_20⟩ : ∃ y : Int32, y = (nI pp) + 1 := ⟨_, rfl⟩
                      refine lv_iinc (v := x_20) (lv' := [(4, Value.int x_20), (1, Value.int 1), (5, Value.int (nI (Lt pp))), (0, Value.ref xl), (2, Value.int mu), (3, Value.int ma)]) hx hb dX7_brokenAt_114 hl (k := 5) rfl (by rw [e_20]; rfl) (by decide) rfl (fun ls hl => ?_)
                      have h9 : x_20 = nI (pp + 1) := by rw [e_20, nI_1]
                      subst h9
                      refine lv_goto (tgt := 9) hx hb dX7_brokenAt_117 (by decide) ?_
                      exact ih_9 (pp + 1) 1 mu ma (by omega) (by omega) (hcs2) (cst_f hf hlt hcs2) _ _ _ (hP.sub [0, 1] rfl) (hD.sub [0, 1] (by decide) rfl) hS (lv_sub hl [3, 1, 4, 5, 0] rfl)
                · obtain ⟨x_21, e_21⟩ : ∃ y : Int32, y = ma + (-1) := ⟨_, rfl⟩
                  refine lv_iinc (v := x_21) (lv' := [(3, Value.int x_21), (5, Value.int (nI (Lt pp))), (0, Value.ref xl), (1, Value.int 0), (2, Value.int mu), (4, Value.int (nI pp))]) hx hb dX7_brokenAt_89 hl (k := 4) rfl (by rw [e_21]; rfl) (by decide) rfl (fun ls hl => ?_)
                  refine lv_goto (tgt := 114) hx hb dX7_brokenAt_92 (by decide) ?_
                  have hcs2 : CST (lrn Lt (pp + 1)) (0) (mu) (x_21) := by rw [e_21]; exact (cst_s hcs).2.1 ((dig_b (hL pp hlt).2 hz_61).2 c_8) (Int32.not_lt.mpr c_14) (Int32.not_le.mp c_17)
                  obtain ⟨x_22, e_22⟩ : ∃ y : Int32, y = (nI pp) + 1 := ⟨_, rfl⟩
                  refine lv_iinc (v := x_22) (lv' := [(4, Value.int x_22), (3, Value.int x_21), (5, Value.int (nI (Lt pp))), (0, Value.ref xl), (1, Value.int 0), (2, Value.int mu)]) hx hb dX7_brokenAt_114 hl (k := 5) rfl (by rw [e_22]; rfl) (by decide) rfl (fun ls hl => ?_)
                  have h9 : x_22 = nI (pp + 1) := by rw [e_22, nI_1]
                  subst h9
                  refine lv_goto (tgt := 9) hx hb dX7_brokenAt_117 (by decide) ?_
                  exact ih_9 (pp + 1) 0 mu x_21 (by omega) (by omega) (hcs2) (cst_f hf hlt hcs2) _ _ _ (hP.sub [0, 1] rfl) (hD.sub [0, 1] (by decide) rfl) hS (lv_sub hl [3, 4, 5, 1, 0] rfl)
            · obtain ⟨x_23, e_23⟩ : ∃ y : Int32, y = mu + (-1) := ⟨_, rfl⟩
              refine lv_iinc (v := x_23) (lv' := [(2, Value.int x_23), (5, Value.int (nI (Lt pp))), (0, Value.ref xl), (1, Value.int 0), (3, Value.int ma), (4, Value.int (nI pp))]) hx hb dX7_brokenAt_71 hl (k := 3) rfl (by rw [e_23]; rfl) (by decide) rfl (fun ls hl => ?_)
              refine lv_goto (tgt := 114) hx hb dX7_brokenAt_74 (by decide) ?_
              have hcs2 : CST (lrn Lt (pp + 1)) (0) (x_23) (ma) := by rw [e_23]; exact (cst_s hcs).1 ((dig_b (hL pp hlt).2 hz_61).2 c_8) (Int32.not_le.mp c_14)
              obtain ⟨x_24, e_24⟩ : ∃ y : Int32, y = (nI pp) + 1 := ⟨_, rfl⟩
              refine lv_iinc (v := x_24) (lv' := [(4, Value.int x_24), (2, Value.int x_23), (5, Value.int (nI (Lt pp))), (0, Value.ref xl), (1, Value.int 0), (3, Value.int ma)]) hx hb dX7_brokenAt_114 hl (k := 5) rfl (by rw [e_24]; rfl) (by decide) rfl (fun ls hl => ?_)
              have h9 : x_24 = nI (pp + 1) := by rw [e_24, nI_1]
              subst h9
              refine lv_goto (tgt := 9) hx hb dX7_brokenAt_117 (by decide) ?_
              exact ih_9 (pp + 1) 0 x_23 ma (by omega) (by omega) (hcs2) (cst_f hf hlt hcs2) _ _ _ (hP.sub [0, 1] rfl) (hD.sub [0, 1] (by decide) rfl) hS (lv_sub hl [3, 4, 1, 5, 0] rfl)
        · have hq0 := CST_0 hcs c_6
          refine lv_iload hx hb dX7_brokenAt_31 (lv_at hl 0 rfl) ?_
          have hpd9 := pdf_N (cx := []) hP hD hS hA [] (by decide) rfl
          have hPc := hpd9.1
          have hDc := hpd9.2.1
          have hFc := hpd9.2.2
          clear hpd9
          refine va_calli (va_runS (As := [Value.int (nI (Lt pp))]) (rest := []) ⟨hx, hb, hml, hown, hts⟩ (c_X7_digitsOf l dC dI aC H.size (nI (Lt pp)) ) ⟨(callB_of 1 hts (gG kw_299) rfl rfl rfl (hts _ (gw kw_3 rfl)) (hts _ (gw kw_297 rfl)) hd_X7_digitsOf ⟨Nat.le_of_ble_eq_true rfl, Nat.le_of_ble_eq_true rfl⟩), (hts _ (gw kw_298 rfl))⟩ ⟨fb_std, pre_std hPc hK hDc hN⟩ rfl rfl hl.1 rfl (lv_room (Nat.le_of_ble_eq_true rfl)) dX7_brokenAt_33 ⟨Nat.le_of_ble_eq_true rfl, Nat.le_of_ble_eq_true rfl⟩) hS (fun q _ h => hFc q h) hFc (fun x_25 u9 t9 H1 locs ht hvm hw_25 hB hz1 hk1 hS => ?_)
          obtain ⟨hP1, hK1, hD1⟩ := hB
          rw [ht] at hP1
          clear hK1
          try dsimp only at hw_25
          have hpd9 : PDx (dC, dI) classes A H1 [oX7 xl (nI lz) lsg, cC aC lsg 64 sg] := jn_N (wr := [oX7 xl (nI lz) lsg, cC aC lsg 64 sg]) hFc hk1 hP1 hD1 hP hD [] [0, 1] rfl rfl (by decide) (by decide)
          have hP := hpd9.1
          have hD := hpd9.2
          clear hpd9
          generalize H1 = H at hP hS ⊢
          clear hPc hDc hFc hz1 hk1 hP1 hD1 ht hvm
          have hz_33 := hw_25
          refine lv_istore_n (lv' := [(2, Value.int x_25), (5, Value.int (nI (Lt pp))), (0, Value.ref xl), (1, Value.int is), (3, Value.int ma), (4, Value.int (nI pp))]) hx hb dX7_brokenAt_36 rfl hl (by decide) rfl (fun ls hl => ?_)
          refine lv_iload hx hb dX7_brokenAt_37 (lv_at hl 1 rfl) ?_
          refine lv_bipush (v := 99) hx hb dX7_brokenAt_39 (by decide) ?_
          refine lv_icmp_ne (tgt := 48) hx hb dX7_brokenAt_41 (by decide) (fun c_26 => ?_) (fun c_26 => ?_)
          · refine lv_iconst (v := 0) hx hb dX7_brokenAt_48 (by decide) ?_
            refine lv_istore_n (lv' := [(3, Value.int 0), (2, Value.int x_25), (5, Value.int (nI (Lt pp))), (0, Value.ref xl), (1, Value.int is), (4, Value.int (nI pp))]) hx hb dX7_brokenAt_49 rfl hl (by decide) rfl (fun ls hl => ?_)
            refine lv_iconst (v := 0) hx hb dX7_brokenAt_50 (by decide) ?_
            refine lv_istore_n (lv' := [(1, Value.int 0), (3, Value.int 0), (2, Value.int x_25), (5, Value.int (nI (Lt pp))), (0, Value.ref xl), (4, Value.int (nI pp))]) hx hb dX7_brokenAt_51 rfl hl (by decide) rfl (fun ls hl => ?_)
            refine lv_iload_n hx hb dX7_brokenAt_52 rfl (lv_at hl 2 rfl) ?_
            refine lv_if_ne (tgt := 114) hx hb dX7_brokenAt_53 (by decide) (fun c_27 => ?_) (fun c_27 => ?_)
            · have hcs2 : CST (lrn Lt (pp + 1)) (0) (x_25) (0) := by
                show CST (lsp (lrn Lt pp) (Lt pp)) _ _ _
                rw [hq0]
                exact (cst_st0 (hL pp hlt).2 hz_33 (by rw [if_neg c_26])).1 c_27
              obtain ⟨x_28, e_28⟩ : ∃ y : Int32, y = (nI pp) + 1 := ⟨_, rfl⟩
              refine lv_iinc (v := x_28) (lv' := [(4, Value.int x_28), (1, Value.int 0), (3, Value.int 0), (2, Value.int x_25), (5, Value.int (nI (Lt pp))), (0, Value.ref xl)]) hx hb dX7_brokenAt_114 hl (k := 5) rfl (by rw [e_28]; rfl) (by decide) rfl (fun ls hl => ?_)
              have h9 : x_28 = nI (pp + 1) := by rw [e_28, nI_1]
              subst h9
              refine lv_goto (tgt := 9) hx hb dX7_brokenAt_117 (by decide) ?_
              exact ih_9 (pp + 1) 0 x_25 0 (by omega) (by omega) (hcs2) (cst_f hf hlt hcs2) _ _ _ (hP.sub [0, 1] rfl) (hD.sub [0, 1] (by decide) rfl) hS (lv_sub hl [5, 1, 3, 2, 0] rfl)
            · have h9 : lrn Lt (pp + 1) = 9 := by
                show lsp (lrn Lt pp) (Lt pp) = 9
                rw [hq0]
                exact (cst_st0 (hL pp hlt).2 hz_33 (by rw [if_neg c_26])).2 c_27
              refine lv_iload hx hb dX7_brokenAt_56 (lv_at hl 5 rfl) ?_
              have hpd9 := pd_N (cx := [oX7 xl (nI lz) lsg, cC aC lsg 64 sg]) hP hD [0, 1] (by decide) rfl
              have hP9 := hpd9.1
              have hD9 := hpd9.2
              refine W.widen (k := 0) (n := 0) (by omega) (by omega) ?_
              exact W.iret (v := nI pp) hx hb hr (fun t ht hW => ⟨⟨(nI pp), (), rfl, cst_r hf hlt h9, by rw [ht]; exact hP9, va_K.moved hW.alike hK, hD9⟩, hS.F ht⟩) hS.2.2 dX7_brokenAt_58
          · refine lv_iconst (v := 1) hx hb dX7_brokenAt_44 (by decide) ?_
            refine lv_goto (tgt := 49) hx hb dX7_brokenAt_45 (by decide) ?_
            refine lv_istore_n (lv' := [(3, Value.int 1), (2, Value.int x_25), (5, Value.int (nI (Lt pp))), (0, Value.ref xl), (1, Value.int is), (4, Value.int (nI pp))]) hx hb dX7_brokenAt_49 rfl hl (by decide) rfl (fun ls hl => ?_)
            refine lv_iconst (v := 0) hx hb dX7_brokenAt_50 (by decide) ?_
            refine lv_istore_n (lv' := [(1, Value.int 0), (3, Value.int 1), (2, Value.int x_25), (5, Value.int (nI (Lt pp))), (0, Value.ref xl), (4, Value.int (nI pp))]) hx hb dX7_brokenAt_51 rfl hl (by decide) rfl (fun ls hl => ?_)
            refine lv_iload_n hx hb dX7_brokenAt_52 rfl (lv_at hl 2 rfl) ?_
            refine lv_if_ne (tgt := 114) hx hb dX7_brokenAt_53 (by decide) (fun c_29 => ?_) (fun c_29 => ?_)
            · have hcs2 : CST (lrn Lt (pp + 1)) (0) (x_25) (1) := by
                show CST (lsp (lrn Lt pp) (Lt pp)) _ _ _
                rw [hq0]
                exact (cst_st0 (hL pp hlt).2 hz_33 (by rw [if_pos c_26])).1 c_29
              obtain ⟨x_30, e_30⟩ : ∃ y : Int32, y = (nI pp) + 1 := ⟨_, rfl⟩
              refine lv_iinc (v := x_30) (lv' := [(4, Value.int x_30), (1, Value.int 0), (3, Value.int 1), (2, Value.int x_25), (5, Value.int (nI (Lt pp))), (0, Value.ref xl)]) hx hb dX7_brokenAt_114 hl (k := 5) rfl (by rw [e_30]; rfl) (by decide) rfl (fun ls hl => ?_)
              have h9 : x_30 = nI (pp + 1) := by rw [e_30, nI_1]
              subst h9
              refine lv_goto (tgt := 9) hx hb dX7_brokenAt_117 (by decide) ?_
              exact ih_9 (pp + 1) 0 x_25 1 (by omega) (by omega) (hcs2) (cst_f hf hlt hcs2) _ _ _ (hP.sub [0, 1] rfl) (hD.sub [0, 1] (by decide) rfl) hS (lv_sub hl [5, 1, 3, 2, 0] rfl)
            · have h9 : lrn Lt (pp + 1) = 9 := by
                show lsp (lrn Lt pp) (Lt pp) = 9
                rw [hq0]
                exact (cst_st0 (hL pp hlt).2 hz_33 (by rw [if_pos c_26])).2 c_29
              refine lv_iload hx hb dX7_brokenAt_56 (lv_at hl 5 rfl) ?_
              have hpd9 := pd_N (cx := [oX7 xl (nI lz) lsg, cC aC lsg 64 sg]) hP hD [0, 1] (by decide) rfl
              have hP9 := hpd9.1
              have hD9 := hpd9.2
              refine W.widen (k := 0) (n := 0) (by omega) (by omega) ?_
              exact W.iret (v := nI pp) hx hb hr (fun t ht hW => ⟨⟨(nI pp), (), rfl, cst_r hf hlt h9, by rw [ht]; exact hP9, va_K.moved hW.alike hK, hD9⟩, hS.F ht⟩) hS.2.2 dX7_brokenAt_58
  exact lp_9 ((lz - 0) + 1) 0 1 0 0 (Nat.lt_succ_self _) (by omega) (Or.inl ⟨rfl, rfl⟩) (rfl) _ _ _ (hP.sub [0, 1] rfl) (hD.sub [0, 1] (by decide) rfl) hS (lv_sub hl [4, 3, 2, 1, 0] rfl)
