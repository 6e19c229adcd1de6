section
/-! 55.even -/
set_option maxHeartbeats 1000000 in
set_option maxRecDepth 100000 in
/-- X4_copy -/
theorem c_X4_copy (l : Launch) (dC : Nat → ClassId) (dI : Nat → Nat → Nat) (aC : Nat → ClassId) (sz : Nat) (h1 : Nat) (h2 : Nat) (tek : Nat) (tef : Nat) (tew : Nat) (tep : Nat) (tes : Nat) (ek : Nat) (ef : Nat) (ew : Nat) (ep : Nat) (es : Nat) (tsz : Int32) (tsy : Int32) (tdn : Int32) (esz : Int32) (esy : Int32) (edn : Int32) (tkf : Nat → Int32) (tff : Nat → Int32) (twf : Nat → Int32) (tpf : Nat → Int32) (tsf : Nat → Int32) (kf : Nat → Int32) (ff : Nat → Int32) (wf : Nat → Int32) (pf : Nat → Int32) (stf : Nat → Int32) (tG : Nat) (hdn : edn = 0 ∨ edn = 1) : Met l yX4_copy (wW yX4_copy cX4_copy 2 (none : Option FieldType)) ({ frames := 1, cells := 0, slots := 0, locals := 40 } : Room) (va_Pc [Value.ref h1, Value.ref h2] (fun U => U.heap.size = sz ∧ va_P (dC, dI) classes [oX4 h1 tek tef tew tep tes tsz tsy tdn, cI aC tek 8 tkf, cI aC tef 8 tff, cI aC tew 8 twf, cI aC tep 8 tpf, cI aC tes 5 tsf, oX4 h2 ek ef ew ep es esz esy edn, cI aC ek 8 kf, cI aC ef 8 ff, cI aC ew 8 wf, cI aC ep 8 pf, cI aC es 5 stf] U.heap ∧ va_K (dC, dI) classes (TY aC) U ∧ va_D (fun _ => True) [oX4 h1 tek tef tew tep tes tsz tsy tdn, cI aC tek 8 tkf, cI aC tef 8 tff, cI aC tew 8 twf, cI aC tep 8 tpf, cI aC tes 5 tsf, oX4 h2 ek ef ew ep es esz esy edn, cI aC ek 8 kf, cI aC ef 8 ff, cI aC ew 8 wf, cI aC ep 8 pf, cI aC es 5 stf] ∧ NX U ∧ va_Z "EldestSays" "GREATEST" "[I" (.ref tG) (va_A [oX4 h1 tek tef tew tep tes tsz tsy tdn, cI aC tek 8 tkf, cI aC tef 8 tff, cI aC tew 8 twf, cI aC tep 8 tpf, cI aC tes 5 tsf, oX4 h2 ek ef ew ep es esz esy edn, cI aC ek 8 kf, cI aC ef 8 ff, cI aC ew 8 wf, cI aC ep 8 pf, cI aC es 5 stf] sz) U U.heap ∧ va_T .int tG 5 (fun j => .int (GV j)) (va_A [oX4 h1 tek tef tew tep tes tsz tsy tdn, cI aC tek 8 tkf, cI aC tef 8 tff, cI aC tew 8 twf, cI aC tep 8 tpf, cI aC tes 5 tsf, oX4 h2 ek ef ew ep es esz esy edn, cI aC ek 8 kf, cI aC ef 8 ff, cI aC ew 8 wf, cI aC ep 8 pf, cI aC es 5 stf] sz) U U.heap)) (va_Qv (fun (u : (Nat → Int32) × (Nat → Int32) × (Nat → Int32) × (Nat → Int32) × (Nat → Int32)) => match u with | (tkf2, tff2, twf2, tpf2, tsf2) => ((∀ j, j < 8 → tkf2 j = kf j) ∧ (∀ j, j < 8 → tff2 j = ff j) ∧ (∀ j, j < 8 → twf2 j = wf j) ∧ (∀ j, j < 8 → tpf2 j = pf j) ∧ (∀ j, j < 5 → tsf2 j = stf j))) (fun (u : (Nat → Int32) × (Nat → Int32) × (Nat → Int32) × (Nat → Int32) × (Nat → Int32)) (t : State) => match u with | (tkf2, tff2, twf2, tpf2, tsf2) => va_P (dC, dI) classes [oX4 h1 tek tef tew tep tes esz esy edn, cI aC tek 8 tkf2, cI aC tef 8 tff2, cI aC tew 8 twf2, cI aC tep 8 tpf2, cI aC tes 5 tsf2, oX4 h2 ek ef ew ep es esz esy edn, cI aC ek 8 kf, cI aC ef 8 ff, cI aC ew 8 wf, cI aC ep 8 pf, cI aC es 5 stf] t.heap ∧ va_K (dC, dI) classes (TY aC) t ∧ va_D (va_A [oX4 h1 tek tef tew tep tes tsz tsy tdn, cI aC tek 8 tkf, cI aC tef 8 tff, cI aC tew 8 twf, cI aC tep 8 tpf, cI aC tes 5 tsf, oX4 h2 ek ef ew ep es esz esy edn, cI aC ek 8 kf, cI aC ef 8 ff, cI aC ew 8 wf, cI aC ep 8 pf, cI aC es 5 stf] sz) [oX4 h1 tek tef tew tep tes esz esy edn, cI aC tek 8 tkf2, cI aC tef 8 tff2, cI aC tew 8 twf2, cI aC tep 8 tpf2, cI aC tes 5 tsf2, oX4 h2 ek ef ew ep es esz esy edn, cI aC ek 8 kf, cI aC ef 8 ff, cI aC ew 8 wf, cI aC ep 8 pf, cI aC es 5 stf]) (va_A [oX4 h1 tek tef tew tep tes tsz tsy tdn, cI aC tek 8 tkf, cI aC tef 8 tff, cI aC tew 8 twf, cI aC tep 8 tpf, cI aC tes 5 tsf, oX4 h2 ek ef ew ep es esz esy edn, cI aC ek 8 kf, cI aC ef 8 ff, cI aC ew 8 wf, cI aC ep 8 pf, cI aC es 5 stf] sz)) 0 0 (va_A [oX4 h1 tek tef tew tep tes tsz tsy tdn, cI aC tek 8 tkf, cI aC tef 8 tff, cI aC tew 8 twf, cI aC tep 8 tpf, cI aC tes 5 tsf, oX4 h2 ek ef ew ep es esz esy edn, cI aC ek 8 kf, cI aC ef 8 ff, cI aC ew 8 wf, cI aC ep 8 pf, cI aC es 5 stf] sz) := by
  refine Met.ofW (cc := cX4_copy) (maxL := 2) (ret := (none : Option FieldType)) (by decide) rfl ?_
  intro p e s m args below meth c s₁ B hml hv
  obtain ⟨rfl, hsz, hP, hK, hD0, hN, hZG, hTG⟩ := hv
  have hx := B.exec
  have hb := B.bytes
  have hr := B.returns
  have hts0 := atoms_spec (ws := (wW yX4_copy cX4_copy 2 (none : Option FieldType))) B.pre
  have hts : ∀ w9 ∈ lw_G, w9.before ([Value.ref h1, Value.ref h2] : List Value).toArray s = true := fun w9 h9 => hts0 w9 (List.mem_cons_of_mem _ h9)
  have hown : s.vm.findClass RX4 = some m.cls := findClass_of_methodNamed (x := yX4_copy) B.named
  have hlocks := B.notSynchronized
  subst hsz
  have hD := hD0.self (sz := s.heap.size)
  generalize hAe : va_A [oX4 h1 tek tef tew tep tes tsz tsy tdn, cI aC tek 8 tkf, cI aC tef 8 tff, cI aC tew 8 twf, cI aC tep 8 tpf, cI aC tes 5 tsf, oX4 h2 ek ef ew ep es esz esy edn, cI aC ek 8 kf, cI aC ef 8 ff, cI aC ew 8 wf, cI aC ep 8 pf, cI aC es 5 stf] s.heap.size = A at hZG hTG hD ⊢
  have hA : ∀ q : Nat, s.heap.size ≤ q → A q := fun q h => by rw [← hAe]; exact Or.inr h
  obtain ⟨H, hHe⟩ : ∃ H : Heap, H = s.heap := ⟨_, rfl⟩
  have hS : va_S A s.heap H [] := by rw [hHe]; exact va_S.rf
  have hP : va_P (dC, dI) classes [oX4 h1 tek tef tew tep tes tsz tsy tdn, cI aC tek 8 tkf, cI aC tef 8 tff, cI aC tew 8 twf, cI aC tep 8 tpf, cI aC tes 5 tsf, oX4 h2 ek ef ew ep es esz esy edn, cI aC ek 8 kf, cI aC ef 8 ff, cI aC ew 8 wf, cI aC ep 8 pf, cI aC es 5 stf] H := by rw [hHe]; exact hP
  have hl := lv_entry ([Value.ref h1, Value.ref h2]) (n := 2) (Nat.le_of_ble_eq_true rfl)
  rw [lg_entry_eq]
  generalize (lg_sl ([Value.ref h1, Value.ref h2]) ++ List.replicate (2 - (lg_sl ([Value.ref h1, Value.ref h2])).length) Slot.unset).toArray = ls at hl ⊢
  have hl : lv_has ls 2 [(0, Value.ref h1), (1, Value.ref h2)] := hl
  rw [← hHe]
  refine lv_aload_n hx hb dX4_copy_0 rfl (lv_at hl 1 rfl) ?_
  refine va_get (D := (dC, dI)) (ci := 4) (v := Value.ref ek) (C := RX4) (T := TX4) (N := 8) hx hb hts inX4 hown hK hP 6 rfl rfl 0 (by decide) (hts _ (gw kw_32 rfl)) (fun _ h9 => h9) rfl dX4_copy_1 ?_
  refine lv_iconst (v := 0) hx hb dX4_copy_4 (by decide) ?_
  refine lv_aload_n hx hb dX4_copy_5 rfl (lv_at hl 0 rfl) ?_
  refine va_get (D := (dC, dI)) (ci := 4) (v := Value.ref tek) (C := RX4) (T := TX4) (N := 8) hx hb hts inX4 hown hK hP 0 rfl rfl 0 (by decide) (hts _ (gw kw_32 rfl)) (fun _ h9 => h9) rfl dX4_copy_6 ?_
  refine lv_iconst (v := 0) hx hb dX4_copy_9 (by decide) ?_
  refine lv_bipush (v := 8) hx hb dX4_copy_10 (by decide) ?_
  refine va_copyi (ty := .int) hx hb (by rw [hml]; exact hl.1.symm) hown (hts _ (gw kw_599 rfl)) (hts _ (gw kw_486 rfl)) (hts _ (gw kw_485 rfl)) (hts _ (gw kw_16 rfl)) hK hP hD hS 7 1 0 0 rfl rfl rfl rfl rfl (by decide) (by decide) (by decide) (by decide) (by decide) (fun _ _ => rfl) (Nat.le_of_ble_eq_true rfl) (Nat.le_of_ble_eq_true rfl) dX4_copy_12 (fun H locs hP hD hS => ?_)
  obtain ⟨f_1, e_f_1⟩ : ∃ y : Nat → Int32, y = va_cpy kf tkf (0 : Int32).toNatClampNeg (0 : Int32).toNatClampNeg (8 : Int32).toNatClampNeg := ⟨_, rfl⟩
  have hpd9 : PDx (dC, dI) classes A H [oX4 h1 tek tef tew tep tes tsz tsy tdn, cI aC tek 8 f_1, cI aC tef 8 tff, cI aC tew 8 twf, cI aC tep 8 tpf, cI aC tes 5 tsf, oX4 h2 ek ef ew ep es esz esy edn, cI aC ek 8 kf, cI aC ef 8 ff, cI aC ew 8 wf, cI aC ep 8 pf, cI aC es 5 stf] := by rw [e_f_1]; exact ⟨hP, hD⟩
  have hP := hpd9.1
  have hD := hpd9.2
  clear hpd9
  refine lv_aload_n hx hb dX4_copy_15 rfl (lv_at hl 1 rfl) ?_
  refine va_get (D := (dC, dI)) (ci := 4) (v := Value.ref ef) (C := RX4) (T := TX4) (N := 8) hx hb hts inX4 hown hK hP 6 rfl rfl 1 (by decide) (hts _ (gw kw_35 rfl)) (fun _ h9 => h9) rfl dX4_copy_16 ?_
  refine lv_iconst (v := 0) hx hb dX4_copy_19 (by decide) ?_
  refine lv_aload_n hx hb dX4_copy_20 rfl (lv_at hl 0 rfl) ?_
  refine va_get (D := (dC, dI)) (ci := 4) (v := Value.ref tef) (C := RX4) (T := TX4) (N := 8) hx hb hts inX4 hown hK hP 0 rfl rfl 1 (by decide) (hts _ (gw kw_35 rfl)) (fun _ h9 => h9) rfl dX4_copy_21 ?_
  refine lv_iconst (v := 0) hx hb dX4_copy_24 (by decide) ?_
  refine lv_bipush (v := 8) hx hb dX4_copy_25 (by decide) ?_
  refine va_copyi (ty := .int) hx hb (by rw [hml]; exact hl.1.symm) hown (hts _ (gw kw_599 rfl)) (hts _ (gw kw_486 rfl)) (hts _ (gw kw_485 rfl)) (hts _ (gw kw_16 rfl)) hK hP hD hS 8 2 0 0 rfl rfl rfl rfl rfl (by decide) (by decide) (by decide) (by decide) (by decide) (fun _ _ => rfl) (Nat.le_of_ble_eq_true rfl) (Nat.le_of_ble_eq_true rfl) dX4_copy_27 (fun H locs hP hD hS => ?_)
  obtain ⟨f_2, e_f_2⟩ : ∃ y : Nat → Int32, y = va_cpy ff tff (0 : Int32).toNatClampNeg (0 : Int32).toNatClampNeg (8 : Int32).toNatClampNeg := ⟨_, rfl⟩
  have hpd9 : PDx (dC, dI) classes A H [oX4 h1 tek tef tew tep tes tsz tsy tdn, cI aC tek 8 f_1, cI aC tef 8 f_2, cI aC tew 8 twf, cI aC tep 8 tpf, cI aC tes 5 tsf, oX4 h2 ek ef ew ep es esz esy edn, cI aC ek 8 kf, cI aC ef 8 ff, cI aC ew 8 wf, cI aC ep 8 pf, cI aC es 5 stf] := by rw [e_f_2]; exact ⟨hP, hD⟩
  have hP := hpd9.1
  have hD := hpd9.2
  clear hpd9
  refine lv_aload_n hx hb dX4_copy_30 rfl (lv_at hl 1 rfl) ?_
  refine va_get (D := (dC, dI)) (ci := 4) (v := Value.ref ew) (C := RX4) (T := TX4) (N := 8) hx hb hts inX4 hown hK hP 6 rfl rfl 2 (by decide) (hts _ (gw kw_38 rfl)) (fun _ h9 => h9) rfl dX4_copy_31 ?_
  refine lv_iconst (v := 0) hx hb dX4_copy_34 (by decide) ?_
  refine lv_aload_n hx hb dX4_copy_35 rfl (lv_at hl 0 rfl) ?_
  refine va_get (D := (dC, dI)) (ci := 4) (v := Value.ref tew) (C := RX4) (T := TX4) (N := 8) hx hb hts inX4 hown hK hP 0 rfl rfl 2 (by decide) (hts _ (gw kw_38 rfl)) (fun _ h9 => h9) rfl dX4_copy_36 ?_
  refine lv_iconst (v := 0) hx hb dX4_copy_39 (by decide) ?_
  refine lv_bipush (v := 8) hx hb dX4_copy_40 (by decide) ?_
  refine va_copyi (ty := .int) hx hb (by rw [hml]; exact hl.1.symm) hown (hts _ (gw kw_599 rfl)) (hts _ (gw kw_486 rfl)) (hts _ (gw kw_485 rfl)) (hts _ (gw kw_16 rfl)) hK hP hD hS 9 3 0 0 rfl rfl rfl rfl rfl (by decide) (by decide) (by decide) (by decide) (by decide) (fun _ _ => rfl) (Nat.le_of_ble_eq_true rfl) (Nat.le_of_ble_eq_true rfl) dX4_copy_42 (fun H locs hP hD hS => ?_)
  obtain ⟨f_3, e_f_3⟩ : ∃ y : Nat → Int32, y = va_cpy wf twf (0 : Int32).toNatClampNeg (0 : Int32).toNatClampNeg (8 : Int32).toNatClampNeg := ⟨_, rfl⟩
  have hpd9 : PDx (dC, dI) classes A H [oX4 h1 tek tef tew tep tes tsz tsy tdn, cI aC tek 8 f_1, cI aC tef 8 f_2, cI aC tew 8 f_3, cI aC tep 8 tpf, cI aC tes 5 tsf, oX4 h2 ek ef ew ep es esz esy edn, cI aC ek 8 kf, cI aC ef 8 ff, cI aC ew 8 wf, cI aC ep 8 pf, cI aC es 5 stf] := by rw [e_f_3]; exact ⟨hP, hD⟩
  have hP := hpd9.1
  have hD := hpd9.2
  clear hpd9
  refine lv_aload_n hx hb dX4_copy_45 rfl (lv_at hl 1 rfl) ?_
  refine va_get (D := (dC, dI)) (ci := 4) (v := Value.ref ep) (C := RX4) (T := TX4) (N := 8) hx hb hts inX4 hown hK hP 6 rfl rfl 3 (by decide) (hts _ (gw kw_41 rfl)) (fun _ h9 => h9) rfl dX4_copy_46 ?_
  refine lv_iconst (v := 0) hx hb dX4_copy_49 (by decide) ?_
  refine lv_aload_n hx hb dX4_copy_50 rfl (lv_at hl 0 rfl) ?_
  refine va_get (D := (dC, dI)) (ci := 4) (v := Value.ref tep) (C := RX4) (T := TX4) (N := 8) hx hb hts inX4 hown hK hP 0 rfl rfl 3 (by decide) (hts _ (gw kw_41 rfl)) (fun _ h9 => h9) rfl dX4_copy_51 ?_
  refine lv_iconst (v := 0) hx hb dX4_copy_54 (by decide) ?_
  refine lv_bipush (v := 8) hx hb dX4_copy_55 (by decide) ?_
  refine va_copyi (ty := .int) hx hb (by rw [hml]; exact hl.1.symm) hown (hts _ (gw kw_599 rfl)) (hts _ (gw kw_486 rfl)) (hts _ (gw kw_485 rfl)) (hts _ (gw kw_16 rfl)) hK hP hD hS 10 4 0 0 rfl rfl rfl rfl rfl (by decide) (by decide) (by decide) (by decide) (by decide) (fun _ _ => rfl) (Nat.le_of_ble_eq_true rfl) (Nat.le_of_ble_eq_true rfl) dX4_copy_57 (fun H locs hP hD hS => ?_)
  obtain ⟨f_4, e_f_4⟩ : ∃ y : Nat → Int32, y = va_cpy pf tpf (0 : Int32).toNatClampNeg (0 : Int32).toNatClampNeg (8 : Int32).toNatClampNeg := ⟨_, rfl⟩
  have hpd9 : PDx (dC, dI) classes A H [oX4 h1 tek tef tew tep tes tsz tsy tdn, cI aC tek 8 f_1, cI aC tef 8 f_2, cI aC tew 8 f_3, cI aC tep 8 f_4, cI aC tes 5 tsf, oX4 h2 ek ef ew ep es esz esy edn, cI aC ek 8 kf, cI aC ef 8 ff, cI aC ew 8 wf, cI aC ep 8 pf, cI aC es 5 stf] := by rw [e_f_4]; exact ⟨hP, hD⟩
  have hP := hpd9.1
  have hD := hpd9.2
  clear hpd9
  refine lv_aload_n hx hb dX4_copy_60 rfl (lv_at hl 1 rfl) ?_
  refine va_get (D := (dC, dI)) (ci := 4) (v := Value.ref es) (C := RX4) (T := TX4) (N := 8) hx hb hts inX4 hown hK hP 6 rfl rfl 4 (by decide) (hts _ (gw kw_43 rfl)) (fun _ h9 => h9) rfl dX4_copy_61 ?_
  refine lv_iconst (v := 0) hx hb dX4_copy_64 (by decide) ?_
  refine lv_aload_n hx hb dX4_copy_65 rfl (lv_at hl 0 rfl) ?_
  refine va_get (D := (dC, dI)) (ci := 4) (v := Value.ref tes) (C := RX4) (T := TX4) (N := 8) hx hb hts inX4 hown hK hP 0 rfl rfl 4 (by decide) (hts _ (gw kw_43 rfl)) (fun _ h9 => h9) rfl dX4_copy_66 ?_
  refine lv_iconst (v := 0) hx hb dX4_copy_69 (by decide) ?_
  refine va_getsN (v := .ref tG) hx hb hZG hS hown (va_Nw.use rfl (hN.1 _ kw_600 rfl)) (fun _ h9 => h9) dX4_copy_70 ?_
  refine va_tlen (v := 5) hx hb hTG hS (by decide) dX4_copy_73 ?_
  refine va_copyi (ty := .int) hx hb (by rw [hml]; exact hl.1.symm) hown (hts _ (gw kw_599 rfl)) (hts _ (gw kw_486 rfl)) (hts _ (gw kw_485 rfl)) (hts _ (gw kw_16 rfl)) hK hP hD hS 11 5 0 0 rfl rfl rfl rfl rfl (by decide) (by decide) (by decide) (by decide) (by decide) (fun _ _ => rfl) (Nat.le_of_ble_eq_true rfl) (Nat.le_of_ble_eq_true rfl) dX4_copy_74 (fun H locs hP hD hS => ?_)
  obtain ⟨f_5, e_f_5⟩ : ∃ y : Nat → Int32, y = va_cpy stf tsf (0 : Int32).toNatClampNeg (0 : Int32).toNatClampNeg (5 : Int32).toNatClampNeg := ⟨_, rfl⟩
  have hpd9 : PDx (dC, dI) classes A H [oX4 h1 tek tef tew tep tes tsz tsy tdn, cI aC tek 8 f_1, cI aC tef 8 f_2, cI aC tew 8 f_3, cI aC tep 8 f_4, cI aC tes 5 f_5, oX4 h2 ek ef ew ep es esz esy edn, cI aC ek 8 kf, cI aC ef 8 ff, cI aC ew 8 wf, cI aC ep 8 pf, cI aC es 5 stf] := by rw [e_f_5]; exact ⟨hP, hD⟩
  have hP := hpd9.1
  have hD := hpd9.2
  clear hpd9
  refine lv_aload_n hx hb dX4_copy_77 rfl (lv_at hl 0 rfl) ?_
  refine lv_aload_n hx hb dX4_copy_78 rfl (lv_at hl 1 rfl) ?_
  refine va_get (D := (dC, dI)) (ci := 4) (v := Value.int esz) (C := RX4) (T := TX4) (N := 8) hx hb hts inX4 hown hK hP 6 rfl rfl 5 (by decide) (hts _ (gw kw_48 rfl)) (fun _ h9 => h9) rfl dX4_copy_79 ?_
  refine va_put (D := (dC, dI)) (ci := 4) (v := Value.int esz) (ty := .int) (C := RX4) (T := TX4) (N := 8) hx hb hts inX4 tyX4 tyX4_ok nmX4 hown hK hP hD hS 0 rfl rfl 5 (by decide) (hts _ (gw kw_48 rfl)) (fun _ h9 => h9) rfl (by decide +kernel) rfl rfl (Nat.le_of_ble_eq_true rfl) dX4_copy_82 (fun H locs hP hD hS => ?_)
  have hpd9 : PDx (dC, dI) classes A H [oX4 h1 tek tef tew tep tes esz tsy tdn, cI aC tek 8 f_1, cI aC tef 8 f_2, cI aC tew 8 f_3, cI aC tep 8 f_4, cI aC tes 5 f_5, oX4 h2 ek ef ew ep es esz esy edn, cI aC ek 8 kf, cI aC ef 8 ff, cI aC ew 8 wf, cI aC ep 8 pf, cI aC es 5 stf] := ⟨hP, hD⟩
  have hP := hpd9.1
  have hD := hpd9.2
  clear hpd9
  refine lv_aload_n hx hb dX4_copy_85 rfl (lv_at hl 0 rfl) ?_
  refine lv_aload_n hx hb dX4_copy_86 rfl (lv_at hl 1 rfl) ?_
  refine va_get (D := (dC, dI)) (ci := 4) (v := Value.int esy) (C := RX4) (T := TX4) (N := 8) hx hb hts inX4 hown hK hP 6 rfl rfl 6 (by decide) (hts _ (gw kw_51 rfl)) (fun _ h9 => h9) rfl dX4_copy_87 ?_
  refine va_put (D := (dC, dI)) (ci := 4) (v := Value.int esy) (ty := .int) (C := RX4) (T := TX4) (N := 8) hx hb hts inX4 tyX4 tyX4_ok nmX4 hown hK hP hD hS 0 rfl rfl 6 (by decide) (hts _ (gw kw_51 rfl)) (fun _ h9 => h9) rfl (by decide +kernel) rfl rfl (Nat.le_of_ble_eq_true rfl) dX4_copy_90 (fun H locs hP hD hS => ?_)
  have hpd9 : PDx (dC, dI) classes A H [oX4 h1 tek tef tew tep tes esz esy tdn, cI aC tek 8 f_1, cI aC tef 8 f_2, cI aC tew 8 f_3, cI aC tep 8 f_4, cI aC tes 5 f_5, oX4 h2 ek ef ew ep es esz esy edn, cI aC ek 8 kf, cI aC ef 8 ff, cI aC ew 8 wf, cI aC ep 8 pf, cI aC es 5 stf] := ⟨hP, hD⟩
  have hP := hpd9.1
  have hD := hpd9.2
  clear hpd9
  refine lv_aload_n hx hb dX4_copy_93 rfl (lv_at hl 0 rfl) ?_
  refine lv_aload_n hx hb dX4_copy_94 rfl (lv_at hl 1 rfl) ?_
  refine va_get (D := (dC, dI)) (ci := 4) (v := Value.int edn) (C := RX4) (T := TX4) (N := 8) hx hb hts inX4 hown hK hP 6 rfl rfl 7 (by decide) (hts _ (gw kw_53 rfl)) (fun _ h9 => h9) rfl dX4_copy_95 ?_
  refine va_put (D := (dC, dI)) (ci := 4) (v := Value.int edn) (ty := .boolean) (C := RX4) (T := TX4) (N := 8) hx hb hts inX4 tyX4 tyX4_ok nmX4 hown hK hP hD hS 0 rfl rfl 7 (by decide) (hts _ (gw kw_53 rfl)) (fun _ h9 => h9) rfl (by decide +kernel) (by rcases hdn with q | q <;> (rw [q]; rfl)) (by rcases hdn with q | q <;> (rw [q]; rfl)) (Nat.le_of_ble_eq_true rfl) dX4_copy_98 (fun H locs hP hD hS => ?_)
  have hpd9 : PDx (dC, dI) classes A H [oX4 h1 tek tef tew tep tes esz esy edn, cI aC tek 8 f_1, cI aC tef 8 f_2, cI aC tew 8 f_3, cI aC tep 8 f_4, cI aC tes 5 f_5, oX4 h2 ek ef ew ep es esz esy edn, cI aC ek 8 kf, cI aC ef 8 ff, cI aC ew 8 wf, cI aC ep 8 pf, cI aC es 5 stf] := ⟨hP, hD⟩
  have hP := hpd9.1
  have hD := hpd9.2
  clear hpd9
  have hpd9 := pd_N (cx := [oX4 h1 tek tef tew tep tes esz esy edn, cI aC tek 8 f_1, cI aC tef 8 f_2, cI aC tew 8 f_3, cI aC tep 8 f_4, cI aC tes 5 f_5, oX4 h2 ek ef ew ep es esz esy edn, cI aC ek 8 kf, cI aC ef 8 ff, cI aC ew 8 wf, cI aC ep 8 pf, cI aC es 5 stf]) hP hD [0, 1, 2, 3, 4, 5, 6, 7, 8, 9, 10, 11] (by decide) rfl
  have hP9 := hpd9.1
  have hD9 := hpd9.2
  refine W.widen (k := 0) (n := 0) (by omega) (by omega) ?_
  exact W.vret hx hb hr (fun t ht hW => ⟨⟨(f_1, f_2, f_3, f_4, f_5), rfl, ⟨fun j hj => by rw [e_f_1]; exact sb_cpy0 hj, fun j hj => by rw [e_f_2]; exact sb_cpy0 hj, fun j hj => by rw [e_f_3]; exact sb_cpy0 hj, fun j hj => by rw [e_f_4]; exact sb_cpy0 hj, fun j hj => by rw [e_f_5]; exact sb_cpy0 hj⟩, by rw [ht]; exact hP9, va_K.moved hW.alike hK, hD9⟩, hS.F ht⟩) hS.2.2 dX4_copy_101

set_option maxHeartbeats 1000000 in
set_option maxRecDepth 100000 in
/-- X4_add -/
theorem c_X4_add (l : Launch) (dC : Nat → ClassId) (dI : Nat → Nat → Nat) (aC : Nat → ClassId) (sz : Nat) (h1 : Nat) (ek : Nat) (ef : Nat) (ew : Nat) (ep : Nat) (es : Nat) (n : Nat) (sy : Int32) (dn : Int32) (kf : Nat → Int32) (ff : Nat → Int32) (wf : Nat → Int32) (kx : Int32) (fx_ : Int32) (wx : Int32) (hn : n < 8) : Met l yX4_add (wW yX4_add cX4_add 4 (none : Option FieldType)) ({ frames := 0, cells := 0, slots := 0, locals := 0 } : Room) (va_Pc [Value.ref h1, Value.int kx, Value.int fx_, Value.int wx] (fun U => U.heap.size = sz ∧ va_P (dC, dI) classes [oX4 h1 ek ef ew ep es (nI n) sy dn, cI aC ek 8 kf, cI aC ef 8 ff, cI aC ew 8 wf] U.heap ∧ va_K (dC, dI) classes (TY aC) U ∧ va_D (fun _ => True) [oX4 h1 ek ef ew ep es (nI n) sy dn, cI aC ek 8 kf, cI aC ef 8 ff, cI aC ew 8 wf] ∧ NX U)) (va_Qv (fun (u : (Nat → Int32) × (Nat → Int32) × (Nat → Int32)) => match u with | (kf2, ff2, wf2) => kf2 = upd kf n kx ∧ ff2 = upd ff n fx_ ∧ wf2 = upd wf n wx) (fun (u : (Nat → Int32) × (Nat → Int32) × (Nat → Int32)) (t : State) => match u with | (kf2, ff2, wf2) => va_P (dC, dI) classes [oX4 h1 ek ef ew ep es (nI (n + 1)) sy dn, cI aC ek 8 kf2, cI aC ef 8 ff2, cI aC ew 8 wf2] t.heap ∧ va_K (dC, dI) classes (TY aC) t ∧ va_D (va_A [oX4 h1 ek ef ew ep es (nI n) sy dn, cI aC ek 8 kf, cI aC ef 8 ff, cI aC ew 8 wf] sz) [oX4 h1 ek ef ew ep es (nI (n + 1)) sy dn, cI aC ek 8 kf2, cI aC ef 8 ff2, cI aC ew 8 wf2]) (va_A [oX4 h1 ek ef ew ep es (nI n) sy dn, cI aC ek 8 kf, cI aC ef 8 ff, cI aC ew 8 wf] sz)) 0 0 (va_A [oX4 h1 ek ef ew ep es (nI n) sy dn, cI aC ek 8 kf, cI aC ef 8 ff, cI aC ew 8 wf] sz) := by
  refine Met.ofW (cc := cX4_add) (maxL := 4) (ret := (none : Option FieldType)) (by decide) rfl ?_
  intro p e s m args below meth c s₁ B hml hv
  obtain ⟨rfl, hsz, hP, hK, hD0, hN⟩ := hv
  have hx := B.exec
  have hb := B.bytes
  have hr := B.returns
  have hts0 := atoms_spec (ws := (wW yX4_add cX4_add 4 (none : Option FieldType))) B.pre
  have hts : ∀ w9 ∈ lw_G, w9.before ([Value.ref h1, Value.int kx, Value.int fx_, Value.int wx] : List Value).toArray s = true := fun w9 h9 => hts0 w9 (List.mem_cons_of_mem _ h9)
  have hown : s.vm.findClass RX4 = some m.cls := findClass_of_methodNamed (x := yX4_add) B.named
  have hlocks := B.notSynchronized
  subst hsz
  have hD := hD0.self (sz := s.heap.size)
  generalize hAe : va_A [oX4 h1 ek ef ew ep es (nI n) sy dn, cI aC ek 8 kf, cI aC ef 8 ff, cI aC ew 8 wf] s.heap.size = A at hD ⊢
  have hA : ∀ q : Nat, s.heap.size ≤ q → A q := fun q h => by rw [← hAe]; exact Or.inr h
  obtain ⟨H, hHe⟩ : ∃ H : Heap, H = s.heap := ⟨_, rfl⟩
  have hS : va_S A s.heap H [] := by rw [hHe]; exact va_S.rf
  have hP : va_P (dC, dI) classes [oX4 h1 ek ef ew ep es (nI n) sy dn, cI aC ek 8 kf, cI aC ef 8 ff, cI aC ew 8 wf] H := by rw [hHe]; exact hP
  have hl := lv_entry ([Value.ref h1, Value.int kx, Value.int fx_, Value.int wx]) (n := 4) (Nat.le_of_ble_eq_true rfl)
  rw [lg_entry_eq]
  generalize (lg_sl ([Value.ref h1, Value.int kx, Value.int fx_, Value.int wx]) ++ List.replicate (4 - (lg_sl ([Value.ref h1, Value.int kx, Value.int fx_, Value.int wx])).length) Slot.unset).toArray = ls at hl ⊢
  have hl : lv_has ls 4 [(0, Value.ref h1), (1, Value.int kx), (2, Value.int fx_), (3, Value.int wx)] := hl
  rw [← hHe]
  refine lv_aload_n hx hb dX4_add_0 rfl (lv_at hl 0 rfl) ?_
  refine va_get (D := (dC, dI)) (ci := 4) (v := Value.int (nI n)) (C := RX4) (T := TX4) (N := 8) hx hb hts inX4 hown hK hP 0 rfl rfl 5 (by decide) (hts _ (gw kw_48 rfl)) (fun _ h9 => h9) rfl dX4_add_1 ?_
  refine lv_bipush (v := 8) hx hb dX4_add_4 (by decide) ?_
  refine lv_icmp_ge (tgt := 49) hx hb dX4_add_6 (by decide) (fun c_1 => ?_) (fun c_1 => ?_)
  · exact absurd ((nI_leI (a := 8) (b := n) (by omega) (by omega)).mp c_1) (by omega)
  · refine lv_aload_n hx hb dX4_add_9 rfl (lv_at hl 0 rfl) ?_
    refine va_get (D := (dC, dI)) (ci := 4) (v := Value.ref ek) (C := RX4) (T := TX4) (N := 8) hx hb hts inX4 hown hK hP 0 rfl rfl 0 (by decide) (hts _ (gw kw_32 rfl)) (fun _ h9 => h9) rfl dX4_add_10 ?_
    refine lv_aload_n hx hb dX4_add_13 rfl (lv_at hl 0 rfl) ?_
    refine va_get (D := (dC, dI)) (ci := 4) (v := Value.int (nI n)) (C := RX4) (T := TX4) (N := 8) hx hb hts inX4 hown hK hP 0 rfl rfl 5 (by decide) (hts _ (gw kw_48 rfl)) (fun _ h9 => h9) rfl dX4_add_14 ?_
    refine lv_iload_n hx hb dX4_add_17 rfl (lv_at hl 1 rfl) ?_
    have h_2 : vp_in (nI n) 8 := by first | exact vp_in_nI (by omega) (by omega) | (unfold vp_in; decide) | (subst_vars; first | (unfold vp_in; decide) | exact vp_in_nI (by omega) (by omega))
    refine va_iast hx hb hK hP hD hS 1 0 rfl rfl h_2 dX4_add_18 (fun H locs hP hD hS => ?_)
    obtain ⟨f_3, e_f_3⟩ : ∃ y : Nat → Int32, y = upd kf (nI n : Int32).toNatClampNeg kx := ⟨_, rfl⟩
    have hpd9 : PDx (dC, dI) classes A H [oX4 h1 ek ef ew ep es (nI n) sy dn, cI aC ek 8 f_3, cI aC ef 8 ff, cI aC ew 8 wf] := by rw [e_f_3]; exact ⟨hP, hD⟩
    have hP := hpd9.1
    have hD := hpd9.2
    clear hpd9
    refine lv_aload_n hx hb dX4_add_19 rfl (lv_at hl 0 rfl) ?_
    refine va_get (D := (dC, dI)) (ci := 4) (v := Value.ref ef) (C := RX4) (T := TX4) (N := 8) hx hb hts inX4 hown hK hP 0 rfl rfl 1 (by decide) (hts _ (gw kw_35 rfl)) (fun _ h9 => h9) rfl dX4_add_20 ?_
    refine lv_aload_n hx hb dX4_add_23 rfl (lv_at hl 0 rfl) ?_
    refine va_get (D := (dC, dI)) (ci := 4) (v := Value.int (nI n)) (C := RX4) (T := TX4) (N := 8) hx hb hts inX4 hown hK hP 0 rfl rfl 5 (by decide) (hts _ (gw kw_48 rfl)) (fun _ h9 => h9) rfl dX4_add_24 ?_
    refine lv_iload_n hx hb dX4_add_27 rfl (lv_at hl 2 rfl) ?_
    have h_4 : vp_in (nI n) 8 := by first | exact vp_in_nI (by omega) (by omega) | (unfold vp_in; decide) | (subst_vars; first | (unfold vp_in; decide) | exact vp_in_nI (by omega) (by omega))
    refine va_iast hx hb hK hP hD hS 2 0 rfl rfl h_4 dX4_add_28 (fun H locs hP hD hS => ?_)
    obtain ⟨f_5, e_f_5⟩ : ∃ y : Nat → Int32, y = upd ff (nI n : Int32).toNatClampNeg fx_ := ⟨_, rfl⟩
    have hpd9 : PDx (dC, dI) classes A H [oX4 h1 ek ef ew ep es (nI n) sy dn, cI aC ek 8 f_3, cI aC ef 8 f_5, cI aC ew 8 wf] := by rw [e_f_5]; exact ⟨hP, hD⟩
    have hP := hpd9.1
    have hD := hpd9.2
    clear hpd9
    refine lv_aload_n hx hb dX4_add_29 rfl (lv_at hl 0 rfl) ?_
    refine va_get (D := (dC, dI)) (ci := 4) (v := Value.ref ew) (C := RX4) (T := TX4) (N := 8) hx hb hts inX4 hown hK hP 0 rfl rfl 2 (by decide) (hts _ (gw kw_38 rfl)) (fun _ h9 => h9) rfl dX4_add_30 ?_
    refine lv_aload_n hx hb dX4_add_33 rfl (lv_at hl 0 rfl) ?_
    refine va_get (D := (dC, dI)) (ci := 4) (v := Value.int (nI n)) (C := RX4) (T := TX4) (N := 8) hx hb hts inX4 hown hK hP 0 rfl rfl 5 (by decide) (hts _ (gw kw_48 rfl)) (fun _ h9 => h9) rfl dX4_add_34 ?_
    refine lv_iload_n hx hb dX4_add_37 rfl (lv_at hl 3 rfl) ?_
    have h_6 : vp_in (nI n) 8 := by first | exact vp_in_nI (by omega) (by omega) | (unfold vp_in; decide) | (subst_vars; first | (unfold vp_in; decide) | exact vp_in_nI (by omega) (by omega))
    refine va_iast hx hb hK hP hD hS 3 0 rfl rfl h_6 dX4_add_38 (fun H locs hP hD hS => ?_)
    obtain ⟨f_7, e_f_7⟩ : ∃ y : Nat → Int32, y = upd wf (nI n : Int32).toNatClampNeg wx := ⟨_, rfl⟩
    have hpd9 : PDx (dC, dI) classes A H [oX4 h1 ek ef ew ep es (nI n) sy dn, cI aC ek 8 f_3, cI aC ef 8 f_5, cI aC ew 8 f_7] := by rw [e_f_7]; exact ⟨hP, hD⟩
    have hP := hpd9.1
    have hD := hpd9.2
    clear hpd9
    refine lv_aload_n hx hb dX4_add_39 rfl (lv_at hl 0 rfl) ?_
    refine lv_dup hx hb dX4_add_40 rfl ?_
    refine va_get (D := (dC, dI)) (ci := 4) (v := Value.int (nI n)) (C := RX4) (T := TX4) (N := 8) hx hb hts inX4 hown hK hP 0 rfl rfl 5 (by decide) (hts _ (gw kw_48 rfl)) (fun _ h9 => h9) rfl dX4_add_41 ?_
    refine lv_iconst (v := 1) hx hb dX4_add_44 (by decide) ?_
    refine lv_iadd hx hb dX4_add_45 ?_
    refine lv_topi (fun x_8 e_8 => ?_)
    have h9 : x_8 = nI (n + 1) := by rw [e_8, nI_1]
    subst h9
    refine va_put (D := (dC, dI)) (ci := 4) (v := Value.int (nI (n + 1))) (ty := .int) (C := RX4) (T := TX4) (N := 8) hx hb hts inX4 tyX4 tyX4_ok nmX4 hown hK hP hD hS 0 rfl rfl 5 (by decide) (hts _ (gw kw_48 rfl)) (fun _ h9 => h9) rfl (by decide +kernel) rfl rfl (Nat.le_of_ble_eq_true rfl) dX4_add_46 (fun H locs hP hD hS => ?_)
    have hpd9 : PDx (dC, dI) classes A H [oX4 h1 ek ef ew ep es (nI (n + 1)) sy dn, cI aC ek 8 f_3, cI aC ef 8 f_5, cI aC ew 8 f_7] := ⟨hP, hD⟩
    have hP := hpd9.1
    have hD := hpd9.2
    clear hpd9
    have hpd9 := pd_N (cx := [oX4 h1 ek ef ew ep es (nI (n + 1)) sy dn, cI aC ek 8 f_3, cI aC ef 8 f_5, cI aC ew 8 f_7]) hP hD [0, 1, 2, 3] (by decide) rfl
    have hP9 := hpd9.1
    have hD9 := hpd9.2
    refine W.widen (k := 0) (n := 0) (by omega) (by omega) ?_
    exact W.vret hx hb hr (fun t ht hW => ⟨⟨(f_3, f_5, f_7), rfl, ⟨by rw [e_f_3, nI_clamp (by omega)], by rw [e_f_5, nI_clamp (by omega)], by rw [e_f_7, nI_clamp (by omega)]⟩, by rw [ht]; exact hP9, va_K.moved hW.alike hK, hD9⟩, hS.F ht⟩) hS.2.2 dX4_add_49

set_option maxHeartbeats 1000000 in
set_option maxRecDepth 100000 in
/-- X4_weightLeft -/
theorem c_X4_weightLeft (l : Launch) (dC : Nat → ClassId) (dI : Nat → Nat → Nat) (aC : Nat → ClassId) (sz : Nat) (h1 : Nat) (ek : Nat) (ef : Nat) (ew : Nat) (ep : Nat) (es : Nat) (n : Nat) (sn : Nat) (dn : Int32) (wf : Nat → Int32) (pf : Nat → Int32) (W0 : Nat → Nat) (hw : n ≤ 8 ∧ ∀ j, j < n → wf j = nI (W0 j) ∧ W0 j ≤ 9) (hsn : sn < n ∨ sn = 0) : Met l yX4_weightLeft (wW yX4_weightLeft cX4_weightLeft 1 (some .int)) ({ frames := 2, cells := 0, slots := 0, locals := 36 } : Room) (va_Pc [Value.ref h1] (fun U => U.heap.size = sz ∧ va_P (dC, dI) classes [oX4 h1 ek ef ew ep es (nI n) (nI sn) dn, cI aC ew 8 wf, cI aC ep 8 pf] U.heap ∧ va_K (dC, dI) classes (TY aC) U ∧ va_D (fun _ => True) [oX4 h1 ek ef ew ep es (nI n) (nI sn) dn, cI aC ew 8 wf, cI aC ep 8 pf] ∧ NX U)) (va_Qi (fun (r : Int32) (_ : Unit) => True) (fun (_ : Unit) (t : State) => va_P (dC, dI) classes [oX4 h1 ek ef ew ep es (nI n) (nI sn) dn, cI aC ew 8 wf, cI aC ep 8 pf] t.heap ∧ va_K (dC, dI) classes (TY aC) t ∧ va_D (va_A [oX4 h1 ek ef ew ep es (nI n) (nI sn) dn, cI aC ew 8 wf, cI aC ep 8 pf] sz) [oX4 h1 ek ef ew ep es (nI n) (nI sn) dn, cI aC ew 8 wf, cI aC ep 8 pf]) (va_A [oX4 h1 ek ef ew ep es (nI n) (nI sn) dn, cI aC ew 8 wf, cI aC ep 8 pf] sz)) 0 0 (va_A [oX4 h1 ek ef ew ep es (nI n) (nI sn) dn, cI aC ew 8 wf, cI aC ep 8 pf] sz) := by
  refine Met.ofW (cc := cX4_weightLeft) (maxL := 1) (ret := (some .int)) (by decide) rfl ?_
  intro p e s m args below meth c s₁ B hml hv
  obtain ⟨rfl, hsz, hP, hK, hD0, hN⟩ := hv
  have hx := B.exec
  have hb := B.bytes
  have hr := B.returns
  have hts0 := atoms_spec (ws := (wW yX4_weightLeft cX4_weightLeft 1 (some .int))) B.pre
  have hts : ∀ w9 ∈ lw_G, w9.before ([Value.ref h1] : List Value).toArray s = true := fun w9 h9 => hts0 w9 (List.mem_cons_of_mem _ h9)
  have hown : s.vm.findClass RX4 = some m.cls := findClass_of_methodNamed (x := yX4_weightLeft) B.named
  have hlocks := B.notSynchronized
  subst hsz
  have hD := hD0.self (sz := s.heap.size)
  generalize hAe : va_A [oX4 h1 ek ef ew ep es (nI n) (nI sn) dn, cI aC ew 8 wf, cI aC ep 8 pf] s.heap.size = A at hD ⊢
  have hA : ∀ q : Nat, s.heap.size ≤ q → A q := fun q h => by rw [← hAe]; exact Or.inr h
  obtain ⟨H, hHe⟩ : ∃ H : Heap, H = s.heap := ⟨_, rfl⟩
  have hS : va_S A s.heap H [] := by rw [hHe]; exact va_S.rf
  have hP : va_P (dC, dI) classes [oX4 h1 ek ef ew ep es (nI n) (nI sn) dn, cI aC ew 8 wf, cI aC ep 8 pf] H := by rw [hHe]; exact hP
  have hl := lv_entry ([Value.ref h1]) (n := 1) (Nat.le_of_ble_eq_true rfl)
  rw [lg_entry_eq]
  generalize (lg_sl ([Value.ref h1]) ++ List.replicate (1 - (lg_sl ([Value.ref h1])).length) Slot.unset).toArray = ls at hl ⊢
  have hl : lv_has ls 1 [(0, Value.ref h1)] := hl
  rw [← hHe]
  have hn8 := hw.1
  refine lv_aload_n hx hb dX4_weightLeft_0 rfl (lv_at hl 0 rfl) ?_
  refine lv_aload_n hx hb dX4_weightLeft_1 rfl (lv_at hl 0 rfl) ?_
  refine va_get (D := (dC, dI)) (ci := 4) (v := Value.int (nI sn)) (C := RX4) (T := TX4) (N := 8) hx hb hts inX4 hown hK hP 0 rfl rfl 6 (by decide) (hts _ (gw kw_51 rfl)) (fun _ h9 => h9) rfl dX4_weightLeft_2 ?_
  have hpd9 := pdf_N (cx := [oX4 h1 ek ef ew ep es (nI n) (nI sn) dn]) hP hD hS hA [0] (by decide) rfl
  have hPc := hpd9.1
  have hDc := hpd9.2.1
  have hFc := hpd9.2.2
  clear hpd9
  refine va_calli (va_runV (As := [Value.int (nI sn)]) (rest := []) ⟨hx, hb, hml, hown, hts⟩ (c_X4_has l dC dI aC H.size h1 ek ef ew ep es (nI n) (nI sn) dn (nI sn) ) ⟨(callB_of 1 hts (gG kw_340) rfl rfl rfl (hts _ (gw kw_2 rfl)) (hts _ (gw kw_706 rfl)) hd_X4_has ⟨Nat.le_of_ble_eq_true rfl, Nat.le_of_ble_eq_true rfl⟩), (hts _ (gw kw_338 rfl)), (hts _ (gw kw_339 rfl))⟩ ⟨fb_std, va_recv (q := (RX4, TX4, 8)) hK hPc (ci := 4) (q0 := 0) rfl rfl, pre_std hPc hK hDc hN⟩ rfl rfl hl.1 rfl (lv_room (Nat.le_of_ble_eq_true rfl)) dX4_weightLeft_5 ⟨Nat.le_of_ble_eq_true rfl, Nat.le_of_ble_eq_true rfl⟩) hS (fun q _ h => hFc q h) hFc (fun x_1 u9 t9 H1 locs ht hvm hw_1 hB hz1 hk1 hS => ?_)
  obtain ⟨hP1, hK1, hD1⟩ := hB
  rw [ht] at hP1
  clear hK1
  try dsimp only at hw_1
  have hpd9 : PDx (dC, dI) classes A H1 [cI aC ew 8 wf, cI aC ep 8 pf, oX4 h1 ek ef ew ep es (nI n) (nI sn) dn] := jn_N (wr := [cI aC ew 8 wf, cI aC ep 8 pf]) hFc hk1 hP1 hD1 hP hD [0] [1, 2] rfl rfl (by decide) (by decide)
  have hP := hpd9.1
  have hD := hpd9.2
  clear hpd9
  generalize H1 = H at hP hS ⊢
  clear hPc hDc hFc hz1 hk1 hP1 hD1 ht hvm
  have hz_5 := hw_1
  refine lv_if_eq (tgt := 28) hx hb dX4_weightLeft_8 (by decide) (fun c_2 => ?_) (fun c_2 => ?_)
  · refine lv_aload_n hx hb dX4_weightLeft_28 rfl (lv_at hl 0 rfl) ?_
    refine lv_aload_n hx hb dX4_weightLeft_29 rfl (lv_at hl 0 rfl) ?_
    refine va_get (D := (dC, dI)) (ci := 4) (v := Value.int (nI sn)) (C := RX4) (T := TX4) (N := 8) hx hb hts inX4 hown hK hP 2 rfl rfl 6 (by decide) (hts _ (gw kw_51 rfl)) (fun _ h9 => h9) rfl dX4_weightLeft_30 ?_
    have hpd9 := pdf_N (cx := [oX4 h1 ek ef ew ep es (nI n) (nI sn) dn, cI aC ew 8 wf]) hP hD hS hA [2, 0] (by decide) rfl
    have hPc := hpd9.1
    have hDc := hpd9.2.1
    have hFc := hpd9.2.2
    clear hpd9
    refine va_calli (va_runV (As := [Value.int (nI sn)]) (rest := []) ⟨hx, hb, hml, hown, hts⟩ (c_X4_weightFrom l dC dI aC H.size h1 ek ef ew ep es n (nI sn) dn wf W0 sn (hw) (by omega)) ⟨(callB_of 1 hts (gG kw_465) rfl rfl rfl (hts _ (gw kw_2 rfl)) (hts _ (gw kw_482 rfl)) hd_X4_weightFrom ⟨Nat.le_of_ble_eq_true rfl, Nat.le_of_ble_eq_true rfl⟩), (hts _ (gw kw_463 rfl)), (hts _ (gw kw_464 rfl))⟩ ⟨fb_std, va_recv (q := (RX4, TX4, 8)) hK hPc (ci := 4) (q0 := 0) rfl rfl, pre_std hPc hK hDc hN⟩ rfl rfl hl.1 rfl (lv_room (Nat.le_of_ble_eq_true rfl)) dX4_weightLeft_33 ⟨Nat.le_of_ble_eq_true rfl, Nat.le_of_ble_eq_true rfl⟩) hS (fun q _ h => hFc q h) hFc (fun x_3 u9 t9 H1 locs ht hvm hw_3 hB hz1 hk1 hS => ?_)
    obtain ⟨hP1, hK1, hD1⟩ := hB
    rw [ht] at hP1
    clear hK1
    try dsimp only at hw_3
    have hpd9 : PDx (dC, dI) classes A H1 [cI aC ep 8 pf, oX4 h1 ek ef ew ep es (nI n) (nI sn) dn, cI aC ew 8 wf] := jn_N (wr := [cI aC ep 8 pf]) hFc hk1 hP1 hD1 hP hD [2, 0] [1] rfl rfl (by decide) (by decide)
    have hP := hpd9.1
    have hD := hpd9.2
    clear hpd9
    generalize H1 = H at hP hS ⊢
    clear hPc hDc hFc hz1 hk1 hP1 hD1 ht hvm
    have hpd9 := pd_N (cx := [oX4 h1 ek ef ew ep es (nI n) (nI sn) dn, cI aC ew 8 wf, cI aC ep 8 pf]) hP hD [1, 2, 0] (by decide) rfl
    have hP9 := hpd9.1
    have hD9 := hpd9.2
    refine W.widen (k := 0) (n := 0) (by omega) (by omega) ?_
    exact W.iret (v := x_3) hx hb hr (fun t ht hW => ⟨⟨x_3, (), rfl, trivial, by rw [ht]; exact hP9, va_K.moved hW.alike hK, hD9⟩, hS.F ht⟩) hS.2.2 dX4_weightLeft_36
  · refine lv_aload_n hx hb dX4_weightLeft_11 rfl (lv_at hl 0 rfl) ?_
    refine va_get (D := (dC, dI)) (ci := 4) (v := Value.ref ep) (C := RX4) (T := TX4) (N := 8) hx hb hts inX4 hown hK hP 2 rfl rfl 3 (by decide) (hts _ (gw kw_41 rfl)) (fun _ h9 => h9) rfl dX4_weightLeft_12 ?_
    refine lv_aload_n hx hb dX4_weightLeft_15 rfl (lv_at hl 0 rfl) ?_
    refine va_get (D := (dC, dI)) (ci := 4) (v := Value.int (nI sn)) (C := RX4) (T := TX4) (N := 8) hx hb hts inX4 hown hK hP 2 rfl rfl 6 (by decide) (hts _ (gw kw_51 rfl)) (fun _ h9 => h9) rfl dX4_weightLeft_16 ?_
    have h_4 : vp_in (nI sn) 8 := vp_in_nI (by omega) (by omega)
    refine va_iald hx hb hK hP 1 0 rfl rfl h_4 dX4_weightLeft_19 ?_
    refine lv_topi (fun x_5 e_5 => ?_)
    refine lv_iconst (v := -1) hx hb dX4_weightLeft_20 (by decide) ?_
    refine lv_icmp_ne (tgt := 28) hx hb dX4_weightLeft_21 (by decide) (fun c_6 => ?_) (fun c_6 => ?_)
    · refine lv_aload_n hx hb dX4_weightLeft_28 rfl (lv_at hl 0 rfl) ?_
      refine lv_aload_n hx hb dX4_weightLeft_29 rfl (lv_at hl 0 rfl) ?_
      refine va_get (D := (dC, dI)) (ci := 4) (v := Value.int (nI sn)) (C := RX4) (T := TX4) (N := 8) hx hb hts inX4 hown hK hP 2 rfl rfl 6 (by decide) (hts _ (gw kw_51 rfl)) (fun _ h9 => h9) rfl dX4_weightLeft_30 ?_
      have hpd9 := pdf_N (cx := [oX4 h1 ek ef ew ep es (nI n) (nI sn) dn, cI aC ew 8 wf]) hP hD hS hA [2, 0] (by decide) rfl
      have hPc := hpd9.1
      have hDc := hpd9.2.1
      have hFc := hpd9.2.2
      clear hpd9
      refine va_calli (va_runV (As := [Value.int (nI sn)]) (rest := []) ⟨hx, hb, hml, hown, hts⟩ (c_X4_weightFrom l dC dI aC H.size h1 ek ef ew ep es n (nI sn) dn wf W0 sn (hw) (by omega)) ⟨(callB_of 1 hts (gG kw_465) rfl rfl rfl (hts _ (gw kw_2 rfl)) (hts _ (gw kw_482 rfl)) hd_X4_weightFrom ⟨Nat.le_of_ble_eq_true rfl, Nat.le_of_ble_eq_true rfl⟩), (hts _ (gw kw_463 rfl)), (hts _ (gw kw_464 rfl))⟩ ⟨fb_std, va_recv (q := (RX4, TX4, 8)) hK hPc (ci := 4) (q0 := 0) rfl rfl, pre_std hPc hK hDc hN⟩ rfl rfl hl.1 rfl (lv_room (Nat.le_of_ble_eq_true rfl)) dX4_weightLeft_33 ⟨Nat.le_of_ble_eq_true rfl, Nat.le_of_ble_eq_true rfl⟩) hS (fun q _ h => hFc q h) hFc (fun x_7 u9 t9 H1 locs ht hvm hw_7 hB hz1 hk1 hS => ?_)
      obtain ⟨hP1, hK1, hD1⟩ := hB
      rw [ht] at hP1
      clear hK1
      try dsimp only at hw_7
      have hpd9 : PDx (dC, dI) classes A H1 [cI aC ep 8 pf, oX4 h1 ek ef ew ep es (nI n) (nI sn) dn, cI aC ew 8 wf] := jn_N (wr := [cI aC ep 8 pf]) hFc hk1 hP1 hD1 hP hD [2, 0] [1] rfl rfl (by decide) (by decide)
      have hP := hpd9.1
      have hD := hpd9.2
      clear hpd9
      generalize H1 = H at hP hS ⊢
      clear hPc hDc hFc hz1 hk1 hP1 hD1 ht hvm
      have hpd9 := pd_N (cx := [oX4 h1 ek ef ew ep es (nI n) (nI sn) dn, cI aC ew 8 wf, cI aC ep 8 pf]) hP hD [1, 2, 0] (by decide) rfl
      have hP9 := hpd9.1
      have hD9 := hpd9.2
      refine W.widen (k := 0) (n := 0) (by omega) (by omega) ?_
      exact W.iret (v := x_7) hx hb hr (fun t ht hW => ⟨⟨x_7, (), rfl, trivial, by rw [ht]; exact hP9, va_K.moved hW.alike hK, hD9⟩, hS.F ht⟩) hS.2.2 dX4_weightLeft_36
    · refine lv_iconst (v := 0) hx hb dX4_weightLeft_24 (by decide) ?_
      refine lv_goto (tgt := 36) hx hb dX4_weightLeft_25 (by decide) ?_
      have hpd9 := pd_N (cx := [oX4 h1 ek ef ew ep es (nI n) (nI sn) dn, cI aC ew 8 wf, cI aC ep 8 pf]) hP hD [2, 0, 1] (by decide) rfl
      have hP9 := hpd9.1
      have hD9 := hpd9.2
      refine W.widen (k := 0) (n := 0) (by omega) (by omega) ?_
      exact W.iret (v := 0) hx hb hr (fun t ht hW => ⟨⟨0, (), rfl, trivial, by rw [ht]; exact hP9, va_K.moved hW.alike hK, hD9⟩, hS.F ht⟩) hS.2.2 dX4_weightLeft_36

set_option maxHeartbeats 1000000 in
set_option maxRecDepth 100000 in
/-- X4_part_t -/
theorem c_X4_part_t (l : Launch) (dC : Nat → ClassId) (dI : Nat → Nat → Nat) (aC : Nat → ClassId) (sz : Nat) (h1 : Nat) (ek : Nat) (ef : Nat) (ew : Nat) (ep : Nat) (es : Nat) (n : Nat) (sn : Nat) (dn : Int32) (oa : Nat) (pf : Nat → Int32) (tf : Nat → Int32) (hn : n ≤ 8) (hsn : sn < n) : Met l yX4_part (wW yX4_part cX4_part 5 (none : Option FieldType)) ({ frames := 0, cells := 0, slots := 0, locals := 0 } : Room) (va_Pc [Value.ref h1, Value.ref oa, Value.int (nI sn)] (fun U => U.heap.size = sz ∧ va_P (dC, dI) classes [oX4 h1 ek ef ew ep es (nI n) (nI sn) dn, cI aC ep 8 pf, cI aC oa 8 tf] U.heap ∧ va_K (dC, dI) classes (TY aC) U ∧ va_D (fun _ => True) [oX4 h1 ek ef ew ep es (nI n) (nI sn) dn, cI aC ep 8 pf, cI aC oa 8 tf] ∧ NX U)) (va_Qv (fun (pg : Nat → Int32) => ∀ j, j < 8 → pg j = if sn ≤ j ∧ j < n then tf (j - sn) else pf j) (fun (pg : Nat → Int32) (t : State) => va_P (dC, dI) classes [oX4 h1 ek ef ew ep es (nI n) (nI sn) 1, cI aC ep 8 pg, cI aC oa 8 tf] t.heap ∧ va_K (dC, dI) classes (TY aC) t ∧ va_D (va_A [oX4 h1 ek ef ew ep es (nI n) (nI sn) dn, cI aC ep 8 pf, cI aC oa 8 tf] sz) [oX4 h1 ek ef ew ep es (nI n) (nI sn) 1, cI aC ep 8 pg, cI aC oa 8 tf]) (va_A [oX4 h1 ek ef ew ep es (nI n) (nI sn) dn, cI aC ep 8 pf, cI aC oa 8 tf] sz)) 0 0 (va_A [oX4 h1 ek ef ew ep es (nI n) (nI sn) dn, cI aC ep 8 pf, cI aC oa 8 tf] sz) := by
  refine Met.ofW (cc := cX4_part) (maxL := 5) (ret := (none : Option FieldType)) (by decide) rfl ?_
  intro p e s m args below meth c s₁ B hml hv
  obtain ⟨rfl, hsz, hP, hK, hD0, hN⟩ := hv
  have hx := B.exec
  have hb := B.bytes
  have hr := B.returns
  have hts0 := atoms_spec (ws := (wW yX4_part cX4_part 5 (none : Option FieldType))) B.pre
  have hts : ∀ w9 ∈ lw_G, w9.before ([Value.ref h1, Value.ref oa, Value.int (nI sn)] : List Value).toArray s = true := fun w9 h9 => hts0 w9 (List.mem_cons_of_mem _ h9)
  have hown : s.vm.findClass RX4 = some m.cls := findClass_of_methodNamed (x := yX4_part) B.named
  have hlocks := B.notSynchronized
  subst hsz
  have hD := hD0.self (sz := s.heap.size)
  generalize hAe : va_A [oX4 h1 ek ef ew ep es (nI n) (nI sn) dn, cI aC ep 8 pf, cI aC oa 8 tf] s.heap.size = A at hD ⊢
  have hA : ∀ q : Nat, s.heap.size ≤ q → A q := fun q h => by rw [← hAe]; exact Or.inr h
  obtain ⟨H, hHe⟩ : ∃ H : Heap, H = s.heap := ⟨_, rfl⟩
  have hS : va_S A s.heap H [] := by rw [hHe]; exact va_S.rf
  have hP : va_P (dC, dI) classes [oX4 h1 ek ef ew ep es (nI n) (nI sn) dn, cI aC ep 8 pf, cI aC oa 8 tf] H := by rw [hHe]; exact hP
  have hl := lv_entry ([Value.ref h1, Value.ref oa, Value.int (nI sn)]) (n := 5) (Nat.le_of_ble_eq_true rfl)
  rw [lg_entry_eq]
  generalize (lg_sl ([Value.ref h1, Value.ref oa, Value.int (nI sn)]) ++ List.replicate (5 - (lg_sl ([Value.ref h1, Value.ref oa, Value.int (nI sn)])).length) Slot.unset).toArray = ls at hl ⊢
  have hl : lv_has ls 5 [(0, Value.ref h1), (1, Value.ref oa), (2, Value.int (nI sn))] := hl
  rw [← hHe]
  refine lv_aload_n hx hb dX4_part_0 rfl (lv_at hl 0 rfl) ?_
  refine va_get (D := (dC, dI)) (ci := 4) (v := Value.int (nI sn)) (C := RX4) (T := TX4) (N := 8) hx hb hts inX4 hown hK hP 0 rfl rfl 6 (by decide) (hts _ (gw kw_51 rfl)) (fun _ h9 => h9) rfl dX4_part_1 ?_
  refine lv_istore_n (lv' := [(3, Value.int (nI sn)), (0, Value.ref h1), (1, Value.ref oa), (2, Value.int (nI sn))]) hx hb dX4_part_4 rfl hl (by decide) rfl (fun ls hl => ?_)
  have lp_5 : ∀ (fu : Nat) (j : Nat) (pc9 : Nat → Int32) (hfu : n - j < fu) (hj : sn ≤ j ∧ j ≤ n) (hp : ∀ q, q < 8 → pc9 q = if sn ≤ q ∧ q < j then tf (q - sn) else pf q) (H : Heap) (locs : List Loc) (ls : Array Slot), va_P (dC, dI) classes [oX4 h1 ek ef ew ep es (nI n) (nI sn) dn, cI aC ep 8 pc9, cI aC oa 8 tf] H → va_D A [oX4 h1 ek ef ew ep es (nI n) (nI sn) dn, cI aC ep 8 pc9, cI aC oa 8 tf] → va_S A s.heap H locs → lv_has ls 5 [(0, Value.ref h1), (1, Value.ref oa), (2, Value.int (nI sn)), (3, Value.int (nI j))] → W p l e (headSpec (wW yX4_part cX4_part 5 (none : Option FieldType)) ({ frames := 0, cells := 0, slots := 0, locals := 0 } : Room)).room s m ([Value.ref h1, Value.ref oa, Value.int (nI sn)] : List Value).toArray below meth c H locs 0 0 (MQ below (va_Qv (fun (pg : Nat → Int32) => ∀ j, j < 8 → pg j = if sn ≤ j ∧ j < n then tf (j - sn) else pf j) (fun (pg : Nat → Int32) (t : State) => va_P (dC, dI) classes [oX4 h1 ek ef ew ep es (nI n) (nI sn) 1, cI aC ep 8 pg, cI aC oa 8 tf] t.heap ∧ va_K (dC, dI) classes (TY aC) t ∧ va_D A [oX4 h1 ek ef ew ep es (nI n) (nI sn) 1, cI aC ep 8 pg, cI aC oa 8 tf]) A) ([Value.ref h1, Value.ref oa, Value.int (nI sn)] : List Value).toArray s 0 0 A) (F0 m 5 ls []) := by
    intro fu
    induction fu with
    | zero => intro j pc9 hfu; exact absurd hfu (Nat.not_lt_zero _)
    | succ fu ih_5 =>
      intro j pc9 hfu hj hp H locs ls hP hD hS hl
      refine lv_iload_n hx hb dX4_part_5 rfl (lv_at hl 3 rfl) ?_
      refine lv_aload_n hx hb dX4_part_6 rfl (lv_at hl 0 rfl) ?_
      refine va_get (D := (dC, dI)) (ci := 4) (v := Value.int (nI n)) (C := RX4) (T := TX4) (N := 8) hx hb hts inX4 hown hK hP 0 rfl rfl 5 (by decide) (hts _ (gw kw_48 rfl)) (fun _ h9 => h9) rfl dX4_part_7 ?_
      refine lv_icmp_ge (tgt := 50) hx hb dX4_part_10 (by decide) (fun c_1 => ?_) (fun c_1 => ?_)
      · have hjn : j = n := by
          rcases Nat.lt_or_ge j n with q | q
          · exact absurd c_1 (nI_ge q (by omega))
          · omega
        refine lv_aload_n hx hb dX4_part_50 rfl (lv_at hl 0 rfl) ?_
        refine lv_iconst (v := 1) hx hb dX4_part_51 (by decide) ?_
        refine va_put (D := (dC, dI)) (ci := 4) (v := Value.int 1) (ty := .boolean) (C := RX4) (T := TX4) (N := 8) hx hb hts inX4 tyX4 tyX4_ok nmX4 hown hK hP hD hS 0 rfl rfl 7 (by decide) (hts _ (gw kw_53 rfl)) (fun _ h9 => h9) rfl (by decide +kernel) rfl rfl (Nat.le_of_ble_eq_true rfl) dX4_part_52 (fun H locs hP hD hS => ?_)
        have hpd9 : PDx (dC, dI) classes A H [oX4 h1 ek ef ew ep es (nI n) (nI sn) 1, cI aC ep 8 pc9, cI aC oa 8 tf] := ⟨hP, hD⟩
        have hP := hpd9.1
        have hD := hpd9.2
        clear hpd9
        have hpd9 := pd_N (cx := [oX4 h1 ek ef ew ep es (nI n) (nI sn) 1, cI aC ep 8 pc9, cI aC oa 8 tf]) hP hD [0, 1, 2] (by decide) rfl
        have hP9 := hpd9.1
        have hD9 := hpd9.2
        refine W.widen (k := 0) (n := 0) (by omega) (by omega) ?_
        exact W.vret hx hb hr (fun t ht hW => ⟨⟨(pc9), rfl, fun j hj => by rw [hp j hj, hjn], by rw [ht]; exact hP9, va_K.moved hW.alike hK, hD9⟩, hS.F ht⟩) hS.2.2 dX4_part_55
      · have hlt : j < n := by
          rcases Nat.lt_or_ge j n with q | q
          · exact q
          · exact absurd (nI_le q (by omega)) c_1
        refine lv_iload_n hx hb dX4_part_13 rfl (lv_at hl 3 rfl) ?_
        refine lv_iload_n hx hb dX4_part_14 rfl (lv_at hl 2 rfl) ?_
        refine lv_isub hx hb dX4_part_15 ?_
        refine lv_topi (fun x_2 e_2 => ?_)
        refine lv_istore (lv' := [(4, Value.int x_2), (0, Value.ref h1), (1, Value.ref oa), (2, Value.int (nI sn)), (3, Value.int (nI j))]) hx hb dX4_part_16 hl (by decide) rfl (fun ls hl => ?_)
        have h9 : x_2 = nI (j - sn) := by rw [e_2]; exact pk_sub (a := j) (b := sn) (by omega)
        subst h9
        refine lv_aload_n hx hb dX4_part_18 rfl (lv_at hl 1 rfl) ?_
        refine va_get (D := (dC, dI)) (ci := 4) (v := Value.ref ep) (C := RX4) (T := TX4) (N := 8) hx hb hts inX4 hown hK hP 0 rfl rfl 3 (by decide) (hts _ (gw kw_41 rfl)) (fun _ h9 => h9) rfl dX4_part_19 ?_
        refine lv_iload_n hx hb dX4_part_22 rfl (lv_at hl 4 rfl) ?_
        refine lv_iload hx hb dX4_part_23 (lv_at hl 0 rfl) ?_
        refine lv_if_lt (tgt := 42) hx hb dX4_part_25 (by decide) (fun c_3 => ?_) (fun c_3 => ?_)
        · exact absurd c_3 (nI_pos (by omega))
        · refine lv_iload hx hb dX4_part_28 (lv_at hl 0 rfl) ?_
          refine lv_aload_n hx hb dX4_part_30 rfl (lv_at hl 2 rfl) ?_
          refine va_alen (v := 8) hx hb hK hP 2 0 rfl rfl rfl dX4_part_31 ?_
          refine lv_icmp_ge (tgt := 42) hx hb dX4_part_32 (by decide) (fun c_4 => ?_) (fun c_4 => ?_)
          · exact absurd ((nI_leI (a := 8) (by omega) (by omega)).mp c_4) (by omega)
          · refine lv_aload_n hx hb dX4_part_35 rfl (lv_at hl 2 rfl) ?_
            refine lv_iload hx hb dX4_part_36 (lv_at hl 0 rfl) ?_
            have h_5 : vp_in (nI (j - sn)) 8 := by first | exact vp_in_nI (by omega) (by omega) | (unfold vp_in; decide) | (subst_vars; first | (unfold vp_in; decide) | exact vp_in_nI (by omega) (by omega))
            refine va_iald hx hb hK hP 2 0 rfl rfl h_5 dX4_part_38 ?_
            refine lv_topi (fun x_6 e_6 => ?_)
            refine lv_goto (tgt := 43) hx hb dX4_part_39 (by decide) ?_
            have h_7 : vp_in (nI j) 8 := by first | exact vp_in_nI (by omega) (by omega) | (unfold vp_in; decide) | (subst_vars; first | (unfold vp_in; decide) | exact vp_in_nI (by omega) (by omega))
            refine va_iast hx hb hK hP hD hS 1 0 rfl rfl h_7 dX4_part_43 (fun H locs hP hD hS => ?_)
            obtain ⟨f_8, e_f_8⟩ : ∃ y : Nat → Int32, y = upd pc9 (nI j : Int32).toNatClampNeg x_6 := ⟨_, rfl⟩
            have hpd9 : PDx (dC, dI) classes A H [oX4 h1 ek ef ew ep es (nI n) (nI sn) dn, cI aC ep 8 f_8, cI aC oa 8 tf] := by rw [e_f_8]; exact ⟨hP, hD⟩
            have hP := hpd9.1
            have hD := hpd9.2
            clear hpd9
            obtain ⟨x_9, e_9⟩ : ∃ y : Int32, y = (nI j) + 1 := ⟨_, rfl⟩
            refine lv_iinc (v := x_9) (lv' := [(3, Value.int x_9), (4, Value.int (nI (j - sn))), (0, Value.ref h1), (1, Value.ref oa), (2, Value.int (nI sn))]) hx hb dX4_part_44 hl (k := 4) rfl (by rw [e_9]; rfl) (by decide) rfl (fun ls hl => ?_)
            have h9 : x_9 = nI (j + 1) := by rw [e_9, nI_1]
            subst h9
            refine lv_goto (tgt := 5) hx hb dX4_part_47 (by decide) ?_
            exact ih_5 (j + 1) f_8 (ms_lt hlt hfu) (by omega) (fun q hq => by rw [e_f_8, nI_clamp (by omega)]; by_cases e : q = j <;> first | (rw [e, pk_us, if_pos (by omega), e_6, nI_clamp (by omega)]; done) | (rw [pk_un e, hp q hq]; by_cases e2 : sn ≤ q ∧ q < j <;> first | (rw [if_pos e2, if_pos (by omega)]; done) | (rw [if_neg e2, if_neg (by omega)]))) _ _ _ (hP.sub [0, 1, 2] rfl) (hD.sub [0, 1, 2] (by decide) rfl) hS (lv_sub hl [2, 3, 4, 0] rfl)
  exact lp_5 ((n - sn) + 1) sn pf (Nat.lt_succ_self _) (by omega) (fun q hq => by rw [if_neg (by omega)]) _ _ _ (hP.sub [0, 1, 2] rfl) (hD.sub [0, 1, 2] (by decide) rfl) hS (lv_sub hl [1, 2, 3, 0] rfl)

set_option maxHeartbeats 1000000 in
set_option maxRecDepth 100000 in
/-- X4_part_p -/
theorem c_X4_part_p (l : Launch) (dC : Nat → ClassId) (dI : Nat → Nat → Nat) (aC : Nat → ClassId) (sz : Nat) (h1 : Nat) (ek : Nat) (ef : Nat) (ew : Nat) (ep : Nat) (es : Nat) (n : Nat) (sn : Nat) (dn : Int32) (oa : Nat) (pf : Nat → Int32) (L : List Nat) (g : Nat → Nat → Int32) (hn : n ≤ 8) (hsn : sn < n) (hm : oa ∈ L) : Met l yX4_part (wW yX4_part cX4_part 5 (none : Option FieldType)) ({ frames := 0, cells := 0, slots := 0, locals := 0 } : Room) (va_Pc [Value.ref h1, Value.ref oa, Value.int 0] (fun U => U.heap.size = sz ∧ va_P (dC, dI) classes (wp [oX4 h1 ek ef ew ep es (nI n) (nI sn) dn, cI aC ep 8 pf] (va_pl L (plE aC g))) U.heap ∧ va_K (dC, dI) classes (TY aC) U ∧ va_D (fun _ => True) (wp [oX4 h1 ek ef ew ep es (nI n) (nI sn) dn, cI aC ep 8 pf] (va_pl L (plE aC g))) ∧ NX U)) (va_Qv (fun (pg : Nat → Int32) => ∀ j, j < 8 → pg j = if sn ≤ j ∧ j < n then g oa j else pf j) (fun (pg : Nat → Int32) (t : State) => va_P (dC, dI) classes (wp [oX4 h1 ek ef ew ep es (nI n) (nI sn) 1, cI aC ep 8 pg] (va_pl L (plE aC g))) t.heap ∧ va_K (dC, dI) classes (TY aC) t ∧ va_D (va_A (wp [oX4 h1 ek ef ew ep es (nI n) (nI sn) dn, cI aC ep 8 pf] (va_pl L (plE aC g))) sz) (wp [oX4 h1 ek ef ew ep es (nI n) (nI sn) 1, cI aC ep 8 pg] (va_pl L (plE aC g)))) (va_A (wp [oX4 h1 ek ef ew ep es (nI n) (nI sn) dn, cI aC ep 8 pf] (va_pl L (plE aC g))) sz)) 0 0 (va_A (wp [oX4 h1 ek ef ew ep es (nI n) (nI sn) dn, cI aC ep 8 pf] (va_pl L (plE aC g))) sz) := by
  refine Met.ofW (cc := cX4_part) (maxL := 5) (ret := (none : Option FieldType)) (by decide) rfl ?_
  intro p e s m args below meth c s₁ B hml hv
  obtain ⟨rfl, hsz, hP, hK, hD0, hN⟩ := hv
  have hx := B.exec
  have hb := B.bytes
  have hr := B.returns
  have hts0 := atoms_spec (ws := (wW yX4_part cX4_part 5 (none : Option FieldType))) B.pre
  have hts : ∀ w9 ∈ lw_G, w9.before ([Value.ref h1, Value.ref oa, Value.int 0] : List Value).toArray s = true := fun w9 h9 => hts0 w9 (List.mem_cons_of_mem _ h9)
  have hown : s.vm.findClass RX4 = some m.cls := findClass_of_methodNamed (x := yX4_part) B.named
  have hlocks := B.notSynchronized
  subst hsz
  have hD := hD0.self (sz := s.heap.size)
  generalize hAe : va_A (wp [oX4 h1 ek ef ew ep es (nI n) (nI sn) dn, cI aC ep 8 pf] (va_pl L (plE aC g))) s.heap.size = A at hD ⊢
  have hA : ∀ q : Nat, s.heap.size ≤ q → A q := fun q h => by rw [← hAe]; exact Or.inr h
  obtain ⟨H, hHe⟩ : ∃ H : Heap, H = s.heap := ⟨_, rfl⟩
  have hS : va_S A s.heap H [] := by rw [hHe]; exact va_S.rf
  have hP : va_P (dC, dI) classes (wp [oX4 h1 ek ef ew ep es (nI n) (nI sn) dn, cI aC ep 8 pf] (va_pl L (plE aC g))) H := by rw [hHe]; exact hP
  have hl := lv_entry ([Value.ref h1, Value.ref oa, Value.int 0]) (n := 5) (Nat.le_of_ble_eq_true rfl)
  rw [lg_entry_eq]
  generalize (lg_sl ([Value.ref h1, Value.ref oa, Value.int 0]) ++ List.replicate (5 - (lg_sl ([Value.ref h1, Value.ref oa, Value.int 0])).length) Slot.unset).toArray = ls at hl ⊢
  have hl : lv_has ls 5 [(0, Value.ref h1), (1, Value.ref oa), (2, Value.int 0)] := hl
  rw [← hHe]
  refine lv_aload_n hx hb dX4_part_0 rfl (lv_at hl 0 rfl) ?_
  refine va_get (D := (dC, dI)) (ci := 4) (v := Value.int (nI sn)) (C := RX4) (T := TX4) (N := 8) hx hb hts inX4 hown hK hP 0 rfl rfl 6 (by decide) (hts _ (gw kw_51 rfl)) (fun _ h9 => h9) rfl dX4_part_1 ?_
  refine lv_istore_n (lv' := [(3, Value.int (nI sn)), (0, Value.ref h1), (1, Value.ref oa), (2, Value.int 0)]) hx hb dX4_part_4 rfl hl (by decide) rfl (fun ls hl => ?_)
  have lp_5 : ∀ (fu : Nat) (j : Nat) (pc9 : Nat → Int32) (hfu : n - j < fu) (hj : sn ≤ j ∧ j ≤ n) (hp : ∀ q, q < 8 → pc9 q = if sn ≤ q ∧ q < j then g oa q else pf q) (H : Heap) (locs : List Loc) (ls : Array Slot), va_P (dC, dI) classes (wp [oX4 h1 ek ef ew ep es (nI n) (nI sn) dn, cI aC ep 8 pc9] (va_pl L (plE aC g))) H → va_D A (wp [oX4 h1 ek ef ew ep es (nI n) (nI sn) dn, cI aC ep 8 pc9] (va_pl L (plE aC g))) → va_S A s.heap H locs → lv_has ls 5 [(0, Value.ref h1), (1, Value.ref oa), (2, Value.int 0), (3, Value.int (nI j))] → W p l e (headSpec (wW yX4_part cX4_part 5 (none : Option FieldType)) ({ frames := 0, cells := 0, slots := 0, locals := 0 } : Room)).room s m ([Value.ref h1, Value.ref oa, Value.int 0] : List Value).toArray below meth c H locs 0 0 (MQ below (va_Qv (fun (pg : Nat → Int32) => ∀ j, j < 8 → pg j = if sn ≤ j ∧ j < n then g oa j else pf j) (fun (pg : Nat → Int32) (t : State) => va_P (dC, dI) classes (wp [oX4 h1 ek ef ew ep es (nI n) (nI sn) 1, cI aC ep 8 pg] (va_pl L (plE aC g))) t.heap ∧ va_K (dC, dI) classes (TY aC) t ∧ va_D A (wp [oX4 h1 ek ef ew ep es (nI n) (nI sn) 1, cI aC ep 8 pg] (va_pl L (plE aC g)))) A) ([Value.ref h1, Value.ref oa, Value.int 0] : List Value).toArray s 0 0 A) (F0 m 5 ls []) := by
    intro fu
    induction fu with
    | zero => intro j pc9 hfu; exact absurd hfu (Nat.not_lt_zero _)
    | succ fu ih_5 =>
      intro j pc9 hfu hj hp H locs ls hP hD hS hl
      refine lv_iload_n hx hb dX4_part_5 rfl (lv_at hl 3 rfl) ?_
      refine lv_aload_n hx hb dX4_part_6 rfl (lv_at hl 0 rfl) ?_
      refine va_get (D := (dC, dI)) (ci := 4) (v := Value.int (nI n)) (C := RX4) (T := TX4) (N := 8) hx hb hts inX4 hown hK hP 0 rfl rfl 5 (by decide) (hts _ (gw kw_48 rfl)) (fun _ h9 => h9) rfl dX4_part_7 ?_
      refine lv_icmp_ge (tgt := 50) hx hb dX4_part_10 (by decide) (fun c_1 => ?_) (fun c_1 => ?_)
      · have hjn : j = n := by
          rcases Nat.lt_or_ge j n with q | q
          · exact absurd c_1 (nI_ge q (by omega))
          · omega
        refine lv_aload_n hx hb dX4_part_50 rfl (lv_at hl 0 rfl) ?_
        refine lv_iconst (v := 1) hx hb dX4_part_51 (by decide) ?_
        refine va_put (D := (dC, dI)) (ci := 4) (v := Value.int 1) (ty := .boolean) (C := RX4) (T := TX4) (N := 8) hx hb hts inX4 tyX4 tyX4_ok nmX4 hown hK hP hD hS 0 rfl rfl 7 (by decide) (hts _ (gw kw_53 rfl)) (fun _ h9 => h9) rfl (by decide +kernel) rfl rfl (Nat.le_of_ble_eq_true rfl) dX4_part_52 (fun H locs hP hD hS => ?_)
        have hpd9 : PDx (dC, dI) classes A H (wp [oX4 h1 ek ef ew ep es (nI n) (nI sn) 1, cI aC ep 8 pc9] (va_pl L (plE aC g))) := ⟨hP, hD⟩
        have hP := hpd9.1
        have hD := hpd9.2
        clear hpd9
        have hpd9 := pd_P (cx := [oX4 h1 ek ef ew ep es (nI n) (nI sn) 1, cI aC ep 8 pc9]) hP hD [0, 1] (by decide) rfl
        have hP9 := hpd9.1
        have hD9 := hpd9.2
        refine W.widen (k := 0) (n := 0) (by omega) (by omega) ?_
        exact W.vret hx hb hr (fun t ht hW => ⟨⟨(pc9), rfl, fun j hj => by rw [hp j hj, hjn], by rw [ht]; exact hP9, va_K.moved hW.alike hK, hD9⟩, hS.F ht⟩) hS.2.2 dX4_part_55
      · have hlt : j < n := by
          rcases Nat.lt_or_ge j n with q | q
          · exact q
          · exact absurd (nI_le q (by omega)) c_1
        refine lv_iload_n hx hb dX4_part_13 rfl (lv_at hl 3 rfl) ?_
        refine lv_iload_n hx hb dX4_part_14 rfl (lv_at hl 2 rfl) ?_
        refine lv_isub hx hb dX4_part_15 ?_
        refine lv_topi (fun x_2 e_2 => ?_)
        refine lv_istore (lv' := [(4, Value.int x_2), (0, Value.ref h1), (1, Value.ref oa), (2, Value.int 0), (3, Value.int (nI j))]) hx hb dX4_part_16 hl (by decide) rfl (fun ls hl => ?_)
        have h9 : x_2 = nI j := by rw [e_2]; exact pk_sub (a := j) (b := 0) (by omega)
        subst h9
        refine lv_aload_n hx hb dX4_part_18 rfl (lv_at hl 1 rfl) ?_
        refine va_get (D := (dC, dI)) (ci := 4) (v := Value.ref ep) (C := RX4) (T := TX4) (N := 8) hx hb hts inX4 hown hK hP 0 rfl rfl 3 (by decide) (hts _ (gw kw_41 rfl)) (fun _ h9 => h9) rfl dX4_part_19 ?_
        refine lv_iload_n hx hb dX4_part_22 rfl (lv_at hl 4 rfl) ?_
        refine lv_iload hx hb dX4_part_23 (lv_at hl 0 rfl) ?_
        refine lv_if_lt (tgt := 42) hx hb dX4_part_25 (by decide) (fun c_3 => ?_) (fun c_3 => ?_)
        · exact absurd c_3 (nI_pos (by omega))
        · refine lv_iload hx hb dX4_part_28 (lv_at hl 0 rfl) ?_
          refine lv_aload_n hx hb dX4_part_30 rfl (lv_at hl 2 rfl) ?_
          refine pl_alen hx hb hK hP (hm) dX4_part_31 ?_
          refine lv_icmp_ge (tgt := 42) hx hb dX4_part_32 (by decide) (fun c_4 => ?_) (fun c_4 => ?_)
          · exact absurd ((nI_leI (a := 8) (by omega) (by omega)).mp c_4) (by omega)
          · refine lv_aload_n hx hb dX4_part_35 rfl (lv_at hl 2 rfl) ?_
            refine lv_iload hx hb dX4_part_36 (lv_at hl 0 rfl) ?_
            have h_5 : vp_in (nI j) 8 := by first | exact vp_in_nI (by omega) (by omega) | (unfold vp_in; decide) | (subst_vars; first | (unfold vp_in; decide) | exact vp_in_nI (by omega) (by omega))
            refine pl_iald hx hb hK hP (hm) h_5 dX4_part_38 ?_
            refine lv_topi (fun x_6 e_6 => ?_)
            refine lv_goto (tgt := 43) hx hb dX4_part_39 (by decide) ?_
            have h_7 : vp_in (nI j) 8 := by first | exact vp_in_nI (by omega) (by omega) | (unfold vp_in; decide) | (subst_vars; first | (unfold vp_in; decide) | exact vp_in_nI (by omega) (by omega))
            refine va_iast hx hb hK hP hD hS 1 0 rfl rfl h_7 dX4_part_43 (fun H locs hP hD hS => ?_)
            obtain ⟨f_8, e_f_8⟩ : ∃ y : Nat → Int32, y = upd pc9 (nI j : Int32).toNatClampNeg x_6 := ⟨_, rfl⟩
            have hpd9 : PDx (dC, dI) classes A H (wp [oX4 h1 ek ef ew ep es (nI n) (nI sn) dn, cI aC ep 8 f_8] (va_pl L (plE aC g))) := by rw [e_f_8]; exact ⟨hP, hD⟩
            have hP := hpd9.1
            have hD := hpd9.2
            clear hpd9
            obtain ⟨x_9, e_9⟩ : ∃ y : Int32, y = (nI j) + 1 := ⟨_, rfl⟩
            refine lv_iinc (v := x_9) (lv' := [(3, Value.int x_9), (4, Value.int (nI j)), (0, Value.ref h1), (1, Value.ref oa), (2, Value.int 0)]) hx hb dX4_part_44 hl (k := 4) rfl (by rw [e_9]; rfl) (by decide) rfl (fun ls hl => ?_)
            have h9 : x_9 = nI (j + 1) := by rw [e_9, nI_1]
            subst h9
            refine lv_goto (tgt := 5) hx hb dX4_part_47 (by decide) ?_
            exact ih_5 (j + 1) f_8 (ms_lt hlt hfu) (by omega) (fun q hq => by rw [e_f_8, nI_clamp (by omega)]; by_cases e : q = j <;> first | (rw [e, pk_us, if_pos (by omega), e_6, nI_clamp (by omega)]; done) | (rw [pk_un e, hp q hq]; by_cases e2 : sn ≤ q ∧ q < j <;> first | (rw [if_pos e2, if_pos (by omega)]; done) | (rw [if_neg e2, if_neg (by omega)]))) _ _ _ (plP hP [0, 1] rfl) (plD hD [0, 1] (by decide) rfl) hS (lv_sub hl [2, 3, 4, 0] rfl)
  exact lp_5 ((n - sn) + 1) sn pf (Nat.lt_succ_self _) (by omega) (fun q hq => by rw [if_neg (by omega)]) _ _ _ (plP hP [0, 1] rfl) (plD hD [0, 1] (by decide) rfl) hS (lv_sub hl [1, 2, 3, 0] rfl)

set_option maxHeartbeats 1000000 in
set_option maxRecDepth 100000 in
/-- X4_putAshore -/
theorem c_X4_putAshore (l : Launch) (dC : Nat → ClassId) (dI : Nat → Nat → Nat) (aC : Nat → ClassId) (sz : Nat) (h1 : Nat) (ek : Nat) (ef : Nat) (ew : Nat) (ep : Nat) (es : Nat) (n : Nat) (sn : Nat) (dn : Int32) (pf : Nat → Int32) (hn : n ≤ 8) (hsn : sn < n) : Met l yX4_putAshore (wW yX4_putAshore cX4_putAshore 1 (none : Option FieldType)) ({ frames := 0, cells := 0, slots := 0, locals := 0 } : Room) (va_Pc [Value.ref h1] (fun U => U.heap.size = sz ∧ va_P (dC, dI) classes [oX4 h1 ek ef ew ep es (nI n) (nI sn) dn, cI aC ep 8 pf] U.heap ∧ va_K (dC, dI) classes (TY aC) U ∧ va_D (fun _ => True) [oX4 h1 ek ef ew ep es (nI n) (nI sn) dn, cI aC ep 8 pf] ∧ NX U)) (va_Qv (fun (u : Int32 × Int32 × (Nat → Int32)) => match u with | (sy2, dn2, pg) => (∀ j, j < 8 → pg j = if j = sn then -1 else pf j) ∧ (sn + 1 < n → sy2 = nI (sn + 1) ∧ dn2 = dn) ∧ (¬ sn + 1 < n → sy2 = nI sn ∧ dn2 = 1)) (fun (u : Int32 × Int32 × (Nat → Int32)) (t : State) => match u with | (sy2, dn2, pg) => va_P (dC, dI) classes [oX4 h1 ek ef ew ep es (nI n) sy2 dn2, cI aC ep 8 pg] t.heap ∧ va_K (dC, dI) classes (TY aC) t ∧ va_D (va_A [oX4 h1 ek ef ew ep es (nI n) (nI sn) dn, cI aC ep 8 pf] sz) [oX4 h1 ek ef ew ep es (nI n) sy2 dn2, cI aC ep 8 pg]) (va_A [oX4 h1 ek ef ew ep es (nI n) (nI sn) dn, cI aC ep 8 pf] sz)) 0 0 (va_A [oX4 h1 ek ef ew ep es (nI n) (nI sn) dn, cI aC ep 8 pf] sz) := by
  refine Met.ofW (cc := cX4_putAshore) (maxL := 1) (ret := (none : Option FieldType)) (by decide) rfl ?_
  intro p e s m args below meth c s₁ B hml hv
  obtain ⟨rfl, hsz, hP, hK, hD0, hN⟩ := hv
  have hx := B.exec
  have hb := B.bytes
  have hr := B.returns
  have hts0 := atoms_spec (ws := (wW yX4_putAshore cX4_putAshore 1 (none : Option FieldType))) B.pre
  have hts : ∀ w9 ∈ lw_G, w9.before ([Value.ref h1] : List Value).toArray s = true := fun w9 h9 => hts0 w9 (List.mem_cons_of_mem _ h9)
  have hown : s.vm.findClass RX4 = some m.cls := findClass_of_methodNamed (x := yX4_putAshore) B.named
  have hlocks := B.notSynchronized
  subst hsz
  have hD := hD0.self (sz := s.heap.size)
  generalize hAe : va_A [oX4 h1 ek ef ew ep es (nI n) (nI sn) dn, cI aC ep 8 pf] s.heap.size = A at hD ⊢
  have hA : ∀ q : Nat, s.heap.size ≤ q → A q := fun q h => by rw [← hAe]; exact Or.inr h
  obtain ⟨H, hHe⟩ : ∃ H : Heap, H = s.heap := ⟨_, rfl⟩
  have hS : va_S A s.heap H [] := by rw [hHe]; exact va_S.rf
  have hP : va_P (dC, dI) classes [oX4 h1 ek ef ew ep es (nI n) (nI sn) dn, cI aC ep 8 pf] H := by rw [hHe]; exact hP
  have hl := lv_entry ([Value.ref h1]) (n := 1) (Nat.le_of_ble_eq_true rfl)
  rw [lg_entry_eq]
  generalize (lg_sl ([Value.ref h1]) ++ List.replicate (1 - (lg_sl ([Value.ref h1])).length) Slot.unset).toArray = ls at hl ⊢
  have hl : lv_has ls 1 [(0, Value.ref h1)] := hl
  rw [← hHe]
  refine lv_aload_n hx hb dX4_putAshore_0 rfl (lv_at hl 0 rfl) ?_
  refine va_get (D := (dC, dI)) (ci := 4) (v := Value.ref ep) (C := RX4) (T := TX4) (N := 8) hx hb hts inX4 hown hK hP 0 rfl rfl 3 (by decide) (hts _ (gw kw_41 rfl)) (fun _ h9 => h9) rfl dX4_putAshore_1 ?_
  refine lv_aload_n hx hb dX4_putAshore_4 rfl (lv_at hl 0 rfl) ?_
  refine va_get (D := (dC, dI)) (ci := 4) (v := Value.int (nI sn)) (C := RX4) (T := TX4) (N := 8) hx hb hts inX4 hown hK hP 0 rfl rfl 6 (by decide) (hts _ (gw kw_51 rfl)) (fun _ h9 => h9) rfl dX4_putAshore_5 ?_
  refine lv_iconst (v := -1) hx hb dX4_putAshore_8 (by decide) ?_
  have h_1 : vp_in (nI sn) 8 := by first | exact vp_in_nI (by omega) (by omega) | (unfold vp_in; decide) | (subst_vars; first | (unfold vp_in; decide) | exact vp_in_nI (by omega) (by omega))
  refine va_iast hx hb hK hP hD hS 1 0 rfl rfl h_1 dX4_putAshore_9 (fun H locs hP hD hS => ?_)
  obtain ⟨f_2, e_f_2⟩ : ∃ y : Nat → Int32, y = upd pf (nI sn : Int32).toNatClampNeg (-1) := ⟨_, rfl⟩
  have hpd9 : PDx (dC, dI) classes A H [oX4 h1 ek ef ew ep es (nI n) (nI sn) dn, cI aC ep 8 f_2] := by rw [e_f_2]; exact ⟨hP, hD⟩
  have hP := hpd9.1
  have hD := hpd9.2
  clear hpd9
  refine lv_aload_n hx hb dX4_putAshore_10 rfl (lv_at hl 0 rfl) ?_
  refine va_get (D := (dC, dI)) (ci := 4) (v := Value.int (nI sn)) (C := RX4) (T := TX4) (N := 8) hx hb hts inX4 hown hK hP 0 rfl rfl 6 (by decide) (hts _ (gw kw_51 rfl)) (fun _ h9 => h9) rfl dX4_putAshore_11 ?_
  refine lv_iconst (v := 1) hx hb dX4_putAshore_14 (by decide) ?_
  refine lv_iadd hx hb dX4_putAshore_15 ?_
  refine lv_topi (fun x_3 e_3 => ?_)
  have h9 : x_3 = nI (sn + 1) := by rw [e_3, nI_1]
  subst h9
  refine lv_aload_n hx hb dX4_putAshore_16 rfl (lv_at hl 0 rfl) ?_
  refine va_get (D := (dC, dI)) (ci := 4) (v := Value.int (nI n)) (C := RX4) (T := TX4) (N := 8) hx hb hts inX4 hown hK hP 0 rfl rfl 5 (by decide) (hts _ (gw kw_48 rfl)) (fun _ h9 => h9) rfl dX4_putAshore_17 ?_
  refine lv_icmp_ge (tgt := 36) hx hb dX4_putAshore_20 (by decide) (fun c_4 => ?_) (fun c_4 => ?_)
  · refine lv_aload_n hx hb dX4_putAshore_36 rfl (lv_at hl 0 rfl) ?_
    refine lv_iconst (v := 1) hx hb dX4_putAshore_37 (by decide) ?_
    refine va_put (D := (dC, dI)) (ci := 4) (v := Value.int 1) (ty := .boolean) (C := RX4) (T := TX4) (N := 8) hx hb hts inX4 tyX4 tyX4_ok nmX4 hown hK hP hD hS 0 rfl rfl 7 (by decide) (hts _ (gw kw_53 rfl)) (fun _ h9 => h9) rfl (by decide +kernel) rfl rfl (Nat.le_of_ble_eq_true rfl) dX4_putAshore_38 (fun H locs hP hD hS => ?_)
    have hpd9 : PDx (dC, dI) classes A H [oX4 h1 ek ef ew ep es (nI n) (nI sn) 1, cI aC ep 8 f_2] := ⟨hP, hD⟩
    have hP := hpd9.1
    have hD := hpd9.2
    clear hpd9
    have hpd9 := pd_N (cx := [oX4 h1 ek ef ew ep es (nI n) (nI sn) 1, cI aC ep 8 f_2]) hP hD [0, 1] (by decide) rfl
    have hP9 := hpd9.1
    have hD9 := hpd9.2
    refine W.widen (k := 0) (n := 0) (by omega) (by omega) ?_
    exact W.vret hx hb hr (fun t ht hW => ⟨⟨((nI sn), 1, f_2), rfl, ⟨fun j hj => by rw [e_f_2, nI_clamp (by omega)]; by_cases e : j = sn <;> first | (rw [e, pk_us, if_pos rfl]; done) | (rw [pk_un e, if_neg e]), fun q => by have := (nI_leI (by omega) (by omega)).mp c_4; omega, fun _ => ⟨rfl, rfl⟩⟩, by rw [ht]; exact hP9, va_K.moved hW.alike hK, hD9⟩, hS.F ht⟩) hS.2.2 dX4_putAshore_41
  · refine lv_aload_n hx hb dX4_putAshore_23 rfl (lv_at hl 0 rfl) ?_
    refine lv_dup hx hb dX4_putAshore_24 rfl ?_
    refine va_get (D := (dC, dI)) (ci := 4) (v := Value.int (nI sn)) (C := RX4) (T := TX4) (N := 8) hx hb hts inX4 hown hK hP 0 rfl rfl 6 (by decide) (hts _ (gw kw_51 rfl)) (fun _ h9 => h9) rfl dX4_putAshore_25 ?_
    refine lv_iconst (v := 1) hx hb dX4_putAshore_28 (by decide) ?_
    refine lv_iadd hx hb dX4_putAshore_29 ?_
    refine lv_topi (fun x_5 e_5 => ?_)
    have h9 : x_5 = nI (sn + 1) := by rw [e_5, nI_1]
    subst h9
    refine va_put (D := (dC, dI)) (ci := 4) (v := Value.int (nI (sn + 1))) (ty := .int) (C := RX4) (T := TX4) (N := 8) hx hb hts inX4 tyX4 tyX4_ok nmX4 hown hK hP hD hS 0 rfl rfl 6 (by decide) (hts _ (gw kw_51 rfl)) (fun _ h9 => h9) rfl (by decide +kernel) rfl rfl (Nat.le_of_ble_eq_true rfl) dX4_putAshore_30 (fun H locs hP hD hS => ?_)
    have hpd9 : PDx (dC, dI) classes A H [oX4 h1 ek ef ew ep es (nI n) (nI (sn + 1)) dn, cI aC ep 8 f_2] := ⟨hP, hD⟩
    have hP := hpd9.1
    have hD := hpd9.2
    clear hpd9
    refine lv_goto (tgt := 41) hx hb dX4_putAshore_33 (by decide) ?_
    have hpd9 := pd_N (cx := [oX4 h1 ek ef ew ep es (nI n) (nI (sn + 1)) dn, cI aC ep 8 f_2]) hP hD [0, 1] (by decide) rfl
    have hP9 := hpd9.1
    have hD9 := hpd9.2
    refine W.widen (k := 0) (n := 0) (by omega) (by omega) ?_
    exact W.vret hx hb hr (fun t ht hW => ⟨⟨((nI (sn + 1)), dn, f_2), rfl, ⟨fun j hj => by rw [e_f_2, nI_clamp (by omega)]; by_cases e : j = sn <;> first | (rw [e, pk_us, if_pos rfl]; done) | (rw [pk_un e, if_neg e]), fun _ => ⟨rfl, rfl⟩, fun q => absurd (nI_le (a := n) (b := sn + 1) (by omega) (by omega)) c_4⟩, by rw [ht]; exact hP9, va_K.moved hW.alike hK, hD9⟩, hS.F ht⟩) hS.2.2 dX4_putAshore_41

set_option maxHeartbeats 1000000 in
set_option maxRecDepth 100000 in
/-- X4_decide_t -/
theorem c_X4_decide_t (l : Launch) (dC : Nat → ClassId) (dI : Nat → Nat → Nat) (aC : Nat → ClassId) (sz : Nat) (h1 : Nat) (ek : Nat) (ef : Nat) (ew : Nat) (ep : Nat) (es : Nat) (n : Nat) (sn : Nat) (dn : Int32) (oa : Nat) (pf : Nat → Int32) (wf : Nat → Int32) (stf : Nat → Int32) (W0 : Nat → Nat) (y : Int32) (tf : Nat → Int32) (hw : n ≤ 8 ∧ ∀ j, j < n → wf j = nI (W0 j) ∧ W0 j ≤ 9) (hsn : sn < n) : Met l yX4_decide (wW yX4_decide cX4_decide 5 (some .int)) ({ frames := 3, cells := 0, slots := 0, locals := 60 } : Room) (va_Pc [Value.ref h1, Value.int y, Value.ref oa, Value.int (nI sn)] (fun U => U.heap.size = sz ∧ va_P (dC, dI) classes [oX4 h1 ek ef ew ep es (nI n) (nI sn) dn, cI aC ew 8 wf, cI aC ep 8 pf, cI aC es 5 stf, cI aC oa 8 tf] U.heap ∧ va_K (dC, dI) classes (TY aC) U ∧ va_D (fun _ => True) [oX4 h1 ek ef ew ep es (nI n) (nI sn) dn, cI aC ew 8 wf, cI aC ep 8 pf, cI aC es 5 stf, cI aC oa 8 tf] ∧ NX U)) (va_Qi (fun (r : Int32) (u : Int32 × Int32 × (Nat → Int32)) => match u with | (sy2, dn2, pg) => r = (if nd (stf 1) (sumr W0 sn (n - sn)) ≤ yw W0 y sn (n - sn) then 1 else 0) ∧ DCD n sn dn W0 (stf 1) y (fun j => tf (j - sn)) pf pg sy2 dn2) (fun (u : Int32 × Int32 × (Nat → Int32)) (t : State) => match u with | (sy2, dn2, pg) => va_P (dC, dI) classes [oX4 h1 ek ef ew ep es (nI n) sy2 dn2, cI aC ew 8 wf, cI aC ep 8 pg, cI aC es 5 stf, cI aC oa 8 tf] t.heap ∧ va_K (dC, dI) classes (TY aC) t ∧ va_D (va_A [oX4 h1 ek ef ew ep es (nI n) (nI sn) dn, cI aC ew 8 wf, cI aC ep 8 pf, cI aC es 5 stf, cI aC oa 8 tf] sz) [oX4 h1 ek ef ew ep es (nI n) sy2 dn2, cI aC ew 8 wf, cI aC ep 8 pg, cI aC es 5 stf, cI aC oa 8 tf]) (va_A [oX4 h1 ek ef ew ep es (nI n) (nI sn) dn, cI aC ew 8 wf, cI aC ep 8 pf, cI aC es 5 stf, cI aC oa 8 tf] sz)) 0 0 (va_A [oX4 h1 ek ef ew ep es (nI n) (nI sn) dn, cI aC ew 8 wf, cI aC ep 8 pf, cI aC es 5 stf, cI aC oa 8 tf] sz) := by
  refine Met.ofW (cc := cX4_decide) (maxL := 5) (ret := (some .int)) (by decide) rfl ?_
  intro p e s m args below meth c s₁ B hml hv
  obtain ⟨rfl, hsz, hP, hK, hD0, hN⟩ := hv
  have hx := B.exec
  have hb := B.bytes
  have hr := B.returns
  have hts0 := atoms_spec (ws := (wW yX4_decide cX4_decide 5 (some .int))) B.pre
  have hts : ∀ w9 ∈ lw_G, w9.before ([Value.ref h1, Value.int y, Value.ref oa, Value.int (nI sn)] : List Value).toArray s = true := fun w9 h9 => hts0 w9 (List.mem_cons_of_mem _ h9)
  have hown : s.vm.findClass RX4 = some m.cls := findClass_of_methodNamed (x := yX4_decide) B.named
  have hlocks := B.notSynchronized
  subst hsz
  have hD := hD0.self (sz := s.heap.size)
  generalize hAe : va_A [oX4 h1 ek ef ew ep es (nI n) (nI sn) dn, cI aC ew 8 wf, cI aC ep 8 pf, cI aC es 5 stf, cI aC oa 8 tf] s.heap.size = A at hD ⊢
  have hA : ∀ q : Nat, s.heap.size ≤ q → A q := fun q h => by rw [← hAe]; exact Or.inr h
  obtain ⟨H, hHe⟩ : ∃ H : Heap, H = s.heap := ⟨_, rfl⟩
  have hS : va_S A s.heap H [] := by rw [hHe]; exact va_S.rf
  have hP : va_P (dC, dI) classes [oX4 h1 ek ef ew ep es (nI n) (nI sn) dn, cI aC ew 8 wf, cI aC ep 8 pf, cI aC es 5 stf, cI aC oa 8 tf] H := by rw [hHe]; exact hP
  have hl := lv_entry ([Value.ref h1, Value.int y, Value.ref oa, Value.int (nI sn)]) (n := 5) (Nat.le_of_ble_eq_true rfl)
  rw [lg_entry_eq]
  generalize (lg_sl ([Value.ref h1, Value.int y, Value.ref oa, Value.int (nI sn)]) ++ List.replicate (5 - (lg_sl ([Value.ref h1, Value.int y, Value.ref oa, Value.int (nI sn)])).length) Slot.unset).toArray = ls at hl ⊢
  have hl : lv_has ls 5 [(0, Value.ref h1), (1, Value.int y), (2, Value.ref oa), (3, Value.int (nI sn))] := hl
  rw [← hHe]
  have hn8 := hw.1
  refine lv_aload_n hx hb dX4_decide_0 rfl (lv_at hl 0 rfl) ?_
  refine lv_aload_n hx hb dX4_decide_1 rfl (lv_at hl 0 rfl) ?_
  refine va_get (D := (dC, dI)) (ci := 4) (v := Value.int (nI sn)) (C := RX4) (T := TX4) (N := 8) hx hb hts inX4 hown hK hP 0 rfl rfl 6 (by decide) (hts _ (gw kw_51 rfl)) (fun _ h9 => h9) rfl dX4_decide_2 ?_
  refine lv_iload_n hx hb dX4_decide_5 rfl (lv_at hl 1 rfl) ?_
  have hpd9 := pdf_N (cx := [oX4 h1 ek ef ew ep es (nI n) (nI sn) dn, cI aC ew 8 wf, cI aC es 5 stf]) hP hD hS hA [0, 1, 3] (by decide) rfl
  have hPc := hpd9.1
  have hDc := hpd9.2.1
  have hFc := hpd9.2.2
  clear hpd9
  refine va_calli (va_runV (As := [Value.int (nI sn), Value.int y]) (rest := []) ⟨hx, hb, hml, hown, hts⟩ (c_X4_isCarried l dC dI aC H.size h1 ek ef ew ep es n (nI sn) dn wf stf W0 sn y (hw) (by omega)) ⟨(callB_of 2 hts (gG kw_481) rfl rfl rfl (hts _ (gw kw_2 rfl)) (hts _ (gw kw_540 rfl)) hd_X4_isCarried ⟨Nat.le_of_ble_eq_true rfl, Nat.le_of_ble_eq_true rfl⟩), (hts _ (gw kw_479 rfl)), (hts _ (gw kw_480 rfl))⟩ ⟨fb_std, va_recv (q := (RX4, TX4, 8)) hK hPc (ci := 4) (q0 := 0) rfl rfl, pre_std hPc hK hDc hN⟩ rfl rfl hl.1 rfl (lv_room (Nat.le_of_ble_eq_true rfl)) dX4_decide_6 ⟨Nat.le_of_ble_eq_true rfl, Nat.le_of_ble_eq_true rfl⟩) hS (fun q _ h => hFc q h) hFc (fun x_1 u9 t9 H1 locs ht hvm hw_1 hB hz1 hk1 hS => ?_)
  obtain ⟨hP1, hK1, hD1⟩ := hB
  rw [ht] at hP1
  clear hK1
  try dsimp only at hw_1
  have hpd9 : PDx (dC, dI) classes A H1 [cI aC ep 8 pf, cI aC oa 8 tf, oX4 h1 ek ef ew ep es (nI n) (nI sn) dn, cI aC ew 8 wf, cI aC es 5 stf] := jn_N (wr := [cI aC ep 8 pf, cI aC oa 8 tf]) hFc hk1 hP1 hD1 hP hD [0, 1, 3] [2, 4] rfl rfl (by decide) (by decide)
  have hP := hpd9.1
  have hD := hpd9.2
  clear hpd9
  generalize H1 = H at hP hS ⊢
  clear hPc hDc hFc hz1 hk1 hP1 hD1 ht hvm
  have hz_6 := hw_1
  refine lv_istore (lv' := [(4, Value.int x_1), (0, Value.ref h1), (1, Value.int y), (2, Value.ref oa), (3, Value.int (nI sn))]) hx hb dX4_decide_9 hl (by decide) rfl (fun ls hl => ?_)
  refine lv_iload hx hb dX4_decide_11 (lv_at hl 0 rfl) ?_
  refine lv_if_eq (tgt := 25) hx hb dX4_decide_13 (by decide) (fun c_2 => ?_) (fun c_2 => ?_)
  · have hcar : ¬ CAR n W0 (stf 1) sn y := fun q => absurd (hz_6.symm.trans c_2) (by rw [if_pos (show nd (stf 1) (sumr W0 sn (n - sn)) ≤ yw W0 y sn (n - sn) from q)]; decide)
    refine lv_aload_n hx hb dX4_decide_25 rfl (lv_at hl 1 rfl) ?_
    have hpd9 := pdf_N (cx := [oX4 h1 ek ef ew ep es (nI n) (nI sn) dn, cI aC ep 8 pf]) hP hD hS hA [2, 0] (by decide) rfl
    have hPc := hpd9.1
    have hDc := hpd9.2.1
    have hFc := hpd9.2.2
    clear hpd9
    refine va_callv (va_runV (As := []) (rest := []) ⟨hx, hb, hml, hown, hts⟩ (c_X4_putAshore l dC dI aC H.size h1 ek ef ew ep es n sn dn pf (hn8) (hsn)) ⟨(callB_of 0 hts (gG kw_548) rfl rfl rfl (hts _ (gw kw_2 rfl)) (hts _ (gw kw_545 rfl)) hd_X4_putAshore ⟨Nat.le_of_ble_eq_true rfl, Nat.le_of_ble_eq_true rfl⟩), (hts _ (gw kw_547 rfl)), (hts _ (gw ks_21 rfl))⟩ ⟨fb_std, va_recv (q := (RX4, TX4, 8)) hK hPc (ci := 4) (q0 := 0) rfl rfl, pre_std hPc hK hDc hN⟩ rfl rfl hl.1 rfl (lv_room (Nat.le_of_ble_eq_true rfl)) dX4_decide_26 ⟨Nat.le_of_ble_eq_true rfl, Nat.le_of_ble_eq_true rfl⟩) hS (fun q _ h => hFc q h) hFc (fun u9 t9 H1 locs ht hvm hw_3 hB hz1 hk1 hS => ?_)
    obtain ⟨u_4, u_5, u_6⟩ := u9
    obtain ⟨hP1, hK1, hD1⟩ := hB
    rw [ht] at hP1
    clear hK1
    try dsimp only at hw_3
    have hpd9 : PDx (dC, dI) classes A H1 [cI aC oa 8 tf, cI aC ew 8 wf, cI aC es 5 stf, oX4 h1 ek ef ew ep es (nI n) u_4 u_5, cI aC ep 8 u_6] := jn_N (wr := [cI aC oa 8 tf, cI aC ew 8 wf, cI aC es 5 stf]) hFc hk1 hP1 hD1 hP hD [2, 0] [1, 3, 4] rfl rfl (by decide) (by decide)
    have hP := hpd9.1
    have hD := hpd9.2
    clear hpd9
    generalize H1 = H at hP hS ⊢
    clear hPc hDc hFc hz1 hk1 hP1 hD1 ht hvm
    have hpa := hw_3
    refine lv_iload hx hb dX4_decide_29 (lv_at hl 0 rfl) ?_
    refine lv_if_eq (tgt := 38) hx hb dX4_decide_31 (by decide) (fun c_7 => ?_) (fun c_7 => ?_)
    · refine lv_iconst (v := 0) hx hb dX4_decide_38 (by decide) ?_
      have hpd9 := pd_N (cx := [oX4 h1 ek ef ew ep es (nI n) u_4 u_5, cI aC ew 8 wf, cI aC ep 8 u_6, cI aC es 5 stf, cI aC oa 8 tf]) hP hD [3, 1, 4, 2, 0] (by decide) rfl
      have hP9 := hpd9.1
      have hD9 := hpd9.2
      refine W.widen (k := 0) (n := 0) (by omega) (by omega) ?_
      exact W.iret (v := 0) hx hb hr (fun t ht hW => ⟨⟨0, (u_4, u_5, u_6), rfl, ⟨by unfold CAR at hcar; rw [if_neg hcar], fun q => absurd q hcar, fun _ => hpa⟩, by rw [ht]; exact hP9, va_K.moved hW.alike hK, hD9⟩, hS.F ht⟩) hS.2.2 dX4_decide_39
    · exact absurd c_2 c_7
  · have hcar : CAR n W0 (stf 1) sn y := by
      by_cases q : nd (stf 1) (sumr W0 sn (n - sn)) ≤ yw W0 y sn (n - sn)
      · exact q
      · exact absurd (by rw [hz_6, if_neg q]) c_2
    refine lv_aload_n hx hb dX4_decide_16 rfl (lv_at hl 1 rfl) ?_
    refine lv_aload_n hx hb dX4_decide_17 rfl (lv_at hl 3 rfl) ?_
    refine lv_iload_n hx hb dX4_decide_18 rfl (lv_at hl 4 rfl) ?_
    have hpd9 := pdf_N (cx := [oX4 h1 ek ef ew ep es (nI n) (nI sn) dn, cI aC ep 8 pf, cI aC oa 8 tf]) hP hD hS hA [2, 0, 1] (by decide) rfl
    have hPc := hpd9.1
    have hDc := hpd9.2.1
    have hFc := hpd9.2.2
    clear hpd9
    refine va_callv (va_runV (As := [Value.ref oa, Value.int (nI sn)]) (rest := []) ⟨hx, hb, hml, hown, hts⟩ (c_X4_part_t l dC dI aC H.size h1 ek ef ew ep es n sn dn oa pf tf (hn8) (hsn)) ⟨(callB_of 2 hts (gG kw_544) rfl rfl rfl (hts _ (gw kw_2 rfl)) (hts _ (gw kw_541 rfl)) hd_X4_part ⟨Nat.le_of_ble_eq_true rfl, Nat.le_of_ble_eq_true rfl⟩), (hts _ (gw kw_543 rfl)), (hts _ (gw ks_20 rfl))⟩ ⟨fb_std, va_recv (q := (RX4, TX4, 8)) hK hPc (ci := 4) (q0 := 0) rfl rfl, pre_std hPc hK hDc hN⟩ rfl rfl hl.1 rfl (lv_room (Nat.le_of_ble_eq_true rfl)) dX4_decide_19 ⟨Nat.le_of_ble_eq_true rfl, Nat.le_of_ble_eq_true rfl⟩) hS (fun q _ h => hFc q h) hFc (fun u9 t9 H1 locs ht hvm hw_8 hB hz1 hk1 hS => ?_)
    obtain ⟨u_9, rfl⟩ : ∃ z, z = u9 := ⟨_, rfl⟩
    obtain ⟨hP1, hK1, hD1⟩ := hB
    rw [ht] at hP1
    clear hK1
    try dsimp only at hw_8
    have hpd9 : PDx (dC, dI) classes A H1 [cI aC ew 8 wf, cI aC es 5 stf, oX4 h1 ek ef ew ep es (nI n) (nI sn) 1, cI aC ep 8 u_9, cI aC oa 8 tf] := jn_N (wr := [cI aC ew 8 wf, cI aC es 5 stf]) hFc hk1 hP1 hD1 hP hD [2, 0, 1] [3, 4] rfl rfl (by decide) (by decide)
    have hP := hpd9.1
    have hD := hpd9.2
    clear hpd9
    generalize H1 = H at hP hS ⊢
    clear hPc hDc hFc hz1 hk1 hP1 hD1 ht hvm
    have hpa := hw_8
    refine lv_goto (tgt := 29) hx hb dX4_decide_22 (by decide) ?_
    refine lv_iload hx hb dX4_decide_29 (lv_at hl 0 rfl) ?_
    refine lv_if_eq (tgt := 38) hx hb dX4_decide_31 (by decide) (fun c_10 => ?_) (fun c_10 => ?_)
    · exact absurd c_10 c_2
    · refine lv_iconst (v := 1) hx hb dX4_decide_34 (by decide) ?_
      refine lv_goto (tgt := 39) hx hb dX4_decide_35 (by decide) ?_
      have hpd9 := pd_N (cx := [oX4 h1 ek ef ew ep es (nI n) (nI sn) 1, cI aC ew 8 wf, cI aC ep 8 u_9, cI aC es 5 stf, cI aC oa 8 tf]) hP hD [2, 0, 3, 1, 4] (by decide) rfl
      have hP9 := hpd9.1
      have hD9 := hpd9.2
      refine W.widen (k := 0) (n := 0) (by omega) (by omega) ?_
      exact W.iret (v := 1) hx hb hr (fun t ht hW => ⟨⟨1, ((nI sn), 1, u_9), rfl, ⟨by unfold CAR at hcar; rw [if_pos hcar], fun _ => ⟨rfl, rfl, hpa⟩, fun q => absurd hcar q⟩, by rw [ht]; exact hP9, va_K.moved hW.alike hK, hD9⟩, hS.F ht⟩) hS.2.2 dX4_decide_39

set_option maxHeartbeats 1000000 in
set_option maxRecDepth 100000 in
/-- X4_decide_p -/
theorem c_X4_decide_p (l : Launch) (dC : Nat → ClassId) (dI : Nat → Nat → Nat) (aC : Nat → ClassId) (sz : Nat) (h1 : Nat) (ek : Nat) (ef : Nat) (ew : Nat) (ep : Nat) (es : Nat) (n : Nat) (sn : Nat) (dn : Int32) (oa : Nat) (pf : Nat → Int32) (wf : Nat → Int32) (stf : Nat → Int32) (W0 : Nat → Nat) (y : Int32) (L : List Nat) (g : Nat → Nat → Int32) (hw : n ≤ 8 ∧ ∀ j, j < n → wf j = nI (W0 j) ∧ W0 j ≤ 9) (hsn : sn < n) (hm : oa ∈ L) : Met l yX4_decide (wW yX4_decide cX4_decide 5 (some .int)) ({ frames := 3, cells := 0, slots := 0, locals := 60 } : Room) (va_Pc [Value.ref h1, Value.int y, Value.ref oa, Value.int 0] (fun U => U.heap.size = sz ∧ va_P (dC, dI) classes (wp [oX4 h1 ek ef ew ep es (nI n) (nI sn) dn, cI aC ew 8 wf, cI aC ep 8 pf, cI aC es 5 stf] (va_pl L (plE aC g))) U.heap ∧ va_K (dC, dI) classes (TY aC) U ∧ va_D (fun _ => True) (wp [oX4 h1 ek ef ew ep es (nI n) (nI sn) dn, cI aC ew 8 wf, cI aC ep 8 pf, cI aC es 5 stf] (va_pl L (plE aC g))) ∧ NX U)) (va_Qi (fun (r : Int32) (u : Int32 × Int32 × (Nat → Int32)) => match u with | (sy2, dn2, pg) => r = (if nd (stf 1) (sumr W0 sn (n - sn)) ≤ yw W0 y sn (n - sn) then 1 else 0) ∧ DCD n sn dn W0 (stf 1) y (g oa) pf pg sy2 dn2) (fun (u : Int32 × Int32 × (Nat → Int32)) (t : State) => match u with | (sy2, dn2, pg) => va_P (dC, dI) classes (wp [oX4 h1 ek ef ew ep es (nI n) sy2 dn2, cI aC ew 8 wf, cI aC ep 8 pg, cI aC es 5 stf] (va_pl L (plE aC g))) t.heap ∧ va_K (dC, dI) classes (TY aC) t ∧ va_D (va_A (wp [oX4 h1 ek ef ew ep es (nI n) (nI sn) dn, cI aC ew 8 wf, cI aC ep 8 pf, cI aC es 5 stf] (va_pl L (plE aC g))) sz) (wp [oX4 h1 ek ef ew ep es (nI n) sy2 dn2, cI aC ew 8 wf, cI aC ep 8 pg, cI aC es 5 stf] (va_pl L (plE aC g)))) (va_A (wp [oX4 h1 ek ef ew ep es (nI n) (nI sn) dn, cI aC ew 8 wf, cI aC ep 8 pf, cI aC es 5 stf] (va_pl L (plE aC g))) sz)) 0 0 (va_A (wp [oX4 h1 ek ef ew ep es (nI n) (nI sn) dn, cI aC ew 8 wf, cI aC ep 8 pf, cI aC es 5 stf] (va_pl L (plE aC g))) sz) := by
  refine Met.ofW (cc := cX4_decide) (maxL := 5) (ret := (some .int)) (by decide) rfl ?_
  intro p e s m args below meth c s₁ B hml hv
  obtain ⟨rfl, hsz, hP, hK, hD0, hN⟩ := hv
  have hx := B.exec
  have hb := B.bytes
  have hr := B.returns
  have hts0 := atoms_spec (ws := (wW yX4_decide cX4_decide 5 (some .int))) B.pre
  have hts : ∀ w9 ∈ lw_G, w9.before ([Value.ref h1, Value.int y, Value.ref oa, Value.int 0] : List Value).toArray s = true := fun w9 h9 => hts0 w9 (List.mem_cons_of_mem _ h9)
  have hown : s.vm.findClass RX4 = some m.cls := findClass_of_methodNamed (x := yX4_decide) B.named
  have hlocks := B.notSynchronized
  subst hsz
  have hD := hD0.self (sz := s.heap.size)
  generalize hAe : va_A (wp [oX4 h1 ek ef ew ep es (nI n) (nI sn) dn, cI aC ew 8 wf, cI aC ep 8 pf, cI aC es 5 stf] (va_pl L (plE aC g))) s.heap.size = A at hD ⊢
  have hA : ∀ q : Nat, s.heap.size ≤ q → A q := fun q h => by rw [← hAe]; exact Or.inr h
  obtain ⟨H, hHe⟩ : ∃ H : Heap, H = s.heap := ⟨_, rfl⟩
  have hS : va_S A s.heap H [] := by rw [hHe]; exact va_S.rf
  have hP : va_P (dC, dI) classes (wp [oX4 h1 ek ef ew ep es (nI n) (nI sn) dn, cI aC ew 8 wf, cI aC ep 8 pf, cI aC es 5 stf] (va_pl L (plE aC g))) H := by rw [hHe]; exact hP
  have hl := lv_entry ([Value.ref h1, Value.int y, Value.ref oa, Value.int 0]) (n := 5) (Nat.le_of_ble_eq_true rfl)
  rw [lg_entry_eq]
  generalize (lg_sl ([Value.ref h1, Value.int y, Value.ref oa, Value.int 0]) ++ List.replicate (5 - (lg_sl ([Value.ref h1, Value.int y, Value.ref oa, Value.int 0])).length) Slot.unset).toArray = ls at hl ⊢
  have hl : lv_has ls 5 [(0, Value.ref h1), (1, Value.int y), (2, Value.ref oa), (3, Value.int 0)] := hl
  rw [← hHe]
  have hn8 := hw.1
  refine lv_aload_n hx hb dX4_decide_0 rfl (lv_at hl 0 rfl) ?_
  refine lv_aload_n hx hb dX4_decide_1 rfl (lv_at hl 0 rfl) ?_
  refine va_get (D := (dC, dI)) (ci := 4) (v := Value.int (nI sn)) (C := RX4) (T := TX4) (N := 8) hx hb hts inX4 hown hK hP 0 rfl rfl 6 (by decide) (hts _ (gw kw_51 rfl)) (fun _ h9 => h9) rfl dX4_decide_2 ?_
  refine lv_iload_n hx hb dX4_decide_5 rfl (lv_at hl 1 rfl) ?_
  have hpd9 := pdf_N (cx := [oX4 h1 ek ef ew ep es (nI n) (nI sn) dn, cI aC ew 8 wf, cI aC es 5 stf]) hP hD hS hA [0, 1, 3] (by decide) rfl
  have hPc := hpd9.1
  have hDc := hpd9.2.1
  have hFc := hpd9.2.2
  clear hpd9
  refine va_calli (va_runV (As := [Value.int (nI sn), Value.int y]) (rest := []) ⟨hx, hb, hml, hown, hts⟩ (c_X4_isCarried l dC dI aC H.size h1 ek ef ew ep es n (nI sn) dn wf stf W0 sn y (hw) (by omega)) ⟨(callB_of 2 hts (gG kw_481) rfl rfl rfl (hts _ (gw kw_2 rfl)) (hts _ (gw kw_540 rfl)) hd_X4_isCarried ⟨Nat.le_of_ble_eq_true rfl, Nat.le_of_ble_eq_true rfl⟩), (hts _ (gw kw_479 rfl)), (hts _ (gw kw_480 rfl))⟩ ⟨fb_std, va_recv (q := (RX4, TX4, 8)) hK hPc (ci := 4) (q0 := 0) rfl rfl, pre_std hPc hK hDc hN⟩ rfl rfl hl.1 rfl (lv_room (Nat.le_of_ble_eq_true rfl)) dX4_decide_6 ⟨Nat.le_of_ble_eq_true rfl, Nat.le_of_ble_eq_true rfl⟩) hS (fun q _ h => hFc q h) hFc (fun x_1 u9 t9 H1 locs ht hvm hw_1 hB hz1 hk1 hS => ?_)
  obtain ⟨hP1, hK1, hD1⟩ := hB
  rw [ht] at hP1
  clear hK1
  try dsimp only at hw_1
  have hpd9 : PDx (dC, dI) classes A H1 (wp [cI aC ep 8 pf, oX4 h1 ek ef ew ep es (nI n) (nI sn) dn, cI aC ew 8 wf, cI aC es 5 stf] (va_pl L (plE aC g))) := jn_Q (wr := [cI aC ep 8 pf]) hFc hk1 hP1 hD1 hP hD [0, 1, 3] [2] rfl rfl (by decide) (by decide)
  have hP := hpd9.1
  have hD := hpd9.2
  clear hpd9
  generalize H1 = H at hP hS ⊢
  clear hPc hDc hFc hz1 hk1 hP1 hD1 ht hvm
  have hz_6 := hw_1
  refine lv_istore (lv' := [(4, Value.int x_1), (0, Value.ref h1), (1, Value.int y), (2, Value.ref oa), (3, Value.int 0)]) hx hb dX4_decide_9 hl (by decide) rfl (fun ls hl => ?_)
  refine lv_iload hx hb dX4_decide_11 (lv_at hl 0 rfl) ?_
  refine lv_if_eq (tgt := 25) hx hb dX4_decide_13 (by decide) (fun c_2 => ?_) (fun c_2 => ?_)
  · have hcar : ¬ CAR n W0 (stf 1) sn y := fun q => absurd (hz_6.symm.trans c_2) (by rw [if_pos (show nd (stf 1) (sumr W0 sn (n - sn)) ≤ yw W0 y sn (n - sn) from q)]; decide)
    refine lv_aload_n hx hb dX4_decide_25 rfl (lv_at hl 1 rfl) ?_
    have hpd9 := pdf_N (cx := [oX4 h1 ek ef ew ep es (nI n) (nI sn) dn, cI aC ep 8 pf]) hP hD hS hA [1, 0] (by decide) rfl
    have hPc := hpd9.1
    have hDc := hpd9.2.1
    have hFc := hpd9.2.2
    clear hpd9
    refine va_callv (va_runV (As := []) (rest := []) ⟨hx, hb, hml, hown, hts⟩ (c_X4_putAshore l dC dI aC H.size h1 ek ef ew ep es n sn dn pf (hn8) (hsn)) ⟨(callB_of 0 hts (gG kw_548) rfl rfl rfl (hts _ (gw kw_2 rfl)) (hts _ (gw kw_545 rfl)) hd_X4_putAshore ⟨Nat.le_of_ble_eq_true rfl, Nat.le_of_ble_eq_true rfl⟩), (hts _ (gw kw_547 rfl)), (hts _ (gw ks_21 rfl))⟩ ⟨fb_std, va_recv (q := (RX4, TX4, 8)) hK hPc (ci := 4) (q0 := 0) rfl rfl, pre_std hPc hK hDc hN⟩ rfl rfl hl.1 rfl (lv_room (Nat.le_of_ble_eq_true rfl)) dX4_decide_26 ⟨Nat.le_of_ble_eq_true rfl, Nat.le_of_ble_eq_true rfl⟩) hS (fun q _ h => hFc q h) hFc (fun u9 t9 H1 locs ht hvm hw_3 hB hz1 hk1 hS => ?_)
    obtain ⟨u_4, u_5, u_6⟩ := u9
    obtain ⟨hP1, hK1, hD1⟩ := hB
    rw [ht] at hP1
    clear hK1
    try dsimp only at hw_3
    have hpd9 : PDx (dC, dI) classes A H1 (wp [cI aC ew 8 wf, cI aC es 5 stf, oX4 h1 ek ef ew ep es (nI n) u_4 u_5, cI aC ep 8 u_6] (va_pl L (plE aC g))) := jn_Q (wr := [cI aC ew 8 wf, cI aC es 5 stf]) hFc hk1 hP1 hD1 hP hD [1, 0] [2, 3] rfl rfl (by decide) (by decide)
    have hP := hpd9.1
    have hD := hpd9.2
    clear hpd9
    generalize H1 = H at hP hS ⊢
    clear hPc hDc hFc hz1 hk1 hP1 hD1 ht hvm
    have hpa := hw_3
    refine lv_iload hx hb dX4_decide_29 (lv_at hl 0 rfl) ?_
    refine lv_if_eq (tgt := 38) hx hb dX4_decide_31 (by decide) (fun c_7 => ?_) (fun c_7 => ?_)
    · refine lv_iconst (v := 0) hx hb dX4_decide_38 (by decide) ?_
      have hpd9 := pd_P (cx := [oX4 h1 ek ef ew ep es (nI n) u_4 u_5, cI aC ew 8 wf, cI aC ep 8 u_6, cI aC es 5 stf]) hP hD [2, 0, 3, 1] (by decide) rfl
      have hP9 := hpd9.1
      have hD9 := hpd9.2
      refine W.widen (k := 0) (n := 0) (by omega) (by omega) ?_
      exact W.iret (v := 0) hx hb hr (fun t ht hW => ⟨⟨0, (u_4, u_5, u_6), rfl, ⟨by unfold CAR at hcar; rw [if_neg hcar], fun q => absurd q hcar, fun _ => hpa⟩, by rw [ht]; exact hP9, va_K.moved hW.alike hK, hD9⟩, hS.F ht⟩) hS.2.2 dX4_decide_39
    · exact absurd c_2 c_7
  · have hcar : CAR n W0 (stf 1) sn y := by
      by_cases q : nd (stf 1) (sumr W0 sn (n - sn)) ≤ yw W0 y sn (n - sn)
      · exact q
      · exact absurd (by rw [hz_6, if_neg q]) c_2
    refine lv_aload_n hx hb dX4_decide_16 rfl (lv_at hl 1 rfl) ?_
    refine lv_aload_n hx hb dX4_decide_17 rfl (lv_at hl 3 rfl) ?_
    refine lv_iload_n hx hb dX4_decide_18 rfl (lv_at hl 4 rfl) ?_
    have hpd9 := pdf_P (cx := [oX4 h1 ek ef ew ep es (nI n) (nI sn) dn, cI aC ep 8 pf]) hP hD hS hA [1, 0] (by decide) rfl
    have hPc := hpd9.1
    have hDc := hpd9.2.1
    have hFc := hpd9.2.2
    clear hpd9
    refine va_callv (va_runV (As := [Value.ref oa, Value.int 0]) (rest := []) ⟨hx, hb, hml, hown, hts⟩ (c_X4_part_p l dC dI aC H.size h1 ek ef ew ep es n sn dn oa pf L g (hn8) (hsn) (hm)) ⟨(callB_of 2 hts (gG kw_544) rfl rfl rfl (hts _ (gw kw_2 rfl)) (hts _ (gw kw_541 rfl)) hd_X4_part ⟨Nat.le_of_ble_eq_true rfl, Nat.le_of_ble_eq_true rfl⟩), (hts _ (gw kw_543 rfl)), (hts _ (gw ks_20 rfl))⟩ ⟨fb_std, va_recv (q := (RX4, TX4, 8)) hK hPc (ci := 4) (q0 := 0) rfl rfl, pre_std hPc hK hDc hN⟩ rfl rfl hl.1 rfl (lv_room (Nat.le_of_ble_eq_true rfl)) dX4_decide_19 ⟨Nat.le_of_ble_eq_true rfl, Nat.le_of_ble_eq_true rfl⟩) hS (fun q _ h => hFc q h) hFc (fun u9 t9 H1 locs ht hvm hw_8 hB hz1 hk1 hS => ?_)
    obtain ⟨u_9, rfl⟩ : ∃ z, z = u9 := ⟨_, rfl⟩
    obtain ⟨hP1, hK1, hD1⟩ := hB
    rw [ht] at hP1
    clear hK1
    try dsimp only at hw_8
    have hpd9 : PDx (dC, dI) classes A H1 (wp [cI aC ew 8 wf, cI aC es 5 stf, oX4 h1 ek ef ew ep es (nI n) (nI sn) 1, cI aC ep 8 u_9] (va_pl L (plE aC g))) := jn_P (wr := [cI aC ew 8 wf, cI aC es 5 stf]) hFc hk1 hP1 hD1 hP hD [1, 0] [2, 3] rfl rfl (by decide) (by decide)
    have hP := hpd9.1
    have hD := hpd9.2
    clear hpd9
    generalize H1 = H at hP hS ⊢
    clear hPc hDc hFc hz1 hk1 hP1 hD1 ht hvm
    have hpa := hw_8
    refine lv_goto (tgt := 29) hx hb dX4_decide_22 (by decide) ?_
    refine lv_iload hx hb dX4_decide_29 (lv_at hl 0 rfl) ?_
    refine lv_if_eq (tgt := 38) hx hb dX4_decide_31 (by decide) (fun c_10 => ?_) (fun c_10 => ?_)
    · exact absurd c_10 c_2
    · refine lv_iconst (v := 1) hx hb dX4_decide_34 (by decide) ?_
      refine lv_goto (tgt := 39) hx hb dX4_decide_35 (by decide) ?_
      have hpd9 := pd_P (cx := [oX4 h1 ek ef ew ep es (nI n) (nI sn) 1, cI aC ew 8 wf, cI aC ep 8 u_9, cI aC es 5 stf]) hP hD [2, 0, 3, 1] (by decide) rfl
      have hP9 := hpd9.1
      have hD9 := hpd9.2
      refine W.widen (k := 0) (n := 0) (by omega) (by omega) ?_
      exact W.iret (v := 1) hx hb hr (fun t ht hW => ⟨⟨1, ((nI sn), 1, u_9), rfl, ⟨by unfold CAR at hcar; rw [if_pos hcar], fun _ => ⟨rfl, rfl, hpa⟩, fun q => absurd hcar q⟩, by rw [ht]; exact hP9, va_K.moved hW.alike hK, hD9⟩, hS.F ht⟩) hS.2.2 dX4_decide_39

end

section
/-! 56.pub -/
/-- the plan of an evening, as a function of it -/
def PLN (n : Nat) (K F W S5 : Nat → Nat) (pl : PLT) : Prop := PLAN n K F W (S5 0) (nI (S5 1)) (nI (S5 2)) (nI (S5 3)) pl
noncomputable def PO (n : Nat) (K F W S5 : Nat → Nat) : PLT := @Classical.epsilon PLT ⟨(fun _ _ => 0, fun _ _ => 0, fun _ => 0, fun _ => 0, fun _ => 0, fun _ _ => 0)⟩ (PLN n K F W S5)
theorem PO_ok {n : Nat} {K F W S5 : Nat → Nat} (hn : n ≤ 8) (hcq : S5 0 ≤ 99) (hF : ∀ j, j < n → F j ≤ 9) (hK : ∀ j, j < n → K j ≤ 6) : PLN n K F W S5 (PO n K F W S5) := by
  have h : ∃ pl, PLN n K F W S5 pl := plan_ex hn hcq hF hK
  exact Classical.epsilon_spec h
theorem PO_ev {n : Nat} {K F W S5 : Nat → Nat} {kf ff wf stf : Nat → Int32} (h : EVH n K F W (S5 0) kf ff wf stf) : PLN n K F W S5 (PO n K F W S5) := PO_ok h.1 h.2.1 (HF_of h) (fun j hj => (h.2.2.2 j hj).1.2)
theorem PO_cl {n sn : Nat} {dn : Int32} {K F W S5 : Nat → Nat} {kf ff wf stf : Nat → Int32} (h : EVS n sn dn K F W S5 kf ff wf stf) : PLAN n K F W (S5 0) (stf 1) (stf 2) (stf 3) (PO n K F W S5) := by
  have := PO_ev h.1
  unfold PLN at this
  rw [h.2.1 1 (by omega), h.2.1 2 (by omega), h.2.1 3 (by omega)]
  exact this
theorem PO_nI {n sn : Nat} {dn : Int32} {K F W S5 : Nat → Nat} {kf ff wf stf : Nat → Int32} (h : EVS n sn dn K F W S5 kf ff wf stf) : PLAN n K F W (S5 0) (nI (S5 1)) (nI (S5 2)) (nI (S5 3)) (PO n K F W S5) := PO_ev h.1
/-- a man's number -/
abbrev OKI (n : Nat) (i : Int32) : Prop := ¬ i < 0 ∧ ¬ nI n ≤ i
theorem has_y {n : Nat} {i r : Int32} (h : r = if i < 0 then 0 else if nI n ≤ i then 0 else 1) (hr : r ≠ 0) : OKI n i := by
  by_cases h1 : i < 0
  · rw [if_pos h1] at h; exact absurd h hr
  · by_cases h2 : nI n ≤ i
    · rw [if_neg h1, if_pos h2] at h; exact absurd h hr
    · exact ⟨h1, h2⟩
theorem has_n {n : Nat} {i r : Int32} (h : r = if i < 0 then 0 else if nI n ≤ i then 0 else 1) (hr : r = 0) : ¬ OKI n i := fun q => by
  rw [if_neg q.1, if_neg q.2, hr] at h
  exact absurd h (by decide)
theorem OKI_ix {n : Nat} {i : Int32} (hn : n ≤ 8) (h : OKI n i) : ∃ j, j < n ∧ i = nI j := ix_of (by omega) h.1 h.2
theorem OKI_nI {n j : Nat} (hn : n ≤ 8) (h : j < n) : OKI n (nI j) := ⟨nI_pos (by omega), fun q => by
  have := (nI_leI (by omega) (by omega)).mp q
  omega⟩
def rOff (n : Nat) (pl : PLT) (i j : Int32) : Int32 := if OKI n i ∧ OKI n j ∧ ¬ j < i then nI (zO pl i.toNatClampNeg j.toNatClampNeg) else -1
def rPri (n : Nat) (pl : PLT) (i j : Int32) : Int32 := if OKI n i ∧ OKI n j then (if i < j then nI (zP pl i.toNatClampNeg j.toNatClampNeg) else -9) else -1
def rGet (n : Nat) (pl : PLT) (i j : Int32) : Int32 := if OKI n i ∧ OKI n j ∧ ¬ j < i then iI (zS pl i.toNatClampNeg j.toNatClampNeg) else 1000000001
def rVot (n : Nat) (pl : PLT) (i : Int32) : Int32 := if OKI n i then zY pl i.toNatClampNeg else -1
def rEnd (n : Nat) (pl : PLT) (i : Int32) : Int32 := if OKI n i then zE pl i.toNatClampNeg else -1
def rBou (n : Nat) (pl : PLT) (i : Int32) : Int32 := if OKI n i then zB pl i.toNatClampNeg else -1
def rCar (n : Nat) (pl : PLT) (i : Int32) : Int32 := if OKI n i then (if zE pl i.toNatClampNeg = i then 1 else 0) else -1
theorem zE_ge {n : Nat} {K F W : Nat → Nat} {cq : Nat} {law tie fst : Int32} {pl : PLT} (h : PLAN n K F W cq law tie fst pl) : ∀ k i, n - i ≤ k → i < n → ∃ e, i ≤ e ∧ e < n ∧ zE pl i = nI e := by
  intro k
  induction k with
  | zero => intro i h1 h2; omega
  | succ k ih =>
    intro i h1 h2
    obtain ⟨-, -, -, c1, c2⟩ := (h i h2).1
    by_cases hc : CNDs n W law i (zY pl i)
    · exact ⟨i, Nat.le_refl _, h2, (c1 hc).1⟩
    · obtain ⟨e, e1, e2, e3⟩ := ih (i + 1) (by omega) (Nat.lt_of_not_le fun q => hc (Or.inl q))
      exact ⟨e, by omega, e2, (c2 hc).1.trans e3⟩
theorem zE_iff {n : Nat} {K F W : Nat → Nat} {cq : Nat} {law tie fst : Int32} {pl : PLT} (hn : n ≤ 8) (h : PLAN n K F W cq law tie fst pl) {i : Nat} (hi : i < n) : CNDs n W law i (zY pl i) ↔ zE pl i = nI i := by
  obtain ⟨-, -, -, c1, c2⟩ := (h i hi).1
  constructor
  · intro hc; exact (c1 hc).1
  · intro he
    by_cases hc : CNDs n W law i (zY pl i)
    · exact hc
    · obtain ⟨e, e1, e2, e3⟩ := zE_ge h n (i + 1) (by omega) (Nat.lt_of_not_le fun q => hc (Or.inl q))
      have : nI i = nI e := he.symm.trans ((c2 hc).1.trans e3)
      have := (nI_eq (by omega) (by omega)).mp this
      omega
theorem EVS_n {n sn : Nat} {dn : Int32} {K F W S5 : Nat → Nat} {kf ff wf stf : Nat → Int32} (h : EVS n sn dn K F W S5 kf ff wf stf) : n ≤ 8 := h.1.1

end

