set_option maxHeartbeats 1000000 in
set_option maxRecDepth 100000 in
/-- X12_init -/
theorem c_X12_init (l : Launch) (dC : Nat → ClassId) (dI : Nat → Nat → Nat) (aC : Nat → ClassId) (sz : Nat) (g0 : Nat)  : Met l yX12_init (wW yX12_init cX12_init 1 (none : Option FieldType)) ({ frames := 1, cells := 23, slots := 805, locals := 12 } : Room) (va_Pc [Value.ref g0] (fun U => U.heap.size = sz ∧ va_P (dC, dI) classes [cO g0 12 [Value.null, Value.null, Value.null, Value.null, Value.null, Value.null, Value.int 0, Value.int 0, Value.int 0, Value.null, Value.null, Value.null, Value.null, Value.int 0, Value.int 0, Value.int 0, Value.null, Value.int 0, Value.int 0, Value.int 0, Value.null, Value.null, Value.null, Value.null, Value.null, Value.null, Value.null, Value.null, Value.int 0, Value.null, Value.null, Value.null, Value.null]] U.heap ∧ va_K (dC, dI) classes (TY aC) U ∧ va_D (fun _ => True) [cO g0 12 [Value.null, Value.null, Value.null, Value.null, Value.null, Value.null, Value.int 0, Value.int 0, Value.int 0, Value.null, Value.null, Value.null, Value.null, Value.int 0, Value.int 0, Value.int 0, Value.null, Value.int 0, Value.int 0, Value.int 0, Value.null, Value.null, Value.null, Value.null, Value.null, Value.null, Value.null, Value.null, Value.int 0, Value.null, Value.null, Value.null, Value.null]] ∧ NX U)) (va_Qv (fun (mstf : Nat → Int32) => mstf = SET0) (fun (mstf : Nat → Int32) (t : State) => ∃ (m_refused m_kind m_figure m_weight m_got m_setting m_tape m_letter m_letterAt m_told m_kept m_price m_offer m_gets m_yes m_buys m_ends m_carried m_row m_keptRow m_likeGets m_likePrice m_ahead : Nat), va_P (dC, dI) classes [oX12 g0 m_refused m_kind m_figure m_weight m_got m_setting 0 0 0 m_tape m_letter m_letterAt m_told 0 0 0 m_kept 0 0 0 m_price m_offer m_gets m_yes m_buys m_ends m_carried m_row 0 m_keptRow m_likeGets m_likePrice m_ahead, cI aC m_refused 7 (fun _ => 0), cI aC m_kind 9 (fun _ => 0), cI aC m_figure 9 (fun _ => 0), cI aC m_weight 9 (fun _ => 0), cI aC m_got 8 (fun _ => 0), cI aC m_setting 5 mstf, cI aC m_tape 64 (fun _ => 0), cI aC m_letter 32 (fun _ => 0), cI aC m_letterAt 32 (fun _ => 0), cI aC m_told 96 (fun _ => 0), cI aC m_kept 100 (fun _ => 0), cI aC m_price 81 (fun _ => 0), cI aC m_offer 81 (fun _ => 0), cI aC m_gets 90 (fun _ => 0), cI aC m_yes 9 (fun _ => 0), cI aC m_buys 9 (fun _ => 0), cI aC m_ends 9 (fun _ => 0), cI aC m_carried 9 (fun _ => 0), cI aC m_row 8 (fun _ => 0), cI aC m_keptRow 8 (fun _ => 0), cI aC m_likeGets 61 (fun _ => 0), cI aC m_likePrice 61 (fun _ => 0), cI aC m_ahead 8 (fun _ => 0)] t.heap ∧ va_K (dC, dI) classes (TY aC) t ∧ va_D (va_A [cO g0 12 [Value.null, Value.null, Value.null, Value.null, Value.null, Value.null, Value.int 0, Value.int 0, Value.int 0, Value.null, Value.null, Value.null, Value.null, Value.int 0, Value.int 0, Value.int 0, Value.null, Value.int 0, Value.int 0, Value.int 0, Value.null, Value.null, Value.null, Value.null, Value.null, Value.null, Value.null, Value.null, Value.int 0, Value.null, Value.null, Value.null, Value.null]] sz) [oX12 g0 m_refused m_kind m_figure m_weight m_got m_setting 0 0 0 m_tape m_letter m_letterAt m_told 0 0 0 m_kept 0 0 0 m_price m_offer m_gets m_yes m_buys m_ends m_carried m_row 0 m_keptRow m_likeGets m_likePrice m_ahead, cI aC m_refused 7 (fun _ => 0), cI aC m_kind 9 (fun _ => 0), cI aC m_figure 9 (fun _ => 0), cI aC m_weight 9 (fun _ => 0), cI aC m_got 8 (fun _ => 0), cI aC m_setting 5 mstf, cI aC m_tape 64 (fun _ => 0), cI aC m_letter 32 (fun _ => 0), cI aC m_letterAt 32 (fun _ => 0), cI aC m_told 96 (fun _ => 0), cI aC m_kept 100 (fun _ => 0), cI aC m_price 81 (fun _ => 0), cI aC m_offer 81 (fun _ => 0), cI aC m_gets 90 (fun _ => 0), cI aC m_yes 9 (fun _ => 0), cI aC m_buys 9 (fun _ => 0), cI aC m_ends 9 (fun _ => 0), cI aC m_carried 9 (fun _ => 0), cI aC m_row 8 (fun _ => 0), cI aC m_keptRow 8 (fun _ => 0), cI aC m_likeGets 61 (fun _ => 0), cI aC m_likePrice 61 (fun _ => 0), cI aC m_ahead 8 (fun _ => 0)]) (va_A [cO g0 12 [Value.null, Value.null, Value.null, Value.null, Value.null, Value.null, Value.int 0, Value.int 0, Value.int 0, Value.null, Value.null, Value.null, Value.null, Value.int 0, Value.int 0, Value.int 0, Value.null, Value.int 0, Value.int 0, Value.int 0, Value.null, Value.null, Value.null, Value.null, Value.null, Value.null, Value.null, Value.null, Value.int 0, Value.null, Value.null, Value.null, Value.null]] sz)) 23 805 (va_A [cO g0 12 [Value.null, Value.null, Value.null, Value.null, Value.null, Value.null, Value.int 0, Value.int 0, Value.int 0, Value.null, Value.null, Value.null, Value.null, Value.int 0, Value.int 0, Value.int 0, Value.null, Value.int 0, Value.int 0, Value.int 0, Value.null, Value.null, Value.null, Value.null, Value.null, Value.null, Value.null, Value.null, Value.int 0, Value.null, Value.null, Value.null, Value.null]] sz) := by
  refine Met.ofW (cc := cX12_init) (maxL := 1) (ret := (none : Option FieldType)) (by decide) rfl ?_
  intro p e s m args below meth c s₁ B hml hv
  obtain ⟨rfl, hsz, hP, hK, hD0, hN⟩ := hv
  have hx := B.exec
  have hb := B.bytes
  have hr := B.returns
  have hts0 := atoms_spec (ws := (wW yX12_init cX12_init 1 (none : Option FieldType))) B.pre
  have hts : ∀ w9 ∈ lw_G, w9.before ([Value.ref g0] : List Value).toArray s = true := fun w9 h9 => hts0 w9 (List.mem_cons_of_mem _ h9)
  have hown : s.vm.findClass RX12 = some m.cls := findClass_of_methodNamed (x := yX12_init) B.named
  have hlocks := B.notSynchronized
  have hin : meth.name = "<init>" := (name_of_methodNamed B.named B.method).1
  subst hsz
  have hD := hD0.self (sz := s.heap.size)
  generalize hAe : va_A [cO g0 12 [Value.null, Value.null, Value.null, Value.null, Value.null, Value.null, Value.int 0, Value.int 0, Value.int 0, Value.null, Value.null, Value.null, Value.null, Value.int 0, Value.int 0, Value.int 0, Value.null, Value.int 0, Value.int 0, Value.int 0, Value.null, Value.null, Value.null, Value.null, Value.null, Value.null, Value.null, Value.null, Value.int 0, Value.null, Value.null, Value.null, Value.null]] s.heap.size = A at hD ⊢
  have hA : ∀ q : Nat, s.heap.size ≤ q → A q := fun q h => by rw [← hAe]; exact Or.inr h
  obtain ⟨H, hHe⟩ : ∃ H : Heap, H = s.heap := ⟨_, rfl⟩
  have hS : va_S A s.heap H [] := by rw [hHe]; exact va_S.rf
  have hP : va_P (dC, dI) classes [cO g0 12 [Value.null, Value.null, Value.null, Value.null, Value.null, Value.null, Value.int 0, Value.int 0, Value.int 0, Value.null, Value.null, Value.null, Value.null, Value.int 0, Value.int 0, Value.int 0, Value.null, Value.int 0, Value.int 0, Value.int 0, Value.null, Value.null, Value.null, Value.null, Value.null, Value.null, Value.null, Value.null, Value.int 0, Value.null, Value.null, Value.null, Value.null]] H := by rw [hHe]; exact hP
  have hl := lv_entry ([Value.ref g0]) (n := 1) (Nat.le_of_ble_eq_true rfl)
  rw [lg_entry_eq]
  generalize (lg_sl ([Value.ref g0]) ++ List.replicate (1 - (lg_sl ([Value.ref g0])).length) Slot.unset).toArray = ls at hl ⊢
  have hl : lv_has ls 1 [(0, Value.ref g0)] := hl
  rw [← hHe]
  refine lv_aload_n hx hb dX12_init_0 rfl (lv_at hl 0 rfl) ?_
  refine W.objInit hx hb hown (hts _ (gw kw_716 rfl)) (hts _ (gw kw_24 rfl)) (hts _ (gw kw_25 rfl)) rfl (by rw [hml]; exact hl.1) rfl dX12_init_1 (Nat.le_of_ble_eq_true rfl) (Nat.le_of_ble_eq_true rfl) ?_
  refine W.eq (g2 := F0 m 4 ls []) rfl ?_
  refine lv_aload_n hx hb dX12_init_4 rfl (lv_at hl 0 rfl) ?_
  refine lv_bipush (v := 7) hx hb dX12_init_5 (by decide) ?_
  refine va_newaI (N' := 7) (a0 := (7, .inl (fun _ => 0))) hx hb (hts _ (gw kw_73 rfl)) hK hP hD hS hA (by decide) (by decide) (by decide) (Nat.le_of_ble_eq_true rfl) (Nat.le_of_ble_eq_true rfl) dX12_init_7 rfl (fun q_1 H hP hD hS => ?_)
  have hpd9 : PDx (dC, dI) classes A H [cO g0 12 [Value.null, Value.null, Value.null, Value.null, Value.null, Value.null, Value.int 0, Value.int 0, Value.int 0, Value.null, Value.null, Value.null, Value.null, Value.int 0, Value.int 0, Value.int 0, Value.null, Value.int 0, Value.int 0, Value.int 0, Value.null, Value.null, Value.null, Value.null, Value.null, Value.null, Value.null, Value.null, Value.int 0, Value.null, Value.null, Value.null, Value.null], cI aC q_1 7 (fun _ => 0)] := ⟨hP, hD⟩
  have hP := hpd9.1
  have hD := hpd9.2
  clear hpd9
  refine W.widen (k := 1) (n := 7) (by omega) (by omega) ?_
  refine va_putF (D := (dC, dI)) (ci := 12) (v := Value.ref q_1) (ty := .array .int) (C := RX12) (T := TX12) (N := 33) hx hb hts inX12 tyX12 tyX12_ok nmX12 hown hK hP hD hS 0 rfl rfl 0 (by decide) (hts _ (gw kw_717 rfl)) (fun _ h9 => h9) rfl hin rfl (by decide +kernel) rfl rfl (Nat.le_of_ble_eq_true rfl) dX12_init_9 (fun H locs hP hD hS => ?_)
  have hpd9 : PDx (dC, dI) classes A H [cO g0 12 [Value.ref q_1, Value.null, Value.null, Value.null, Value.null, Value.null, Value.int 0, Value.int 0, Value.int 0, Value.null, Value.null, Value.null, Value.null, Value.int 0, Value.int 0, Value.int 0, Value.null, Value.int 0, Value.int 0, Value.int 0, Value.null, Value.null, Value.null, Value.null, Value.null, Value.null, Value.null, Value.null, Value.int 0, Value.null, Value.null, Value.null, Value.null], cI aC q_1 7 (fun _ => 0)] := ⟨hP, hD⟩
  have hP := hpd9.1
  have hD := hpd9.2
  clear hpd9
  refine lv_aload_n hx hb dX12_init_12 rfl (lv_at hl 0 rfl) ?_
  refine lv_bipush (v := 9) hx hb dX12_init_13 (by decide) ?_
  refine va_newaI (N' := 9) (a0 := (9, .inl (fun _ => 0))) hx hb (hts _ (gw kw_73 rfl)) hK hP hD hS hA (by decide) (by decide) (by decide) (Nat.le_of_ble_eq_true rfl) (Nat.le_of_ble_eq_true rfl) dX12_init_15 rfl (fun q_2 H hP hD hS => ?_)
  have hpd9 : PDx (dC, dI) classes A H [cO g0 12 [Value.ref q_1, Value.null, Value.null, Value.null, Value.null, Value.null, Value.int 0, Value.int 0, Value.int 0, Value.null, Value.null, Value.null, Value.null, Value.int 0, Value.int 0, Value.int 0, Value.null, Value.int 0, Value.int 0, Value.int 0, Value.null, Value.null, Value.null, Value.null, Value.null, Value.null, Value.null, Value.null, Value.int 0, Value.null, Value.null, Value.null, Value.null], cI aC q_1 7 (fun _ => 0), cI aC q_2 9 (fun _ => 0)] := ⟨hP, hD⟩
  have hP := hpd9.1
  have hD := hpd9.2
  clear hpd9
  refine W.widen (k := 2) (n := 16) (by omega) (by omega) ?_
  refine va_putF (D := (dC, dI)) (ci := 12) (v := Value.ref q_2) (ty := .array .int) (C := RX12) (T := TX12) (N := 33) hx hb hts inX12 tyX12 tyX12_ok nmX12 hown hK hP hD hS 0 rfl rfl 1 (by decide) (hts _ (gw kw_718 rfl)) (fun _ h9 => h9) rfl hin rfl (by decide +kernel) rfl rfl (Nat.le_of_ble_eq_true rfl) dX12_init_17 (fun H locs hP hD hS => ?_)
  have hpd9 : PDx (dC, dI) classes A H [cO g0 12 [Value.ref q_1, Value.ref q_2, Value.null, Value.null, Value.null, Value.null, Value.int 0, Value.int 0, Value.int 0, Value.null, Value.null, Value.null, Value.null, Value.int 0, Value.int 0, Value.int 0, Value.null, Value.int 0, Value.int 0, Value.int 0, Value.null, Value.null, Value.null, Value.null, Value.null, Value.null, Value.null, Value.null, Value.int 0, Value.null, Value.null, Value.null, Value.null], cI aC q_1 7 (fun _ => 0), cI aC q_2 9 (fun _ => 0)] := ⟨hP, hD⟩
  have hP := hpd9.1
  have hD := hpd9.2
  clear hpd9
  refine lv_aload_n hx hb dX12_init_20 rfl (lv_at hl 0 rfl) ?_
  refine lv_bipush (v := 9) hx hb dX12_init_21 (by decide) ?_
  refine va_newaI (N' := 9) (a0 := (9, .inl (fun _ => 0))) hx hb (hts _ (gw kw_73 rfl)) hK hP hD hS hA (by decide) (by decide) (by decide) (Nat.le_of_ble_eq_true rfl) (Nat.le_of_ble_eq_true rfl) dX12_init_23 rfl (fun q_3 H hP hD hS => ?_)
  have hpd9 : PDx (dC, dI) classes A H [cO g0 12 [Value.ref q_1, Value.ref q_2, Value.null, Value.null, Value.null, Value.null, Value.int 0, Value.int 0, Value.int 0, Value.null, Value.null, Value.null, Value.null, Value.int 0, Value.int 0, Value.int 0, Value.null, Value.int 0, Value.int 0, Value.int 0, Value.null, Value.null, Value.null, Value.null, Value.null, Value.null, Value.null, Value.null, Value.int 0, Value.null, Value.null, Value.null, Value.null], cI aC q_1 7 (fun _ => 0), cI aC q_2 9 (fun _ => 0), cI aC q_3 9 (fun _ => 0)] := ⟨hP, hD⟩
  have hP := hpd9.1
  have hD := hpd9.2
  clear hpd9
  refine W.widen (k := 3) (n := 25) (by omega) (by omega) ?_
  refine va_putF (D := (dC, dI)) (ci := 12) (v := Value.ref q_3) (ty := .array .int) (C := RX12) (T := TX12) (N := 33) hx hb hts inX12 tyX12 tyX12_ok nmX12 hown hK hP hD hS 0 rfl rfl 2 (by decide) (hts _ (gw kw_719 rfl)) (fun _ h9 => h9) rfl hin rfl (by decide +kernel) rfl rfl (Nat.le_of_ble_eq_true rfl) dX12_init_25 (fun H locs hP hD hS => ?_)
  have hpd9 : PDx (dC, dI) classes A H [cO g0 12 [Value.ref q_1, Value.ref q_2, Value.ref q_3, Value.null, Value.null, Value.null, Value.int 0, Value.int 0, Value.int 0, Value.null, Value.null, Value.null, Value.null, Value.int 0, Value.int 0, Value.int 0, Value.null, Value.int 0, Value.int 0, Value.int 0, Value.null, Value.null, Value.null, Value.null, Value.null, Value.null, Value.null, Value.null, Value.int 0, Value.null, Value.null, Value.null, Value.null], cI aC q_1 7 (fun _ => 0), cI aC q_2 9 (fun _ => 0), cI aC q_3 9 (fun _ => 0)] := ⟨hP, hD⟩
  have hP := hpd9.1
  have hD := hpd9.2
  clear hpd9
  refine lv_aload_n hx hb dX12_init_28 rfl (lv_at hl 0 rfl) ?_
  refine lv_bipush (v := 9) hx hb dX12_init_29 (by decide) ?_
  refine va_newaI (N' := 9) (a0 := (9, .inl (fun _ => 0))) hx hb (hts _ (gw kw_73 rfl)) hK hP hD hS hA (by decide) (by decide) (by decide) (Nat.le_of_ble_eq_true rfl) (Nat.le_of_ble_eq_true rfl) dX12_init_31 rfl (fun q_4 H hP hD hS => ?_)
  have hpd9 : PDx (dC, dI) classes A H [cO g0 12 [Value.ref q_1, Value.ref q_2, Value.ref q_3, Value.null, Value.null, Value.null, Value.int 0, Value.int 0, Value.int 0, Value.null, Value.null, Value.null, Value.null, Value.int 0, Value.int 0, Value.int 0, Value.null, Value.int 0, Value.int 0, Value.int 0, Value.null, Value.null, Value.null, Value.null, Value.null, Value.null, Value.null, Value.null, Value.int 0, Value.null, Value.null, Value.null, Value.null], cI aC q_1 7 (fun _ => 0), cI aC q_2 9 (fun _ => 0), cI aC q_3 9 (fun _ => 0), cI aC q_4 9 (fun _ => 0)] := ⟨hP, hD⟩
  have hP := hpd9.1
  have hD := hpd9.2
  clear hpd9
  refine W.widen (k := 4) (n := 34) (by omega) (by omega) ?_
  refine va_putF (D := (dC, dI)) (ci := 12) (v := Value.ref q_4) (ty := .array .int) (C := RX12) (T := TX12) (N := 33) hx hb hts inX12 tyX12 tyX12_ok nmX12 hown hK hP hD hS 0 rfl rfl 3 (by decide) (hts _ (gw kw_720 rfl)) (fun _ h9 => h9) rfl hin rfl (by decide +kernel) rfl rfl (Nat.le_of_ble_eq_true rfl) dX12_init_33 (fun H locs hP hD hS => ?_)
  have hpd9 : PDx (dC, dI) classes A H [cO g0 12 [Value.ref q_1, Value.ref q_2, Value.ref q_3, Value.ref q_4, Value.null, Value.null, Value.int 0, Value.int 0, Value.int 0, Value.null, Value.null, Value.null, Value.null, Value.int 0, Value.int 0, Value.int 0, Value.null, Value.int 0, Value.int 0, Value.int 0, Value.null, Value.null, Value.null, Value.null, Value.null, Value.null, Value.null, Value.null, Value.int 0, Value.null, Value.null, Value.null, Value.null], cI aC q_1 7 (fun _ => 0), cI aC q_2 9 (fun _ => 0), cI aC q_3 9 (fun _ => 0), cI aC q_4 9 (fun _ => 0)] := ⟨hP, hD⟩
  have hP := hpd9.1
  have hD := hpd9.2
  clear hpd9
  refine lv_aload_n hx hb dX12_init_36 rfl (lv_at hl 0 rfl) ?_
  refine lv_bipush (v := 8) hx hb dX12_init_37 (by decide) ?_
  refine va_newaI (N' := 8) (a0 := (8, .inl (fun _ => 0))) hx hb (hts _ (gw kw_73 rfl)) hK hP hD hS hA (by decide) (by decide) (by decide) (Nat.le_of_ble_eq_true rfl) (Nat.le_of_ble_eq_true rfl) dX12_init_39 rfl (fun q_5 H hP hD hS => ?_)
  have hpd9 : PDx (dC, dI) classes A H [cO g0 12 [Value.ref q_1, Value.ref q_2, Value.ref q_3, Value.ref q_4, Value.null, Value.null, Value.int 0, Value.int 0, Value.int 0, Value.null, Value.null, Value.null, Value.null, Value.int 0, Value.int 0, Value.int 0, Value.null, Value.int 0, Value.int 0, Value.int 0, Value.null, Value.null, Value.null, Value.null, Value.null, Value.null, Value.null, Value.null, Value.int 0, Value.null, Value.null, Value.null, Value.null], cI aC q_1 7 (fun _ => 0), cI aC q_2 9 (fun _ => 0), cI aC q_3 9 (fun _ => 0), cI aC q_4 9 (fun _ => 0), cI aC q_5 8 (fun _ => 0)] := ⟨hP, hD⟩
  have hP := hpd9.1
  have hD := hpd9.2
  clear hpd9
  refine W.widen (k := 5) (n := 42) (by omega) (by omega) ?_
  refine va_putF (D := (dC, dI)) (ci := 12) (v := Value.ref q_5) (ty := .array .int) (C := RX12) (T := TX12) (N := 33) hx hb hts inX12 tyX12 tyX12_ok nmX12 hown hK hP hD hS 0 rfl rfl 4 (by decide) (hts _ (gw kw_721 rfl)) (fun _ h9 => h9) rfl hin rfl (by decide +kernel) rfl rfl (Nat.le_of_ble_eq_true rfl) dX12_init_41 (fun H locs hP hD hS => ?_)
  have hpd9 : PDx (dC, dI) classes A H [cO g0 12 [Value.ref q_1, Value.ref q_2, Value.ref q_3, Value.ref q_4, Value.ref q_5, Value.null, Value.int 0, Value.int 0, Value.int 0, Value.null, Value.null, Value.null, Value.null, Value.int 0, Value.int 0, Value.int 0, Value.null, Value.int 0, Value.int 0, Value.int 0, Value.null, Value.null, Value.null, Value.null, Value.null, Value.null, Value.null, Value.null, Value.int 0, Value.null, Value.null, Value.null, Value.null], cI aC q_1 7 (fun _ => 0), cI aC q_2 9 (fun _ => 0), cI aC q_3 9 (fun _ => 0), cI aC q_4 9 (fun _ => 0), cI aC q_5 8 (fun _ => 0)] := ⟨hP, hD⟩
  have hP := hpd9.1
  have hD := hpd9.2
  clear hpd9
  refine lv_aload_n hx hb dX12_init_44 rfl (lv_at hl 0 rfl) ?_
  refine lv_iconst (v := 5) hx hb dX12_init_45 (by decide) ?_
  refine va_newaI (N' := 5) (a0 := (5, .inl (fun _ => 0))) hx hb (hts _ (gw kw_73 rfl)) hK hP hD hS hA (by decide) (by decide) (by decide) (Nat.le_of_ble_eq_true rfl) (Nat.le_of_ble_eq_true rfl) dX12_init_46 rfl (fun q_6 H hP hD hS => ?_)
  have hpd9 : PDx (dC, dI) classes A H [cO g0 12 [Value.ref q_1, Value.ref q_2, Value.ref q_3, Value.ref q_4, Value.ref q_5, Value.null, Value.int 0, Value.int 0, Value.int 0, Value.null, Value.null, Value.null, Value.null, Value.int 0, Value.int 0, Value.int 0, Value.null, Value.int 0, Value.int 0, Value.int 0, Value.null, Value.null, Value.null, Value.null, Value.null, Value.null, Value.null, Value.null, Value.int 0, Value.null, Value.null, Value.null, Value.null], cI aC q_1 7 (fun _ => 0), cI aC q_2 9 (fun _ => 0), cI aC q_3 9 (fun _ => 0), cI aC q_4 9 (fun _ => 0), cI aC q_5 8 (fun _ => 0), cI aC q_6 5 (fun _ => 0)] := ⟨hP, hD⟩
  have hP := hpd9.1
  have hD := hpd9.2
  clear hpd9
  refine W.widen (k := 6) (n := 47) (by omega) (by omega) ?_
  refine lv_dup hx hb dX12_init_48 rfl ?_
  refine lv_iconst (v := 0) hx hb dX12_init_49 (by decide) ?_
  refine lv_bipush (v := 10) hx hb dX12_init_50 (by decide) ?_
  have h_7 : vp_in 0 5 := by first | exact vp_in_nI (by omega) (by omega) | (unfold vp_in; decide) | (subst_vars; first | (unfold vp_in; decide) | exact vp_in_nI (by omega) (by omega))
  refine va_iast hx hb hK hP hD hS 6 0 rfl rfl h_7 dX12_init_52 (fun H locs hP hD hS => ?_)
  obtain ⟨f_8, e_f_8⟩ : ∃ y : Nat → Int32, y = upd (fun _ => 0) (0 : Int32).toNatClampNeg 10 := ⟨_, rfl⟩
  have hpd9 : PDx (dC, dI) classes A H [cO g0 12 [Value.ref q_1, Value.ref q_2, Value.ref q_3, Value.ref q_4, Value.ref q_5, Value.null, Value.int 0, Value.int 0, Value.int 0, Value.null, Value.null, Value.null, Value.null, Value.int 0, Value.int 0, Value.int 0, Value.null, Value.int 0, Value.int 0, Value.int 0, Value.null, Value.null, Value.null, Value.null, Value.null, Value.null, Value.null, Value.null, Value.int 0, Value.null, Value.null, Value.null, Value.null], cI aC q_1 7 (fun _ => 0), cI aC q_2 9 (fun _ => 0), cI aC q_3 9 (fun _ => 0), cI aC q_4 9 (fun _ => 0), cI aC q_5 8 (fun _ => 0), cI aC q_6 5 f_8] := by rw [e_f_8]; exact ⟨hP, hD⟩
  have hP := hpd9.1
  have hD := hpd9.2
  clear hpd9
  refine lv_dup hx hb dX12_init_53 rfl ?_
  refine lv_iconst (v := 1) hx hb dX12_init_54 (by decide) ?_
  refine lv_iconst (v := 0) hx hb dX12_init_55 (by decide) ?_
  have h_9 : vp_in 1 5 := by first | exact vp_in_nI (by omega) (by omega) | (unfold vp_in; decide) | (subst_vars; first | (unfold vp_in; decide) | exact vp_in_nI (by omega) (by omega))
  refine va_iast hx hb hK hP hD hS 6 0 rfl rfl h_9 dX12_init_56 (fun H locs hP hD hS => ?_)
  obtain ⟨f_10, e_f_10⟩ : ∃ y : Nat → Int32, y = upd f_8 (1 : Int32).toNatClampNeg 0 := ⟨_, rfl⟩
  have hpd9 : PDx (dC, dI) classes A H [cO g0 12 [Value.ref q_1, Value.ref q_2, Value.ref q_3, Value.ref q_4, Value.ref q_5, Value.null, Value.int 0, Value.int 0, Value.int 0, Value.null, Value.null, Value.null, Value.null, Value.int 0, Value.int 0, Value.int 0, Value.null, Value.int 0, Value.int 0, Value.int 0, Value.null, Value.null, Value.null, Value.null, Value.null, Value.null, Value.null, Value.null, Value.int 0, Value.null, Value.null, Value.null, Value.null], cI aC q_1 7 (fun _ => 0), cI aC q_2 9 (fun _ => 0), cI aC q_3 9 (fun _ => 0), cI aC q_4 9 (fun _ => 0), cI aC q_5 8 (fun _ => 0), cI aC q_6 5 f_10] := by rw [e_f_10]; exact ⟨hP, hD⟩
  have hP := hpd9.1
  have hD := hpd9.2
  clear hpd9
  refine lv_dup hx hb dX12_init_57 rfl ?_
  refine lv_iconst (v := 2) hx hb dX12_init_58 (by decide) ?_
  refine lv_iconst (v := 0) hx hb dX12_init_59 (by decide) ?_
  have h_11 : vp_in 2 5 := by first | exact vp_in_nI (by omega) (by omega) | (unfold vp_in; decide) | (subst_vars; first | (unfold vp_in; decide) | exact vp_in_nI (by omega) (by omega))
  refine va_iast hx hb hK hP hD hS 6 0 rfl rfl h_11 dX12_init_60 (fun H locs hP hD hS => ?_)
  obtain ⟨f_12, e_f_12⟩ : ∃ y : Nat → Int32, y = upd f_10 (2 : Int32).toNatClampNeg 0 := ⟨_, rfl⟩
  have hpd9 : PDx (dC, dI) classes A H [cO g0 12 [Value.ref q_1, Value.ref q_2, Value.ref q_3, Value.ref q_4, Value.ref q_5, Value.null, Value.int 0, Value.int 0, Value.int 0, Value.null, Value.null, Value.null, Value.null, Value.int 0, Value.int 0, Value.int 0, Value.null, Value.int 0, Value.int 0, Value.int 0, Value.null, Value.null, Value.null, Value.null, Value.null, Value.null, Value.null, Value.null, Value.int 0, Value.null, Value.null, Value.null, Value.null], cI aC q_1 7 (fun _ => 0), cI aC q_2 9 (fun _ => 0), cI aC q_3 9 (fun _ => 0), cI aC q_4 9 (fun _ => 0), cI aC q_5 8 (fun _ => 0), cI aC q_6 5 f_12] := by rw [e_f_12]; exact ⟨hP, hD⟩
  have hP := hpd9.1
  have hD := hpd9.2
  clear hpd9
  refine lv_dup hx hb dX12_init_61 rfl ?_
  refine lv_iconst (v := 3) hx hb dX12_init_62 (by decide) ?_
  refine lv_iconst (v := 0) hx hb dX12_init_63 (by decide) ?_
  have h_13 : vp_in 3 5 := by first | exact vp_in_nI (by omega) (by omega) | (unfold vp_in; decide) | (subst_vars; first | (unfold vp_in; decide) | exact vp_in_nI (by omega) (by omega))
  refine va_iast hx hb hK hP hD hS 6 0 rfl rfl h_13 dX12_init_64 (fun H locs hP hD hS => ?_)
  obtain ⟨f_14, e_f_14⟩ : ∃ y : Nat → Int32, y = upd f_12 (3 : Int32).toNatClampNeg 0 := ⟨_, rfl⟩
  have hpd9 : PDx (dC, dI) classes A H [cO g0 12 [Value.ref q_1, Value.ref q_2, Value.ref q_3, Value.ref q_4, Value.ref q_5, Value.null, Value.int 0, Value.int 0, Value.int 0, Value.null, Value.null, Value.null, Value.null, Value.int 0, Value.int 0, Value.int 0, Value.null, Value.int 0, Value.int 0, Value.int 0, Value.null, Value.null, Value.null, Value.null, Value.null, Value.null, Value.null, Value.null, Value.int 0, Value.null, Value.null, Value.null, Value.null], cI aC q_1 7 (fun _ => 0), cI aC q_2 9 (fun _ => 0), cI aC q_3 9 (fun _ => 0), cI aC q_4 9 (fun _ => 0), cI aC q_5 8 (fun _ => 0), cI aC q_6 5 f_14] := by rw [e_f_14]; exact ⟨hP, hD⟩
  have hP := hpd9.1
  have hD := hpd9.2
  clear hpd9
  refine lv_dup hx hb dX12_init_65 rfl ?_
  refine lv_iconst (v := 4) hx hb dX12_init_66 (by decide) ?_
  refine lv_bipush (v := 10) hx hb dX12_init_67 (by decide) ?_
  have h_15 : vp_in 4 5 := by first | exact vp_in_nI (by omega) (by omega) | (unfold vp_in; decide) | (subst_vars; first | (unfold vp_in; decide) | exact vp_in_nI (by omega) (by omega))
  refine va_iast hx hb hK hP hD hS 6 0 rfl rfl h_15 dX12_init_69 (fun H locs hP hD hS => ?_)
  obtain ⟨f_16, e_f_16⟩ : ∃ y : Nat → Int32, y = upd f_14 (4 : Int32).toNatClampNeg 10 := ⟨_, rfl⟩
  have hpd9 : PDx (dC, dI) classes A H [cO g0 12 [Value.ref q_1, Value.ref q_2, Value.ref q_3, Value.ref q_4, Value.ref q_5, Value.null, Value.int 0, Value.int 0, Value.int 0, Value.null, Value.null, Value.null, Value.null, Value.int 0, Value.int 0, Value.int 0, Value.null, Value.int 0, Value.int 0, Value.int 0, Value.null, Value.null, Value.null, Value.null, Value.null, Value.null, Value.null, Value.null, Value.int 0, Value.null, Value.null, Value.null, Value.null], cI aC q_1 7 (fun _ => 0), cI aC q_2 9 (fun _ => 0), cI aC q_3 9 (fun _ => 0), cI aC q_4 9 (fun _ => 0), cI aC q_5 8 (fun _ => 0), cI aC q_6 5 f_16] := by rw [e_f_16]; exact ⟨hP, hD⟩
  have hP := hpd9.1
  have hD := hpd9.2
  clear hpd9
  refine va_putF (D := (dC, dI)) (ci := 12) (v := Value.ref q_6) (ty := .array .int) (C := RX12) (T := TX12) (N := 33) hx hb hts inX12 tyX12 tyX12_ok nmX12 hown hK hP hD hS 0 rfl rfl 5 (by decide) (hts _ (gw kw_722 rfl)) (fun _ h9 => h9) rfl hin rfl (by decide +kernel) rfl rfl (Nat.le_of_ble_eq_true rfl) dX12_init_70 (fun H locs hP hD hS => ?_)
  have hpd9 : PDx (dC, dI) classes A H [cO g0 12 [Value.ref q_1, Value.ref q_2, Value.ref q_3, Value.ref q_4, Value.ref q_5, Value.ref q_6, Value.int 0, Value.int 0, Value.int 0, Value.null, Value.null, Value.null, Value.null, Value.int 0, Value.int 0, Value.int 0, Value.null, Value.int 0, Value.int 0, Value.int 0, Value.null, Value.null, Value.null, Value.null, Value.null, Value.null, Value.null, Value.null, Value.int 0, Value.null, Value.null, Value.null, Value.null], cI aC q_1 7 (fun _ => 0), cI aC q_2 9 (fun _ => 0), cI aC q_3 9 (fun _ => 0), cI aC q_4 9 (fun _ => 0), cI aC q_5 8 (fun _ => 0), cI aC q_6 5 f_16] := ⟨hP, hD⟩
  have hP := hpd9.1
  have hD := hpd9.2
  clear hpd9
  refine lv_aload_n hx hb dX12_init_73 rfl (lv_at hl 0 rfl) ?_
  refine lv_bipush (v := 64) hx hb dX12_init_74 (by decide) ?_
  refine va_newaI (N' := 64) (a0 := (64, .inl (fun _ => 0))) hx hb (hts _ (gw kw_73 rfl)) hK hP hD hS hA (by decide) (by decide) (by decide) (Nat.le_of_ble_eq_true rfl) (Nat.le_of_ble_eq_true rfl) dX12_init_76 rfl (fun q_17 H hP hD hS => ?_)
  have hpd9 : PDx (dC, dI) classes A H [cO g0 12 [Value.ref q_1, Value.ref q_2, Value.ref q_3, Value.ref q_4, Value.ref q_5, Value.ref q_6, Value.int 0, Value.int 0, Value.int 0, Value.null, Value.null, Value.null, Value.null, Value.int 0, Value.int 0, Value.int 0, Value.null, Value.int 0, Value.int 0, Value.int 0, Value.null, Value.null, Value.null, Value.null, Value.null, Value.null, Value.null, Value.null, Value.int 0, Value.null, Value.null, Value.null, Value.null], cI aC q_1 7 (fun _ => 0), cI aC q_2 9 (fun _ => 0), cI aC q_3 9 (fun _ => 0), cI aC q_4 9 (fun _ => 0), cI aC q_5 8 (fun _ => 0), cI aC q_6 5 f_16, cI aC q_17 64 (fun _ => 0)] := ⟨hP, hD⟩
  have hP := hpd9.1
  have hD := hpd9.2
  clear hpd9
  refine W.widen (k := 7) (n := 111) (by omega) (by omega) ?_
  refine va_putF (D := (dC, dI)) (ci := 12) (v := Value.ref q_17) (ty := .array .int) (C := RX12) (T := TX12) (N := 33) hx hb hts inX12 tyX12 tyX12_ok nmX12 hown hK hP hD hS 0 rfl rfl 9 (by decide) (hts _ (gw kw_726 rfl)) (fun _ h9 => h9) rfl hin rfl (by decide +kernel) rfl rfl (Nat.le_of_ble_eq_true rfl) dX12_init_78 (fun H locs hP hD hS => ?_)
  have hpd9 : PDx (dC, dI) classes A H [cO g0 12 [Value.ref q_1, Value.ref q_2, Value.ref q_3, Value.ref q_4, Value.ref q_5, Value.ref q_6, Value.int 0, Value.int 0, Value.int 0, Value.ref q_17, Value.null, Value.null, Value.null, Value.int 0, Value.int 0, Value.int 0, Value.null, Value.int 0, Value.int 0, Value.int 0, Value.null, Value.null, Value.null, Value.null, Value.null, Value.null, Value.null, Value.null, Value.int 0, Value.null, Value.null, Value.null, Value.null], cI aC q_1 7 (fun _ => 0), cI aC q_2 9 (fun _ => 0), cI aC q_3 9 (fun _ => 0), cI aC q_4 9 (fun _ => 0), cI aC q_5 8 (fun _ => 0), cI aC q_6 5 f_16, cI aC q_17 64 (fun _ => 0)] := ⟨hP, hD⟩
  have hP := hpd9.1
  have hD := hpd9.2
  clear hpd9
  refine lv_aload_n hx hb dX12_init_81 rfl (lv_at hl 0 rfl) ?_
  refine lv_bipush (v := 32) hx hb dX12_init_82 (by decide) ?_
  refine va_newaI (N' := 32) (a0 := (32, .inl (fun _ => 0))) hx hb (hts _ (gw kw_73 rfl)) hK hP hD hS hA (by decide) (by decide) (by decide) (Nat.le_of_ble_eq_true rfl) (Nat.le_of_ble_eq_true rfl) dX12_init_84 rfl (fun q_18 H hP hD hS => ?_)
  have hpd9 : PDx (dC, dI) classes A H [cO g0 12 [Value.ref q_1, Value.ref q_2, Value.ref q_3, Value.ref q_4, Value.ref q_5, Value.ref q_6, Value.int 0, Value.int 0, Value.int 0, Value.ref q_17, Value.null, Value.null, Value.null, Value.int 0, Value.int 0, Value.int 0, Value.null, Value.int 0, Value.int 0, Value.int 0, Value.null, Value.null, Value.null, Value.null, Value.null, Value.null, Value.null, Value.null, Value.int 0, Value.null, Value.null, Value.null, Value.null], cI aC q_1 7 (fun _ => 0), cI aC q_2 9 (fun _ => 0), cI aC q_3 9 (fun _ => 0), cI aC q_4 9 (fun _ => 0), cI aC q_5 8 (fun _ => 0), cI aC q_6 5 f_16, cI aC q_17 64 (fun _ => 0), cI aC q_18 32 (fun _ => 0)] := ⟨hP, hD⟩
  have hP := hpd9.1
  have hD := hpd9.2
  clear hpd9
  refine W.widen (k := 8) (n := 143) (by omega) (by omega) ?_
  refine va_putF (D := (dC, dI)) (ci := 12) (v := Value.ref q_18) (ty := .array .int) (C := RX12) (T := TX12) (N := 33) hx hb hts inX12 tyX12 tyX12_ok nmX12 hown hK hP hD hS 0 rfl rfl 10 (by decide) (hts _ (gw kw_727 rfl)) (fun _ h9 => h9) rfl hin rfl (by decide +kernel) rfl rfl (Nat.le_of_ble_eq_true rfl) dX12_init_86 (fun H locs hP hD hS => ?_)
  have hpd9 : PDx (dC, dI) classes A H [cO g0 12 [Value.ref q_1, Value.ref q_2, Value.ref q_3, Value.ref q_4, Value.ref q_5, Value.ref q_6, Value.int 0, Value.int 0, Value.int 0, Value.ref q_17, Value.ref q_18, Value.null, Value.null, Value.int 0, Value.int 0, Value.int 0, Value.null, Value.int 0, Value.int 0, Value.int 0, Value.null, Value.null, Value.null, Value.null, Value.null, Value.null, Value.null, Value.null, Value.int 0, Value.null, Value.null, Value.null, Value.null], cI aC q_1 7 (fun _ => 0), cI aC q_2 9 (fun _ => 0), cI aC q_3 9 (fun _ => 0), cI aC q_4 9 (fun _ => 0), cI aC q_5 8 (fun _ => 0), cI aC q_6 5 f_16, cI aC q_17 64 (fun _ => 0), cI aC q_18 32 (fun _ => 0)] := ⟨hP, hD⟩
  have hP := hpd9.1
  have hD := hpd9.2
  clear hpd9
  refine lv_aload_n hx hb dX12_init_89 rfl (lv_at hl 0 rfl) ?_
  refine lv_bipush (v := 32) hx hb dX12_init_90 (by decide) ?_
  refine va_newaI (N' := 32) (a0 := (32, .inl (fun _ => 0))) hx hb (hts _ (gw kw_73 rfl)) hK hP hD hS hA (by decide) (by decide) (by decide) (Nat.le_of_ble_eq_true rfl) (Nat.le_of_ble_eq_true rfl) dX12_init_92 rfl (fun q_19 H hP hD hS => ?_)
  have hpd9 : PDx (dC, dI) classes A H [cO g0 12 [Value.ref q_1, Value.ref q_2, Value.ref q_3, Value.ref q_4, Value.ref q_5, Value.ref q_6, Value.int 0, Value.int 0, Value.int 0, Value.ref q_17, Value.ref q_18, Value.null, Value.null, Value.int 0, Value.int 0, Value.int 0, Value.null, Value.int 0, Value.int 0, Value.int 0, Value.null, Value.null, Value.null, Value.null, Value.null, Value.null, Value.null, Value.null, Value.int 0, Value.null, Value.null, Value.null, Value.null], cI aC q_1 7 (fun _ => 0), cI aC q_2 9 (fun _ => 0), cI aC q_3 9 (fun _ => 0), cI aC q_4 9 (fun _ => 0), cI aC q_5 8 (fun _ => 0), cI aC q_6 5 f_16, cI aC q_17 64 (fun _ => 0), cI aC q_18 32 (fun _ => 0), cI aC q_19 32 (fun _ => 0)] := ⟨hP, hD⟩
  have hP := hpd9.1
  have hD := hpd9.2
  clear hpd9
  refine W.widen (k := 9) (n := 175) (by omega) (by omega) ?_
  refine va_putF (D := (dC, dI)) (ci := 12) (v := Value.ref q_19) (ty := .array .int) (C := RX12) (T := TX12) (N := 33) hx hb hts inX12 tyX12 tyX12_ok nmX12 hown hK hP hD hS 0 rfl rfl 11 (by decide) (hts _ (gw kw_728 rfl)) (fun _ h9 => h9) rfl hin rfl (by decide +kernel) rfl rfl (Nat.le_of_ble_eq_true rfl) dX12_init_94 (fun H locs hP hD hS => ?_)
  have hpd9 : PDx (dC, dI) classes A H [cO g0 12 [Value.ref q_1, Value.ref q_2, Value.ref q_3, Value.ref q_4, Value.ref q_5, Value.ref q_6, Value.int 0, Value.int 0, Value.int 0, Value.ref q_17, Value.ref q_18, Value.ref q_19, Value.null, Value.int 0, Value.int 0, Value.int 0, Value.null, Value.int 0, Value.int 0, Value.int 0, Value.null, Value.null, Value.null, Value.null, Value.null, Value.null, Value.null, Value.null, Value.int 0, Value.null, Value.null, Value.null, Value.null], cI aC q_1 7 (fun _ => 0), cI aC q_2 9 (fun _ => 0), cI aC q_3 9 (fun _ => 0), cI aC q_4 9 (fun _ => 0), cI aC q_5 8 (fun _ => 0), cI aC q_6 5 f_16, cI aC q_17 64 (fun _ => 0), cI aC q_18 32 (fun _ => 0), cI aC q_19 32 (fun _ => 0)] := ⟨hP, hD⟩
  have hP := hpd9.1
  have hD := hpd9.2
  clear hpd9
  refine lv_aload_n hx hb dX12_init_97 rfl (lv_at hl 0 rfl) ?_
  refine lv_bipush (v := 96) hx hb dX12_init_98 (by decide) ?_
  refine va_newaI (N' := 96) (a0 := (96, .inl (fun _ => 0))) hx hb (hts _ (gw kw_73 rfl)) hK hP hD hS hA (by decide) (by decide) (by decide) (Nat.le_of_ble_eq_true rfl) (Nat.le_of_ble_eq_true rfl) dX12_init_100 rfl (fun q_20 H hP hD hS => ?_)
  have hpd9 : PDx (dC, dI) classes A H [cO g0 12 [Value.ref q_1, Value.ref q_2, Value.ref q_3, Value.ref q_4, Value.ref q_5, Value.ref q_6, Value.int 0, Value.int 0, Value.int 0, Value.ref q_17, Value.ref q_18, Value.ref q_19, Value.null, Value.int 0, Value.int 0, Value.int 0, Value.null, Value.int 0, Value.int 0, Value.int 0, Value.null, Value.null, Value.null, Value.null, Value.null, Value.null, Value.null, Value.null, Value.int 0, Value.null, Value.null, Value.null, Value.null], cI aC q_1 7 (fun _ => 0), cI aC q_2 9 (fun _ => 0), cI aC q_3 9 (fun _ => 0), cI aC q_4 9 (fun _ => 0), cI aC q_5 8 (fun _ => 0), cI aC q_6 5 f_16, cI aC q_17 64 (fun _ => 0), cI aC q_18 32 (fun _ => 0), cI aC q_19 32 (fun _ => 0), cI aC q_20 96 (fun _ => 0)] := ⟨hP, hD⟩
  have hP := hpd9.1
  have hD := hpd9.2
  clear hpd9
  refine W.widen (k := 10) (n := 271) (by omega) (by omega) ?_
  refine va_putF (D := (dC, dI)) (ci := 12) (v := Value.ref q_20) (ty := .array .int) (C := RX12) (T := TX12) (N := 33) hx hb hts inX12 tyX12 tyX12_ok nmX12 hown hK hP hD hS 0 rfl rfl 12 (by decide) (hts _ (gw kw_729 rfl)) (fun _ h9 => h9) rfl hin rfl (by decide +kernel) rfl rfl (Nat.le_of_ble_eq_true rfl) dX12_init_102 (fun H locs hP hD hS => ?_)
  have hpd9 : PDx (dC, dI) classes A H [cO g0 12 [Value.ref q_1, Value.ref q_2, Value.ref q_3, Value.ref q_4, Value.ref q_5, Value.ref q_6, Value.int 0, Value.int 0, Value.int 0, Value.ref q_17, Value.ref q_18, Value.ref q_19, Value.ref q_20, Value.int 0, Value.int 0, Value.int 0, Value.null, Value.int 0, Value.int 0, Value.int 0, Value.null, Value.null, Value.null, Value.null, Value.null, Value.null, Value.null, Value.null, Value.int 0, Value.null, Value.null, Value.null, Value.null], cI aC q_1 7 (fun _ => 0), cI aC q_2 9 (fun _ => 0), cI aC q_3 9 (fun _ => 0), cI aC q_4 9 (fun _ => 0), cI aC q_5 8 (fun _ => 0), cI aC q_6 5 f_16, cI aC q_17 64 (fun _ => 0), cI aC q_18 32 (fun _ => 0), cI aC q_19 32 (fun _ => 0), cI aC q_20 96 (fun _ => 0)] := ⟨hP, hD⟩
  have hP := hpd9.1
  have hD := hpd9.2
  clear hpd9
  refine lv_aload_n hx hb dX12_init_105 rfl (lv_at hl 0 rfl) ?_
  refine lv_bipush (v := 100) hx hb dX12_init_106 (by decide) ?_
  refine va_newaI (N' := 100) (a0 := (100, .inl (fun _ => 0))) hx hb (hts _ (gw kw_73 rfl)) hK hP hD hS hA (by decide) (by decide) (by decide) (Nat.le_of_ble_eq_true rfl) (Nat.le_of_ble_eq_true rfl) dX12_init_108 rfl (fun q_21 H hP hD hS => ?_)
  have hpd9 : PDx (dC, dI) classes A H [cO g0 12 [Value.ref q_1, Value.ref q_2, Value.ref q_3, Value.ref q_4, Value.ref q_5, Value.ref q_6, Value.int 0, Value.int 0, Value.int 0, Value.ref q_17, Value.ref q_18, Value.ref q_19, Value.ref q_20, Value.int 0, Value.int 0, Value.int 0, Value.null, Value.int 0, Value.int 0, Value.int 0, Value.null, Value.null, Value.null, Value.null, Value.null, Value.null, Value.null, Value.null, Value.int 0, Value.null, Value.null, Value.null, Value.null], cI aC q_1 7 (fun _ => 0), cI aC q_2 9 (fun _ => 0), cI aC q_3 9 (fun _ => 0), cI aC q_4 9 (fun _ => 0), cI aC q_5 8 (fun _ => 0), cI aC q_6 5 f_16, cI aC q_17 64 (fun _ => 0), cI aC q_18 32 (fun _ => 0), cI aC q_19 32 (fun _ => 0), cI aC q_20 96 (fun _ => 0), cI aC q_21 100 (fun _ => 0)] := ⟨hP, hD⟩
  have hP := hpd9.1
  have hD := hpd9.2
  clear hpd9
  refine W.widen (k := 11) (n := 371) (by omega) (by omega) ?_
  refine va_putF (D := (dC, dI)) (ci := 12) (v := Value.ref q_21) (ty := .array .int) (C := RX12) (T := TX12) (N := 33) hx hb hts inX12 tyX12 tyX12_ok nmX12 hown hK hP hD hS 0 rfl rfl 16 (by decide) (hts _ (gw kw_733 rfl)) (fun _ h9 => h9) rfl hin rfl (by decide +kernel) rfl rfl (Nat.le_of_ble_eq_true rfl) dX12_init_110 (fun H locs hP hD hS => ?_)
  have hpd9 : PDx (dC, dI) classes A H [cO g0 12 [Value.ref q_1, Value.ref q_2, Value.ref q_3, Value.ref q_4, Value.ref q_5, Value.ref q_6, Value.int 0, Value.int 0, Value.int 0, Value.ref q_17, Value.ref q_18, Value.ref q_19, Value.ref q_20, Value.int 0, Value.int 0, Value.int 0, Value.ref q_21, Value.int 0, Value.int 0, Value.int 0, Value.null, Value.null, Value.null, Value.null, Value.null, Value.null, Value.null, Value.null, Value.int 0, Value.null, Value.null, Value.null, Value.null], cI aC q_1 7 (fun _ => 0), cI aC q_2 9 (fun _ => 0), cI aC q_3 9 (fun _ => 0), cI aC q_4 9 (fun _ => 0), cI aC q_5 8 (fun _ => 0), cI aC q_6 5 f_16, cI aC q_17 64 (fun _ => 0), cI aC q_18 32 (fun _ => 0), cI aC q_19 32 (fun _ => 0), cI aC q_20 96 (fun _ => 0), cI aC q_21 100 (fun _ => 0)] := ⟨hP, hD⟩
  have hP := hpd9.1
  have hD := hpd9.2
  clear hpd9
  refine lv_aload_n hx hb dX12_init_113 rfl (lv_at hl 0 rfl) ?_
  refine lv_bipush (v := 81) hx hb dX12_init_114 (by decide) ?_
  refine va_newaI (N' := 81) (a0 := (81, .inl (fun _ => 0))) hx hb (hts _ (gw kw_73 rfl)) hK hP hD hS hA (by decide) (by decide) (by decide) (Nat.le_of_ble_eq_true rfl) (Nat.le_of_ble_eq_true rfl) dX12_init_116 rfl (fun q_22 H hP hD hS => ?_)
  have hpd9 : PDx (dC, dI) classes A H [cO g0 12 [Value.ref q_1, Value.ref q_2, Value.ref q_3, Value.ref q_4, Value.ref q_5, Value.ref q_6, Value.int 0, Value.int 0, Value.int 0, Value.ref q_17, Value.ref q_18, Value.ref q_19, Value.ref q_20, Value.int 0, Value.int 0, Value.int 0, Value.ref q_21, Value.int 0, Value.int 0, Value.int 0, Value.null, Value.null, Value.null, Value.null, Value.null, Value.null, Value.null, Value.null, Value.int 0, Value.null, Value.null, Value.null, Value.null], cI aC q_1 7 (fun _ => 0), cI aC q_2 9 (fun _ => 0), cI aC q_3 9 (fun _ => 0), cI aC q_4 9 (fun _ => 0), cI aC q_5 8 (fun _ => 0), cI aC q_6 5 f_16, cI aC q_17 64 (fun _ => 0), cI aC q_18 32 (fun _ => 0), cI aC q_19 32 (fun _ => 0), cI aC q_20 96 (fun _ => 0), cI aC q_21 100 (fun _ => 0), cI aC q_22 81 (fun _ => 0)] := ⟨hP, hD⟩
  have hP := hpd9.1
  have hD := hpd9.2
  clear hpd9
  refine W.widen (k := 12) (n := 452) (by omega) (by omega) ?_
  refine va_putF (D := (dC, dI)) (ci := 12) (v := Value.ref q_22) (ty := .array .int) (C := RX12) (T := TX12) (N := 33) hx hb hts inX12 tyX12 tyX12_ok nmX12 hown hK hP hD hS 0 rfl rfl 20 (by decide) (hts _ (gw kw_737 rfl)) (fun _ h9 => h9) rfl hin rfl (by decide +kernel) rfl rfl (Nat.le_of_ble_eq_true rfl) dX12_init_118 (fun H locs hP hD hS => ?_)
  have hpd9 : PDx (dC, dI) classes A H [cO g0 12 [Value.ref q_1, Value.ref q_2, Value.ref q_3, Value.ref q_4, Value.ref q_5, Value.ref q_6, Value.int 0, Value.int 0, Value.int 0, Value.ref q_17, Value.ref q_18, Value.ref q_19, Value.ref q_20, Value.int 0, Value.int 0, Value.int 0, Value.ref q_21, Value.int 0, Value.int 0, Value.int 0, Value.ref q_22, Value.null, Value.null, Value.null, Value.null, Value.null, Value.null, Value.null, Value.int 0, Value.null, Value.null, Value.null, Value.null], cI aC q_1 7 (fun _ => 0), cI aC q_2 9 (fun _ => 0), cI aC q_3 9 (fun _ => 0), cI aC q_4 9 (fun _ => 0), cI aC q_5 8 (fun _ => 0), cI aC q_6 5 f_16, cI aC q_17 64 (fun _ => 0), cI aC q_18 32 (fun _ => 0), cI aC q_19 32 (fun _ => 0), cI aC q_20 96 (fun _ => 0), cI aC q_21 100 (fun _ => 0), cI aC q_22 81 (fun _ => 0)] := ⟨hP, hD⟩
  have hP := hpd9.1
  have hD := hpd9.2
  clear hpd9
  refine lv_aload_n hx hb dX12_init_121 rfl (lv_at hl 0 rfl) ?_
  refine lv_bipush (v := 81) hx hb dX12_init_122 (by decide) ?_
  refine va_newaI (N' := 81) (a0 := (81, .inl (fun _ => 0))) hx hb (hts _ (gw kw_73 rfl)) hK hP hD hS hA (by decide) (by decide) (by decide) (Nat.le_of_ble_eq_true rfl) (Nat.le_of_ble_eq_true rfl) dX12_init_124 rfl (fun q_23 H hP hD hS => ?_)
  have hpd9 : PDx (dC, dI) classes A H [cO g0 12 [Value.ref q_1, Value.ref q_2, Value.ref q_3, Value.ref q_4, Value.ref q_5, Value.ref q_6, Value.int 0, Value.int 0, Value.int 0, Value.ref q_17, Value.ref q_18, Value.ref q_19, Value.ref q_20, Value.int 0, Value.int 0, Value.int 0, Value.ref q_21, Value.int 0, Value.int 0, Value.int 0, Value.ref q_22, Value.null, Value.null, Value.null, Value.null, Value.null, Value.null, Value.null, Value.int 0, Value.null, Value.null, Value.null, Value.null], cI aC q_1 7 (fun _ => 0), cI aC q_2 9 (fun _ => 0), cI aC q_3 9 (fun _ => 0), cI aC q_4 9 (fun _ => 0), cI aC q_5 8 (fun _ => 0), cI aC q_6 5 f_16, cI aC q_17 64 (fun _ => 0), cI aC q_18 32 (fun _ => 0), cI aC q_19 32 (fun _ => 0), cI aC q_20 96 (fun _ => 0), cI aC q_21 100 (fun _ => 0), cI aC q_22 81 (fun _ => 0), cI aC q_23 81 (fun _ => 0)] := ⟨hP, hD⟩
  have hP := hpd9.1
  have hD := hpd9.2
  clear hpd9
  refine W.widen (k := 13) (n := 533) (by omega) (by omega) ?_
  refine va_putF (D := (dC, dI)) (ci := 12) (v := Value.ref q_23) (ty := .array .int) (C := RX12) (T := TX12) (N := 33) hx hb hts inX12 tyX12 tyX12_ok nmX12 hown hK hP hD hS 0 rfl rfl 21 (by decide) (hts _ (gw kw_738 rfl)) (fun _ h9 => h9) rfl hin rfl (by decide +kernel) rfl rfl (Nat.le_of_ble_eq_true rfl) dX12_init_126 (fun H locs hP hD hS => ?_)
  have hpd9 : PDx (dC, dI) classes A H [cO g0 12 [Value.ref q_1, Value.ref q_2, Value.ref q_3, Value.ref q_4, Value.ref q_5, Value.ref q_6, Value.int 0, Value.int 0, Value.int 0, Value.ref q_17, Value.ref q_18, Value.ref q_19, Value.ref q_20, Value.int 0, Value.int 0, Value.int 0, Value.ref q_21, Value.int 0, Value.int 0, Value.int 0, Value.ref q_22, Value.ref q_23, Value.null, Value.null, Value.null, Value.null, Value.null, Value.null, Value.int 0, Value.null, Value.null, Value.null, Value.null], cI aC q_1 7 (fun _ => 0), cI aC q_2 9 (fun _ => 0), cI aC q_3 9 (fun _ => 0), cI aC q_4 9 (fun _ => 0), cI aC q_5 8 (fun _ => 0), cI aC q_6 5 f_16, cI aC q_17 64 (fun _ => 0), cI aC q_18 32 (fun _ => 0), cI aC q_19 32 (fun _ => 0), cI aC q_20 96 (fun _ => 0), cI aC q_21 100 (fun _ => 0), cI aC q_22 81 (fun _ => 0), cI aC q_23 81 (fun _ => 0)] := ⟨hP, hD⟩
  have hP := hpd9.1
  have hD := hpd9.2
  clear hpd9
  refine lv_aload_n hx hb dX12_init_129 rfl (lv_at hl 0 rfl) ?_
  refine lv_bipush (v := 90) hx hb dX12_init_130 (by decide) ?_
  refine va_newaI (N' := 90) (a0 := (90, .inl (fun _ => 0))) hx hb (hts _ (gw kw_73 rfl)) hK hP hD hS hA (by decide) (by decide) (by decide) (Nat.le_of_ble_eq_true rfl) (Nat.le_of_ble_eq_true rfl) dX12_init_132 rfl (fun q_24 H hP hD hS => ?_)
  have hpd9 : PDx (dC, dI) classes A H [cO g0 12 [Value.ref q_1, Value.ref q_2, Value.ref q_3, Value.ref q_4, Value.ref q_5, Value.ref q_6, Value.int 0, Value.int 0, Value.int 0, Value.ref q_17, Value.ref q_18, Value.ref q_19, Value.ref q_20, Value.int 0, Value.int 0, Value.int 0, Value.ref q_21, Value.int 0, Value.int 0, Value.int 0, Value.ref q_22, Value.ref q_23, Value.null, Value.null, Value.null, Value.null, Value.null, Value.null, Value.int 0, Value.null, Value.null, Value.null, Value.null], cI aC q_1 7 (fun _ => 0), cI aC q_2 9 (fun _ => 0), cI aC q_3 9 (fun _ => 0), cI aC q_4 9 (fun _ => 0), cI aC q_5 8 (fun _ => 0), cI aC q_6 5 f_16, cI aC q_17 64 (fun _ => 0), cI aC q_18 32 (fun _ => 0), cI aC q_19 32 (fun _ => 0), cI aC q_20 96 (fun _ => 0), cI aC q_21 100 (fun _ => 0), cI aC q_22 81 (fun _ => 0), cI aC q_23 81 (fun _ => 0), cI aC q_24 90 (fun _ => 0)] := ⟨hP, hD⟩
  have hP := hpd9.1
  have hD := hpd9.2
  clear hpd9
  refine W.widen (k := 14) (n := 623) (by omega) (by omega) ?_
  refine va_putF (D := (dC, dI)) (ci := 12) (v := Value.ref q_24) (ty := .array .int) (C := RX12) (T := TX12) (N := 33) hx hb hts inX12 tyX12 tyX12_ok nmX12 hown hK hP hD hS 0 rfl rfl 22 (by decide) (hts _ (gw kw_739 rfl)) (fun _ h9 => h9) rfl hin rfl (by decide +kernel) rfl rfl (Nat.le_of_ble_eq_true rfl) dX12_init_134 (fun H locs hP hD hS => ?_)
  have hpd9 : PDx (dC, dI) classes A H [cO g0 12 [Value.ref q_1, Value.ref q_2, Value.ref q_3, Value.ref q_4, Value.ref q_5, Value.ref q_6, Value.int 0, Value.int 0, Value.int 0, Value.ref q_17, Value.ref q_18, Value.ref q_19, Value.ref q_20, Value.int 0, Value.int 0, Value.int 0, Value.ref q_21, Value.int 0, Value.int 0, Value.int 0, Value.ref q_22, Value.ref q_23, Value.ref q_24, Value.null, Value.null, Value.null, Value.null, Value.null, Value.int 0, Value.null, Value.null, Value.null, Value.null], cI aC q_1 7 (fun _ => 0), cI aC q_2 9 (fun _ => 0), cI aC q_3 9 (fun _ => 0), cI aC q_4 9 (fun _ => 0), cI aC q_5 8 (fun _ => 0), cI aC q_6 5 f_16, cI aC q_17 64 (fun _ => 0), cI aC q_18 32 (fun _ => 0), cI aC q_19 32 (fun _ => 0), cI aC q_20 96 (fun _ => 0), cI aC q_21 100 (fun _ => 0), cI aC q_22 81 (fun _ => 0), cI aC q_23 81 (fun _ => 0), cI aC q_24 90 (fun _ => 0)] := ⟨hP, hD⟩
  have hP := hpd9.1
  have hD := hpd9.2
  clear hpd9
  refine lv_aload_n hx hb dX12_init_137 rfl (lv_at hl 0 rfl) ?_
  refine lv_bipush (v := 9) hx hb dX12_init_138 (by decide) ?_
  refine va_newaI (N' := 9) (a0 := (9, .inl (fun _ => 0))) hx hb (hts _ (gw kw_73 rfl)) hK hP hD hS hA (by decide) (by decide) (by decide) (Nat.le_of_ble_eq_true rfl) (Nat.le_of_ble_eq_true rfl) dX12_init_140 rfl (fun q_25 H hP hD hS => ?_)
  have hpd9 : PDx (dC, dI) classes A H [cO g0 12 [Value.ref q_1, Value.ref q_2, Value.ref q_3, Value.ref q_4, Value.ref q_5, Value.ref q_6, Value.int 0, Value.int 0, Value.int 0, Value.ref q_17, Value.ref q_18, Value.ref q_19, Value.ref q_20, Value.int 0, Value.int 0, Value.int 0, Value.ref q_21, Value.int 0, Value.int 0, Value.int 0, Value.ref q_22, Value.ref q_23, Value.ref q_24, Value.null, Value.null, Value.null, Value.null, Value.null, Value.int 0, Value.null, Value.null, Value.null, Value.null], cI aC q_1 7 (fun _ => 0), cI aC q_2 9 (fun _ => 0), cI aC q_3 9 (fun _ => 0), cI aC q_4 9 (fun _ => 0), cI aC q_5 8 (fun _ => 0), cI aC q_6 5 f_16, cI aC q_17 64 (fun _ => 0), cI aC q_18 32 (fun _ => 0), cI aC q_19 32 (fun _ => 0), cI aC q_20 96 (fun _ => 0), cI aC q_21 100 (fun _ => 0), cI aC q_22 81 (fun _ => 0), cI aC q_23 81 (fun _ => 0), cI aC q_24 90 (fun _ => 0), cI aC q_25 9 (fun _ => 0)] := ⟨hP, hD⟩
  have hP := hpd9.1
  have hD := hpd9.2
  clear hpd9
  refine W.widen (k := 15) (n := 632) (by omega) (by omega) ?_
  refine va_putF (D := (dC, dI)) (ci := 12) (v := Value.ref q_25) (ty := .array .int) (C := RX12) (T := TX12) (N := 33) hx hb hts inX12 tyX12 tyX12_ok nmX12 hown hK hP hD hS 0 rfl rfl 23 (by decide) (hts _ (gw kw_740 rfl)) (fun _ h9 => h9) rfl hin rfl (by decide +kernel) rfl rfl (Nat.le_of_ble_eq_true rfl) dX12_init_142 (fun H locs hP hD hS => ?_)
  have hpd9 : PDx (dC, dI) classes A H [cO g0 12 [Value.ref q_1, Value.ref q_2, Value.ref q_3, Value.ref q_4, Value.ref q_5, Value.ref q_6, Value.int 0, Value.int 0, Value.int 0, Value.ref q_17, Value.ref q_18, Value.ref q_19, Value.ref q_20, Value.int 0, Value.int 0, Value.int 0, Value.ref q_21, Value.int 0, Value.int 0, Value.int 0, Value.ref q_22, Value.ref q_23, Value.ref q_24, Value.ref q_25, Value.null, Value.null, Value.null, Value.null, Value.int 0, Value.null, Value.null, Value.null, Value.null], cI aC q_1 7 (fun _ => 0), cI aC q_2 9 (fun _ => 0), cI aC q_3 9 (fun _ => 0), cI aC q_4 9 (fun _ => 0), cI aC q_5 8 (fun _ => 0), cI aC q_6 5 f_16, cI aC q_17 64 (fun _ => 0), cI aC q_18 32 (fun _ => 0), cI aC q_19 32 (fun _ => 0), cI aC q_20 96 (fun _ => 0), cI aC q_21 100 (fun _ => 0), cI aC q_22 81 (fun _ => 0), cI aC q_23 81 (fun _ => 0), cI aC q_24 90 (fun _ => 0), cI aC q_25 9 (fun _ => 0)] := ⟨hP, hD⟩
  have hP := hpd9.1
  have hD := hpd9.2
  clear hpd9
  refine lv_aload_n hx hb dX12_init_145 rfl (lv_at hl 0 rfl) ?_
  refine lv_bipush (v := 9) hx hb dX12_init_146 (by decide) ?_
  refine va_newaI (N' := 9) (a0 := (9, .inl (fun _ => 0))) hx hb (hts _ (gw kw_73 rfl)) hK hP hD hS hA (by decide) (by decide) (by decide) (Nat.le_of_ble_eq_true rfl) (Nat.le_of_ble_eq_true rfl) dX12_init_148 rfl (fun q_26 H hP hD hS => ?_)
  have hpd9 : PDx (dC, dI) classes A H [cO g0 12 [Value.ref q_1, Value.ref q_2, Value.ref q_3, Value.ref q_4, Value.ref q_5, Value.ref q_6, Value.int 0, Value.int 0, Value.int 0, Value.ref q_17, Value.ref q_18, Value.ref q_19, Value.ref q_20, Value.int 0, Value.int 0, Value.int 0, Value.ref q_21, Value.int 0, Value.int 0, Value.int 0, Value.ref q_22, Value.ref q_23, Value.ref q_24, Value.ref q_25, Value.null, Value.null, Value.null, Value.null, Value.int 0, Value.null, Value.null, Value.null, Value.null], cI aC q_1 7 (fun _ => 0), cI aC q_2 9 (fun _ => 0), cI aC q_3 9 (fun _ => 0), cI aC q_4 9 (fun _ => 0), cI aC q_5 8 (fun _ => 0), cI aC q_6 5 f_16, cI aC q_17 64 (fun _ => 0), cI aC q_18 32 (fun _ => 0), cI aC q_19 32 (fun _ => 0), cI aC q_20 96 (fun _ => 0), cI aC q_21 100 (fun _ => 0), cI aC q_22 81 (fun _ => 0), cI aC q_23 81 (fun _ => 0), cI aC q_24 90 (fun _ => 0), cI aC q_25 9 (fun _ => 0), cI aC q_26 9 (fun _ => 0)] := ⟨hP, hD⟩
  have hP := hpd9.1
  have hD := hpd9.2
  clear hpd9
  refine W.widen (k := 16) (n := 641) (by omega) (by omega) ?_
  refine va_putF (D := (dC, dI)) (ci := 12) (v := Value.ref q_26) (ty := .array .int) (C := RX12) (T := TX12) (N := 33) hx hb hts inX12 tyX12 tyX12_ok nmX12 hown hK hP hD hS 0 rfl rfl 24 (by decide) (hts _ (gw kw_741 rfl)) (fun _ h9 => h9) rfl hin rfl (by decide +kernel) rfl rfl (Nat.le_of_ble_eq_true rfl) dX12_init_150 (fun H locs hP hD hS => ?_)
  have hpd9 : PDx (dC, dI) classes A H [cO g0 12 [Value.ref q_1, Value.ref q_2, Value.ref q_3, Value.ref q_4, Value.ref q_5, Value.ref q_6, Value.int 0, Value.int 0, Value.int 0, Value.ref q_17, Value.ref q_18, Value.ref q_19, Value.ref q_20, Value.int 0, Value.int 0, Value.int 0, Value.ref q_21, Value.int 0, Value.int 0, Value.int 0, Value.ref q_22, Value.ref q_23, Value.ref q_24, Value.ref q_25, Value.ref q_26, Value.null, Value.null, Value.null, Value.int 0, Value.null, Value.null, Value.null, Value.null], cI aC q_1 7 (fun _ => 0), cI aC q_2 9 (fun _ => 0), cI aC q_3 9 (fun _ => 0), cI aC q_4 9 (fun _ => 0), cI aC q_5 8 (fun _ => 0), cI aC q_6 5 f_16, cI aC q_17 64 (fun _ => 0), cI aC q_18 32 (fun _ => 0), cI aC q_19 32 (fun _ => 0), cI aC q_20 96 (fun _ => 0), cI aC q_21 100 (fun _ => 0), cI aC q_22 81 (fun _ => 0), cI aC q_23 81 (fun _ => 0), cI aC q_24 90 (fun _ => 0), cI aC q_25 9 (fun _ => 0), cI aC q_26 9 (fun _ => 0)] := ⟨hP, hD⟩
  have hP := hpd9.1
  have hD := hpd9.2
  clear hpd9
  refine lv_aload_n hx hb dX12_init_153 rfl (lv_at hl 0 rfl) ?_
  refine lv_bipush (v := 9) hx hb dX12_init_154 (by decide) ?_
  refine va_newaI (N' := 9) (a0 := (9, .inl (fun _ => 0))) hx hb (hts _ (gw kw_73 rfl)) hK hP hD hS hA (by decide) (by decide) (by decide) (Nat.le_of_ble_eq_true rfl) (Nat.le_of_ble_eq_true rfl) dX12_init_156 rfl (fun q_27 H hP hD hS => ?_)
  have hpd9 : PDx (dC, dI) classes A H [cO g0 12 [Value.ref q_1, Value.ref q_2, Value.ref q_3, Value.ref q_4, Value.ref q_5, Value.ref q_6, Value.int 0, Value.int 0, Value.int 0, Value.ref q_17, Value.ref q_18, Value.ref q_19, Value.ref q_20, Value.int 0, Value.int 0, Value.int 0, Value.ref q_21, Value.int 0, Value.int 0, Value.int 0, Value.ref q_22, Value.ref q_23, Value.ref q_24, Value.ref q_25, Value.ref q_26, Value.null, Value.null, Value.null, Value.int 0, Value.null, Value.null, Value.null, Value.null], cI aC q_1 7 (fun _ => 0), cI aC q_2 9 (fun _ => 0), cI aC q_3 9 (fun _ => 0), cI aC q_4 9 (fun _ => 0), cI aC q_5 8 (fun _ => 0), cI aC q_6 5 f_16, cI aC q_17 64 (fun _ => 0), cI aC q_18 32 (fun _ => 0), cI aC q_19 32 (fun _ => 0), cI aC q_20 96 (fun _ => 0), cI aC q_21 100 (fun _ => 0), cI aC q_22 81 (fun _ => 0), cI aC q_23 81 (fun _ => 0), cI aC q_24 90 (fun _ => 0), cI aC q_25 9 (fun _ => 0), cI aC q_26 9 (fun _ => 0), cI aC q_27 9 (fun _ => 0)] := ⟨hP, hD⟩
  have hP := hpd9.1
  have hD := hpd9.2
  clear hpd9
  refine W.widen (k := 17) (n := 650) (by omega) (by omega) ?_
  refine va_putF (D := (dC, dI)) (ci := 12) (v := Value.ref q_27) (ty := .array .int) (C := RX12) (T := TX12) (N := 33) hx hb hts inX12 tyX12 tyX12_ok nmX12 hown hK hP hD hS 0 rfl rfl 25 (by decide) (hts _ (gw kw_742 rfl)) (fun _ h9 => h9) rfl hin rfl (by decide +kernel) rfl rfl (Nat.le_of_ble_eq_true rfl) dX12_init_158 (fun H locs hP hD hS => ?_)
  have hpd9 : PDx (dC, dI) classes A H [cO g0 12 [Value.ref q_1, Value.ref q_2, Value.ref q_3, Value.ref q_4, Value.ref q_5, Value.ref q_6, Value.int 0, Value.int 0, Value.int 0, Value.ref q_17, Value.ref q_18, Value.ref q_19, Value.ref q_20, Value.int 0, Value.int 0, Value.int 0, Value.ref q_21, Value.int 0, Value.int 0, Value.int 0, Value.ref q_22, Value.ref q_23, Value.ref q_24, Value.ref q_25, Value.ref q_26, Value.ref q_27, Value.null, Value.null, Value.int 0, Value.null, Value.null, Value.null, Value.null], cI aC q_1 7 (fun _ => 0), cI aC q_2 9 (fun _ => 0), cI aC q_3 9 (fun _ => 0), cI aC q_4 9 (fun _ => 0), cI aC q_5 8 (fun _ => 0), cI aC q_6 5 f_16, cI aC q_17 64 (fun _ => 0), cI aC q_18 32 (fun _ => 0), cI aC q_19 32 (fun _ => 0), cI aC q_20 96 (fun _ => 0), cI aC q_21 100 (fun _ => 0), cI aC q_22 81 (fun _ => 0), cI aC q_23 81 (fun _ => 0), cI aC q_24 90 (fun _ => 0), cI aC q_25 9 (fun _ => 0), cI aC q_26 9 (fun _ => 0), cI aC q_27 9 (fun _ => 0)] := ⟨hP, hD⟩
  have hP := hpd9.1
  have hD := hpd9.2
  clear hpd9
  refine lv_aload_n hx hb dX12_init_161 rfl (lv_at hl 0 rfl) ?_
  refine lv_bipush (v := 9) hx hb dX12_init_162 (by decide) ?_
  refine va_newaI (N' := 9) (a0 := (9, .inl (fun _ => 0))) hx hb (hts _ (gw kw_73 rfl)) hK hP hD hS hA (by decide) (by decide) (by decide) (Nat.le_of_ble_eq_true rfl) (Nat.le_of_ble_eq_true rfl) dX12_init_164 rfl (fun q_28 H hP hD hS => ?_)
  have hpd9 : PDx (dC, dI) classes A H [cO g0 12 [Value.ref q_1, Value.ref q_2, Value.ref q_3, Value.ref q_4, Value.ref q_5, Value.ref q_6, Value.int 0, Value.int 0, Value.int 0, Value.ref q_17, Value.ref q_18, Value.ref q_19, Value.ref q_20, Value.int 0, Value.int 0, Value.int 0, Value.ref q_21, Value.int 0, Value.int 0, Value.int 0, Value.ref q_22, Value.ref q_23, Value.ref q_24, Value.ref q_25, Value.ref q_26, Value.ref q_27, Value.null, Value.null, Value.int 0, Value.null, Value.null, Value.null, Value.null], cI aC q_1 7 (fun _ => 0), cI aC q_2 9 (fun _ => 0), cI aC q_3 9 (fun _ => 0), cI aC q_4 9 (fun _ => 0), cI aC q_5 8 (fun _ => 0), cI aC q_6 5 f_16, cI aC q_17 64 (fun _ => 0), cI aC q_18 32 (fun _ => 0), cI aC q_19 32 (fun _ => 0), cI aC q_20 96 (fun _ => 0), cI aC q_21 100 (fun _ => 0), cI aC q_22 81 (fun _ => 0), cI aC q_23 81 (fun _ => 0), cI aC q_24 90 (fun _ => 0), cI aC q_25 9 (fun _ => 0), cI aC q_26 9 (fun _ => 0), cI aC q_27 9 (fun _ => 0), cI aC q_28 9 (fun _ => 0)] := ⟨hP, hD⟩
  have hP := hpd9.1
  have hD := hpd9.2
  clear hpd9
  refine W.widen (k := 18) (n := 659) (by omega) (by omega) ?_
  refine va_putF (D := (dC, dI)) (ci := 12) (v := Value.ref q_28) (ty := .array .int) (C := RX12) (T := TX12) (N := 33) hx hb hts inX12 tyX12 tyX12_ok nmX12 hown hK hP hD hS 0 rfl rfl 26 (by decide) (hts _ (gw kw_743 rfl)) (fun _ h9 => h9) rfl hin rfl (by decide +kernel) rfl rfl (Nat.le_of_ble_eq_true rfl) dX12_init_166 (fun H locs hP hD hS => ?_)
  have hpd9 : PDx (dC, dI) classes A H [cO g0 12 [Value.ref q_1, Value.ref q_2, Value.ref q_3, Value.ref q_4, Value.ref q_5, Value.ref q_6, Value.int 0, Value.int 0, Value.int 0, Value.ref q_17, Value.ref q_18, Value.ref q_19, Value.ref q_20, Value.int 0, Value.int 0, Value.int 0, Value.ref q_21, Value.int 0, Value.int 0, Value.int 0, Value.ref q_22, Value.ref q_23, Value.ref q_24, Value.ref q_25, Value.ref q_26, Value.ref q_27, Value.ref q_28, Value.null, Value.int 0, Value.null, Value.null, Value.null, Value.null], cI aC q_1 7 (fun _ => 0), cI aC q_2 9 (fun _ => 0), cI aC q_3 9 (fun _ => 0), cI aC q_4 9 (fun _ => 0), cI aC q_5 8 (fun _ => 0), cI aC q_6 5 f_16, cI aC q_17 64 (fun _ => 0), cI aC q_18 32 (fun _ => 0), cI aC q_19 32 (fun _ => 0), cI aC q_20 96 (fun _ => 0), cI aC q_21 100 (fun _ => 0), cI aC q_22 81 (fun _ => 0), cI aC q_23 81 (fun _ => 0), cI aC q_24 90 (fun _ => 0), cI aC q_25 9 (fun _ => 0), cI aC q_26 9 (fun _ => 0), cI aC q_27 9 (fun _ => 0), cI aC q_28 9 (fun _ => 0)] := ⟨hP, hD⟩
  have hP := hpd9.1
  have hD := hpd9.2
  clear hpd9
  refine lv_aload_n hx hb dX12_init_169 rfl (lv_at hl 0 rfl) ?_
  refine lv_bipush (v := 8) hx hb dX12_init_170 (by decide) ?_
  refine va_newaI (N' := 8) (a0 := (8, .inl (fun _ => 0))) hx hb (hts _ (gw kw_73 rfl)) hK hP hD hS hA (by decide) (by decide) (by decide) (Nat.le_of_ble_eq_true rfl) (Nat.le_of_ble_eq_true rfl) dX12_init_172 rfl (fun q_29 H hP hD hS => ?_)
  have hpd9 : PDx (dC, dI) classes A H [cO g0 12 [Value.ref q_1, Value.ref q_2, Value.ref q_3, Value.ref q_4, Value.ref q_5, Value.ref q_6, Value.int 0, Value.int 0, Value.int 0, Value.ref q_17, Value.ref q_18, Value.ref q_19, Value.ref q_20, Value.int 0, Value.int 0, Value.int 0, Value.ref q_21, Value.int 0, Value.int 0, Value.int 0, Value.ref q_22, Value.ref q_23, Value.ref q_24, Value.ref q_25, Value.ref q_26, Value.ref q_27, Value.ref q_28, Value.null, Value.int 0, Value.null, Value.null, Value.null, Value.null], cI aC q_1 7 (fun _ => 0), cI aC q_2 9 (fun _ => 0), cI aC q_3 9 (fun _ => 0), cI aC q_4 9 (fun _ => 0), cI aC q_5 8 (fun _ => 0), cI aC q_6 5 f_16, cI aC q_17 64 (fun _ => 0), cI aC q_18 32 (fun _ => 0), cI aC q_19 32 (fun _ => 0), cI aC q_20 96 (fun _ => 0), cI aC q_21 100 (fun _ => 0), cI aC q_22 81 (fun _ => 0), cI aC q_23 81 (fun _ => 0), cI aC q_24 90 (fun _ => 0), cI aC q_25 9 (fun _ => 0), cI aC q_26 9 (fun _ => 0), cI aC q_27 9 (fun _ => 0), cI aC q_28 9 (fun _ => 0), cI aC q_29 8 (fun _ => 0)] := ⟨hP, hD⟩
  have hP := hpd9.1
  have hD := hpd9.2
  clear hpd9
  refine W.widen (k := 19) (n := 667) (by omega) (by omega) ?_
  refine va_putF (D := (dC, dI)) (ci := 12) (v := Value.ref q_29) (ty := .array .int) (C := RX12) (T := TX12) (N := 33) hx hb hts inX12 tyX12 tyX12_ok nmX12 hown hK hP hD hS 0 rfl rfl 27 (by decide) (hts _ (gw kw_744 rfl)) (fun _ h9 => h9) rfl hin rfl (by decide +kernel) rfl rfl (Nat.le_of_ble_eq_true rfl) dX12_init_174 (fun H locs hP hD hS => ?_)
  have hpd9 : PDx (dC, dI) classes A H [cO g0 12 [Value.ref q_1, Value.ref q_2, Value.ref q_3, Value.ref q_4, Value.ref q_5, Value.ref q_6, Value.int 0, Value.int 0, Value.int 0, Value.ref q_17, Value.ref q_18, Value.ref q_19, Value.ref q_20, Value.int 0, Value.int 0, Value.int 0, Value.ref q_21, Value.int 0, Value.int 0, Value.int 0, Value.ref q_22, Value.ref q_23, Value.ref q_24, Value.ref q_25, Value.ref q_26, Value.ref q_27, Value.ref q_28, Value.ref q_29, Value.int 0, Value.null, Value.null, Value.null, Value.null], cI aC q_1 7 (fun _ => 0), cI aC q_2 9 (fun _ => 0), cI aC q_3 9 (fun _ => 0), cI aC q_4 9 (fun _ => 0), cI aC q_5 8 (fun _ => 0), cI aC q_6 5 f_16, cI aC q_17 64 (fun _ => 0), cI aC q_18 32 (fun _ => 0), cI aC q_19 32 (fun _ => 0), cI aC q_20 96 (fun _ => 0), cI aC q_21 100 (fun _ => 0), cI aC q_22 81 (fun _ => 0), cI aC q_23 81 (fun _ => 0), cI aC q_24 90 (fun _ => 0), cI aC q_25 9 (fun _ => 0), cI aC q_26 9 (fun _ => 0), cI aC q_27 9 (fun _ => 0), cI aC q_28 9 (fun _ => 0), cI aC q_29 8 (fun _ => 0)] := ⟨hP, hD⟩
  have hP := hpd9.1
  have hD := hpd9.2
  clear hpd9
  refine lv_aload_n hx hb dX12_init_177 rfl (lv_at hl 0 rfl) ?_
  refine lv_bipush (v := 8) hx hb dX12_init_178 (by decide) ?_
  refine va_newaI (N' := 8) (a0 := (8, .inl (fun _ => 0))) hx hb (hts _ (gw kw_73 rfl)) hK hP hD hS hA (by decide) (by decide) (by decide) (Nat.le_of_ble_eq_true rfl) (Nat.le_of_ble_eq_true rfl) dX12_init_180 rfl (fun q_30 H hP hD hS => ?_)
  have hpd9 : PDx (dC, dI) classes A H [cO g0 12 [Value.ref q_1, Value.ref q_2, Value.ref q_3, Value.ref q_4, Value.ref q_5, Value.ref q_6, Value.int 0, Value.int 0, Value.int 0, Value.ref q_17, Value.ref q_18, Value.ref q_19, Value.ref q_20, Value.int 0, Value.int 0, Value.int 0, Value.ref q_21, Value.int 0, Value.int 0, Value.int 0, Value.ref q_22, Value.ref q_23, Value.ref q_24, Value.ref q_25, Value.ref q_26, Value.ref q_27, Value.ref q_28, Value.ref q_29, Value.int 0, Value.null, Value.null, Value.null, Value.null], cI aC q_1 7 (fun _ => 0), cI aC q_2 9 (fun _ => 0), cI aC q_3 9 (fun _ => 0), cI aC q_4 9 (fun _ => 0), cI aC q_5 8 (fun _ => 0), cI aC q_6 5 f_16, cI aC q_17 64 (fun _ => 0), cI aC q_18 32 (fun _ => 0), cI aC q_19 32 (fun _ => 0), cI aC q_20 96 (fun _ => 0), cI aC q_21 100 (fun _ => 0), cI aC q_22 81 (fun _ => 0), cI aC q_23 81 (fun _ => 0), cI aC q_24 90 (fun _ => 0), cI aC q_25 9 (fun _ => 0), cI aC q_26 9 (fun _ => 0), cI aC q_27 9 (fun _ => 0), cI aC q_28 9 (fun _ => 0), cI aC q_29 8 (fun _ => 0), cI aC q_30 8 (fun _ => 0)] := ⟨hP, hD⟩
  have hP := hpd9.1
  have hD := hpd9.2
  clear hpd9
  refine W.widen (k := 20) (n := 675) (by omega) (by omega) ?_
  refine va_putF (D := (dC, dI)) (ci := 12) (v := Value.ref q_30) (ty := .array .int) (C := RX12) (T := TX12) (N := 33) hx hb hts inX12 tyX12 tyX12_ok nmX12 hown hK hP hD hS 0 rfl rfl 29 (by decide) (hts _ (gw kw_746 rfl)) (fun _ h9 => h9) rfl hin rfl (by decide +kernel) rfl rfl (Nat.le_of_ble_eq_true rfl) dX12_init_182 (fun H locs hP hD hS => ?_)
  have hpd9 : PDx (dC, dI) classes A H [cO g0 12 [Value.ref q_1, Value.ref q_2, Value.ref q_3, Value.ref q_4, Value.ref q_5, Value.ref q_6, Value.int 0, Value.int 0, Value.int 0, Value.ref q_17, Value.ref q_18, Value.ref q_19, Value.ref q_20, Value.int 0, Value.int 0, Value.int 0, Value.ref q_21, Value.int 0, Value.int 0, Value.int 0, Value.ref q_22, Value.ref q_23, Value.ref q_24, Value.ref q_25, Value.ref q_26, Value.ref q_27, Value.ref q_28, Value.ref q_29, Value.int 0, Value.ref q_30, Value.null, Value.null, Value.null], cI aC q_1 7 (fun _ => 0), cI aC q_2 9 (fun _ => 0), cI aC q_3 9 (fun _ => 0), cI aC q_4 9 (fun _ => 0), cI aC q_5 8 (fun _ => 0), cI aC q_6 5 f_16, cI aC q_17 64 (fun _ => 0), cI aC q_18 32 (fun _ => 0), cI aC q_19 32 (fun _ => 0), cI aC q_20 96 (fun _ => 0), cI aC q_21 100 (fun _ => 0), cI aC q_22 81 (fun _ => 0), cI aC q_23 81 (fun _ => 0), cI aC q_24 90 (fun _ => 0), cI aC q_25 9 (fun _ => 0), cI aC q_26 9 (fun _ => 0), cI aC q_27 9 (fun _ => 0), cI aC q_28 9 (fun _ => 0), cI aC q_29 8 (fun _ => 0), cI aC q_30 8 (fun _ => 0)] := ⟨hP, hD⟩
  have hP := hpd9.1
  have hD := hpd9.2
  clear hpd9
  refine lv_aload_n hx hb dX12_init_185 rfl (lv_at hl 0 rfl) ?_
  refine lv_bipush (v := 61) hx hb dX12_init_186 (by decide) ?_
  refine va_newaI (N' := 61) (a0 := (61, .inl (fun _ => 0))) hx hb (hts _ (gw kw_73 rfl)) hK hP hD hS hA (by decide) (by decide) (by decide) (Nat.le_of_ble_eq_true rfl) (Nat.le_of_ble_eq_true rfl) dX12_init_188 rfl (fun q_31 H hP hD hS => ?_)
  have hpd9 : PDx (dC, dI) classes A H [cO g0 12 [Value.ref q_1, Value.ref q_2, Value.ref q_3, Value.ref q_4, Value.ref q_5, Value.ref q_6, Value.int 0, Value.int 0, Value.int 0, Value.ref q_17, Value.ref q_18, Value.ref q_19, Value.ref q_20, Value.int 0, Value.int 0, Value.int 0, Value.ref q_21, Value.int 0, Value.int 0, Value.int 0, Value.ref q_22, Value.ref q_23, Value.ref q_24, Value.ref q_25, Value.ref q_26, Value.ref q_27, Value.ref q_28, Value.ref q_29, Value.int 0, Value.ref q_30, Value.null, Value.null, Value.null], cI aC q_1 7 (fun _ => 0), cI aC q_2 9 (fun _ => 0), cI aC q_3 9 (fun _ => 0), cI aC q_4 9 (fun _ => 0), cI aC q_5 8 (fun _ => 0), cI aC q_6 5 f_16, cI aC q_17 64 (fun _ => 0), cI aC q_18 32 (fun _ => 0), cI aC q_19 32 (fun _ => 0), cI aC q_20 96 (fun _ => 0), cI aC q_21 100 (fun _ => 0), cI aC q_22 81 (fun _ => 0), cI aC q_23 81 (fun _ => 0), cI aC q_24 90 (fun _ => 0), cI aC q_25 9 (fun _ => 0), cI aC q_26 9 (fun _ => 0), cI aC q_27 9 (fun _ => 0), cI aC q_28 9 (fun _ => 0), cI aC q_29 8 (fun _ => 0), cI aC q_30 8 (fun _ => 0), cI aC q_31 61 (fun _ => 0)] := ⟨hP, hD⟩
  have hP := hpd9.1
  have hD := hpd9.2
  clear hpd9
  refine W.widen (k := 21) (n := 736) (by omega) (by omega) ?_
  refine va_putF (D := (dC, dI)) (ci := 12) (v := Value.ref q_31) (ty := .array .int) (C := RX12) (T := TX12) (N := 33) hx hb hts inX12 tyX12 tyX12_ok nmX12 hown hK hP hD hS 0 rfl rfl 30 (by decide) (hts _ (gw kw_747 rfl)) (fun _ h9 => h9) rfl hin rfl (by decide +kernel) rfl rfl (Nat.le_of_ble_eq_true rfl) dX12_init_190 (fun H locs hP hD hS => ?_)
  have hpd9 : PDx (dC, dI) classes A H [cO g0 12 [Value.ref q_1, Value.ref q_2, Value.ref q_3, Value.ref q_4, Value.ref q_5, Value.ref q_6, Value.int 0, Value.int 0, Value.int 0, Value.ref q_17, Value.ref q_18, Value.ref q_19, Value.ref q_20, Value.int 0, Value.int 0, Value.int 0, Value.ref q_21, Value.int 0, Value.int 0, Value.int 0, Value.ref q_22, Value.ref q_23, Value.ref q_24, Value.ref q_25, Value.ref q_26, Value.ref q_27, Value.ref q_28, Value.ref q_29, Value.int 0, Value.ref q_30, Value.ref q_31, Value.null, Value.null], cI aC q_1 7 (fun _ => 0), cI aC q_2 9 (fun _ => 0), cI aC q_3 9 (fun _ => 0), cI aC q_4 9 (fun _ => 0), cI aC q_5 8 (fun _ => 0), cI aC q_6 5 f_16, cI aC q_17 64 (fun _ => 0), cI aC q_18 32 (fun _ => 0), cI aC q_19 32 (fun _ => 0), cI aC q_20 96 (fun _ => 0), cI aC q_21 100 (fun _ => 0), cI aC q_22 81 (fun _ => 0), cI aC q_23 81 (fun _ => 0), cI aC q_24 90 (fun _ => 0), cI aC q_25 9 (fun _ => 0), cI aC q_26 9 (fun _ => 0), cI aC q_27 9 (fun _ => 0), cI aC q_28 9 (fun _ => 0), cI aC q_29 8 (fun _ => 0), cI aC q_30 8 (fun _ => 0), cI aC q_31 61 (fun _ => 0)] := ⟨hP, hD⟩
  have hP := hpd9.1
  have hD := hpd9.2
  clear hpd9
  refine lv_aload_n hx hb dX12_init_193 rfl (lv_at hl 0 rfl) ?_
  refine lv_bipush (v := 61) hx hb dX12_init_194 (by decide) ?_
  refine va_newaI (N' := 61) (a0 := (61, .inl (fun _ => 0))) hx hb (hts _ (gw kw_73 rfl)) hK hP hD hS hA (by decide) (by decide) (by decide) (Nat.le_of_ble_eq_true rfl) (Nat.le_of_ble_eq_true rfl) dX12_init_196 rfl (fun q_32 H hP hD hS => ?_)
  have hpd9 : PDx (dC, dI) classes A H [cO g0 12 [Value.ref q_1, Value.ref q_2, Value.ref q_3, Value.ref q_4, Value.ref q_5, Value.ref q_6, Value.int 0, Value.int 0, Value.int 0, Value.ref q_17, Value.ref q_18, Value.ref q_19, Value.ref q_20, Value.int 0, Value.int 0, Value.int 0, Value.ref q_21, Value.int 0, Value.int 0, Value.int 0, Value.ref q_22, Value.ref q_23, Value.ref q_24, Value.ref q_25, Value.ref q_26, Value.ref q_27, Value.ref q_28, Value.ref q_29, Value.int 0, Value.ref q_30, Value.ref q_31, Value.null, Value.null], cI aC q_1 7 (fun _ => 0), cI aC q_2 9 (fun _ => 0), cI aC q_3 9 (fun _ => 0), cI aC q_4 9 (fun _ => 0), cI aC q_5 8 (fun _ => 0), cI aC q_6 5 f_16, cI aC q_17 64 (fun _ => 0), cI aC q_18 32 (fun _ => 0), cI aC q_19 32 (fun _ => 0), cI aC q_20 96 (fun _ => 0), cI aC q_21 100 (fun _ => 0), cI aC q_22 81 (fun _ => 0), cI aC q_23 81 (fun _ => 0), cI aC q_24 90 (fun _ => 0), cI aC q_25 9 (fun _ => 0), cI aC q_26 9 (fun _ => 0), cI aC q_27 9 (fun _ => 0), cI aC q_28 9 (fun _ => 0), cI aC q_29 8 (fun _ => 0), cI aC q_30 8 (fun _ => 0), cI aC q_31 61 (fun _ => 0), cI aC q_32 61 (fun _ => 0)] := ⟨hP, hD⟩
  have hP := hpd9.1
  have hD := hpd9.2
  clear hpd9
  refine W.widen (k := 22) (n := 797) (by omega) (by omega) ?_
  refine va_putF (D := (dC, dI)) (ci := 12) (v := Value.ref q_32) (ty := .array .int) (C := RX12) (T := TX12) (N := 33) hx hb hts inX12 tyX12 tyX12_ok nmX12 hown hK hP hD hS 0 rfl rfl 31 (by decide) (hts _ (gw kw_748 rfl)) (fun _ h9 => h9) rfl hin rfl (by decide +kernel) rfl rfl (Nat.le_of_ble_eq_true rfl) dX12_init_198 (fun H locs hP hD hS => ?_)
  have hpd9 : PDx (dC, dI) classes A H [cO g0 12 [Value.ref q_1, Value.ref q_2, Value.ref q_3, Value.ref q_4, Value.ref q_5, Value.ref q_6, Value.int 0, Value.int 0, Value.int 0, Value.ref q_17, Value.ref q_18, Value.ref q_19, Value.ref q_20, Value.int 0, Value.int 0, Value.int 0, Value.ref q_21, Value.int 0, Value.int 0, Value.int 0, Value.ref q_22, Value.ref q_23, Value.ref q_24, Value.ref q_25, Value.ref q_26, Value.ref q_27, Value.ref q_28, Value.ref q_29, Value.int 0, Value.ref q_30, Value.ref q_31, Value.ref q_32, Value.null], cI aC q_1 7 (fun _ => 0), cI aC q_2 9 (fun _ => 0), cI aC q_3 9 (fun _ => 0), cI aC q_4 9 (fun _ => 0), cI aC q_5 8 (fun _ => 0), cI aC q_6 5 f_16, cI aC q_17 64 (fun _ => 0), cI aC q_18 32 (fun _ => 0), cI aC q_19 32 (fun _ => 0), cI aC q_20 96 (fun _ => 0), cI aC q_21 100 (fun _ => 0), cI aC q_22 81 (fun _ => 0), cI aC q_23 81 (fun _ => 0), cI aC q_24 90 (fun _ => 0), cI aC q_25 9 (fun _ => 0), cI aC q_26 9 (fun _ => 0), cI aC q_27 9 (fun _ => 0), cI aC q_28 9 (fun _ => 0), cI aC q_29 8 (fun _ => 0), cI aC q_30 8 (fun _ => 0), cI aC q_31 61 (fun _ => 0), cI aC q_32 61 (fun _ => 0)] := ⟨hP, hD⟩
  have hP := hpd9.1
  have hD := hpd9.2
  clear hpd9
  refine lv_aload_n hx hb dX12_init_201 rfl (lv_at hl 0 rfl) ?_
  refine lv_bipush (v := 8) hx hb dX12_init_202 (by decide) ?_
  refine va_newaI (N' := 8) (a0 := (8, .inl (fun _ => 0))) hx hb (hts _ (gw kw_73 rfl)) hK hP hD hS hA (by decide) (by decide) (by decide) (Nat.le_of_ble_eq_true rfl) (Nat.le_of_ble_eq_true rfl) dX12_init_204 rfl (fun q_33 H hP hD hS => ?_)
  have hpd9 : PDx (dC, dI) classes A H [cO g0 12 [Value.ref q_1, Value.ref q_2, Value.ref q_3, Value.ref q_4, Value.ref q_5, Value.ref q_6, Value.int 0, Value.int 0, Value.int 0, Value.ref q_17, Value.ref q_18, Value.ref q_19, Value.ref q_20, Value.int 0, Value.int 0, Value.int 0, Value.ref q_21, Value.int 0, Value.int 0, Value.int 0, Value.ref q_22, Value.ref q_23, Value.ref q_24, Value.ref q_25, Value.ref q_26, Value.ref q_27, Value.ref q_28, Value.ref q_29, Value.int 0, Value.ref q_30, Value.ref q_31, Value.ref q_32, Value.null], cI aC q_1 7 (fun _ => 0), cI aC q_2 9 (fun _ => 0), cI aC q_3 9 (fun _ => 0), cI aC q_4 9 (fun _ => 0), cI aC q_5 8 (fun _ => 0), cI aC q_6 5 f_16, cI aC q_17 64 (fun _ => 0), cI aC q_18 32 (fun _ => 0), cI aC q_19 32 (fun _ => 0), cI aC q_20 96 (fun _ => 0), cI aC q_21 100 (fun _ => 0), cI aC q_22 81 (fun _ => 0), cI aC q_23 81 (fun _ => 0), cI aC q_24 90 (fun _ => 0), cI aC q_25 9 (fun _ => 0), cI aC q_26 9 (fun _ => 0), cI aC q_27 9 (fun _ => 0), cI aC q_28 9 (fun _ => 0), cI aC q_29 8 (fun _ => 0), cI aC q_30 8 (fun _ => 0), cI aC q_31 61 (fun _ => 0), cI aC q_32 61 (fun _ => 0), cI aC q_33 8 (fun _ => 0)] := ⟨hP, hD⟩
  have hP := hpd9.1
  have hD := hpd9.2
  clear hpd9
  refine W.widen (k := 23) (n := 805) (by omega) (by omega) ?_
  refine va_putF (D := (dC, dI)) (ci := 12) (v := Value.ref q_33) (ty := .array .int) (C := RX12) (T := TX12) (N := 33) hx hb hts inX12 tyX12 tyX12_ok nmX12 hown hK hP hD hS 0 rfl rfl 32 (by decide) (hts _ (gw kw_749 rfl)) (fun _ h9 => h9) rfl hin rfl (by decide +kernel) rfl rfl (Nat.le_of_ble_eq_true rfl) dX12_init_206 (fun H locs hP hD hS => ?_)
  have hpd9 : PDx (dC, dI) classes A H [oX12 g0 q_1 q_2 q_3 q_4 q_5 q_6 0 0 0 q_17 q_18 q_19 q_20 0 0 0 q_21 0 0 0 q_22 q_23 q_24 q_25 q_26 q_27 q_28 q_29 0 q_30 q_31 q_32 q_33, cI aC q_1 7 (fun _ => 0), cI aC q_2 9 (fun _ => 0), cI aC q_3 9 (fun _ => 0), cI aC q_4 9 (fun _ => 0), cI aC q_5 8 (fun _ => 0), cI aC q_6 5 f_16, cI aC q_17 64 (fun _ => 0), cI aC q_18 32 (fun _ => 0), cI aC q_19 32 (fun _ => 0), cI aC q_20 96 (fun _ => 0), cI aC q_21 100 (fun _ => 0), cI aC q_22 81 (fun _ => 0), cI aC q_23 81 (fun _ => 0), cI aC q_24 90 (fun _ => 0), cI aC q_25 9 (fun _ => 0), cI aC q_26 9 (fun _ => 0), cI aC q_27 9 (fun _ => 0), cI aC q_28 9 (fun _ => 0), cI aC q_29 8 (fun _ => 0), cI aC q_30 8 (fun _ => 0), cI aC q_31 61 (fun _ => 0), cI aC q_32 61 (fun _ => 0), cI aC q_33 8 (fun _ => 0)] := ⟨hP, hD⟩
  have hP := hpd9.1
  have hD := hpd9.2
  clear hpd9
  have hpd9 := pd_N (cx := [oX12 g0 q_1 q_2 q_3 q_4 q_5 q_6 0 0 0 q_17 q_18 q_19 q_20 0 0 0 q_21 0 0 0 q_22 q_23 q_24 q_25 q_26 q_27 q_28 q_29 0 q_30 q_31 q_32 q_33, cI aC q_1 7 (fun _ => 0), cI aC q_2 9 (fun _ => 0), cI aC q_3 9 (fun _ => 0), cI aC q_4 9 (fun _ => 0), cI aC q_5 8 (fun _ => 0), cI aC q_6 5 f_16, cI aC q_17 64 (fun _ => 0), cI aC q_18 32 (fun _ => 0), cI aC q_19 32 (fun _ => 0), cI aC q_20 96 (fun _ => 0), cI aC q_21 100 (fun _ => 0), cI aC q_22 81 (fun _ => 0), cI aC q_23 81 (fun _ => 0), cI aC q_24 90 (fun _ => 0), cI aC q_25 9 (fun _ => 0), cI aC q_26 9 (fun _ => 0), cI aC q_27 9 (fun _ => 0), cI aC q_28 9 (fun _ => 0), cI aC q_29 8 (fun _ => 0), cI aC q_30 8 (fun _ => 0), cI aC q_31 61 (fun _ => 0), cI aC q_32 61 (fun _ => 0), cI aC q_33 8 (fun _ => 0)]) hP hD [0, 1, 2, 3, 4, 5, 6, 7, 8, 9, 10, 11, 12, 13, 14, 15, 16, 17, 18, 19, 20, 21, 22, 23] (by decide) rfl
  have hP9 := hpd9.1
  have hD9 := hpd9.2
  refine W.widen (k := 23) (n := 805) (by omega) (by omega) ?_
  exact W.vret hx hb hr (fun t ht hW => ⟨⟨(f_16), rfl, by subst e_f_16; subst e_f_14; subst e_f_12; subst e_f_10; subst e_f_8; rfl, q_1, q_2, q_3, q_4, q_5, q_6, q_17, q_18, q_19, q_20, q_21, q_22, q_23, q_24, q_25, q_26, q_27, q_28, q_29, q_30, q_31, q_32, q_33, by rw [ht]; exact hP9, va_K.moved hW.alike hK, hD9⟩, hS.F ht⟩) hS.2.2 dX12_init_209
