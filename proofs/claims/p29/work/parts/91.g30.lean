section
/-! 91.ctorm -/
set_option maxHeartbeats 1000000 in
set_option maxRecDepth 100000 in
/-- X12_init -/
theorem c_X12_init (l : Launch) (dC : Nat → ClassId) (dI : Nat → Nat → Nat) (aC : Nat → ClassId) (sz : Nat) (g0 : Nat)  : Met l yX12_init (wW yX12_init cX12_init 1 (none : Option FieldType)) ({ frames := 1, cells := 23, slots := 805, locals := 12 } : Room) (va_Pc [Value.ref g0] (fun U => U.heap.size = sz ∧ va_P (dC, dI) classes [cO g0 12 [Value.null, Value.null, Value.null, Value.null, Value.null, Value.null, Value.int 0, Value.int 0, Value.int 0, Value.null, Value.null, Value.null, Value.null, Value.int 0, Value.int 0, Value.int 0, Value.null, Value.int 0, Value.int 0, Value.int 0, Value.null, Value.null, Value.null, Value.null, Value.null, Value.null, Value.null, Value.null, Value.int 0, Value.null, Value.null, Value.null, Value.null]] U.heap ∧ va_K (dC, dI) classes (TY aC) U ∧ va_D (fun _ => True) [cO g0 12 [Value.null, Value.null, Value.null, Value.null, Value.null, Value.null, Value.int 0, Value.int 0, Value.int 0, Value.null, Value.null, Value.null, Value.null, Value.int 0, Value.int 0, Value.int 0, Value.null, Value.int 0, Value.int 0, Value.int 0, Value.null, Value.null, Value.null, Value.null, Value.null, Value.null, Value.null, Value.null, Value.int 0, Value.null, Value.null, Value.null, Value.null]] ∧ NX U)) (va_Qv (fun (mstf : Nat → Int32) => mstf = SET0) (fun (mstf : Nat → Int32) (t : State) => ∃ (m_refused m_kind m_figure m_weight m_got m_setting m_tape m_letter m_letterAt m_told m_kept m_price m_offer m_gets m_yes m_buys m_ends m_carried m_row m_keptRow m_likeGets m_likePrice m_ahead : Nat), va_P (dC, dI) classes [oX12 g0 m_refused m_kind m_figure m_weight m_got m_setting 0 0 0 m_tape m_letter m_letterAt m_told 0 0 0 m_kept 0 0 0 m_price m_offer m_gets m_yes m_buys m_ends m_carried m_row 0 m_keptRow m_likeGets m_likePrice m_ahead, cI aC m_refused 7 (fun _ => 0), cI aC m_kind 9 (fun _ => 0), cI aC m_figure 9 (fun _ => 0), cI aC m_weight 9 (fun _ => 0), cI aC m_got 8 (fun _ => 0), cI aC m_setting 5 mstf, cI aC m_tape 64 (fun _ => 0), cI aC m_letter 32 (fun _ => 0), cI aC m_letterAt 32 (fun _ => 0), cI aC m_told 96 (fun _ => 0), cI aC m_kept 100 (fun _ => 0), cI aC m_price 81 (fun _ => 0), cI aC m_offer 81 (fun _ => 0), cI aC m_gets 90 (fun _ => 0), cI aC m_yes 9 (fun _ => 0), cI aC m_buys 9 (fun _ => 0), cI aC m_ends 9 (fun _ => 0), cI aC m_carried 9 (fun _ => 0), cI aC m_row 8 (fun _ => 0), cI aC m_keptRow 8 (fun _ => 0), cI aC m_likeGets 61 (fun _ => 0), cI aC m_likePrice 61 (fun _ => 0), cI aC m_ahead 8 (fun _ => 0)] t.heap ∧ va_K (dC, dI) classes (TY aC) t ∧ va_D (va_A [cO g0 12 [Value.null, Value.null, Value.null, Value.null, Value.null, Value.null, Value.int 0, Value.int 0, Value.int 0, Value.null, Value.null, Value.null, Value.null, Value.int 0, Value.int 0, Value.int 0, Value.null, Value.int 0, Value.int 0, Value.int 0, Value.null, Value.null, Value.null, Value.null, Value.null, Value.null, Value.null, Value.null, Value.int 0, Value.null, Value.null, Value.null, Value.null]] sz) [oX12 g0 m_refused m_kind m_figure m_weight m_got m_setting 0 0 0 m_tape m_letter m_letterAt m_told 0 0 0 m_kept 0 0 0 m_price m_offer m_gets m_yes m_buys m_ends m_carried m_row 0 m_keptRow m_likeGets m_likePrice m_ahead, cI aC m_refused 7 (fun _ => 0), cI aC m_kind 9 (fun _ => 0), cI aC m_figure 9 (fun _ => 0), cI aC m_weight 9 (fun _ => 0), cI aC m_got 8 (fun _ => 0), cI aC m_setting 5 mstf, cI aC m_tape 64 (fun _ => 0), cI aC m_letter 32 (fun _ => 0), cI aC m_letterAt 32 (fun _ => 0), cI aC m_told 96 (fun _ => 0), cI aC m_kept 100 (fun _ => 0), cI aC m_price 81 (fun _ => 0), cI aC m_offer 81 (fun _ => 0), cI aC m_gets 90 (fun _ => 0), cI aC m_yes 9 (fun _ => 0), cI aC m_buys 9 (fun _ => 0), cI aC m_ends 9 (fun _ => 0), cI aC m_carried 9 (fun _ => 0), cI aC m_row 8 (fun _ => 0), cI aC m_keptRow 8 (fun _ => 0), cI aC m_likeGets 61 (fun _ => 0), cI aC m_likePrice 61 (fun _ => 0), cI aC m_ahead 8 (fun _ => 0)]) (va_A [cO g0 12 [Value.null, Value.null, Value.null, Value.null, Value.null, Value.null, Value.int 0, Value.int 0, Value.int 0, Value.null, Value.null, Value.null, Value.null, Value.int 0, Value.int 0, Value.int 0, Value.null, Value.int 0, Value.int 0, Value.int 0, Value.null, Value.null, Value.null, Value.null, Value.null, Value.null, Value.null, Value.null, Value.int 0, Value.null, Value.null, Value.null, Value.null]] sz)) 23 805 (va_A [cO g0 12 [Value.null, Value.null, Value.null, Value.null, Value.null, Value.null, Value.int 0, Value.int 0, Value.int 0, Value.null, Value.null, Value.null, Value.null, Value.int 0, Value.int 0, Value.int 0, Value.null, Value.int 0, Value.int 0, Value.int 0, Value.null, Value.null, Value.null, Value.null, Value.null, Value.null, Value.null, Value.null, Value.int 0, Value.null, Value.null, Value.null, Value.null]] sz) := by
  refine Met.ofW (cc := cX12_init) (maxL := 1) (ret := (none : Option FieldType)) (by decide) rfl ?_
  intro p e s m args below meth c s₁ B hml hv
  obtain ⟨rfl, hsz, hP, hK, hD0, hN⟩ := hv
  have hx := B.exec
  have hb := B.bytes
  have hr := B.returns
  have hts0 := atoms_spec (ws := (wW yX12_init cX12_init 1 (none : Option FieldType))) B.pre
  have hts : ∀ w9 ∈ lw_G, w9.before ([Value.ref g0] : List Value).toArray s = true := fun w9 h9 => hts0 w9 (List.mem_cons_of_mem _ h9)
  have hown : s.vm.findClass RX12 = some m.cls := findClass_of_methodNamed (x := yX12_init) B.named
  have hlocks := B.notSynchronized
  have hin : meth.name = "<init>" := (name_of_methodNamed B.named B.method).1
  subst hsz
  have hD := hD0.self (sz := s.heap.size)
  generalize hAe : va_A [cO g0 12 [Value.null, Value.null, Value.null, Value.null, Value.null, Value.null, Value.int 0, Value.int 0, Value.int 0, Value.null, Value.null, Value.null, Value.null, Value.int 0, Value.int 0, Value.int 0, Value.null, Value.int 0, Value.int 0, Value.int 0, Value.null, Value.null, Value.null, Value.null, Value.null, Value.null, Value.null, Value.null, Value.int 0, Value.null, Value.null, Value.null, Value.null]] s.heap.size = A at hD ⊢
  have hA : ∀ q : Nat, s.heap.size ≤ q → A q := fun q h => by rw [← hAe]; exact Or.inr h
  obtain ⟨H, hHe⟩ : ∃ H : Heap, H = s.heap := ⟨_, rfl⟩
  have hS : va_S A s.heap H [] := by rw [hHe]; exact va_S.rf
  have hP : va_P (dC, dI) classes [cO g0 12 [Value.null, Value.null, Value.null, Value.null, Value.null, Value.null, Value.int 0, Value.int 0, Value.int 0, Value.null, Value.null, Value.null, Value.null, Value.int 0, Value.int 0, Value.int 0, Value.null, Value.int 0, Value.int 0, Value.int 0, Value.null, Value.null, Value.null, Value.null, Value.null, Value.null, Value.null, Value.null, Value.int 0, Value.null, Value.null, Value.null, Value.null]] H := by rw [hHe]; exact hP
  have hl := lv_entry ([Value.ref g0]) (n := 1) (Nat.le_of_ble_eq_true rfl)
  rw [lg_entry_eq]
  generalize (lg_sl ([Value.ref g0]) ++ List.replicate (1 - (lg_sl ([Value.ref g0])).length) Slot.unset).toArray = ls at hl ⊢
  have hl : lv_has ls 1 [(0, Value.ref g0)] := hl
  rw [← hHe]
  refine lv_aload_n hx hb dX12_init_0 rfl (lv_at hl 0 rfl) ?_
  refine W.objInit hx hb hown (hts _ (gw kw_716 rfl)) (hts _ (gw kw_24 rfl)) (hts _ (gw kw_25 rfl)) rfl (by rw [hml]; exact hl.1) rfl dX12_init_1 (Nat.le_of_ble_eq_true rfl) (Nat.le_of_ble_eq_true rfl) ?_
  refine W.eq (g2 := F0 m 4 ls []) rfl ?_
  refine lv_aload_n hx hb dX12_init_4 rfl (lv_at hl 0 rfl) ?_
  refine lv_bipush (v := 7) hx hb dX12_init_5 (by decide) ?_
  refine va_newaI (N' := 7) (a0 := (7, .inl (fun _ => 0))) hx hb (hts _ (gw kw_73 rfl)) hK hP hD hS hA (by decide) (by decide) (by decide) (Nat.le_of_ble_eq_true rfl) (Nat.le_of_ble_eq_true rfl) dX12_init_7 rfl (fun q_1 H hP hD hS => ?_)
  have hpd9 : PDx (dC, dI) classes A H [cO g0 12 [Value.null, Value.null, Value.null, Value.null, Value.null, Value.null, Value.int 0, Value.int 0, Value.int 0, Value.null, Value.null, Value.null, Value.null, Value.int 0, Value.int 0, Value.int 0, Value.null, Value.int 0, Value.int 0, Value.int 0, Value.null, Value.null, Value.null, Value.null, Value.null, Value.null, Value.null, Value.null, Value.int 0, Value.null, Value.null, Value.null, Value.null], cI aC q_1 7 (fun _ => 0)] := ⟨hP, hD⟩
  have hP := hpd9.1
  have hD := hpd9.2
  clear hpd9
  refine W.widen (k := 1) (n := 7) (by omega) (by omega) ?_
  refine va_putF (D := (dC, dI)) (ci := 12) (v := Value.ref q_1) (ty := .array .int) (C := RX12) (T := TX12) (N := 33) hx hb hts inX12 tyX12 tyX12_ok nmX12 hown hK hP hD hS 0 rfl rfl 0 (by decide) (hts _ (gw kw_717 rfl)) (fun _ h9 => h9) rfl hin rfl (by decide +kernel) rfl rfl (Nat.le_of_ble_eq_true rfl) dX12_init_9 (fun H locs hP hD hS => ?_)
  have hpd9 : PDx (dC, dI) classes A H [cO g0 12 [Value.ref q_1, Value.null, Value.null, Value.null, Value.null, Value.null, Value.int 0, Value.int 0, Value.int 0, Value.null, Value.null, Value.null, Value.null, Value.int 0, Value.int 0, Value.int 0, Value.null, Value.int 0, Value.int 0, Value.int 0, Value.null, Value.null, Value.null, Value.null, Value.null, Value.null, Value.null, Value.null, Value.int 0, Value.null, Value.null, Value.null, Value.null], cI aC q_1 7 (fun _ => 0)] := ⟨hP, hD⟩
  have hP := hpd9.1
  have hD := hpd9.2
  clear hpd9
  refine lv_aload_n hx hb dX12_init_12 rfl (lv_at hl 0 rfl) ?_
  refine lv_bipush (v := 9) hx hb dX12_init_13 (by decide) ?_
  refine va_newaI (N' := 9) (a0 := (9, .inl (fun _ => 0))) hx hb (hts _ (gw kw_73 rfl)) hK hP hD hS hA (by decide) (by decide) (by decide) (Nat.le_of_ble_eq_true rfl) (Nat.le_of_ble_eq_true rfl) dX12_init_15 rfl (fun q_2 H hP hD hS => ?_)
  have hpd9 : PDx (dC, dI) classes A H [cO g0 12 [Value.ref q_1, Value.null, Value.null, Value.null, Value.null, Value.null, Value.int 0, Value.int 0, Value.int 0, Value.null, Value.null, Value.null, Value.null, Value.int 0, Value.int 0, Value.int 0, Value.null, Value.int 0, Value.int 0, Value.int 0, Value.null, Value.null, Value.null, Value.null, Value.null, Value.null, Value.null, Value.null, Value.int 0, Value.null, Value.null, Value.null, Value.null], cI aC q_1 7 (fun _ => 0), cI aC q_2 9 (fun _ => 0)] := ⟨hP, hD⟩
  have hP := hpd9.1
  have hD := hpd9.2
  clear hpd9
  refine W.widen (k := 2) (n := 16) (by omega) (by omega) ?_
  refine va_putF (D := (dC, dI)) (ci := 12) (v := Value.ref q_2) (ty := .array .int) (C := RX12) (T := TX12) (N := 33) hx hb hts inX12 tyX12 tyX12_ok nmX12 hown hK hP hD hS 0 rfl rfl 1 (by decide) (hts _ (gw kw_718 rfl)) (fun _ h9 => h9) rfl hin rfl (by decide +kernel) rfl rfl (Nat.le_of_ble_eq_true rfl) dX12_init_17 (fun H locs hP hD hS => ?_)
  have hpd9 : PDx (dC, dI) classes A H [cO g0 12 [Value.ref q_1, Value.ref q_2, Value.null, Value.null, Value.null, Value.null, Value.int 0, Value.int 0, Value.int 0, Value.null, Value.null, Value.null, Value.null, Value.int 0, Value.int 0, Value.int 0, Value.null, Value.int 0, Value.int 0, Value.int 0, Value.null, Value.null, Value.null, Value.null, Value.null, Value.null, Value.null, Value.null, Value.int 0, Value.null, Value.null, Value.null, Value.null], cI aC q_1 7 (fun _ => 0), cI aC q_2 9 (fun _ => 0)] := ⟨hP, hD⟩
  have hP := hpd9.1
  have hD := hpd9.2
  clear hpd9
  refine lv_aload_n hx hb dX12_init_20 rfl (lv_at hl 0 rfl) ?_
  refine lv_bipush (v := 9) hx hb dX12_init_21 (by decide) ?_
  refine va_newaI (N' := 9) (a0 := (9, .inl (fun _ => 0))) hx hb (hts _ (gw kw_73 rfl)) hK hP hD hS hA (by decide) (by decide) (by decide) (Nat.le_of_ble_eq_true rfl) (Nat.le_of_ble_eq_true rfl) dX12_init_23 rfl (fun q_3 H hP hD hS => ?_)
  have hpd9 : PDx (dC, dI) classes A H [cO g0 12 [Value.ref q_1, Value.ref q_2, Value.null, Value.null, Value.null, Value.null, Value.int 0, Value.int 0, Value.int 0, Value.null, Value.null, Value.null, Value.null, Value.int 0, Value.int 0, Value.int 0, Value.null, Value.int 0, Value.int 0, Value.int 0, Value.null, Value.null, Value.null, Value.null, Value.null, Value.null, Value.null, Value.null, Value.int 0, Value.null, Value.null, Value.null, Value.null], cI aC q_1 7 (fun _ => 0), cI aC q_2 9 (fun _ => 0), cI aC q_3 9 (fun _ => 0)] := ⟨hP, hD⟩
  have hP := hpd9.1
  have hD := hpd9.2
  clear hpd9
  refine W.widen (k := 3) (n := 25) (by omega) (by omega) ?_
  refine va_putF (D := (dC, dI)) (ci := 12) (v := Value.ref q_3) (ty := .array .int) (C := RX12) (T := TX12) (N := 33) hx hb hts inX12 tyX12 tyX12_ok nmX12 hown hK hP hD hS 0 rfl rfl 2 (by decide) (hts _ (gw kw_719 rfl)) (fun _ h9 => h9) rfl hin rfl (by decide +kernel) rfl rfl (Nat.le_of_ble_eq_true rfl) dX12_init_25 (fun H locs hP hD hS => ?_)
  have hpd9 : PDx (dC, dI) classes A H [cO g0 12 [Value.ref q_1, Value.ref q_2, Value.ref q_3, Value.null, Value.null, Value.null, Value.int 0, Value.int 0, Value.int 0, Value.null, Value.null, Value.null, Value.null, Value.int 0, Value.int 0, Value.int 0, Value.null, Value.int 0, Value.int 0, Value.int 0, Value.null, Value.null, Value.null, Value.null, Value.null, Value.null, Value.null, Value.null, Value.int 0, Value.null, Value.null, Value.null, Value.null], cI aC q_1 7 (fun _ => 0), cI aC q_2 9 (fun _ => 0), cI aC q_3 9 (fun _ => 0)] := ⟨hP, hD⟩
  have hP := hpd9.1
  have hD := hpd9.2
  clear hpd9
  refine lv_aload_n hx hb dX12_init_28 rfl (lv_at hl 0 rfl) ?_
  refine lv_bipush (v := 9) hx hb dX12_init_29 (by decide) ?_
  refine va_newaI (N' := 9) (a0 := (9, .inl (fun _ => 0))) hx hb (hts _ (gw kw_73 rfl)) hK hP hD hS hA (by decide) (by decide) (by decide) (Nat.le_of_ble_eq_true rfl) (Nat.le_of_ble_eq_true rfl) dX12_init_31 rfl (fun q_4 H hP hD hS => ?_)
  have hpd9 : PDx (dC, dI) classes A H [cO g0 12 [Value.ref q_1, Value.ref q_2, Value.ref q_3, Value.null, Value.null, Value.null, Value.int 0, Value.int 0, Value.int 0, Value.null, Value.null, Value.null, Value.null, Value.int 0, Value.int 0, Value.int 0, Value.null, Value.int 0, Value.int 0, Value.int 0, Value.null, Value.null, Value.null, Value.null, Value.null, Value.null, Value.null, Value.null, Value.int 0, Value.null, Value.null, Value.null, Value.null], cI aC q_1 7 (fun _ => 0), cI aC q_2 9 (fun _ => 0), cI aC q_3 9 (fun _ => 0), cI aC q_4 9 (fun _ => 0)] := ⟨hP, hD⟩
  have hP := hpd9.1
  have hD := hpd9.2
  clear hpd9
  refine W.widen (k := 4) (n := 34) (by omega) (by omega) ?_
  refine va_putF (D := (dC, dI)) (ci := 12) (v := Value.ref q_4) (ty := .array .int) (C := RX12) (T := TX12) (N := 33) hx hb hts inX12 tyX12 tyX12_ok nmX12 hown hK hP hD hS 0 rfl rfl 3 (by decide) (hts _ (gw kw_720 rfl)) (fun _ h9 => h9) rfl hin rfl (by decide +kernel) rfl rfl (Nat.le_of_ble_eq_true rfl) dX12_init_33 (fun H locs hP hD hS => ?_)
  have hpd9 : PDx (dC, dI) classes A H [cO g0 12 [Value.ref q_1, Value.ref q_2, Value.ref q_3, Value.ref q_4, Value.null, Value.null, Value.int 0, Value.int 0, Value.int 0, Value.null, Value.null, Value.null, Value.null, Value.int 0, Value.int 0, Value.int 0, Value.null, Value.int 0, Value.int 0, Value.int 0, Value.null, Value.null, Value.null, Value.null, Value.null, Value.null, Value.null, Value.null, Value.int 0, Value.null, Value.null, Value.null, Value.null], cI aC q_1 7 (fun _ => 0), cI aC q_2 9 (fun _ => 0), cI aC q_3 9 (fun _ => 0), cI aC q_4 9 (fun _ => 0)] := ⟨hP, hD⟩
  have hP := hpd9.1
  have hD := hpd9.2
  clear hpd9
  refine lv_aload_n hx hb dX12_init_36 rfl (lv_at hl 0 rfl) ?_
  refine lv_bipush (v := 8) hx hb dX12_init_37 (by decide) ?_
  refine va_newaI (N' := 8) (a0 := (8, .inl (fun _ => 0))) hx hb (hts _ (gw kw_73 rfl)) hK hP hD hS hA (by decide) (by decide) (by decide) (Nat.le_of_ble_eq_true rfl) (Nat.le_of_ble_eq_true rfl) dX12_init_39 rfl (fun q_5 H hP hD hS => ?_)
  have hpd9 : PDx (dC, dI) classes A H [cO g0 12 [Value.ref q_1, Value.ref q_2, Value.ref q_3, Value.ref q_4, Value.null, Value.null, Value.int 0, Value.int 0, Value.int 0, Value.null, Value.null, Value.null, Value.null, Value.int 0, Value.int 0, Value.int 0, Value.null, Value.int 0, Value.int 0, Value.int 0, Value.null, Value.null, Value.null, Value.null, Value.null, Value.null, Value.null, Value.null, Value.int 0, Value.null, Value.null, Value.null, Value.null], cI aC q_1 7 (fun _ => 0), cI aC q_2 9 (fun _ => 0), cI aC q_3 9 (fun _ => 0), cI aC q_4 9 (fun _ => 0), cI aC q_5 8 (fun _ => 0)] := ⟨hP, hD⟩
  have hP := hpd9.1
  have hD := hpd9.2
  clear hpd9
  refine W.widen (k := 5) (n := 42) (by omega) (by omega) ?_
  refine va_putF (D := (dC, dI)) (ci := 12) (v := Value.ref q_5) (ty := .array .int) (C := RX12) (T := TX12) (N := 33) hx hb hts inX12 tyX12 tyX12_ok nmX12 hown hK hP hD hS 0 rfl rfl 4 (by decide) (hts _ (gw kw_721 rfl)) (fun _ h9 => h9) rfl hin rfl (by decide +kernel) rfl rfl (Nat.le_of_ble_eq_true rfl) dX12_init_41 (fun H locs hP hD hS => ?_)
  have hpd9 : PDx (dC, dI) classes A H [cO g0 12 [Value.ref q_1, Value.ref q_2, Value.ref q_3, Value.ref q_4, Value.ref q_5, Value.null, Value.int 0, Value.int 0, Value.int 0, Value.null, Value.null, Value.null, Value.null, Value.int 0, Value.int 0, Value.int 0, Value.null, Value.int 0, Value.int 0, Value.int 0, Value.null, Value.null, Value.null, Value.null, Value.null, Value.null, Value.null, Value.null, Value.int 0, Value.null, Value.null, Value.null, Value.null], cI aC q_1 7 (fun _ => 0), cI aC q_2 9 (fun _ => 0), cI aC q_3 9 (fun _ => 0), cI aC q_4 9 (fun _ => 0), cI aC q_5 8 (fun _ => 0)] := ⟨hP, hD⟩
  have hP := hpd9.1
  have hD := hpd9.2
  clear hpd9
  refine lv_aload_n hx hb dX12_init_44 rfl (lv_at hl 0 rfl) ?_
  refine lv_iconst (v := 5) hx hb dX12_init_45 (by decide) ?_
  refine va_newaI (N' := 5) (a0 := (5, .inl (fun _ => 0))) hx hb (hts _ (gw kw_73 rfl)) hK hP hD hS hA (by decide) (by decide) (by decide) (Nat.le_of_ble_eq_true rfl) (Nat.le_of_ble_eq_true rfl) dX12_init_46 rfl (fun q_6 H hP hD hS => ?_)
  have hpd9 : PDx (dC, dI) classes A H [cO g0 12 [Value.ref q_1, Value.ref q_2, Value.ref q_3, Value.ref q_4, Value.ref q_5, Value.null, Value.int 0, Value.int 0, Value.int 0, Value.null, Value.null, Value.null, Value.null, Value.int 0, Value.int 0, Value.int 0, Value.null, Value.int 0, Value.int 0, Value.int 0, Value.null, Value.null, Value.null, Value.null, Value.null, Value.null, Value.null, Value.null, Value.int 0, Value.null, Value.null, Value.null, Value.null], cI aC q_1 7 (fun _ => 0), cI aC q_2 9 (fun _ => 0), cI aC q_3 9 (fun _ => 0), cI aC q_4 9 (fun _ => 0), cI aC q_5 8 (fun _ => 0), cI aC q_6 5 (fun _ => 0)] := ⟨hP, hD⟩
  have hP := hpd9.1
  have hD := hpd9.2
  clear hpd9
  refine W.widen (k := 6) (n := 47) (by omega) (by omega) ?_
  refine lv_dup hx hb dX12_init_48 rfl ?_
  refine lv_iconst (v := 0) hx hb dX12_init_49 (by decide) ?_
  refine lv_bipush (v := 10) hx hb dX12_init_50 (by decide) ?_
  have h_7 : vp_in 0 5 := by first | exact vp_in_nI (by omega) (by omega) | (unfold vp_in; decide) | (subst_vars; first | (unfold vp_in; decide) | exact vp_in_nI (by omega) (by omega))
  refine va_iast hx hb hK hP hD hS 6 0 rfl rfl h_7 dX12_init_52 (fun H locs hP hD hS => ?_)
  obtain ⟨f_8, e_f_8⟩ : ∃ y : Nat → Int32, y = upd (fun _ => 0) (0 : Int32).toNatClampNeg 10 := ⟨_, rfl⟩
  have hpd9 : PDx (dC, dI) classes A H [cO g0 12 [Value.ref q_1, Value.ref q_2, Value.ref q_3, Value.ref q_4, Value.ref q_5, Value.null, Value.int 0, Value.int 0, Value.int 0, Value.null, Value.null, Value.null, Value.null, Value.int 0, Value.int 0, Value.int 0, Value.null, Value.int 0, Value.int 0, Value.int 0, Value.null, Value.null, Value.null, Value.null, Value.null, Value.null, Value.null, Value.null, Value.int 0, Value.null, Value.null, Value.null, Value.null], cI aC q_1 7 (fun _ => 0), cI aC q_2 9 (fun _ => 0), cI aC q_3 9 (fun _ => 0), cI aC q_4 9 (fun _ => 0), cI aC q_5 8 (fun _ => 0), cI aC q_6 5 f_8] := by rw [e_f_8]; exact ⟨hP, hD⟩
  have hP := hpd9.1
  have hD := hpd9.2
  clear hpd9
  refine lv_dup hx hb dX12_init_53 rfl ?_
  refine lv_iconst (v := 1) hx hb dX12_init_54 (by decide) ?_
  refine lv_iconst (v := 0) hx hb dX12_init_55 (by decide) ?_
  have h_9 : vp_in 1 5 := by first | exact vp_in_nI (by omega) (by omega) | (unfold vp_in; decide) | (subst_vars; first | (unfold vp_in; decide) | exact vp_in_nI (by omega) (by omega))
  refine va_iast hx hb hK hP hD hS 6 0 rfl rfl h_9 dX12_init_56 (fun H locs hP hD hS => ?_)
  obtain ⟨f_10, e_f_10⟩ : ∃ y : Nat → Int32, y = upd f_8 (1 : Int32).toNatClampNeg 0 := ⟨_, rfl⟩
  have hpd9 : PDx (dC, dI) classes A H [cO g0 12 [Value.ref q_1, Value.ref q_2, Value.ref q_3, Value.ref q_4, Value.ref q_5, Value.null, Value.int 0, Value.int 0, Value.int 0, Value.null, Value.null, Value.null, Value.null, Value.int 0, Value.int 0, Value.int 0, Value.null, Value.int 0, Value.int 0, Value.int 0, Value.null, Value.null, Value.null, Value.null, Value.null, Value.null, Value.null, Value.null, Value.int 0, Value.null, Value.null, Value.null, Value.null], cI aC q_1 7 (fun _ => 0), cI aC q_2 9 (fun _ => 0), cI aC q_3 9 (fun _ => 0), cI aC q_4 9 (fun _ => 0), cI aC q_5 8 (fun _ => 0), cI aC q_6 5 f_10] := by rw [e_f_10]; exact ⟨hP, hD⟩
  have hP := hpd9.1
  have hD := hpd9.2
  clear hpd9
  refine lv_dup hx hb dX12_init_57 rfl ?_
  refine lv_iconst (v := 2) hx hb dX12_init_58 (by decide) ?_
  refine lv_iconst (v := 0) hx hb dX12_init_59 (by decide) ?_
  have h_11 : vp_in 2 5 := by first | exact vp_in_nI (by omega) (by omega) | (unfold vp_in; decide) | (subst_vars; first | (unfold vp_in; decide) | exact vp_in_nI (by omega) (by omega))
  refine va_iast hx hb hK hP hD hS 6 0 rfl rfl h_11 dX12_init_60 (fun H locs hP hD hS => ?_)
  obtain ⟨f_12, e_f_12⟩ : ∃ y : Nat → Int32, y = upd f_10 (2 : Int32).toNatClampNeg 0 := ⟨_, rfl⟩
  have hpd9 : PDx (dC, dI) classes A H [cO g0 12 [Value.ref q_1, Value.ref q_2, Value.ref q_3, Value.ref q_4, Value.ref q_5, Value.null, Value.int 0, Value.int 0, Value.int 0, Value.null, Value.null, Value.null, Value.null, Value.int 0, Value.int 0, Value.int 0, Value.null, Value.int 0, Value.int 0, Value.int 0, Value.null, Value.null, Value.null, Value.null, Value.null, Value.null, Value.null, Value.null, Value.int 0, Value.null, Value.null, Value.null, Value.null], cI aC q_1 7 (fun _ => 0), cI aC q_2 9 (fun _ => 0), cI aC q_3 9 (fun _ => 0), cI aC q_4 9 (fun _ => 0), cI aC q_5 8 (fun _ => 0), cI aC q_6 5 f_12] := by rw [e_f_12]; exact ⟨hP, hD⟩
  have hP := hpd9.1
  have hD := hpd9.2
  clear hpd9
  refine lv_dup hx hb dX12_init_61 rfl ?_
  refine lv_iconst (v := 3) hx hb dX12_init_62 (by decide) ?_
  refine lv_iconst (v := 0) hx hb dX12_init_63 (by decide) ?_
  have h_13 : vp_in 3 5 := by first | exact vp_in_nI (by omega) (by omega) | (unfold vp_in; decide) | (subst_vars; first | (unfold vp_in; decide) | exact vp_in_nI (by omega) (by omega))
  refine va_iast hx hb hK hP hD hS 6 0 rfl rfl h_13 dX12_init_64 (fun H locs hP hD hS => ?_)
  obtain ⟨f_14, e_f_14⟩ : ∃ y : Nat → Int32, y = upd f_12 (3 : Int32).toNatClampNeg 0 := ⟨_, rfl⟩
  have hpd9 : PDx (dC, dI) classes A H [cO g0 12 [Value.ref q_1, Value.ref q_2, Value.ref q_3, Value.ref q_4, Value.ref q_5, Value.null, Value.int 0, Value.int 0, Value.int 0, Value.null, Value.null, Value.null, Value.null, Value.int 0, Value.int 0, Value.int 0, Value.null, Value.int 0, Value.int 0, Value.int 0, Value.null, Value.null, Value.null, Value.null, Value.null, Value.null, Value.null, Value.null, Value.int 0, Value.null, Value.null, Value.null, Value.null], cI aC q_1 7 (fun _ => 0), cI aC q_2 9 (fun _ => 0), cI aC q_3 9 (fun _ => 0), cI aC q_4 9 (fun _ => 0), cI aC q_5 8 (fun _ => 0), cI aC q_6 5 f_14] := by rw [e_f_14]; exact ⟨hP, hD⟩
  have hP := hpd9.1
  have hD := hpd9.2
  clear hpd9
  refine lv_dup hx hb dX12_init_65 rfl ?_
  refine lv_iconst (v := 4) hx hb dX12_init_66 (by decide) ?_
  refine lv_bipush (v := 10) hx hb dX12_init_67 (by decide) ?_
  have h_15 : vp_in 4 5 := by first | exact vp_in_nI (by omega) (by omega) | (unfold vp_in; decide) | (subst_vars; first | (unfold vp_in; decide) | exact vp_in_nI (by omega) (by omega))
  refine va_iast hx hb hK hP hD hS 6 0 rfl rfl h_15 dX12_init_69 (fun H locs hP hD hS => ?_)
  obtain ⟨f_16, e_f_16⟩ : ∃ y : Nat → Int32, y = upd f_14 (4 : Int32).toNatClampNeg 10 := ⟨_, rfl⟩
  have hpd9 : PDx (dC, dI) classes A H [cO g0 12 [Value.ref q_1, Value.ref q_2, Value.ref q_3, Value.ref q_4, Value.ref q_5, Value.null, Value.int 0, Value.int 0, Value.int 0, Value.null, Value.null, Value.null, Value.null, Value.int 0, Value.int 0, Value.int 0, Value.null, Value.int 0, Value.int 0, Value.int 0, Value.null, Value.null, Value.null, Value.null, Value.null, Value.null, Value.null, Value.null, Value.int 0, Value.null, Value.null, Value.null, Value.null], cI aC q_1 7 (fun _ => 0), cI aC q_2 9 (fun _ => 0), cI aC q_3 9 (fun _ => 0), cI aC q_4 9 (fun _ => 0), cI aC q_5 8 (fun _ => 0), cI aC q_6 5 f_16] := by rw [e_f_16]; exact ⟨hP, hD⟩
  have hP := hpd9.1
  have hD := hpd9.2
  clear hpd9
  refine va_putF (D := (dC, dI)) (ci := 12) (v := Value.ref q_6) (ty := .array .int) (C := RX12) (T := TX12) (N := 33) hx hb hts inX12 tyX12 tyX12_ok nmX12 hown hK hP hD hS 0 rfl rfl 5 (by decide) (hts _ (gw kw_722 rfl)) (fun _ h9 => h9) rfl hin rfl (by decide +kernel) rfl rfl (Nat.le_of_ble_eq_true rfl) dX12_init_70 (fun H locs hP hD hS => ?_)
  have hpd9 : PDx (dC, dI) classes A H [cO g0 12 [Value.ref q_1, Value.ref q_2, Value.ref q_3, Value.ref q_4, Value.ref q_5, Value.ref q_6, Value.int 0, Value.int 0, Value.int 0, Value.null, Value.null, Value.null, Value.null, Value.int 0, Value.int 0, Value.int 0, Value.null, Value.int 0, Value.int 0, Value.int 0, Value.null, Value.null, Value.null, Value.null, Value.null, Value.null, Value.null, Value.null, Value.int 0, Value.null, Value.null, Value.null, Value.null], cI aC q_1 7 (fun _ => 0), cI aC q_2 9 (fun _ => 0), cI aC q_3 9 (fun _ => 0), cI aC q_4 9 (fun _ => 0), cI aC q_5 8 (fun _ => 0), cI aC q_6 5 f_16] := ⟨hP, hD⟩
  have hP := hpd9.1
  have hD := hpd9.2
  clear hpd9
  refine lv_aload_n hx hb dX12_init_73 rfl (lv_at hl 0 rfl) ?_
  refine lv_bipush (v := 64) hx hb dX12_init_74 (by decide) ?_
  refine va_newaI (N' := 64) (a0 := (64, .inl (fun _ => 0))) hx hb (hts _ (gw kw_73 rfl)) hK hP hD hS hA (by decide) (by decide) (by decide) (Nat.le_of_ble_eq_true rfl) (Nat.le_of_ble_eq_true rfl) dX12_init_76 rfl (fun q_17 H hP hD hS => ?_)
  have hpd9 : PDx (dC, dI) classes A H [cO g0 12 [Value.ref q_1, Value.ref q_2, Value.ref q_3, Value.ref q_4, Value.ref q_5, Value.ref q_6, Value.int 0, Value.int 0, Value.int 0, Value.null, Value.null, Value.null, Value.null, Value.int 0, Value.int 0, Value.int 0, Value.null, Value.int 0, Value.int 0, Value.int 0, Value.null, Value.null, Value.null, Value.null, Value.null, Value.null, Value.null, Value.null, Value.int 0, Value.null, Value.null, Value.null, Value.null], cI aC q_1 7 (fun _ => 0), cI aC q_2 9 (fun _ => 0), cI aC q_3 9 (fun _ => 0), cI aC q_4 9 (fun _ => 0), cI aC q_5 8 (fun _ => 0), cI aC q_6 5 f_16, cI aC q_17 64 (fun _ => 0)] := ⟨hP, hD⟩
  have hP := hpd9.1
  have hD := hpd9.2
  clear hpd9
  refine W.widen (k := 7) (n := 111) (by omega) (by omega) ?_
  refine va_putF (D := (dC, dI)) (ci := 12) (v := Value.ref q_17) (ty := .array .int) (C := RX12) (T := TX12) (N := 33) hx hb hts inX12 tyX12 tyX12_ok nmX12 hown hK hP hD hS 0 rfl rfl 9 (by decide) (hts _ (gw kw_726 rfl)) (fun _ h9 => h9) rfl hin rfl (by decide +kernel) rfl rfl (Nat.le_of_ble_eq_true rfl) dX12_init_78 (fun H locs hP hD hS => ?_)
  have hpd9 : PDx (dC, dI) classes A H [cO g0 12 [Value.ref q_1, Value.ref q_2, Value.ref q_3, Value.ref q_4, Value.ref q_5, Value.ref q_6, Value.int 0, Value.int 0, Value.int 0, Value.ref q_17, Value.null, Value.null, Value.null, Value.int 0, Value.int 0, Value.int 0, Value.null, Value.int 0, Value.int 0, Value.int 0, Value.null, Value.null, Value.null, Value.null, Value.null, Value.null, Value.null, Value.null, Value.int 0, Value.null, Value.null, Value.null, Value.null], cI aC q_1 7 (fun _ => 0), cI aC q_2 9 (fun _ => 0), cI aC q_3 9 (fun _ => 0), cI aC q_4 9 (fun _ => 0), cI aC q_5 8 (fun _ => 0), cI aC q_6 5 f_16, cI aC q_17 64 (fun _ => 0)] := ⟨hP, hD⟩
  have hP := hpd9.1
  have hD := hpd9.2
  clear hpd9
  refine lv_aload_n hx hb dX12_init_81 rfl (lv_at hl 0 rfl) ?_
  refine lv_bipush (v := 32) hx hb dX12_init_82 (by decide) ?_
  refine va_newaI (N' := 32) (a0 := (32, .inl (fun _ => 0))) hx hb (hts _ (gw kw_73 rfl)) hK hP hD hS hA (by decide) (by decide) (by decide) (Nat.le_of_ble_eq_true rfl) (Nat.le_of_ble_eq_true rfl) dX12_init_84 rfl (fun q_18 H hP hD hS => ?_)
  have hpd9 : PDx (dC, dI) classes A H [cO g0 12 [Value.ref q_1, Value.ref q_2, Value.ref q_3, Value.ref q_4, Value.ref q_5, Value.ref q_6, Value.int 0, Value.int 0, Value.int 0, Value.ref q_17, Value.null, Value.null, Value.null, Value.int 0, Value.int 0, Value.int 0, Value.null, Value.int 0, Value.int 0, Value.int 0, Value.null, Value.null, Value.null, Value.null, Value.null, Value.null, Value.null, Value.null, Value.int 0, Value.null, Value.null, Value.null, Value.null], cI aC q_1 7 (fun _ => 0), cI aC q_2 9 (fun _ => 0), cI aC q_3 9 (fun _ => 0), cI aC q_4 9 (fun _ => 0), cI aC q_5 8 (fun _ => 0), cI aC q_6 5 f_16, cI aC q_17 64 (fun _ => 0), cI aC q_18 32 (fun _ => 0)] := ⟨hP, hD⟩
  have hP := hpd9.1
  have hD := hpd9.2
  clear hpd9
  refine W.widen (k := 8) (n := 143) (by omega) (by omega) ?_
  refine va_putF (D := (dC, dI)) (ci := 12) (v := Value.ref q_18) (ty := .array .int) (C := RX12) (T := TX12) (N := 33) hx hb hts inX12 tyX12 tyX12_ok nmX12 hown hK hP hD hS 0 rfl rfl 10 (by decide) (hts _ (gw kw_727 rfl)) (fun _ h9 => h9) rfl hin rfl (by decide +kernel) rfl rfl (Nat.le_of_ble_eq_true rfl) dX12_init_86 (fun H locs hP hD hS => ?_)
  have hpd9 : PDx (dC, dI) classes A H [cO g0 12 [Value.ref q_1, Value.ref q_2, Value.ref q_3, Value.ref q_4, Value.ref q_5, Value.ref q_6, Value.int 0, Value.int 0, Value.int 0, Value.ref q_17, Value.ref q_18, Value.null, Value.null, Value.int 0, Value.int 0, Value.int 0, Value.null, Value.int 0, Value.int 0, Value.int 0, Value.null, Value.null, Value.null, Value.null, Value.null, Value.null, Value.null, Value.null, Value.int 0, Value.null, Value.null, Value.null, Value.null], cI aC q_1 7 (fun _ => 0), cI aC q_2 9 (fun _ => 0), cI aC q_3 9 (fun _ => 0), cI aC q_4 9 (fun _ => 0), cI aC q_5 8 (fun _ => 0), cI aC q_6 5 f_16, cI aC q_17 64 (fun _ => 0), cI aC q_18 32 (fun _ => 0)] := ⟨hP, hD⟩
  have hP := hpd9.1
  have hD := hpd9.2
  clear hpd9
  refine lv_aload_n hx hb dX12_init_89 rfl (lv_at hl 0 rfl) ?_
  refine lv_bipush (v := 32) hx hb dX12_init_90 (by decide) ?_
  refine va_newaI (N' := 32) (a0 := (32, .inl (fun _ => 0))) hx hb (hts _ (gw kw_73 rfl)) hK hP hD hS hA (by decide) (by decide) (by decide) (Nat.le_of_ble_eq_true rfl) (Nat.le_of_ble_eq_true rfl) dX12_init_92 rfl (fun q_19 H hP hD hS => ?_)
  have hpd9 : PDx (dC, dI) classes A H [cO g0 12 [Value.ref q_1, Value.ref q_2, Value.ref q_3, Value.ref q_4, Value.ref q_5, Value.ref q_6, Value.int 0, Value.int 0, Value.int 0, Value.ref q_17, Value.ref q_18, Value.null, Value.null, Value.int 0, Value.int 0, Value.int 0, Value.null, Value.int 0, Value.int 0, Value.int 0, Value.null, Value.null, Value.null, Value.null, Value.null, Value.null, Value.null, Value.null, Value.int 0, Value.null, Value.null, Value.null, Value.null], cI aC q_1 7 (fun _ => 0), cI aC q_2 9 (fun _ => 0), cI aC q_3 9 (fun _ => 0), cI aC q_4 9 (fun _ => 0), cI aC q_5 8 (fun _ => 0), cI aC q_6 5 f_16, cI aC q_17 64 (fun _ => 0), cI aC q_18 32 (fun _ => 0), cI aC q_19 32 (fun _ => 0)] := ⟨hP, hD⟩
  have hP := hpd9.1
  have hD := hpd9.2
  clear hpd9
  refine W.widen (k := 9) (n := 175) (by omega) (by omega) ?_
  refine va_putF (D := (dC, dI)) (ci := 12) (v := Value.ref q_19) (ty := .array .int) (C := RX12) (T := TX12) (N := 33) hx hb hts inX12 tyX12 tyX12_ok nmX12 hown hK hP hD hS 0 rfl rfl 11 (by decide) (hts _ (gw kw_728 rfl)) (fun _ h9 => h9) rfl hin rfl (by decide +kernel) rfl rfl (Nat.le_of_ble_eq_true rfl) dX12_init_94 (fun H locs hP hD hS => ?_)
  have hpd9 : PDx (dC, dI) classes A H [cO g0 12 [Value.ref q_1, Value.ref q_2, Value.ref q_3, Value.ref q_4, Value.ref q_5, Value.ref q_6, Value.int 0, Value.int 0, Value.int 0, Value.ref q_17, Value.ref q_18, Value.ref q_19, Value.null, Value.int 0, Value.int 0, Value.int 0, Value.null, Value.int 0, Value.int 0, Value.int 0, Value.null, Value.null, Value.null, Value.null, Value.null, Value.null, Value.null, Value.null, Value.int 0, Value.null, Value.null, Value.null, Value.null], cI aC q_1 7 (fun _ => 0), cI aC q_2 9 (fun _ => 0), cI aC q_3 9 (fun _ => 0), cI aC q_4 9 (fun _ => 0), cI aC q_5 8 (fun _ => 0), cI aC q_6 5 f_16, cI aC q_17 64 (fun _ => 0), cI aC q_18 32 (fun _ => 0), cI aC q_19 32 (fun _ => 0)] := ⟨hP, hD⟩
  have hP := hpd9.1
  have hD := hpd9.2
  clear hpd9
  refine lv_aload_n hx hb dX12_init_97 rfl (lv_at hl 0 rfl) ?_
  refine lv_bipush (v := 96) hx hb dX12_init_98 (by decide) ?_
  refine va_newaI (N' := 96) (a0 := (96, .inl (fun _ => 0))) hx hb (hts _ (gw kw_73 rfl)) hK hP hD hS hA (by decide) (by decide) (by decide) (Nat.le_of_ble_eq_true rfl) (Nat.le_of_ble_eq_true rfl) dX12_init_100 rfl (fun q_20 H hP hD hS => ?_)
  have hpd9 : PDx (dC, dI) classes A H [cO g0 12 [Value.ref q_1, Value.ref q_2, Value.ref q_3, Value.ref q_4, Value.ref q_5, Value.ref q_6, Value.int 0, Value.int 0, Value.int 0, Value.ref q_17, Value.ref q_18, Value.ref q_19, Value.null, Value.int 0, Value.int 0, Value.int 0, Value.null, Value.int 0, Value.int 0, Value.int 0, Value.null, Value.null, Value.null, Value.null, Value.null, Value.null, Value.null, Value.null, Value.int 0, Value.null, Value.null, Value.null, Value.null], cI aC q_1 7 (fun _ => 0), cI aC q_2 9 (fun _ => 0), cI aC q_3 9 (fun _ => 0), cI aC q_4 9 (fun _ => 0), cI aC q_5 8 (fun _ => 0), cI aC q_6 5 f_16, cI aC q_17 64 (fun _ => 0), cI aC q_18 32 (fun _ => 0), cI aC q_19 32 (fun _ => 0), cI aC q_20 96 (fun _ => 0)] := ⟨hP, hD⟩
  have hP := hpd9.1
  have hD := hpd9.2
  clear hpd9
  refine W.widen (k := 10) (n := 271) (by omega) (by omega) ?_
  refine va_putF (D := (dC, dI)) (ci := 12) (v := Value.ref q_20) (ty := .array .int) (C := RX12) (T := TX12) (N := 33) hx hb hts inX12 tyX12 tyX12_ok nmX12 hown hK hP hD hS 0 rfl rfl 12 (by decide) (hts _ (gw kw_729 rfl)) (fun _ h9 => h9) rfl hin rfl (by decide +kernel) rfl rfl (Nat.le_of_ble_eq_true rfl) dX12_init_102 (fun H locs hP hD hS => ?_)
  have hpd9 : PDx (dC, dI) classes A H [cO g0 12 [Value.ref q_1, Value.ref q_2, Value.ref q_3, Value.ref q_4, Value.ref q_5, Value.ref q_6, Value.int 0, Value.int 0, Value.int 0, Value.ref q_17, Value.ref q_18, Value.ref q_19, Value.ref q_20, Value.int 0, Value.int 0, Value.int 0, Value.null, Value.int 0, Value.int 0, Value.int 0, Value.null, Value.null, Value.null, Value.null, Value.null, Value.null, Value.null, Value.null, Value.int 0, Value.null, Value.null, Value.null, Value.null], cI aC q_1 7 (fun _ => 0), cI aC q_2 9 (fun _ => 0), cI aC q_3 9 (fun _ => 0), cI aC q_4 9 (fun _ => 0), cI aC q_5 8 (fun _ => 0), cI aC q_6 5 f_16, cI aC q_17 64 (fun _ => 0), cI aC q_18 32 (fun _ => 0), cI aC q_19 32 (fun _ => 0), cI aC q_20 96 (fun _ => 0)] := ⟨hP, hD⟩
  have hP := hpd9.1
  have hD := hpd9.2
  clear hpd9
  refine lv_aload_n hx hb dX12_init_105 rfl (lv_at hl 0 rfl) ?_
  refine lv_bipush (v := 100) hx hb dX12_init_106 (by decide) ?_
  refine va_newaI (N' := 100) (a0 := (100, .inl (fun _ => 0))) hx hb (hts _ (gw kw_73 rfl)) hK hP hD hS hA (by decide) (by decide) (by decide) (Nat.le_of_ble_eq_true rfl) (Nat.le_of_ble_eq_true rfl) dX12_init_108 rfl (fun q_21 H hP hD hS => ?_)
  have hpd9 : PDx (dC, dI) classes A H [cO g0 12 [Value.ref q_1, Value.ref q_2, Value.ref q_3, Value.ref q_4, Value.ref q_5, Value.ref q_6, Value.int 0, Value.int 0, Value.int 0, Value.ref q_17, Value.ref q_18, Value.ref q_19, Value.ref q_20, Value.int 0, Value.int 0, Value.int 0, Value.null, Value.int 0, Value.int 0, Value.int 0, Value.null, Value.null, Value.null, Value.null, Value.null, Value.null, Value.null, Value.null, Value.int 0, Value.null, Value.null, Value.null, Value.null], cI aC q_1 7 (fun _ => 0), cI aC q_2 9 (fun _ => 0), cI aC q_3 9 (fun _ => 0), cI aC q_4 9 (fun _ => 0), cI aC q_5 8 (fun _ => 0), cI aC q_6 5 f_16, cI aC q_17 64 (fun _ => 0), cI aC q_18 32 (fun _ => 0), cI aC q_19 32 (fun _ => 0), cI aC q_20 96 (fun _ => 0), cI aC q_21 100 (fun _ => 0)] := ⟨hP, hD⟩
  have hP := hpd9.1
  have hD := hpd9.2
  clear hpd9
  refine W.widen (k := 11) (n := 371) (by omega) (by omega) ?_
  refine va_putF (D := (dC, dI)) (ci := 12) (v := Value.ref q_21) (ty := .array .int) (C := RX12) (T := TX12) (N := 33) hx hb hts inX12 tyX12 tyX12_ok nmX12 hown hK hP hD hS 0 rfl rfl 16 (by decide) (hts _ (gw kw_733 rfl)) (fun _ h9 => h9) rfl hin rfl (by decide +kernel) rfl rfl (Nat.le_of_ble_eq_true rfl) dX12_init_110 (fun H locs hP hD hS => ?_)
  have hpd9 : PDx (dC, dI) classes A H [cO g0 12 [Value.ref q_1, Value.ref q_2, Value.ref q_3, Value.ref q_4, Value.ref q_5, Value.ref q_6, Value.int 0, Value.int 0, Value.int 0, Value.ref q_17, Value.ref q_18, Value.ref q_19, Value.ref q_20, Value.int 0, Value.int 0, Value.int 0, Value.ref q_21, Value.int 0, Value.int 0, Value.int 0, Value.null, Value.null, Value.null, Value.null, Value.null, Value.null, Value.null, Value.null, Value.int 0, Value.null, Value.null, Value.null, Value.null], cI aC q_1 7 (fun _ => 0), cI aC q_2 9 (fun _ => 0), cI aC q_3 9 (fun _ => 0), cI aC q_4 9 (fun _ => 0), cI aC q_5 8 (fun _ => 0), cI aC q_6 5 f_16, cI aC q_17 64 (fun _ => 0), cI aC q_18 32 (fun _ => 0), cI aC q_19 32 (fun _ => 0), cI aC q_20 96 (fun _ => 0), cI aC q_21 100 (fun _ => 0)] := ⟨hP, hD⟩
  have hP := hpd9.1
  have hD := hpd9.2
  clear hpd9
  refine lv_aload_n hx hb dX12_init_113 rfl (lv_at hl 0 rfl) ?_
  refine lv_bipush (v := 81) hx hb dX12_init_114 (by decide) ?_
  refine va_newaI (N' := 81) (a0 := (81, .inl (fun _ => 0))) hx hb (hts _ (gw kw_73 rfl)) hK hP hD hS hA (by decide) (by decide) (by decide) (Nat.le_of_ble_eq_true rfl) (Nat.le_of_ble_eq_true rfl) dX12_init_116 rfl (fun q_22 H hP hD hS => ?_)
  have hpd9 : PDx (dC, dI) classes A H [cO g0 12 [Value.ref q_1, Value.ref q_2, Value.ref q_3, Value.ref q_4, Value.ref q_5, Value.ref q_6, Value.int 0, Value.int 0, Value.int 0, Value.ref q_17, Value.ref q_18, Value.ref q_19, Value.ref q_20, Value.int 0, Value.int 0, Value.int 0, Value.ref q_21, Value.int 0, Value.int 0, Value.int 0, Value.null, Value.null, Value.null, Value.null, Value.null, Value.null, Value.null, Value.null, Value.int 0, Value.null, Value.null, Value.null, Value.null], cI aC q_1 7 (fun _ => 0), cI aC q_2 9 (fun _ => 0), cI aC q_3 9 (fun _ => 0), cI aC q_4 9 (fun _ => 0), cI aC q_5 8 (fun _ => 0), cI aC q_6 5 f_16, cI aC q_17 64 (fun _ => 0), cI aC q_18 32 (fun _ => 0), cI aC q_19 32 (fun _ => 0), cI aC q_20 96 (fun _ => 0), cI aC q_21 100 (fun _ => 0), cI aC q_22 81 (fun _ => 0)] := ⟨hP, hD⟩
  have hP := hpd9.1
  have hD := hpd9.2
  clear hpd9
  refine W.widen (k := 12) (n := 452) (by omega) (by omega) ?_
  refine va_putF (D := (dC, dI)) (ci := 12) (v := Value.ref q_22) (ty := .array .int) (C := RX12) (T := TX12) (N := 33) hx hb hts inX12 tyX12 tyX12_ok nmX12 hown hK hP hD hS 0 rfl rfl 20 (by decide) (hts _ (gw kw_737 rfl)) (fun _ h9 => h9) rfl hin rfl (by decide +kernel) rfl rfl (Nat.le_of_ble_eq_true rfl) dX12_init_118 (fun H locs hP hD hS => ?_)
  have hpd9 : PDx (dC, dI) classes A H [cO g0 12 [Value.ref q_1, Value.ref q_2, Value.ref q_3, Value.ref q_4, Value.ref q_5, Value.ref q_6, Value.int 0, Value.int 0, Value.int 0, Value.ref q_17, Value.ref q_18, Value.ref q_19, Value.ref q_20, Value.int 0, Value.int 0, Value.int 0, Value.ref q_21, Value.int 0, Value.int 0, Value.int 0, Value.ref q_22, Value.null, Value.null, Value.null, Value.null, Value.null, Value.null, Value.null, Value.int 0, Value.null, Value.null, Value.null, Value.null], cI aC q_1 7 (fun _ => 0), cI aC q_2 9 (fun _ => 0), cI aC q_3 9 (fun _ => 0), cI aC q_4 9 (fun _ => 0), cI aC q_5 8 (fun _ => 0), cI aC q_6 5 f_16, cI aC q_17 64 (fun _ => 0), cI aC q_18 32 (fun _ => 0), cI aC q_19 32 (fun _ => 0), cI aC q_20 96 (fun _ => 0), cI aC q_21 100 (fun _ => 0), cI aC q_22 81 (fun _ => 0)] := ⟨hP, hD⟩
  have hP := hpd9.1
  have hD := hpd9.2
  clear hpd9
  refine lv_aload_n hx hb dX12_init_121 rfl (lv_at hl 0 rfl) ?_
  refine lv_bipush (v := 81) hx hb dX12_init_122 (by decide) ?_
  refine va_newaI (N' := 81) (a0 := (81, .inl (fun _ => 0))) hx hb (hts _ (gw kw_73 rfl)) hK hP hD hS hA (by decide) (by decide) (by decide) (Nat.le_of_ble_eq_true rfl) (Nat.le_of_ble_eq_true rfl) dX12_init_124 rfl (fun q_23 H hP hD hS => ?_)
  have hpd9 : PDx (dC, dI) classes A H [cO g0 12 [Value.ref q_1, Value.ref q_2, Value.ref q_3, Value.ref q_4, Value.ref q_5, Value.ref q_6, Value.int 0, Value.int 0, Value.int 0, Value.ref q_17, Value.ref q_18, Value.ref q_19, Value.ref q_20, Value.int 0, Value.int 0, Value.int 0, Value.ref q_21, Value.int 0, Value.int 0, Value.int 0, Value.ref q_22, Value.null, Value.null, Value.null, Value.null, Value.null, Value.null, Value.null, Value.int 0, Value.null, Value.null, Value.null, Value.null], cI aC q_1 7 (fun _ => 0), cI aC q_2 9 (fun _ => 0), cI aC q_3 9 (fun _ => 0), cI aC q_4 9 (fun _ => 0), cI aC q_5 8 (fun _ => 0), cI aC q_6 5 f_16, cI aC q_17 64 (fun _ => 0), cI aC q_18 32 (fun _ => 0), cI aC q_19 32 (fun _ => 0), cI aC q_20 96 (fun _ => 0), cI aC q_21 100 (fun _ => 0), cI aC q_22 81 (fun _ => 0), cI aC q_23 81 (fun _ => 0)] := ⟨hP, hD⟩
  have hP := hpd9.1
  have hD := hpd9.2
  clear hpd9
  refine W.widen (k := 13) (n := 533) (by omega) (by omega) ?_
  refine va_putF (D := (dC, dI)) (ci := 12) (v := Value.ref q_23) (ty := .array .int) (C := RX12) (T := TX12) (N := 33) hx hb hts inX12 tyX12 tyX12_ok nmX12 hown hK hP hD hS 0 rfl rfl 21 (by decide) (hts _ (gw kw_738 rfl)) (fun _ h9 => h9) rfl hin rfl (by decide +kernel) rfl rfl (Nat.le_of_ble_eq_true rfl) dX12_init_126 (fun H locs hP hD hS => ?_)
  have hpd9 : PDx (dC, dI) classes A H [cO g0 12 [Value.ref q_1, Value.ref q_2, Value.ref q_3, Value.ref q_4, Value.ref q_5, Value.ref q_6, Value.int 0, Value.int 0, Value.int 0, Value.ref q_17, Value.ref q_18, Value.ref q_19, Value.ref q_20, Value.int 0, Value.int 0, Value.int 0, Value.ref q_21, Value.int 0, Value.int 0, Value.int 0, Value.ref q_22, Value.ref q_23, Value.null, Value.null, Value.null, Value.null, Value.null, Value.null, Value.int 0, Value.null, Value.null, Value.null, Value.null], cI aC q_1 7 (fun _ => 0), cI aC q_2 9 (fun _ => 0), cI aC q_3 9 (fun _ => 0), cI aC q_4 9 (fun _ => 0), cI aC q_5 8 (fun _ => 0), cI aC q_6 5 f_16, cI aC q_17 64 (fun _ => 0), cI aC q_18 32 (fun _ => 0), cI aC q_19 32 (fun _ => 0), cI aC q_20 96 (fun _ => 0), cI aC q_21 100 (fun _ => 0), cI aC q_22 81 (fun _ => 0), cI aC q_23 81 (fun _ => 0)] := ⟨hP, hD⟩
  have hP := hpd9.1
  have hD := hpd9.2
  clear hpd9
  refine lv_aload_n hx hb dX12_init_129 rfl (lv_at hl 0 rfl) ?_
  refine lv_bipush (v := 90) hx hb dX12_init_130 (by decide) ?_
  refine va_newaI (N' := 90) (a0 := (90, .inl (fun _ => 0))) hx hb (hts _ (gw kw_73 rfl)) hK hP hD hS hA (by decide) (by decide) (by decide) (Nat.le_of_ble_eq_true rfl) (Nat.le_of_ble_eq_true rfl) dX12_init_132 rfl (fun q_24 H hP hD hS => ?_)
  have hpd9 : PDx (dC, dI) classes A H [cO g0 12 [Value.ref q_1, Value.ref q_2, Value.ref q_3, Value.ref q_4, Value.ref q_5, Value.ref q_6, Value.int 0, Value.int 0, Value.int 0, Value.ref q_17, Value.ref q_18, Value.ref q_19, Value.ref q_20, Value.int 0, Value.int 0, Value.int 0, Value.ref q_21, Value.int 0, Value.int 0, Value.int 0, Value.ref q_22, Value.ref q_23, Value.null, Value.null, Value.null, Value.null, Value.null, Value.null, Value.int 0, Value.null, Value.null, Value.null, Value.null], cI aC q_1 7 (fun _ => 0), cI aC q_2 9 (fun _ => 0), cI aC q_3 9 (fun _ => 0), cI aC q_4 9 (fun _ => 0), cI aC q_5 8 (fun _ => 0), cI aC q_6 5 f_16, cI aC q_17 64 (fun _ => 0), cI aC q_18 32 (fun _ => 0), cI aC q_19 32 (fun _ => 0), cI aC q_20 96 (fun _ => 0), cI aC q_21 100 (fun _ => 0), cI aC q_22 81 (fun _ => 0), cI aC q_23 81 (fun _ => 0), cI aC q_24 90 (fun _ => 0)] := ⟨hP, hD⟩
  have hP := hpd9.1
  have hD := hpd9.2
  clear hpd9
  refine W.widen (k := 14) (n := 623) (by omega) (by omega) ?_
  refine va_putF (D := (dC, dI)) (ci := 12) (v := Value.ref q_24) (ty := .array .int) (C := RX12) (T := TX12) (N := 33) hx hb hts inX12 tyX12 tyX12_ok nmX12 hown hK hP hD hS 0 rfl rfl 22 (by decide) (hts _ (gw kw_739 rfl)) (fun _ h9 => h9) rfl hin rfl (by decide +kernel) rfl rfl (Nat.le_of_ble_eq_true rfl) dX12_init_134 (fun H locs hP hD hS => ?_)
  have hpd9 : PDx (dC, dI) classes A H [cO g0 12 [Value.ref q_1, Value.ref q_2, Value.ref q_3, Value.ref q_4, Value.ref q_5, Value.ref q_6, Value.int 0, Value.int 0, Value.int 0, Value.ref q_17, Value.ref q_18, Value.ref q_19, Value.ref q_20, Value.int 0, Value.int 0, Value.int 0, Value.ref q_21, Value.int 0, Value.int 0, Value.int 0, Value.ref q_22, Value.ref q_23, Value.ref q_24, Value.null, Value.null, Value.null, Value.null, Value.null, Value.int 0, Value.null, Value.null, Value.null, Value.null], cI aC q_1 7 (fun _ => 0), cI aC q_2 9 (fun _ => 0), cI aC q_3 9 (fun _ => 0), cI aC q_4 9 (fun _ => 0), cI aC q_5 8 (fun _ => 0), cI aC q_6 5 f_16, cI aC q_17 64 (fun _ => 0), cI aC q_18 32 (fun _ => 0), cI aC q_19 32 (fun _ => 0), cI aC q_20 96 (fun _ => 0), cI aC q_21 100 (fun _ => 0), cI aC q_22 81 (fun _ => 0), cI aC q_23 81 (fun _ => 0), cI aC q_24 90 (fun _ => 0)] := ⟨hP, hD⟩
  have hP := hpd9.1
  have hD := hpd9.2
  clear hpd9
  refine lv_aload_n hx hb dX12_init_137 rfl (lv_at hl 0 rfl) ?_
  refine lv_bipush (v := 9) hx hb dX12_init_138 (by decide) ?_
  refine va_newaI (N' := 9) (a0 := (9, .inl (fun _ => 0))) hx hb (hts _ (gw kw_73 rfl)) hK hP hD hS hA (by decide) (by decide) (by decide) (Nat.le_of_ble_eq_true rfl) (Nat.le_of_ble_eq_true rfl) dX12_init_140 rfl (fun q_25 H hP hD hS => ?_)
  have hpd9 : PDx (dC, dI) classes A H [cO g0 12 [Value.ref q_1, Value.ref q_2, Value.ref q_3, Value.ref q_4, Value.ref q_5, Value.ref q_6, Value.int 0, Value.int 0, Value.int 0, Value.ref q_17, Value.ref q_18, Value.ref q_19, Value.ref q_20, Value.int 0, Value.int 0, Value.int 0, Value.ref q_21, Value.int 0, Value.int 0, Value.int 0, Value.ref q_22, Value.ref q_23, Value.ref q_24, Value.null, Value.null, Value.null, Value.null, Value.null, Value.int 0, Value.null, Value.null, Value.null, Value.null], cI aC q_1 7 (fun _ => 0), cI aC q_2 9 (fun _ => 0), cI aC q_3 9 (fun _ => 0), cI aC q_4 9 (fun _ => 0), cI aC q_5 8 (fun _ => 0), cI aC q_6 5 f_16, cI aC q_17 64 (fun _ => 0), cI aC q_18 32 (fun _ => 0), cI aC q_19 32 (fun _ => 0), cI aC q_20 96 (fun _ => 0), cI aC q_21 100 (fun _ => 0), cI aC q_22 81 (fun _ => 0), cI aC q_23 81 (fun _ => 0), cI aC q_24 90 (fun _ => 0), cI aC q_25 9 (fun _ => 0)] := ⟨hP, hD⟩
  have hP := hpd9.1
  have hD := hpd9.2
  clear hpd9
  refine W.widen (k := 15) (n := 632) (by omega) (by omega) ?_
  refine va_putF (D := (dC, dI)) (ci := 12) (v := Value.ref q_25) (ty := .array .int) (C := RX12) (T := TX12) (N := 33) hx hb hts inX12 tyX12 tyX12_ok nmX12 hown hK hP hD hS 0 rfl rfl 23 (by decide) (hts _ (gw kw_740 rfl)) (fun _ h9 => h9) rfl hin rfl (by decide +kernel) rfl rfl (Nat.le_of_ble_eq_true rfl) dX12_init_142 (fun H locs hP hD hS => ?_)
  have hpd9 : PDx (dC, dI) classes A H [cO g0 12 [Value.ref q_1, Value.ref q_2, Value.ref q_3, Value.ref q_4, Value.ref q_5, Value.ref q_6, Value.int 0, Value.int 0, Value.int 0, Value.ref q_17, Value.ref q_18, Value.ref q_19, Value.ref q_20, Value.int 0, Value.int 0, Value.int 0, Value.ref q_21, Value.int 0, Value.int 0, Value.int 0, Value.ref q_22, Value.ref q_23, Value.ref q_24, Value.ref q_25, Value.null, Value.null, Value.null, Value.null, Value.int 0, Value.null, Value.null, Value.null, Value.null], cI aC q_1 7 (fun _ => 0), cI aC q_2 9 (fun _ => 0), cI aC q_3 9 (fun _ => 0), cI aC q_4 9 (fun _ => 0), cI aC q_5 8 (fun _ => 0), cI aC q_6 5 f_16, cI aC q_17 64 (fun _ => 0), cI aC q_18 32 (fun _ => 0), cI aC q_19 32 (fun _ => 0), cI aC q_20 96 (fun _ => 0), cI aC q_21 100 (fun _ => 0), cI aC q_22 81 (fun _ => 0), cI aC q_23 81 (fun _ => 0), cI aC q_24 90 (fun _ => 0), cI aC q_25 9 (fun _ => 0)] := ⟨hP, hD⟩
  have hP := hpd9.1
  have hD := hpd9.2
  clear hpd9
  refine lv_aload_n hx hb dX12_init_145 rfl (lv_at hl 0 rfl) ?_
  refine lv_bipush (v := 9) hx hb dX12_init_146 (by decide) ?_
  refine va_newaI (N' := 9) (a0 := (9, .inl (fun _ => 0))) hx hb (hts _ (gw kw_73 rfl)) hK hP hD hS hA (by decide) (by decide) (by decide) (Nat.le_of_ble_eq_true rfl) (Nat.le_of_ble_eq_true rfl) dX12_init_148 rfl (fun q_26 H hP hD hS => ?_)
  have hpd9 : PDx (dC, dI) classes A H [cO g0 12 [Value.ref q_1, Value.ref q_2, Value.ref q_3, Value.ref q_4, Value.ref q_5, Value.ref q_6, Value.int 0, Value.int 0, Value.int 0, Value.ref q_17, Value.ref q_18, Value.ref q_19, Value.ref q_20, Value.int 0, Value.int 0, Value.int 0, Value.ref q_21, Value.int 0, Value.int 0, Value.int 0, Value.ref q_22, Value.ref q_23, Value.ref q_24, Value.ref q_25, Value.null, Value.null, Value.null, Value.null, Value.int 0, Value.null, Value.null, Value.null, Value.null], cI aC q_1 7 (fun _ => 0), cI aC q_2 9 (fun _ => 0), cI aC q_3 9 (fun _ => 0), cI aC q_4 9 (fun _ => 0), cI aC q_5 8 (fun _ => 0), cI aC q_6 5 f_16, cI aC q_17 64 (fun _ => 0), cI aC q_18 32 (fun _ => 0), cI aC q_19 32 (fun _ => 0), cI aC q_20 96 (fun _ => 0), cI aC q_21 100 (fun _ => 0), cI aC q_22 81 (fun _ => 0), cI aC q_23 81 (fun _ => 0), cI aC q_24 90 (fun _ => 0), cI aC q_25 9 (fun _ => 0), cI aC q_26 9 (fun _ => 0)] := ⟨hP, hD⟩
  have hP := hpd9.1
  have hD := hpd9.2
  clear hpd9
  refine W.widen (k := 16) (n := 641) (by omega) (by omega) ?_
  refine va_putF (D := (dC, dI)) (ci := 12) (v := Value.ref q_26) (ty := .array .int) (C := RX12) (T := TX12) (N := 33) hx hb hts inX12 tyX12 tyX12_ok nmX12 hown hK hP hD hS 0 rfl rfl 24 (by decide) (hts _ (gw kw_741 rfl)) (fun _ h9 => h9) rfl hin rfl (by decide +kernel) rfl rfl (Nat.le_of_ble_eq_true rfl) dX12_init_150 (fun H locs hP hD hS => ?_)
  have hpd9 : PDx (dC, dI) classes A H [cO g0 12 [Value.ref q_1, Value.ref q_2, Value.ref q_3, Value.ref q_4, Value.ref q_5, Value.ref q_6, Value.int 0, Value.int 0, Value.int 0, Value.ref q_17, Value.ref q_18, Value.ref q_19, Value.ref q_20, Value.int 0, Value.int 0, Value.int 0, Value.ref q_21, Value.int 0, Value.int 0, Value.int 0, Value.ref q_22, Value.ref q_23, Value.ref q_24, Value.ref q_25, Value.ref q_26, Value.null, Value.null, Value.null, Value.int 0, Value.null, Value.null, Value.null, Value.null], cI aC q_1 7 (fun _ => 0), cI aC q_2 9 (fun _ => 0), cI aC q_3 9 (fun _ => 0), cI aC q_4 9 (fun _ => 0), cI aC q_5 8 (fun _ => 0), cI aC q_6 5 f_16, cI aC q_17 64 (fun _ => 0), cI aC q_18 32 (fun _ => 0), cI aC q_19 32 (fun _ => 0), cI aC q_20 96 (fun _ => 0), cI aC q_21 100 (fun _ => 0), cI aC q_22 81 (fun _ => 0), cI aC q_23 81 (fun _ => 0), cI aC q_24 90 (fun _ => 0), cI aC q_25 9 (fun _ => 0), cI aC q_26 9 (fun _ => 0)] := ⟨hP, hD⟩
  have hP := hpd9.1
  have hD := hpd9.2
  clear hpd9
  refine lv_aload_n hx hb dX12_init_153 rfl (lv_at hl 0 rfl) ?_
  refine lv_bipush (v := 9) hx hb dX12_init_154 (by decide) ?_
  refine va_newaI (N' := 9) (a0 := (9, .inl (fun _ => 0))) hx hb (hts _ (gw kw_73 rfl)) hK hP hD hS hA (by decide) (by decide) (by decide) (Nat.le_of_ble_eq_true rfl) (Nat.le_of_ble_eq_true rfl) dX12_init_156 rfl (fun q_27 H hP hD hS => ?_)
  have hpd9 : PDx (dC, dI) classes A H [cO g0 12 [Value.ref q_1, Value.ref q_2, Value.ref q_3, Value.ref q_4, Value.ref q_5, Value.ref q_6, Value.int 0, Value.int 0, Value.int 0, Value.ref q_17, Value.ref q_18, Value.ref q_19, Value.ref q_20, Value.int 0, Value.int 0, Value.int 0, Value.ref q_21, Value.int 0, Value.int 0, Value.int 0, Value.ref q_22, Value.ref q_23, Value.ref q_24, Value.ref q_25, Value.ref q_26, Value.null, Value.null, Value.null, Value.int 0, Value.null, Value.null, Value.null, Value.null], cI aC q_1 7 (fun _ => 0), cI aC q_2 9 (fun _ => 0), cI aC q_3 9 (fun _ => 0), cI aC q_4 9 (fun _ => 0), cI aC q_5 8 (fun _ => 0), cI aC q_6 5 f_16, cI aC q_17 64 (fun _ => 0), cI aC q_18 32 (fun _ => 0), cI aC q_19 32 (fun _ => 0), cI aC q_20 96 (fun _ => 0), cI aC q_21 100 (fun _ => 0), cI aC q_22 81 (fun _ => 0), cI aC q_23 81 (fun _ => 0), cI aC q_24 90 (fun _ => 0), cI aC q_25 9 (fun _ => 0), cI aC q_26 9 (fun _ => 0), cI aC q_27 9 (fun _ => 0)] := ⟨hP, hD⟩
  have hP := hpd9.1
  have hD := hpd9.2
  clear hpd9
  refine W.widen (k := 17) (n := 650) (by omega) (by omega) ?_
  refine va_putF (D := (dC, dI)) (ci := 12) (v := Value.ref q_27) (ty := .array .int) (C := RX12) (T := TX12) (N := 33) hx hb hts inX12 tyX12 tyX12_ok nmX12 hown hK hP hD hS 0 rfl rfl 25 (by decide) (hts _ (gw kw_742 rfl)) (fun _ h9 => h9) rfl hin rfl (by decide +kernel) rfl rfl (Nat.le_of_ble_eq_true rfl) dX12_init_158 (fun H locs hP hD hS => ?_)
  have hpd9 : PDx (dC, dI) classes A H [cO g0 12 [Value.ref q_1, Value.ref q_2, Value.ref q_3, Value.ref q_4, Value.ref q_5, Value.ref q_6, Value.int 0, Value.int 0, Value.int 0, Value.ref q_17, Value.ref q_18, Value.ref q_19, Value.ref q_20, Value.int 0, Value.int 0, Value.int 0, Value.ref q_21, Value.int 0, Value.int 0, Value.int 0, Value.ref q_22, Value.ref q_23, Value.ref q_24, Value.ref q_25, Value.ref q_26, Value.ref q_27, Value.null, Value.null, Value.int 0, Value.null, Value.null, Value.null, Value.null], cI aC q_1 7 (fun _ => 0), cI aC q_2 9 (fun _ => 0), cI aC q_3 9 (fun _ => 0), cI aC q_4 9 (fun _ => 0), cI aC q_5 8 (fun _ => 0), cI aC q_6 5 f_16, cI aC q_17 64 (fun _ => 0), cI aC q_18 32 (fun _ => 0), cI aC q_19 32 (fun _ => 0), cI aC q_20 96 (fun _ => 0), cI aC q_21 100 (fun _ => 0), cI aC q_22 81 (fun _ => 0), cI aC q_23 81 (fun _ => 0), cI aC q_24 90 (fun _ => 0), cI aC q_25 9 (fun _ => 0), cI aC q_26 9 (fun _ => 0), cI aC q_27 9 (fun _ => 0)] := ⟨hP, hD⟩
  have hP := hpd9.1
  have hD := hpd9.2
  clear hpd9
  refine lv_aload_n hx hb dX12_init_161 rfl (lv_at hl 0 rfl) ?_
  refine lv_bipush (v := 9) hx hb dX12_init_162 (by decide) ?_
  refine va_newaI (N' := 9) (a0 := (9, .inl (fun _ => 0))) hx hb (hts _ (gw kw_73 rfl)) hK hP hD hS hA (by decide) (by decide) (by decide) (Nat.le_of_ble_eq_true rfl) (Nat.le_of_ble_eq_true rfl) dX12_init_164 rfl (fun q_28 H hP hD hS => ?_)
  have hpd9 : PDx (dC, dI) classes A H [cO g0 12 [Value.ref q_1, Value.ref q_2, Value.ref q_3, Value.ref q_4, Value.ref q_5, Value.ref q_6, Value.int 0, Value.int 0, Value.int 0, Value.ref q_17, Value.ref q_18, Value.ref q_19, Value.ref q_20, Value.int 0, Value.int 0, Value.int 0, Value.ref q_21, Value.int 0, Value.int 0, Value.int 0, Value.ref q_22, Value.ref q_23, Value.ref q_24, Value.ref q_25, Value.ref q_26, Value.ref q_27, Value.null, Value.null, Value.int 0, Value.null, Value.null, Value.null, Value.null], cI aC q_1 7 (fun _ => 0), cI aC q_2 9 (fun _ => 0), cI aC q_3 9 (fun _ => 0), cI aC q_4 9 (fun _ => 0), cI aC q_5 8 (fun _ => 0), cI aC q_6 5 f_16, cI aC q_17 64 (fun _ => 0), cI aC q_18 32 (fun _ => 0), cI aC q_19 32 (fun _ => 0), cI aC q_20 96 (fun _ => 0), cI aC q_21 100 (fun _ => 0), cI aC q_22 81 (fun _ => 0), cI aC q_23 81 (fun _ => 0), cI aC q_24 90 (fun _ => 0), cI aC q_25 9 (fun _ => 0), cI aC q_26 9 (fun _ => 0), cI aC q_27 9 (fun _ => 0), cI aC q_28 9 (fun _ => 0)] := ⟨hP, hD⟩
  have hP := hpd9.1
  have hD := hpd9.2
  clear hpd9
  refine W.widen (k := 18) (n := 659) (by omega) (by omega) ?_
  refine va_putF (D := (dC, dI)) (ci := 12) (v := Value.ref q_28) (ty := .array .int) (C := RX12) (T := TX12) (N := 33) hx hb hts inX12 tyX12 tyX12_ok nmX12 hown hK hP hD hS 0 rfl rfl 26 (by decide) (hts _ (gw kw_743 rfl)) (fun _ h9 => h9) rfl hin rfl (by decide +kernel) rfl rfl (Nat.le_of_ble_eq_true rfl) dX12_init_166 (fun H locs hP hD hS => ?_)
  have hpd9 : PDx (dC, dI) classes A H [cO g0 12 [Value.ref q_1, Value.ref q_2, Value.ref q_3, Value.ref q_4, Value.ref q_5, Value.ref q_6, Value.int 0, Value.int 0, Value.int 0, Value.ref q_17, Value.ref q_18, Value.ref q_19, Value.ref q_20, Value.int 0, Value.int 0, Value.int 0, Value.ref q_21, Value.int 0, Value.int 0, Value.int 0, Value.ref q_22, Value.ref q_23, Value.ref q_24, Value.ref q_25, Value.ref q_26, Value.ref q_27, Value.ref q_28, Value.null, Value.int 0, Value.null, Value.null, Value.null, Value.null], cI aC q_1 7 (fun _ => 0), cI aC q_2 9 (fun _ => 0), cI aC q_3 9 (fun _ => 0), cI aC q_4 9 (fun _ => 0), cI aC q_5 8 (fun _ => 0), cI aC q_6 5 f_16, cI aC q_17 64 (fun _ => 0), cI aC q_18 32 (fun _ => 0), cI aC q_19 32 (fun _ => 0), cI aC q_20 96 (fun _ => 0), cI aC q_21 100 (fun _ => 0), cI aC q_22 81 (fun _ => 0), cI aC q_23 81 (fun _ => 0), cI aC q_24 90 (fun _ => 0), cI aC q_25 9 (fun _ => 0), cI aC q_26 9 (fun _ => 0), cI aC q_27 9 (fun _ => 0), cI aC q_28 9 (fun _ => 0)] := ⟨hP, hD⟩
  have hP := hpd9.1
  have hD := hpd9.2
  clear hpd9
  refine lv_aload_n hx hb dX12_init_169 rfl (lv_at hl 0 rfl) ?_
  refine lv_bipush (v := 8) hx hb dX12_init_170 (by decide) ?_
  refine va_newaI (N' := 8) (a0 := (8, .inl (fun _ => 0))) hx hb (hts _ (gw kw_73 rfl)) hK hP hD hS hA (by decide) (by decide) (by decide) (Nat.le_of_ble_eq_true rfl) (Nat.le_of_ble_eq_true rfl) dX12_init_172 rfl (fun q_29 H hP hD hS => ?_)
  have hpd9 : PDx (dC, dI) classes A H [cO g0 12 [Value.ref q_1, Value.ref q_2, Value.ref q_3, Value.ref q_4, Value.ref q_5, Value.ref q_6, Value.int 0, Value.int 0, Value.int 0, Value.ref q_17, Value.ref q_18, Value.ref q_19, Value.ref q_20, Value.int 0, Value.int 0, Value.int 0, Value.ref q_21, Value.int 0, Value.int 0, Value.int 0, Value.ref q_22, Value.ref q_23, Value.ref q_24, Value.ref q_25, Value.ref q_26, Value.ref q_27, Value.ref q_28, Value.null, Value.int 0, Value.null, Value.null, Value.null, Value.null], cI aC q_1 7 (fun _ => 0), cI aC q_2 9 (fun _ => 0), cI aC q_3 9 (fun _ => 0), cI aC q_4 9 (fun _ => 0), cI aC q_5 8 (fun _ => 0), cI aC q_6 5 f_16, cI aC q_17 64 (fun _ => 0), cI aC q_18 32 (fun _ => 0), cI aC q_19 32 (fun _ => 0), cI aC q_20 96 (fun _ => 0), cI aC q_21 100 (fun _ => 0), cI aC q_22 81 (fun _ => 0), cI aC q_23 81 (fun _ => 0), cI aC q_24 90 (fun _ => 0), cI aC q_25 9 (fun _ => 0), cI aC q_26 9 (fun _ => 0), cI aC q_27 9 (fun _ => 0), cI aC q_28 9 (fun _ => 0), cI aC q_29 8 (fun _ => 0)] := ⟨hP, hD⟩
  have hP := hpd9.1
  have hD := hpd9.2
  clear hpd9
  refine W.widen (k := 19) (n := 667) (by omega) (by omega) ?_
  refine va_putF (D := (dC, dI)) (ci := 12) (v := Value.ref q_29) (ty := .array .int) (C := RX12) (T := TX12) (N := 33) hx hb hts inX12 tyX12 tyX12_ok nmX12 hown hK hP hD hS 0 rfl rfl 27 (by decide) (hts _ (gw kw_744 rfl)) (fun _ h9 => h9) rfl hin rfl (by decide +kernel) rfl rfl (Nat.le_of_ble_eq_true rfl) dX12_init_174 (fun H locs hP hD hS => ?_)
  have hpd9 : PDx (dC, dI) classes A H [cO g0 12 [Value.ref q_1, Value.ref q_2, Value.ref q_3, Value.ref q_4, Value.ref q_5, Value.ref q_6, Value.int 0, Value.int 0, Value.int 0, Value.ref q_17, Value.ref q_18, Value.ref q_19, Value.ref q_20, Value.int 0, Value.int 0, Value.int 0, Value.ref q_21, Value.int 0, Value.int 0, Value.int 0, Value.ref q_22, Value.ref q_23, Value.ref q_24, Value.ref q_25, Value.ref q_26, Value.ref q_27, Value.ref q_28, Value.ref q_29, Value.int 0, Value.null, Value.null, Value.null, Value.null], cI aC q_1 7 (fun _ => 0), cI aC q_2 9 (fun _ => 0), cI aC q_3 9 (fun _ => 0), cI aC q_4 9 (fun _ => 0), cI aC q_5 8 (fun _ => 0), cI aC q_6 5 f_16, cI aC q_17 64 (fun _ => 0), cI aC q_18 32 (fun _ => 0), cI aC q_19 32 (fun _ => 0), cI aC q_20 96 (fun _ => 0), cI aC q_21 100 (fun _ => 0), cI aC q_22 81 (fun _ => 0), cI aC q_23 81 (fun _ => 0), cI aC q_24 90 (fun _ => 0), cI aC q_25 9 (fun _ => 0), cI aC q_26 9 (fun _ => 0), cI aC q_27 9 (fun _ => 0), cI aC q_28 9 (fun _ => 0), cI aC q_29 8 (fun _ => 0)] := ⟨hP, hD⟩
  have hP := hpd9.1
  have hD := hpd9.2
  clear hpd9
  refine lv_aload_n hx hb dX12_init_177 rfl (lv_at hl 0 rfl) ?_
  refine lv_bipush (v := 8) hx hb dX12_init_178 (by decide) ?_
  refine va_newaI (N' := 8) (a0 := (8, .inl (fun _ => 0))) hx hb (hts _ (gw kw_73 rfl)) hK hP hD hS hA (by decide) (by decide) (by decide) (Nat.le_of_ble_eq_true rfl) (Nat.le_of_ble_eq_true rfl) dX12_init_180 rfl (fun q_30 H hP hD hS => ?_)
  have hpd9 : PDx (dC, dI) classes A H [cO g0 12 [Value.ref q_1, Value.ref q_2, Value.ref q_3, Value.ref q_4, Value.ref q_5, Value.ref q_6, Value.int 0, Value.int 0, Value.int 0, Value.ref q_17, Value.ref q_18, Value.ref q_19, Value.ref q_20, Value.int 0, Value.int 0, Value.int 0, Value.ref q_21, Value.int 0, Value.int 0, Value.int 0, Value.ref q_22, Value.ref q_23, Value.ref q_24, Value.ref q_25, Value.ref q_26, Value.ref q_27, Value.ref q_28, Value.ref q_29, Value.int 0, Value.null, Value.null, Value.null, Value.null], cI aC q_1 7 (fun _ => 0), cI aC q_2 9 (fun _ => 0), cI aC q_3 9 (fun _ => 0), cI aC q_4 9 (fun _ => 0), cI aC q_5 8 (fun _ => 0), cI aC q_6 5 f_16, cI aC q_17 64 (fun _ => 0), cI aC q_18 32 (fun _ => 0), cI aC q_19 32 (fun _ => 0), cI aC q_20 96 (fun _ => 0), cI aC q_21 100 (fun _ => 0), cI aC q_22 81 (fun _ => 0), cI aC q_23 81 (fun _ => 0), cI aC q_24 90 (fun _ => 0), cI aC q_25 9 (fun _ => 0), cI aC q_26 9 (fun _ => 0), cI aC q_27 9 (fun _ => 0), cI aC q_28 9 (fun _ => 0), cI aC q_29 8 (fun _ => 0), cI aC q_30 8 (fun _ => 0)] := ⟨hP, hD⟩
  have hP := hpd9.1
  have hD := hpd9.2
  clear hpd9
  refine W.widen (k := 20) (n := 675) (by omega) (by omega) ?_
  refine va_putF (D := (dC, dI)) (ci := 12) (v := Value.ref q_30) (ty := .array .int) (C := RX12) (T := TX12) (N := 33) hx hb hts inX12 tyX12 tyX12_ok nmX12 hown hK hP hD hS 0 rfl rfl 29 (by decide) (hts _ (gw kw_746 rfl)) (fun _ h9 => h9) rfl hin rfl (by decide +kernel) rfl rfl (Nat.le_of_ble_eq_true rfl) dX12_init_182 (fun H locs hP hD hS => ?_)
  have hpd9 : PDx (dC, dI) classes A H [cO g0 12 [Value.ref q_1, Value.ref q_2, Value.ref q_3, Value.ref q_4, Value.ref q_5, Value.ref q_6, Value.int 0, Value.int 0, Value.int 0, Value.ref q_17, Value.ref q_18, Value.ref q_19, Value.ref q_20, Value.int 0, Value.int 0, Value.int 0, Value.ref q_21, Value.int 0, Value.int 0, Value.int 0, Value.ref q_22, Value.ref q_23, Value.ref q_24, Value.ref q_25, Value.ref q_26, Value.ref q_27, Value.ref q_28, Value.ref q_29, Value.int 0, Value.ref q_30, Value.null, Value.null, Value.null], cI aC q_1 7 (fun _ => 0), cI aC q_2 9 (fun _ => 0), cI aC q_3 9 (fun _ => 0), cI aC q_4 9 (fun _ => 0), cI aC q_5 8 (fun _ => 0), cI aC q_6 5 f_16, cI aC q_17 64 (fun _ => 0), cI aC q_18 32 (fun _ => 0), cI aC q_19 32 (fun _ => 0), cI aC q_20 96 (fun _ => 0), cI aC q_21 100 (fun _ => 0), cI aC q_22 81 (fun _ => 0), cI aC q_23 81 (fun _ => 0), cI aC q_24 90 (fun _ => 0), cI aC q_25 9 (fun _ => 0), cI aC q_26 9 (fun _ => 0), cI aC q_27 9 (fun _ => 0), cI aC q_28 9 (fun _ => 0), cI aC q_29 8 (fun _ => 0), cI aC q_30 8 (fun _ => 0)] := ⟨hP, hD⟩
  have hP := hpd9.1
  have hD := hpd9.2
  clear hpd9
  refine lv_aload_n hx hb dX12_init_185 rfl (lv_at hl 0 rfl) ?_
  refine lv_bipush (v := 61) hx hb dX12_init_186 (by decide) ?_
  refine va_newaI (N' := 61) (a0 := (61, .inl (fun _ => 0))) hx hb (hts _ (gw kw_73 rfl)) hK hP hD hS hA (by decide) (by decide) (by decide) (Nat.le_of_ble_eq_true rfl) (Nat.le_of_ble_eq_true rfl) dX12_init_188 rfl (fun q_31 H hP hD hS => ?_)
  have hpd9 : PDx (dC, dI) classes A H [cO g0 12 [Value.ref q_1, Value.ref q_2, Value.ref q_3, Value.ref q_4, Value.ref q_5, Value.ref q_6, Value.int 0, Value.int 0, Value.int 0, Value.ref q_17, Value.ref q_18, Value.ref q_19, Value.ref q_20, Value.int 0, Value.int 0, Value.int 0, Value.ref q_21, Value.int 0, Value.int 0, Value.int 0, Value.ref q_22, Value.ref q_23, Value.ref q_24, Value.ref q_25, Value.ref q_26, Value.ref q_27, Value.ref q_28, Value.ref q_29, Value.int 0, Value.ref q_30, Value.null, Value.null, Value.null], cI aC q_1 7 (fun _ => 0), cI aC q_2 9 (fun _ => 0), cI aC q_3 9 (fun _ => 0), cI aC q_4 9 (fun _ => 0), cI aC q_5 8 (fun _ => 0), cI aC q_6 5 f_16, cI aC q_17 64 (fun _ => 0), cI aC q_18 32 (fun _ => 0), cI aC q_19 32 (fun _ => 0), cI aC q_20 96 (fun _ => 0), cI aC q_21 100 (fun _ => 0), cI aC q_22 81 (fun _ => 0), cI aC q_23 81 (fun _ => 0), cI aC q_24 90 (fun _ => 0), cI aC q_25 9 (fun _ => 0), cI aC q_26 9 (fun _ => 0), cI aC q_27 9 (fun _ => 0), cI aC q_28 9 (fun _ => 0), cI aC q_29 8 (fun _ => 0), cI aC q_30 8 (fun _ => 0), cI aC q_31 61 (fun _ => 0)] := ⟨hP, hD⟩
  have hP := hpd9.1
  have hD := hpd9.2
  clear hpd9
  refine W.widen (k := 21) (n := 736) (by omega) (by omega) ?_
  refine va_putF (D := (dC, dI)) (ci := 12) (v := Value.ref q_31) (ty := .array .int) (C := RX12) (T := TX12) (N := 33) hx hb hts inX12 tyX12 tyX12_ok nmX12 hown hK hP hD hS 0 rfl rfl 30 (by decide) (hts _ (gw kw_747 rfl)) (fun _ h9 => h9) rfl hin rfl (by decide +kernel) rfl rfl (Nat.le_of_ble_eq_true rfl) dX12_init_190 (fun H locs hP hD hS => ?_)
  have hpd9 : PDx (dC, dI) classes A H [cO g0 12 [Value.ref q_1, Value.ref q_2, Value.ref q_3, Value.ref q_4, Value.ref q_5, Value.ref q_6, Value.int 0, Value.int 0, Value.int 0, Value.ref q_17, Value.ref q_18, Value.ref q_19, Value.ref q_20, Value.int 0, Value.int 0, Value.int 0, Value.ref q_21, Value.int 0, Value.int 0, Value.int 0, Value.ref q_22, Value.ref q_23, Value.ref q_24, Value.ref q_25, Value.ref q_26, Value.ref q_27, Value.ref q_28, Value.ref q_29, Value.int 0, Value.ref q_30, Value.ref q_31, Value.null, Value.null], cI aC q_1 7 (fun _ => 0), cI aC q_2 9 (fun _ => 0), cI aC q_3 9 (fun _ => 0), cI aC q_4 9 (fun _ => 0), cI aC q_5 8 (fun _ => 0), cI aC q_6 5 f_16, cI aC q_17 64 (fun _ => 0), cI aC q_18 32 (fun _ => 0), cI aC q_19 32 (fun _ => 0), cI aC q_20 96 (fun _ => 0), cI aC q_21 100 (fun _ => 0), cI aC q_22 81 (fun _ => 0), cI aC q_23 81 (fun _ => 0), cI aC q_24 90 (fun _ => 0), cI aC q_25 9 (fun _ => 0), cI aC q_26 9 (fun _ => 0), cI aC q_27 9 (fun _ => 0), cI aC q_28 9 (fun _ => 0), cI aC q_29 8 (fun _ => 0), cI aC q_30 8 (fun _ => 0), cI aC q_31 61 (fun _ => 0)] := ⟨hP, hD⟩
  have hP := hpd9.1
  have hD := hpd9.2
  clear hpd9
  refine lv_aload_n hx hb dX12_init_193 rfl (lv_at hl 0 rfl) ?_
  refine lv_bipush (v := 61) hx hb dX12_init_194 (by decide) ?_
  refine va_newaI (N' := 61) (a0 := (61, .inl (fun _ => 0))) hx hb (hts _ (gw kw_73 rfl)) hK hP hD hS hA (by decide) (by decide) (by decide) (Nat.le_of_ble_eq_true rfl) (Nat.le_of_ble_eq_true rfl) dX12_init_196 rfl (fun q_32 H hP hD hS => ?_)
  have hpd9 : PDx (dC, dI) classes A H [cO g0 12 [Value.ref q_1, Value.ref q_2, Value.ref q_3, Value.ref q_4, Value.ref q_5, Value.ref q_6, Value.int 0, Value.int 0, Value.int 0, Value.ref q_17, Value.ref q_18, Value.ref q_19, Value.ref q_20, Value.int 0, Value.int 0, Value.int 0, Value.ref q_21, Value.int 0, Value.int 0, Value.int 0, Value.ref q_22, Value.ref q_23, Value.ref q_24, Value.ref q_25, Value.ref q_26, Value.ref q_27, Value.ref q_28, Value.ref q_29, Value.int 0, Value.ref q_30, Value.ref q_31, Value.null, Value.null], cI aC q_1 7 (fun _ => 0), cI aC q_2 9 (fun _ => 0), cI aC q_3 9 (fun _ => 0), cI aC q_4 9 (fun _ => 0), cI aC q_5 8 (fun _ => 0), cI aC q_6 5 f_16, cI aC q_17 64 (fun _ => 0), cI aC q_18 32 (fun _ => 0), cI aC q_19 32 (fun _ => 0), cI aC q_20 96 (fun _ => 0), cI aC q_21 100 (fun _ => 0), cI aC q_22 81 (fun _ => 0), cI aC q_23 81 (fun _ => 0), cI aC q_24 90 (fun _ => 0), cI aC q_25 9 (fun _ => 0), cI aC q_26 9 (fun _ => 0), cI aC q_27 9 (fun _ => 0), cI aC q_28 9 (fun _ => 0), cI aC q_29 8 (fun _ => 0), cI aC q_30 8 (fun _ => 0), cI aC q_31 61 (fun _ => 0), cI aC q_32 61 (fun _ => 0)] := ⟨hP, hD⟩
  have hP := hpd9.1
  have hD := hpd9.2
  clear hpd9
  refine W.widen (k := 22) (n := 797) (by omega) (by omega) ?_
  refine va_putF (D := (dC, dI)) (ci := 12) (v := Value.ref q_32) (ty := .array .int) (C := RX12) (T := TX12) (N := 33) hx hb hts inX12 tyX12 tyX12_ok nmX12 hown hK hP hD hS 0 rfl rfl 31 (by decide) (hts _ (gw kw_748 rfl)) (fun _ h9 => h9) rfl hin rfl (by decide +kernel) rfl rfl (Nat.le_of_ble_eq_true rfl) dX12_init_198 (fun H locs hP hD hS => ?_)
  have hpd9 : PDx (dC, dI) classes A H [cO g0 12 [Value.ref q_1, Value.ref q_2, Value.ref q_3, Value.ref q_4, Value.ref q_5, Value.ref q_6, Value.int 0, Value.int 0, Value.int 0, Value.ref q_17, Value.ref q_18, Value.ref q_19, Value.ref q_20, Value.int 0, Value.int 0, Value.int 0, Value.ref q_21, Value.int 0, Value.int 0, Value.int 0, Value.ref q_22, Value.ref q_23, Value.ref q_24, Value.ref q_25, Value.ref q_26, Value.ref q_27, Value.ref q_28, Value.ref q_29, Value.int 0, Value.ref q_30, Value.ref q_31, Value.ref q_32, Value.null], cI aC q_1 7 (fun _ => 0), cI aC q_2 9 (fun _ => 0), cI aC q_3 9 (fun _ => 0), cI aC q_4 9 (fun _ => 0), cI aC q_5 8 (fun _ => 0), cI aC q_6 5 f_16, cI aC q_17 64 (fun _ => 0), cI aC q_18 32 (fun _ => 0), cI aC q_19 32 (fun _ => 0), cI aC q_20 96 (fun _ => 0), cI aC q_21 100 (fun _ => 0), cI aC q_22 81 (fun _ => 0), cI aC q_23 81 (fun _ => 0), cI aC q_24 90 (fun _ => 0), cI aC q_25 9 (fun _ => 0), cI aC q_26 9 (fun _ => 0), cI aC q_27 9 (fun _ => 0), cI aC q_28 9 (fun _ => 0), cI aC q_29 8 (fun _ => 0), cI aC q_30 8 (fun _ => 0), cI aC q_31 61 (fun _ => 0), cI aC q_32 61 (fun _ => 0)] := ⟨hP, hD⟩
  have hP := hpd9.1
  have hD := hpd9.2
  clear hpd9
  refine lv_aload_n hx hb dX12_init_201 rfl (lv_at hl 0 rfl) ?_
  refine lv_bipush (v := 8) hx hb dX12_init_202 (by decide) ?_
  refine va_newaI (N' := 8) (a0 := (8, .inl (fun _ => 0))) hx hb (hts _ (gw kw_73 rfl)) hK hP hD hS hA (by decide) (by decide) (by decide) (Nat.le_of_ble_eq_true rfl) (Nat.le_of_ble_eq_true rfl) dX12_init_204 rfl (fun q_33 H hP hD hS => ?_)
  have hpd9 : PDx (dC, dI) classes A H [cO g0 12 [Value.ref q_1, Value.ref q_2, Value.ref q_3, Value.ref q_4, Value.ref q_5, Value.ref q_6, Value.int 0, Value.int 0, Value.int 0, Value.ref q_17, Value.ref q_18, Value.ref q_19, Value.ref q_20, Value.int 0, Value.int 0, Value.int 0, Value.ref q_21, Value.int 0, Value.int 0, Value.int 0, Value.ref q_22, Value.ref q_23, Value.ref q_24, Value.ref q_25, Value.ref q_26, Value.ref q_27, Value.ref q_28, Value.ref q_29, Value.int 0, Value.ref q_30, Value.ref q_31, Value.ref q_32, Value.null], cI aC q_1 7 (fun _ => 0), cI aC q_2 9 (fun _ => 0), cI aC q_3 9 (fun _ => 0), cI aC q_4 9 (fun _ => 0), cI aC q_5 8 (fun _ => 0), cI aC q_6 5 f_16, cI aC q_17 64 (fun _ => 0), cI aC q_18 32 (fun _ => 0), cI aC q_19 32 (fun _ => 0), cI aC q_20 96 (fun _ => 0), cI aC q_21 100 (fun _ => 0), cI aC q_22 81 (fun _ => 0), cI aC q_23 81 (fun _ => 0), cI aC q_24 90 (fun _ => 0), cI aC q_25 9 (fun _ => 0), cI aC q_26 9 (fun _ => 0), cI aC q_27 9 (fun _ => 0), cI aC q_28 9 (fun _ => 0), cI aC q_29 8 (fun _ => 0), cI aC q_30 8 (fun _ => 0), cI aC q_31 61 (fun _ => 0), cI aC q_32 61 (fun _ => 0), cI aC q_33 8 (fun _ => 0)] := ⟨hP, hD⟩
  have hP := hpd9.1
  have hD := hpd9.2
  clear hpd9
  refine W.widen (k := 23) (n := 805) (by omega) (by omega) ?_
  refine va_putF (D := (dC, dI)) (ci := 12) (v := Value.ref q_33) (ty := .array .int) (C := RX12) (T := TX12) (N := 33) hx hb hts inX12 tyX12 tyX12_ok nmX12 hown hK hP hD hS 0 rfl rfl 32 (by decide) (hts _ (gw kw_749 rfl)) (fun _ h9 => h9) rfl hin rfl (by decide +kernel) rfl rfl (Nat.le_of_ble_eq_true rfl) dX12_init_206 (fun H locs hP hD hS => ?_)
  have hpd9 : PDx (dC, dI) classes A H [oX12 g0 q_1 q_2 q_3 q_4 q_5 q_6 0 0 0 q_17 q_18 q_19 q_20 0 0 0 q_21 0 0 0 q_22 q_23 q_24 q_25 q_26 q_27 q_28 q_29 0 q_30 q_31 q_32 q_33, cI aC q_1 7 (fun _ => 0), cI aC q_2 9 (fun _ => 0), cI aC q_3 9 (fun _ => 0), cI aC q_4 9 (fun _ => 0), cI aC q_5 8 (fun _ => 0), cI aC q_6 5 f_16, cI aC q_17 64 (fun _ => 0), cI aC q_18 32 (fun _ => 0), cI aC q_19 32 (fun _ => 0), cI aC q_20 96 (fun _ => 0), cI aC q_21 100 (fun _ => 0), cI aC q_22 81 (fun _ => 0), cI aC q_23 81 (fun _ => 0), cI aC q_24 90 (fun _ => 0), cI aC q_25 9 (fun _ => 0), cI aC q_26 9 (fun _ => 0), cI aC q_27 9 (fun _ => 0), cI aC q_28 9 (fun _ => 0), cI aC q_29 8 (fun _ => 0), cI aC q_30 8 (fun _ => 0), cI aC q_31 61 (fun _ => 0), cI aC q_32 61 (fun _ => 0), cI aC q_33 8 (fun _ => 0)] := ⟨hP, hD⟩
  have hP := hpd9.1
  have hD := hpd9.2
  clear hpd9
  have hpd9 := pd_N (cx := [oX12 g0 q_1 q_2 q_3 q_4 q_5 q_6 0 0 0 q_17 q_18 q_19 q_20 0 0 0 q_21 0 0 0 q_22 q_23 q_24 q_25 q_26 q_27 q_28 q_29 0 q_30 q_31 q_32 q_33, cI aC q_1 7 (fun _ => 0), cI aC q_2 9 (fun _ => 0), cI aC q_3 9 (fun _ => 0), cI aC q_4 9 (fun _ => 0), cI aC q_5 8 (fun _ => 0), cI aC q_6 5 f_16, cI aC q_17 64 (fun _ => 0), cI aC q_18 32 (fun _ => 0), cI aC q_19 32 (fun _ => 0), cI aC q_20 96 (fun _ => 0), cI aC q_21 100 (fun _ => 0), cI aC q_22 81 (fun _ => 0), cI aC q_23 81 (fun _ => 0), cI aC q_24 90 (fun _ => 0), cI aC q_25 9 (fun _ => 0), cI aC q_26 9 (fun _ => 0), cI aC q_27 9 (fun _ => 0), cI aC q_28 9 (fun _ => 0), cI aC q_29 8 (fun _ => 0), cI aC q_30 8 (fun _ => 0), cI aC q_31 61 (fun _ => 0), cI aC q_32 61 (fun _ => 0), cI aC q_33 8 (fun _ => 0)]) hP hD [0, 1, 2, 3, 4, 5, 6, 7, 8, 9, 10, 11, 12, 13, 14, 15, 16, 17, 18, 19, 20, 21, 22, 23] (by decide) rfl
  have hP9 := hpd9.1
  have hD9 := hpd9.2
  refine W.widen (k := 23) (n := 805) (by omega) (by omega) ?_
  exact W.vret hx hb hr (fun t ht hW => ⟨⟨(f_16), rfl, by subst e_f_16; subst e_f_14; subst e_f_12; subst e_f_10; subst e_f_8; rfl, q_1, q_2, q_3, q_4, q_5, q_6, q_17, q_18, q_19, q_20, q_21, q_22, q_23, q_24, q_25, q_26, q_27, q_28, q_29, q_30, q_31, q_32, q_33, by rw [ht]; exact hP9, va_K.moved hW.alike hK, hD9⟩, hS.F ht⟩) hS.2.2 dX12_init_209

end

section
/-! 92.lawm -/
/-! THE CLAIM OUT OF ONE WALK OF THE LAW'S BODY. Your part is whole_start (and what it stands on); all else here is the same for every law, but numbers. -/
def R_law : String := "EldestSaysLaw"
def lw_P (b : Addr) (xs : List Int32) (args : Array Value) (s : State) : Prop := args = #[.ref b] ∧ s.IntsAt b xs ∧ xs.length ≤ 320 ∧ (Jvm.Cond.and given_1 narrow_1).before args s = true
def lw_Q (_ : Array Value) (s : State) (o : Outcome) (t : State) : Prop := o = .returned (some (.int 1)) ∧ Framed s o t [] 600000 7302250
def lw_Z (below : List Frame) (a : Array Value) (s : State) : State → Prop := fun t => ∃ o, t.status = .running ∧ Ended t below o ∧ lw_Q a s o t
/-- the law's own end, with 1 on the stack, nothing written that was there before, its room as the claim has it -/
theorem lw_ret {p : Program} {l : Launch} {e : Env} {s : State} {m : MethodId} {below : List Frame} {meth : Method} {c : Code} {b : Nat} (hx : p.tables.exec = Jvm.exec) (hb : c.code = code) (hr : meth.sig.returnType = ret) (hlocks : meth.locks = false) {pc : Nat} {H : Heap} {ls : Array Slot} (hdg : decode code pc = .ok (.ireturn, 1)) : W p l e room_1 s m #[Value.ref b] below meth c H [] 600000 7302250 (lw_Z below #[Value.ref b] s) (F0 m pc ls [.int 1]) := by
  intro T hT X
  obtain ⟨fs, hret, hrun, hended, hW, hframe⟩ := X.leave (v := some (.int 1)) (hlocks := hlocks) (fun h => by rw [hr] at h; cases h)
  have hmeth' : T.vm.method? m = some meth := X.method'
  refine ⟨T.setFrames fs, ?_, .returned (some (.int 1)), hrun, hended, rfl, ⟨_, rfl⟩, hW, hframe⟩
  jvm_step X.here [X.here.top, hx, hb, hdg, hmeth', hr, ret, narrow_b1]
  (try refine ⟨rfl, ?_⟩); (try refine ⟨rfl, ?_⟩)
  first | (intro acts; rw [hret _ acts rfl rfl rfl]) | rw [hret _ _ rfl rfl rfl]
  exact Steps.refl _
/-- what holds at the law's entry: the machine, the code, the tables' words (any of lw_tbl by 'hts w (by decide +kernel)'), the script of L ints xs at the cell b, what the Statement gives of the start (any of its parts by flat_of_before) -/
def lw_At (p : Program) (s : State) (m : MethodId) (meth : Method) (c : Code) (b L : Nat) (xs : Nat → Int32) : Prop :=
  p.tables.exec = Jvm.exec ∧ c.code = code ∧ meth.sig.returnType = ret ∧ c.maxLocals = 4 ∧ s.vm.findClass R_law = some m.cls ∧ (∀ w ∈ lw_tbl, w.before #[Value.ref b] s = true) ∧ va_X b L xs s s.heap ∧ b < s.heap.size ∧ meth.locks = false ∧ (Jvm.Cond.and given_1 narrow_1).before #[Value.ref b] s = true

theorem no0 (i : Int32) : i < 0 ∨ 0 ≤ i := by
  by_cases h : i < 0
  · exact Or.inl h
  · exact Or.inr (Int32.not_lt.mp h)

theorem sw_out29 {x : Int32} (h0 : ¬ x = 0) (h1 : ¬ x = 1) (h2 : ¬ x = 2) (h3 : ¬ x = 3) (h4 : ¬ x = 4) (h5 : ¬ x = 5) (h6 : ¬ x = 6) (h7 : ¬ x = 7) (h8 : ¬ x = 8) (h9 : ¬ x = 9) (h10 : ¬ x = 10) (h11 : ¬ x = 11) (h12 : ¬ x = 12) (h13 : ¬ x = 13) (h14 : ¬ x = 14) (h15 : ¬ x = 15) (h16 : ¬ x = 16) (h17 : ¬ x = 17) (h18 : ¬ x = 18) (h19 : ¬ x = 19) (h20 : ¬ x = 20) (h21 : ¬ x = 21) (h22 : ¬ x = 22) (h23 : ¬ x = 23) (h24 : ¬ x = 24) (h25 : ¬ x = 25) (h26 : ¬ x = 26) (h27 : ¬ x = 27) (h28 : ¬ x = 28) : x.toInt < 0 ∨ 28 < x.toInt := by
  have e0 := lv_neT h0 (a := 0) rfl
  have e1 := lv_neT h1 (a := 1) rfl
  have e2 := lv_neT h2 (a := 2) rfl
  have e3 := lv_neT h3 (a := 3) rfl
  have e4 := lv_neT h4 (a := 4) rfl
  have e5 := lv_neT h5 (a := 5) rfl
  have e6 := lv_neT h6 (a := 6) rfl
  have e7 := lv_neT h7 (a := 7) rfl
  have e8 := lv_neT h8 (a := 8) rfl
  have e9 := lv_neT h9 (a := 9) rfl
  have e10 := lv_neT h10 (a := 10) rfl
  have e11 := lv_neT h11 (a := 11) rfl
  have e12 := lv_neT h12 (a := 12) rfl
  have e13 := lv_neT h13 (a := 13) rfl
  have e14 := lv_neT h14 (a := 14) rfl
  have e15 := lv_neT h15 (a := 15) rfl
  have e16 := lv_neT h16 (a := 16) rfl
  have e17 := lv_neT h17 (a := 17) rfl
  have e18 := lv_neT h18 (a := 18) rfl
  have e19 := lv_neT h19 (a := 19) rfl
  have e20 := lv_neT h20 (a := 20) rfl
  have e21 := lv_neT h21 (a := 21) rfl
  have e22 := lv_neT h22 (a := 22) rfl
  have e23 := lv_neT h23 (a := 23) rfl
  have e24 := lv_neT h24 (a := 24) rfl
  have e25 := lv_neT h25 (a := 25) rfl
  have e26 := lv_neT h26 (a := 26) rfl
  have e27 := lv_neT h27 (a := 27) rfl
  have e28 := lv_neT h28 (a := 28) rfl
  omega

theorem law_K {args : Array Value} {s : State} (hts9 : ∀ w ∈ lw_tbl, w.before args s = true) : ∃ (dC : Nat → ClassId) (dI : Nat → Nat → Nat) (aC : Nat → ClassId), va_K (dC, dI) classes (TY aC) s := by
  have hts : ∀ w9 ∈ lw_G, w9.before args s = true := fun w9 h9 => hts9 w9 (List.mem_filter.mp h9).1
  obtain ⟨c0, iS0, hKn0⟩ := u_known (C := RX0) (T := TX0) (N := 0) (n := 0) hts inX0 (hts9 _ kw_90)
  obtain ⟨c1, iS1, hKn1⟩ := u_known (C := RX1) (T := TX1) (N := 0) (n := 0) hts inX1 (hts9 _ kw_99)
  obtain ⟨c2, iS2, hKn2⟩ := u_known (C := RX2) (T := TX2) (N := 6) (n := 6) hts inX2 (hts9 _ kw_201)
  obtain ⟨c3, iS3, hKn3⟩ := u_known (C := RX3) (T := TX3) (N := 0) (n := 0) hts inX3 (hts9 _ kw_106)
  obtain ⟨c4, iS4, hKn4⟩ := u_known (C := RX4) (T := TX4) (N := 8) (n := 8) hts inX4 (hts9 _ kw_27)
  obtain ⟨c5, iS5, hKn5⟩ := u_known (C := RX5) (T := TX5) (N := 0) (n := 0) hts inX5 (hts9 _ kw_113)
  obtain ⟨c6, iS6, hKn6⟩ := u_known (C := RX6) (T := TX6) (N := 0) (n := 0) hts inX6 (hts9 _ kw_120)
  obtain ⟨c7, iS7, hKn7⟩ := u_known (C := RX7) (T := TX7) (N := 2) (n := 2) hts inX7 (hts9 _ kw_75)
  obtain ⟨c8, iS8, hKn8⟩ := u_known (C := RX8) (T := TX8) (N := 0) (n := 0) hts inX8 (hts9 _ kw_134)
  obtain ⟨c9, iS9, hKn9⟩ := u_known (C := RX9) (T := TX9) (N := 14) (n := 14) hts inX9 (hts9 _ kw_141)
  obtain ⟨c10, iS10, hKn10⟩ := u_known (C := RX10) (T := TX10) (N := 0) (n := 0) hts inX10 (hts9 _ kw_127)
  obtain ⟨c11, iS11, hKn11⟩ := u_known (C := RX11) (T := TX11) (N := 14) (n := 14) hts inX11 (hts9 _ kw_19)
  obtain ⟨c12, iS12, hKn12⟩ := u_known (C := RX12) (T := TX12) (N := 33) (n := 33) hts inX12 (hts9 _ kw_712)
  obtain ⟨a0, k0, comp0, f01, f02, f03⟩ := Cond.arrayClass_spec (hts9 _ kw_73)
  obtain ⟨a1, k1, comp1, f11, f12, f13⟩ := Cond.arrayClass_spec (hts9 _ kw_88)
  obtain ⟨a2, k2, comp2, f21, f22, f23⟩ := Cond.arrayClass_spec (hts9 _ kw_96)
  obtain ⟨comp3, a3, k3, f31, f32, f33, f34, f35⟩ := Cond.arrayOver_spec (hts9 _ kw_97)
  obtain ⟨comp4, a4, k4, f41, f42, f43, f44⟩ := Cond.arrayOver_specA (hts9 _ kw_147)
  refine ⟨fun k => if k = 0 then c0 else if k = 1 then c1 else if k = 2 then c2 else if k = 3 then c3 else if k = 4 then c4 else if k = 5 then c5 else if k = 6 then c6 else if k = 7 then c7 else if k = 8 then c8 else if k = 9 then c9 else if k = 10 then c10 else if k = 11 then c11 else c12, fun k => if k = 0 then iS0 else if k = 1 then iS1 else if k = 2 then iS2 else if k = 3 then iS3 else if k = 4 then iS4 else if k = 5 then iS5 else if k = 6 then iS6 else if k = 7 then iS7 else if k = 8 then iS8 else if k = 9 then iS9 else if k = 10 then iS10 else if k = 11 then iS11 else iS12, fun k => if k = 0 then a0 else if k = 1 then a1 else if k = 2 then a2 else if k = 3 then a3 else a4, ?_, ?_⟩
  · intro k q hq
    match k, hq with
    | 0, hq => cases hq; exact hKn0
    | 1, hq => cases hq; exact hKn1
    | 2, hq => cases hq; exact hKn2
    | 3, hq => cases hq; exact hKn3
    | 4, hq => cases hq; exact hKn4
    | 5, hq => cases hq; exact hKn5
    | 6, hq => cases hq; exact hKn6
    | 7, hq => cases hq; exact hKn7
    | 8, hq => cases hq; exact hKn8
    | 9, hq => cases hq; exact hKn9
    | 10, hq => cases hq; exact hKn10
    | 11, hq => cases hq; exact hKn11
    | 12, hq => cases hq; exact hKn12
    | k + 13, hq => simp [classes] at hq
  · intro k q hq
    match k, hq with
    | 0, hq => cases hq; exact ⟨fun n z => ⟨fun k h => (by cases h), k0, f02, comp0, f03⟩, f01⟩
    | 1, hq => cases hq; exact ⟨fun n z => ⟨fun k h => (by cases h), k1, f12, comp1, f13⟩, f11⟩
    | 2, hq => cases hq; exact ⟨fun n z => ⟨fun k h => (by cases h), k2, f22, comp2, f23⟩, f21⟩
    | 3, hq => cases hq; exact ⟨fun n z => ⟨fun k h => (by cases h), k3, f33, comp3, f34⟩, k3, comp3, f33, f34, f31, f35⟩
    | 4, hq => cases hq; exact ⟨fun n z => ⟨fun k h => (by cases h), k4, f42, comp4, f43⟩, f44⟩
    | k + 5, hq => simp at hq

theorem law_G {args : Array Value} {s : State} {A : Nat → Prop} (hts9 : ∀ w ∈ lw_tbl, w.before args s = true) (hgv : (Jvm.Cond.and given_1 narrow_1).before args s = true) (hnA : ∀ a : Nat, a < s.heap.size → ¬ A a) : ∃ t : Nat, va_Z "EldestSays" "GREATEST" "[I" (.ref t) A s s.heap ∧ va_T .int t 5 (fun j => .int (GV j)) A s s.heap := by
  have hs := flat_of_before _ hgv
  have harr : (Cond.arrayOf (Term.static "EldestSays" "GREATEST" "[I") .int).before args s = true := hs _ (by decide +kernel)
  have hlen : (Cond.eq (.length (Term.static "EldestSays" "GREATEST" "[I")) (.int 5)).before args s = true := hs _ (by decide +kernel)
  have h0 : (Cond.eq (.elem (Term.static "EldestSays" "GREATEST" "[I") (.int 0)) (.int 99)).before args s = true := hs _ (by decide +kernel)
  have h1 : (Cond.eq (.elem (Term.static "EldestSays" "GREATEST" "[I") (.int 1)) (.int 2)).before args s = true := hs _ (by decide +kernel)
  have h2 : (Cond.eq (.elem (Term.static "EldestSays" "GREATEST" "[I") (.int 2)) (.int 1)).before args s = true := hs _ (by decide +kernel)
  have h3 : (Cond.eq (.elem (Term.static "EldestSays" "GREATEST" "[I") (.int 3)) (.int 1)).before args s = true := hs _ (by decide +kernel)
  have h4 : (Cond.eq (.elem (Term.static "EldestSays" "GREATEST" "[I") (.int 4)) (.int 99)).before args s = true := hs _ (by decide +kernel)
  obtain ⟨t, ht, hT⟩ := va_Tof (tm := (Term.static "EldestSays" "GREATEST" "[I")) (ty := .int) (N := 5) (f := fun j => .int (GV j)) (A := A) (by decide) harr (va_eqt hlen) (fun j hj => by
    match j, hj with
    | 0, _ => exact va_eqt h0
    | 1, _ => exact va_eqt h1
    | 2, _ => exact va_eqt h2
    | 3, _ => exact va_eqt h3
    | 4, _ => exact va_eqt h4
    | j + 5, hj => omega) hnA
  exact ⟨t, va_Zref (hts9 _ kw_316) (hts9 _ kw_1) ht hnA, hT⟩

theorem law_M {args : Array Value} {s : State} {A : Nat → Prop} (hts9 : ∀ w ∈ lw_tbl, w.before args s = true) (hgv : (Jvm.Cond.and given_1 narrow_1).before args s = true) (hnA : ∀ a : Nat, a < s.heap.size → ¬ A a) : ∃ t : Nat, va_Z "EldestSaysModel" "MOST_SET" "[I" (.ref t) A s s.heap ∧ va_T .int t 5 (fun j => .int (GV j)) A s s.heap := by
  have hs := flat_of_before _ hgv
  have harr : (Cond.arrayOf (Term.static "EldestSaysModel" "MOST_SET" "[I") .int).before args s = true := hs _ (by decide +kernel)
  have hlen : (Cond.eq (.length (Term.static "EldestSaysModel" "MOST_SET" "[I")) (.int 5)).before args s = true := hs _ (by decide +kernel)
  have h0 : (Cond.eq (.elem (Term.static "EldestSaysModel" "MOST_SET" "[I") (.int 0)) (.int 99)).before args s = true := hs _ (by decide +kernel)
  have h1 : (Cond.eq (.elem (Term.static "EldestSaysModel" "MOST_SET" "[I") (.int 1)) (.int 2)).before args s = true := hs _ (by decide +kernel)
  have h2 : (Cond.eq (.elem (Term.static "EldestSaysModel" "MOST_SET" "[I") (.int 2)) (.int 1)).before args s = true := hs _ (by decide +kernel)
  have h3 : (Cond.eq (.elem (Term.static "EldestSaysModel" "MOST_SET" "[I") (.int 3)) (.int 1)).before args s = true := hs _ (by decide +kernel)
  have h4 : (Cond.eq (.elem (Term.static "EldestSaysModel" "MOST_SET" "[I") (.int 4)) (.int 99)).before args s = true := hs _ (by decide +kernel)
  obtain ⟨t, ht, hT⟩ := va_Tof (tm := (Term.static "EldestSaysModel" "MOST_SET" "[I")) (ty := .int) (N := 5) (f := fun j => .int (GV j)) (A := A) (by decide) harr (va_eqt hlen) (fun j hj => by
    match j, hj with
    | 0, _ => exact va_eqt h0
    | 1, _ => exact va_eqt h1
    | 2, _ => exact va_eqt h2
    | 3, _ => exact va_eqt h3
    | 4, _ => exact va_eqt h4
    | j + 5, hj => omega) hnA
  exact ⟨t, va_Zref (hts9 _ kw_884) (hts9 _ kw_13) ht hnA, hT⟩

theorem law_N {args : Array Value} {s : State} (hts9 : ∀ w ∈ lw_tbl, w.before args s = true) : NX s := ⟨fun w hw hb9 => by
    have h9 := hts9 w hw
    cases w <;> first | exact absurd hb9 Bool.false_ne_true | exact va_Nw.of rfl h9, hts9 _ kw_97, hts9 _ kw_147⟩
/-- rows of the law: what the calls make of the state that both sides share -/
theorem LTR_z {L : Nat → Nat} {sg : Nat → Int32} : LTR 0 L sg := ⟨by omega, fun k hk => absurd hk (Nat.not_lt_zero k)⟩
theorem ROW_0 {T : Nat → Nat} {tof : Nat → Int32} : ROW 0 T tof := ⟨by omega, fun k hk => absurd hk (Nat.not_lt_zero k)⟩
theorem ROW_e {tz : Nat} {T : Nat → Nat} {tof tog : Nat → Int32} (h : ROW tz T tof) (he : ∀ k, k < 8 → tog k = tof k) : ROW tz T tog := ⟨h.1, fun k hk => by rw [he k (by have := h.1; omega)]; exact h.2 k hk⟩
theorem ROW_l {tz z : Nat} {T : Nat → Nat} {tof : Nat → Int32} (h : ROW tz T tof) (hz : z ≤ tz) : ROW z T tof := ⟨by have := h.1; omega, fun k hk => h.2 k (by omega)⟩
theorem goZ_le {n sn : Nat} {dn : Int32} {S5 : Nat → Nat} {tz : Nat} {T : Nat → Nat} {v : Int32} : goZ n sn dn S5 tz T v ≤ tz := by
  unfold goZ
  split
  · exact Nat.zero_le _
  · exact Nat.le_refl _
theorem ROW_go {n sn : Nat} {dn : Int32} {S5 : Nat → Nat} {tz : Nat} {T : Nat → Nat} {v : Int32} {tof : Nat → Int32} (h : ROW tz T tof) : ROW (goZ n sn dn S5 tz T v) T tof := ROW_l h goZ_le
theorem dcs_b {n sn : Nat} {W : Nat → Nat} {law y : Int32} (h : sn < n ∨ sn = 0) : dcs n sn W law y < n ∨ dcs n sn W law y = 0 := by
  unfold dcs
  split
  · exact h
  · split
    · rename_i q; exact Or.inl q
    · exact h
theorem dcd_b {n sn : Nat} {dn : Int32} {W : Nat → Nat} {law y : Int32} (h : dn = 0 ∨ dn = 1) : dcd n sn dn W law y = 0 ∨ dcd n sn dn W law y = 1 := by
  unfold dcd
  split
  · exact Or.inr rfl
  · split
    · exact h
    · exact Or.inr rfl
theorem EVS_go {n sn : Nat} {dn : Int32} {K F W S5 : Nat → Nat} {kf ff wf stf : Nat → Int32} {S6 : Nat → Nat} {tz : Nat} {T : Nat → Nat} {v : Int32} (h : EVS n sn dn K F W S5 kf ff wf stf) : EVS n (goS n sn dn W S6 tz T v) (goD n sn dn W S6 tz T v) K F W S5 kf ff wf stf := by
  refine EVS_dc h ?_ ?_
  · unfold goS
    split
    · exact dcs_b h.2.2.2.1
    · exact h.2.2.2.1
  · unfold goD
    split
    · exact dcd_b h.2.2.2.2
    · exact h.2.2.2.2
theorem dcp_c {n sn : Nat} {W : Nat → Nat} {law y : Int32} {off P P2 : Nat → Int32} {j : Nat} (h : P2 j = P j) : dcp n sn W law y off P2 j = dcp n sn W law y off P j := by
  unfold dcp; rw [h]
theorem goP_c {n sn : Nat} {dn : Int32} {W S5 : Nat → Nat} {tz : Nat} {T : Nat → Nat} {v : Int32} {P P2 : Nat → Int32} {j : Nat} (h : P2 j = P j) : goP n sn dn W S5 tz T v P2 j = goP n sn dn W S5 tz T v P j := by
  unfold goP; rw [h, dcp_c h]
/-- says -/
def syR (n sn : Nat) (dn : Int32) (W S5 : Nat → Nat) (pl : PLT) : Int32 := if OVR n dn then -3 else dcr n sn W (nI (S5 1)) (zY pl sn)
def syS (n sn : Nat) (dn : Int32) (W S5 : Nat → Nat) (pl : PLT) : Nat := if OVR n dn then sn else dcs n sn W (nI (S5 1)) (zY pl sn)
def syD (n sn : Nat) (dn : Int32) (W S5 : Nat → Nat) (pl : PLT) : Int32 := if OVR n dn then dn else dcd n sn dn W (nI (S5 1)) (zY pl sn)
def syP (n sn : Nat) (dn : Int32) (W S5 : Nat → Nat) (pl : PLT) (P : Nat → Int32) (j : Nat) : Int32 := if OVR n dn then P j else dcp n sn W (nI (S5 1)) (zY pl sn) (fun j => nI (zO pl sn j)) P j
theorem SYPT_f {n sn : Nat} {dn : Int32} {W S5 : Nat → Nat} {pl : PLT} {pf : Nat → Int32} {r sy2 dn2 : Int32} {pg : Nat → Int32} (h : SYPT n sn dn W S5 pl pf r sy2 dn2 pg) : r = syR n sn dn W S5 pl ∧ sy2 = nI (syS n sn dn W S5 pl) ∧ dn2 = syD n sn dn W S5 pl ∧ ∀ j, j < 8 → pg j = syP n sn dn W S5 pl pf j := by
  unfold syR syS syD syP
  by_cases o : OVR n dn
  · obtain ⟨h1, h2, h3, h4⟩ := h.1 o
    rw [if_pos o, if_pos o, if_pos o]
    exact ⟨h1, h2, h3, fun j hj => by rw [if_pos o]; exact h4 j hj⟩
  · obtain ⟨h1, h2, h3, h4⟩ := h.2 o
    rw [if_neg o, if_neg o, if_neg o]
    exact ⟨h1, h2, h3, fun j hj => by rw [if_neg o]; exact h4 j hj⟩
theorem syP_c {n sn : Nat} {dn : Int32} {W S5 : Nat → Nat} {pl : PLT} {P P2 : Nat → Int32} {j : Nat} (h : P2 j = P j) : syP n sn dn W S5 pl P2 j = syP n sn dn W S5 pl P j := by
  unfold syP; rw [h, dcp_c h]
theorem EVS_sy {n sn : Nat} {dn : Int32} {K F W S5 : Nat → Nat} {kf ff wf stf : Nat → Int32} {S6 : Nat → Nat} {pl : PLT} (h : EVS n sn dn K F W S5 kf ff wf stf) : EVS n (syS n sn dn W S6 pl) (syD n sn dn W S6 pl) K F W S5 kf ff wf stf := by
  refine EVS_dc h ?_ ?_
  · unfold syS
    split
    · exact h.2.2.2.1
    · exact dcs_b h.2.2.2.1
  · unfold syD
    split
    · exact h.2.2.2.2
    · exact dcd_b h.2.2.2.2
/-- beach, set, swap: the plan goes stale -/
theorem STL_bc {st st2 : Int32} {L : Nat → Nat} {lz n : Nat} {dn : Int32} {K F W S5 : Nat → Nat} {ro rp rs : Nat → Nat} {g : Nat → Nat → Int32} {yf ef bf : Nat → Int32} (h : STL st n (PO n K F W S5) ro rp rs g yf ef bf) (h1 : BOK L lz n dn → st2 = 1) (h2 : ¬ BOK L lz n dn → st2 = st) : STL st2 (bcN L lz n dn) (PO (bcN L lz n dn) (bcM L lz n dn 1 K) (bcM L lz n dn 2 F) (bcM L lz n dn 3 W) (bcS L lz n dn S5)) ro rp rs g yf ef bf := by
  by_cases o : BOK L lz n dn
  · exact Or.inl (h1 o)
  · unfold bcN bcM bcS
    rw [if_neg o, if_neg o, if_neg o, if_neg o, if_neg o, h2 o]
    exact h
theorem STL_set {st st2 : Int32} {n : Nat} {K F W S5 : Nat → Nat} {ro rp rs : Nat → Nat} {g : Nat → Nat → Int32} {yf ef bf : Nat → Int32} {w v : Int32} (h : STL st n (PO n K F W S5) ro rp rs g yf ef bf) (h1 : SOK w v → st2 = 1) (h2 : ¬ SOK w v → st2 = st) : STL st2 n (PO n K F W (setS S5 w v)) ro rp rs g yf ef bf := by
  by_cases o : SOK w v
  · exact Or.inl (h1 o)
  · rw [setS_n o, h2 o]; exact h
def swK (n sn : Nat) (dn i j : Int32) (K : Nat → Nat) : Nat → Nat := if SWK n sn dn i j then fun q => K (swq i.toNatClampNeg j.toNatClampNeg q) else K
theorem EVS_sw {n sn : Nat} {dn i j : Int32} {K F W S5 : Nat → Nat} {kf ff wf stf kf2 ff2 wf2 stf2 : Nat → Int32} (h : EVS n sn dn K F W S5 kf ff wf stf) (h1 : SWK n sn dn i j → EVS n sn dn (fun q => K (swq i.toNatClampNeg j.toNatClampNeg q)) (fun q => F (swq i.toNatClampNeg j.toNatClampNeg q)) (fun q => W (swq i.toNatClampNeg j.toNatClampNeg q)) S5 kf2 ff2 wf2 stf2) (h2 : ¬ SWK n sn dn i j → kf2 = kf ∧ ff2 = ff ∧ wf2 = wf ∧ stf2 = stf) : EVS n sn dn (swK n sn dn i j K) (swK n sn dn i j F) (swK n sn dn i j W) S5 kf2 ff2 wf2 stf2 := by
  unfold swK
  by_cases o : SWK n sn dn i j
  · rw [if_pos o, if_pos o, if_pos o]; exact h1 o
  · obtain ⟨e1, e2, e3, e4⟩ := h2 o
    rw [if_neg o, if_neg o, if_neg o, e1, e2, e3, e4]; exact h
theorem STL_sw {st st2 : Int32} {n sn : Nat} {dn i j : Int32} {K F W S5 : Nat → Nat} {ro rp rs : Nat → Nat} {g : Nat → Nat → Int32} {yf ef bf : Nat → Int32} (h : STL st n (PO n K F W S5) ro rp rs g yf ef bf) (h1 : SWK n sn dn i j → st2 = 1) (h2 : ¬ SWK n sn dn i j → st2 = st) : STL st2 n (PO n (swK n sn dn i j K) (swK n sn dn i j F) (swK n sn dn i j W) S5) ro rp rs g yf ef bf := by
  by_cases o : SWK n sn dn i j
  · exact Or.inl (h1 o)
  · unfold swK
    rw [if_neg o, if_neg o, if_neg o, h2 o]; exact h
theorem pu_sw {n sn : Nat} {dn i j : Int32} {P pf pf2 : Nat → Int32} (h : ∀ k, k < 8 → P k = pf k) (h1 : SWK n sn dn i j → ∀ k, k < 8 → pf2 k = pf k) (h2 : ¬ SWK n sn dn i j → pf2 = pf) : ∀ k, k < 8 → P k = pf2 k := by
  intro k hk
  by_cases o : SWK n sn dn i j
  · rw [h1 o k hk]; exact h k hk
  · rw [h2 o]; exact h k hk
/-- the reference's image -/
def KPM (ik : Int32) (kp : Nat → Int32) (kn ksn : Nat) (kdn : Int32) (kK kF kW kS : Nat → Nat) (kpf : Nat → Int32) : Prop := ik ≠ 0 → ∃ a b c d e : Nat → Int32, PK 0 kp a b c d e (nI kn) (nI ksn) kdn ∧ EVS kn ksn kdn kK kF kW kS a b c e ∧ ∀ j, j < 8 → d j = kpf j
theorem KPM_fr {ik : Int32} {kp kq : Nat → Int32} {kn ksn : Nat} {kdn : Int32} {kK kF kW kS : Nat → Nat} {kpf : Nat → Int32} (h : KPM ik kp kn ksn kdn kK kF kW kS kpf) (hq : ∀ q, q < 50 → kq q = kp q) : KPM ik kq kn ksn kdn kK kF kW kS kpf := fun z => by
  obtain ⟨a, b, c, d, e, ⟨p1, p2, p3, p4, p5, p6, p7, p8⟩, h2, h3⟩ := h z
  refine ⟨a, b, c, d, e, ⟨fun j hj => ?_, fun j hj => ?_, fun j hj => ?_, fun j hj => ?_, fun j hj => ?_, ?_, ?_, ?_⟩, h2, h3⟩
  · rw [hq _ (by omega)]; exact p1 j hj
  · rw [hq _ (by omega)]; exact p2 j hj
  · rw [hq _ (by omega)]; exact p3 j hj
  · rw [hq _ (by omega)]; exact p4 j hj
  · rw [hq _ (by omega)]; exact p5 j hj
  · rw [hq _ (by omega)]; exact p6
  · rw [hq _ (by omega)]; exact p7
  · rw [hq _ (by omega)]; exact p8
theorem KPM_0 {kp : Nat → Int32} {kn ksn : Nat} {kdn : Int32} {kK kF kW kS : Nat → Nat} {kpf : Nat → Int32} : KPM 0 kp kn ksn kdn kK kF kW kS kpf := fun z => absurd rfl z
/-- restore -/
def rz {α : Type} (ik : Int32) (a b : α) : α := if ik = 0 then a else b
theorem rz0 {α : Type} {ik : Int32} {a b : α} (h : ik = 0) : rz ik a b = a := if_pos h
theorem rz1 {α : Type} {ik : Int32} {a b : α} (h : ¬ ik = 0) : rz ik a b = b := if_neg h
def rsR (ik : Int32) (kn : Nat) : Int32 := if ik = 0 then -3 else nI kn
theorem REST_x {ik : Int32} {n sn kn ksn : Nat} {dn kdn st r sz2 sy2 dn2 st2 : Int32} {K F W S5 kK kF kW kS : Nat → Nat} {kf ff wf pf stf kkf kff kwf kpf kstf kf2 ff2 wf2 pf2 stf2 : Nat → Int32} {ro rp rs : Nat → Nat} {g : Nat → Nat → Int32} {yf ef bf : Nat → Int32}
    (he : EVS n sn dn K F W S5 kf ff wf stf) (hk : EVS kn ksn kdn kK kF kW kS kkf kff kwf kstf) (hs : STL st n (PO n K F W S5) ro rp rs g yf ef bf)
    (h : (ik = 0 → r = -3 ∧ sz2 = nI n ∧ sy2 = nI sn ∧ dn2 = dn ∧ st2 = st ∧ kf2 = kf ∧ ff2 = ff ∧ wf2 = wf ∧ pf2 = pf ∧ stf2 = stf) ∧ (ik ≠ 0 → r = nI kn ∧ sz2 = nI kn ∧ sy2 = nI ksn ∧ dn2 = kdn ∧ st2 = 1 ∧ (∀ j, j < 8 → kf2 j = kkf j) ∧ (∀ j, j < 8 → ff2 j = kff j) ∧ (∀ j, j < 8 → wf2 j = kwf j) ∧ (∀ j, j < 8 → pf2 j = kpf j) ∧ (∀ j, j < 5 → stf2 j = kstf j))) :
    r = rsR ik kn ∧ sz2 = nI (rz ik n kn) ∧ sy2 = nI (rz ik sn ksn) ∧ dn2 = rz ik dn kdn ∧ EVS (rz ik n kn) (rz ik sn ksn) (rz ik dn kdn) (rz ik K kK) (rz ik F kF) (rz ik W kW) (rz ik S5 kS) kf2 ff2 wf2 stf2 ∧ STL st2 (rz ik n kn) (PO (rz ik n kn) (rz ik K kK) (rz ik F kF) (rz ik W kW) (rz ik S5 kS)) ro rp rs g yf ef bf ∧ ∀ j, j < 8 → pf2 j = rz ik (pf j) (kpf j) := by
  by_cases z : ik = 0
  · obtain ⟨h1, h2, h3, h4, h5, h6, h7, h8, h9, h10⟩ := h.1 z
    unfold rsR
    simp only [rz0 z]
    rw [if_pos z, h6, h7, h8, h9, h10, h5]
    exact ⟨h1, h2, h3, h4, he, hs, fun j hj => rfl⟩
  · obtain ⟨h1, h2, h3, h4, h5, h6, h7, h8, h9, h10⟩ := h.2 z
    unfold rsR
    simp only [rz1 z]
    rw [if_neg z]
    exact ⟨h1, h2, h3, h4, EVS_cp hk h6 h7 h8 h10, Or.inl h5, h9⟩
theorem REST_m {ik : Int32} {n sn kn ksn : Nat} {dn kdn r men2 msy2 mdn2 : Int32} {K F W S5 kK kF kW kS : Nat → Nat} {kf ff wf pf stf kp kpf kf2 ff2 wf2 pf2 stf2 : Nat → Int32}
    (he : EVS n sn dn K F W S5 kf ff wf stf) (hk : KPM ik kp kn ksn kdn kK kF kW kS kpf)
    (h : (ik = 0 → r = -3 ∧ men2 = nI n ∧ msy2 = nI sn ∧ mdn2 = dn ∧ kf2 = kf ∧ ff2 = ff ∧ wf2 = wf ∧ pf2 = pf ∧ stf2 = stf) ∧ (ik ≠ 0 → r = men2 ∧ PK 0 kp kf2 ff2 wf2 pf2 stf2 men2 msy2 mdn2)) :
    r = rsR ik kn ∧ men2 = nI (rz ik n kn) ∧ msy2 = nI (rz ik sn ksn) ∧ mdn2 = rz ik dn kdn ∧ EVS (rz ik n kn) (rz ik sn ksn) (rz ik dn kdn) (rz ik K kK) (rz ik F kF) (rz ik W kW) (rz ik S5 kS) kf2 ff2 wf2 stf2 ∧ ∀ j, j < 8 → pf2 j = rz ik (pf j) (kpf j) := by
  by_cases z : ik = 0
  · obtain ⟨h1, h2, h3, h4, h6, h7, h8, h9, h10⟩ := h.1 z
    unfold rsR
    simp only [rz0 z]
    rw [if_pos z, h6, h7, h8, h9, h10]
    exact ⟨h1, h2, h3, h4, he, fun j hj => rfl⟩
  · obtain ⟨h1, h2⟩ := h.2 z
    obtain ⟨a, b, c, d, e, p1, p2, p3⟩ := hk z
    obtain ⟨q1, q2, q3, q4, q5⟩ := PK_ev p1 h2 p2
    unfold rsR
    simp only [rz1 z]
    rw [if_neg z]
    exact ⟨h1.trans q3, q3, q4, q5, q1, fun j hj => (q2 j hj).trans (p3 j hj)⟩
/-- got -/
theorem rGot_c {n : Nat} {P P2 : Nat → Int32} {i : Int32} (hn : n ≤ 8) (h : ∀ j, j < 8 → P2 j = P j) : rGot n P2 i = rGot n P i := by
  unfold rGot
  by_cases o : OKI n i
  · obtain ⟨j, h1, h2⟩ := OKI_ix hn o
    rw [if_pos o, if_pos o, h2, nI_clamp (by omega)]
    exact h j (by omega)
  · rw [if_neg o, if_neg o]
/-- the start -/
def SETN (k : Nat) : Nat := if k = 0 ∨ k = 4 then 10 else 0
theorem EVS_0 {kf ff wf : Nat → Int32} : EVS 0 0 0 (fun _ => 0) (fun _ => 0) (fun _ => 0) SETN kf ff wf SET0 := by
  refine ⟨⟨by omega, by decide, by decide, fun j hj => absurd hj (Nat.not_lt_zero j)⟩, fun k hk => ?_, ⟨by decide, by decide, by decide, by decide⟩, Or.inr rfl, Or.inl rfl⟩
  rcases (show k = 0 ∨ k = 1 ∨ k = 2 ∨ k = 3 ∨ k = 4 by omega) with e | e | e | e | e <;> subst e <;> decide
theorem lp_in {i SL : Nat} {x y : Int32} (hL : SL ≤ 320) (hi : i ≤ SL) (hx : x = Int32.ofNat SL) (hy : y = x - 5) (h : ¬ y < nI i) : i + 5 ≤ SL := by
  subst hx; subst hy
  rw [show (Int32.ofNat SL : Int32) = iI (SL : Int) from nI_iI SL, show (5 : Int32) = iI 5 from rfl, iI_sub, nI_iI, iI_lt (by unfold sm; omega) (by unfold sm; omega)] at h
  omega
theorem ALK_c {sf sg : Nat → Int32} {a b c d : Int32} (h1 : sf 1 = sg 1) (h2 : sf 2 = sg 2) (h3 : sf 3 = sg 3) : ALK sf a b c d = ALK sg a b c d := by
  unfold ALK
  rw [h1, h2, h3]

end

section
/-! 93.lawdec0 -/
theorem bl_cL_law_0 : ((bys cL_law).drop 0).take 32 = [187, 0, 7, 89, 183, 0, 9, 76, 187, 0, 10, 89, 183, 0, 12, 77, 3, 62, 29, 42, 190, 8, 100, 163, 3, 122, 42, 29, 46, 16, 31, 126] := by decide +kernel
theorem bl_cL_law_32 : ((bys cL_law).drop 32).take 32 = [170, 0, 0, 0, 0, 0, 3, 107, 0, 0, 0, 0, 0, 0, 0, 28, 0, 0, 0, 132, 0, 0, 0, 155, 0, 0, 0, 168, 0, 0, 0, 201] := by decide +kernel
theorem bl_cL_law_64 : ((bys cL_law).drop 64).take 32 = [0, 0, 0, 234, 0, 0, 1, 11, 0, 0, 1, 44, 0, 0, 1, 67, 0, 0, 1, 90, 0, 0, 1, 113, 0, 0, 1, 146, 0, 0, 1, 169] := by decide +kernel
theorem bl_cL_law_96 : ((bys cL_law).drop 96).take 32 = [0, 0, 1, 192, 0, 0, 1, 215, 0, 0, 1, 238, 0, 0, 1, 251, 0, 0, 2, 18, 0, 0, 2, 87, 0, 0, 2, 100, 0, 0, 2, 143] := by decide +kernel
theorem bl_cL_law_128 : ((bys cL_law).drop 128).take 32 = [0, 0, 2, 156, 0, 0, 2, 189, 0, 0, 2, 212, 0, 0, 2, 235, 0, 0, 3, 2, 0, 0, 3, 45, 0, 0, 3, 58, 0, 0, 3, 71] := by decide +kernel
theorem bl_cL_law_160 : ((bys cL_law).drop 160).take 32 = [0, 0, 3, 84, 43, 42, 29, 4, 96, 46, 182, 0, 13, 87, 44, 42, 29, 4, 96, 46, 182, 0, 17, 87, 167, 2, 211, 43, 182, 0, 18, 87] := by decide +kernel
theorem bl_cL_law_192 : ((bys cL_law).drop 192).take 32 = [44, 182, 0, 22, 87, 167, 2, 198, 43, 42, 29, 4, 96, 46, 42, 29, 5, 96, 46, 182, 0, 23, 87, 44, 42, 29, 4, 96, 46, 42, 29, 5] := by decide +kernel
theorem bl_cL_law_224 : ((bys cL_law).drop 224).take 32 = [96, 46, 182, 0, 27, 87, 167, 2, 165, 43, 42, 29, 4, 96, 46, 42, 29, 5, 96, 46, 182, 0, 28, 87, 44, 42, 29, 4, 96, 46, 42, 29] := by decide +kernel
theorem bl_cL_law_256 : ((bys cL_law).drop 256).take 32 = [5, 96, 46, 182, 0, 31, 87, 167, 2, 132, 43, 42, 29, 4, 96, 46, 42, 29, 5, 96, 46, 182, 0, 32, 87, 44, 42, 29, 4, 96, 46, 42] := by decide +kernel
theorem bl_cL_law_288 : ((bys cL_law).drop 288).take 32 = [29, 5, 96, 46, 182, 0, 35, 87, 167, 2, 99, 43, 42, 29, 4, 96, 46, 42, 29, 5, 96, 46, 182, 0, 36, 87, 44, 42, 29, 4, 96, 46] := by decide +kernel
theorem bl_cL_law_320 : ((bys cL_law).drop 320).take 32 = [42, 29, 5, 96, 46, 182, 0, 39, 87, 167, 2, 66, 43, 42, 29, 4, 96, 46, 182, 0, 40, 87, 44, 42, 29, 4, 96, 46, 182, 0, 43, 87] := by decide +kernel
theorem bl_cL_law_352 : ((bys cL_law).drop 352).take 32 = [167, 2, 43, 43, 42, 29, 4, 96, 46, 182, 0, 44, 87, 44, 42, 29, 4, 96, 46, 182, 0, 47, 87, 167, 2, 20, 43, 42, 29, 4, 96, 46] := by decide +kernel
theorem bl_cL_law_384 : ((bys cL_law).drop 384).take 32 = [182, 0, 48, 87, 44, 42, 29, 4, 96, 46, 182, 0, 51, 87, 167, 1, 253, 43, 42, 29, 4, 96, 46, 42, 29, 5, 96, 46, 182, 0, 52, 87] := by decide +kernel
theorem bl_cL_law_416 : ((bys cL_law).drop 416).take 32 = [44, 42, 29, 4, 96, 46, 42, 29, 5, 96, 46, 182, 0, 55, 87, 167, 1, 220, 43, 42, 29, 4, 96, 46, 182, 0, 56, 87, 44, 42, 29, 4] := by decide +kernel
theorem bl_cL_law_448 : ((bys cL_law).drop 448).take 32 = [96, 46, 182, 0, 59, 87, 167, 1, 197, 43, 42, 29, 4, 96, 46, 182, 0, 60, 87, 44, 42, 29, 4, 96, 46, 182, 0, 63, 87, 167, 1, 174] := by decide +kernel
theorem bl_cL_law_480 : ((bys cL_law).drop 480).take 32 = [43, 42, 29, 4, 96, 46, 182, 0, 64, 87, 44, 42, 29, 4, 96, 46, 182, 0, 67, 87, 167, 1, 151, 43, 42, 29, 4, 96, 46, 182, 0, 68] := by decide +kernel
theorem bl_cL_law_512 : ((bys cL_law).drop 512).take 32 = [87, 44, 42, 29, 4, 96, 46, 182, 0, 71, 87, 167, 1, 128, 43, 182, 0, 72, 87, 44, 182, 0, 75, 87, 167, 1, 115, 43, 42, 29, 4, 96] := by decide +kernel
theorem bl_cL_law_544 : ((bys cL_law).drop 544).take 32 = [46, 182, 0, 76, 87, 44, 42, 29, 4, 96, 46, 182, 0, 79, 87, 167, 1, 92, 43, 42, 29, 4, 96, 46, 42, 29, 5, 96, 46, 42, 29, 6] := by decide +kernel
theorem bl_cL_law_576 : ((bys cL_law).drop 576).take 32 = [96, 46, 42, 29, 7, 96, 46, 153, 0, 7, 4, 167, 0, 4, 3, 182, 0, 80, 87, 44, 42, 29, 4, 96, 46, 42, 29, 5, 96, 46, 42, 29] := by decide +kernel
theorem bl_cL_law_608 : ((bys cL_law).drop 608).take 32 = [6, 96, 46, 42, 29, 7, 96, 46, 153, 0, 7, 4, 167, 0, 4, 3, 182, 0, 84, 87, 167, 1, 23, 43, 182, 0, 85, 87, 44, 182, 0, 88] := by decide +kernel
theorem bl_cL_law_640 : ((bys cL_law).drop 640).take 32 = [87, 167, 1, 10, 43, 42, 29, 4, 96, 46, 42, 29, 5, 96, 46, 42, 29, 6, 96, 46, 182, 0, 89, 87, 44, 42, 29, 4, 96, 46, 42, 29] := by decide +kernel
theorem bl_cL_law_672 : ((bys cL_law).drop 672).take 32 = [5, 96, 46, 42, 29, 6, 96, 46, 182, 0, 93, 87, 167, 0, 223, 43, 182, 0, 94, 87, 44, 182, 0, 97, 87, 167, 0, 210, 43, 42, 29, 4] := by decide +kernel
theorem bl_cL_law_704 : ((bys cL_law).drop 704).take 32 = [96, 46, 42, 29, 5, 96, 46, 182, 0, 98, 87, 44, 42, 29, 4, 96, 46, 42, 29, 5, 96, 46, 182, 0, 101, 87, 167, 0, 177, 43, 42, 29] := by decide +kernel
theorem bl_cL_law_736 : ((bys cL_law).drop 736).take 32 = [4, 96, 46, 182, 0, 102, 87, 44, 42, 29, 4, 96, 46, 182, 0, 105, 87, 167, 0, 154, 43, 42, 29, 4, 96, 46, 182, 0, 106, 87, 44, 42] := by decide +kernel
theorem bl_cL_law_768 : ((bys cL_law).drop 768).take 32 = [29, 4, 96, 46, 182, 0, 109, 87, 167, 0, 131, 43, 42, 29, 4, 96, 46, 182, 0, 110, 88, 44, 42, 29, 4, 96, 46, 182, 0, 114, 88, 167] := by decide +kernel
theorem bl_cL_law_800 : ((bys cL_law).drop 800).take 32 = [0, 108, 43, 42, 29, 4, 96, 46, 42, 29, 5, 96, 46, 42, 29, 6, 96, 46, 182, 0, 115, 87, 44, 42, 29, 4, 96, 46, 42, 29, 5, 96] := by decide +kernel
theorem bl_cL_law_832 : ((bys cL_law).drop 832).take 32 = [46, 42, 29, 6, 96, 46, 182, 0, 118, 87, 167, 0, 65, 43, 182, 0, 119, 87, 44, 182, 0, 122, 87, 167, 0, 52, 43, 182, 0, 123, 87, 44] := by decide +kernel
theorem bl_cL_law_864 : ((bys cL_law).drop 864).take 32 = [182, 0, 126, 87, 167, 0, 39, 43, 182, 0, 127, 44, 182, 0, 130, 159, 0, 28, 3, 172, 43, 42, 29, 4, 96, 46, 182, 0, 131, 87, 44, 42] := by decide +kernel
theorem bl_cL_law_896 : ((bys cL_law).drop 896).take 32 = [29, 4, 96, 46, 182, 0, 134, 87, 167, 0, 3, 132, 3, 5, 167, 252, 132, 4, 172] := by decide +kernel
theorem dL_law_0 : decode cL_law 0 = .ok (.new 7, 3) := op_187 (bl_at (d := 0) bl_cL_law_0 0 rfl) (bl_at (d := 0) bl_cL_law_0 1 rfl) (bl_at (d := 0) bl_cL_law_0 2 rfl)
theorem dL_law_3 : decode cL_law 3 = .ok (.dup, 1) := op_89 (bl_at (d := 0) bl_cL_law_0 3 rfl)
theorem dL_law_4 : decode cL_law 4 = .ok (.invokespecial 9, 3) := op_183 (bl_at (d := 0) bl_cL_law_0 4 rfl) (bl_at (d := 0) bl_cL_law_0 5 rfl) (bl_at (d := 0) bl_cL_law_0 6 rfl)
theorem dL_law_7 : decode cL_law 7 = .ok (.astore_n 1, 1) := op_76 (bl_at (d := 0) bl_cL_law_0 7 rfl)
theorem dL_law_8 : decode cL_law 8 = .ok (.new 10, 3) := op_187 (bl_at (d := 0) bl_cL_law_0 8 rfl) (bl_at (d := 0) bl_cL_law_0 9 rfl) (bl_at (d := 0) bl_cL_law_0 10 rfl)
theorem dL_law_11 : decode cL_law 11 = .ok (.dup, 1) := op_89 (bl_at (d := 0) bl_cL_law_0 11 rfl)
theorem dL_law_12 : decode cL_law 12 = .ok (.invokespecial 12, 3) := op_183 (bl_at (d := 0) bl_cL_law_0 12 rfl) (bl_at (d := 0) bl_cL_law_0 13 rfl) (bl_at (d := 0) bl_cL_law_0 14 rfl)
theorem dL_law_15 : decode cL_law 15 = .ok (.astore_n 2, 1) := op_77 (bl_at (d := 0) bl_cL_law_0 15 rfl)
theorem dL_law_16 : decode cL_law 16 = .ok (.iconst 0, 1) := op_3 (bl_at (d := 0) bl_cL_law_0 16 rfl)
theorem dL_law_17 : decode cL_law 17 = .ok (.istore_n 3, 1) := op_62 (bl_at (d := 0) bl_cL_law_0 17 rfl)
theorem dL_law_18 : decode cL_law 18 = .ok (.iload_n 3, 1) := op_29 (bl_at (d := 0) bl_cL_law_0 18 rfl)
theorem dL_law_19 : decode cL_law 19 = .ok (.aload_n 0, 1) := op_42 (bl_at (d := 0) bl_cL_law_0 19 rfl)
theorem dL_law_20 : decode cL_law 20 = .ok (.arraylength, 1) := op_190 (bl_at (d := 0) bl_cL_law_0 20 rfl)
theorem dL_law_21 : decode cL_law 21 = .ok (.iconst 5, 1) := op_8 (bl_at (d := 0) bl_cL_law_0 21 rfl)
theorem dL_law_22 : decode cL_law 22 = .ok (.isub, 1) := op_100 (bl_at (d := 0) bl_cL_law_0 22 rfl)
theorem dL_law_23 : decode cL_law 23 = .ok (.if_icmp .gt 890, 3) := op_163 (bl_at (d := 0) bl_cL_law_0 23 rfl) (bl_at (d := 0) bl_cL_law_0 24 rfl) (bl_at (d := 0) bl_cL_law_0 25 rfl)
theorem dL_law_26 : decode cL_law 26 = .ok (.aload_n 0, 1) := op_42 (bl_at (d := 0) bl_cL_law_0 26 rfl)
theorem dL_law_27 : decode cL_law 27 = .ok (.iload_n 3, 1) := op_29 (bl_at (d := 0) bl_cL_law_0 27 rfl)
theorem dL_law_28 : decode cL_law 28 = .ok (.iaload, 1) := op_46 (bl_at (d := 0) bl_cL_law_0 28 rfl)
theorem dL_law_29 : decode cL_law 29 = .ok (.bipush 31, 2) := op_16 (bl_at (d := 0) bl_cL_law_0 29 rfl) (bl_at (d := 0) bl_cL_law_0 30 rfl)
theorem dL_law_31 : decode cL_law 31 = .ok (.iand, 1) := op_126 (bl_at (d := 0) bl_cL_law_0 31 rfl)
theorem dL_law_32 : decode cL_law 32 = .ok (.tableswitch 875 0 28 #[132, 155, 168, 201, 234, 267, 300, 323, 346, 369, 402, 425, 448, 471, 494, 507, 530, 599, 612, 655, 668, 701, 724, 747, 770, 813, 826, 839, 852], 132) := by decide +kernel
theorem dL_law_164 : decode cL_law 164 = .ok (.aload_n 1, 1) := op_43 (bl_at (d := 160) bl_cL_law_160 4 rfl)
theorem dL_law_165 : decode cL_law 165 = .ok (.aload_n 0, 1) := op_42 (bl_at (d := 160) bl_cL_law_160 5 rfl)
theorem dL_law_166 : decode cL_law 166 = .ok (.iload_n 3, 1) := op_29 (bl_at (d := 160) bl_cL_law_160 6 rfl)
theorem dL_law_167 : decode cL_law 167 = .ok (.iconst 1, 1) := op_4 (bl_at (d := 160) bl_cL_law_160 7 rfl)
theorem dL_law_168 : decode cL_law 168 = .ok (.iadd, 1) := op_96 (bl_at (d := 160) bl_cL_law_160 8 rfl)
theorem dL_law_169 : decode cL_law 169 = .ok (.iaload, 1) := op_46 (bl_at (d := 160) bl_cL_law_160 9 rfl)
theorem dL_law_170 : decode cL_law 170 = .ok (.invokevirtual 13, 3) := op_182 (bl_at (d := 160) bl_cL_law_160 10 rfl) (bl_at (d := 160) bl_cL_law_160 11 rfl) (bl_at (d := 160) bl_cL_law_160 12 rfl)
theorem dL_law_173 : decode cL_law 173 = .ok (.pop, 1) := op_87 (bl_at (d := 160) bl_cL_law_160 13 rfl)
theorem dL_law_174 : decode cL_law 174 = .ok (.aload_n 2, 1) := op_44 (bl_at (d := 160) bl_cL_law_160 14 rfl)
theorem dL_law_175 : decode cL_law 175 = .ok (.aload_n 0, 1) := op_42 (bl_at (d := 160) bl_cL_law_160 15 rfl)
theorem dL_law_176 : decode cL_law 176 = .ok (.iload_n 3, 1) := op_29 (bl_at (d := 160) bl_cL_law_160 16 rfl)
theorem dL_law_177 : decode cL_law 177 = .ok (.iconst 1, 1) := op_4 (bl_at (d := 160) bl_cL_law_160 17 rfl)
theorem dL_law_178 : decode cL_law 178 = .ok (.iadd, 1) := op_96 (bl_at (d := 160) bl_cL_law_160 18 rfl)
theorem dL_law_179 : decode cL_law 179 = .ok (.iaload, 1) := op_46 (bl_at (d := 160) bl_cL_law_160 19 rfl)
theorem dL_law_180 : decode cL_law 180 = .ok (.invokevirtual 17, 3) := op_182 (bl_at (d := 160) bl_cL_law_160 20 rfl) (bl_at (d := 160) bl_cL_law_160 21 rfl) (bl_at (d := 160) bl_cL_law_160 22 rfl)
theorem dL_law_183 : decode cL_law 183 = .ok (.pop, 1) := op_87 (bl_at (d := 160) bl_cL_law_160 23 rfl)
theorem dL_law_184 : decode cL_law 184 = .ok (.goto 723, 3) := op_167 (bl_at (d := 160) bl_cL_law_160 24 rfl) (bl_at (d := 160) bl_cL_law_160 25 rfl) (bl_at (d := 160) bl_cL_law_160 26 rfl)
theorem dL_law_187 : decode cL_law 187 = .ok (.aload_n 1, 1) := op_43 (bl_at (d := 160) bl_cL_law_160 27 rfl)
theorem dL_law_188 : decode cL_law 188 = .ok (.invokevirtual 18, 3) := op_182 (bl_at (d := 160) bl_cL_law_160 28 rfl) (bl_at (d := 160) bl_cL_law_160 29 rfl) (bl_at (d := 160) bl_cL_law_160 30 rfl)
theorem dL_law_191 : decode cL_law 191 = .ok (.pop, 1) := op_87 (bl_at (d := 160) bl_cL_law_160 31 rfl)
theorem dL_law_192 : decode cL_law 192 = .ok (.aload_n 2, 1) := op_44 (bl_at (d := 192) bl_cL_law_192 0 rfl)
theorem dL_law_193 : decode cL_law 193 = .ok (.invokevirtual 22, 3) := op_182 (bl_at (d := 192) bl_cL_law_192 1 rfl) (bl_at (d := 192) bl_cL_law_192 2 rfl) (bl_at (d := 192) bl_cL_law_192 3 rfl)
theorem dL_law_196 : decode cL_law 196 = .ok (.pop, 1) := op_87 (bl_at (d := 192) bl_cL_law_192 4 rfl)
theorem dL_law_197 : decode cL_law 197 = .ok (.goto 710, 3) := op_167 (bl_at (d := 192) bl_cL_law_192 5 rfl) (bl_at (d := 192) bl_cL_law_192 6 rfl) (bl_at (d := 192) bl_cL_law_192 7 rfl)
theorem dL_law_200 : decode cL_law 200 = .ok (.aload_n 1, 1) := op_43 (bl_at (d := 192) bl_cL_law_192 8 rfl)
theorem dL_law_201 : decode cL_law 201 = .ok (.aload_n 0, 1) := op_42 (bl_at (d := 192) bl_cL_law_192 9 rfl)
theorem dL_law_202 : decode cL_law 202 = .ok (.iload_n 3, 1) := op_29 (bl_at (d := 192) bl_cL_law_192 10 rfl)
theorem dL_law_203 : decode cL_law 203 = .ok (.iconst 1, 1) := op_4 (bl_at (d := 192) bl_cL_law_192 11 rfl)
theorem dL_law_204 : decode cL_law 204 = .ok (.iadd, 1) := op_96 (bl_at (d := 192) bl_cL_law_192 12 rfl)
theorem dL_law_205 : decode cL_law 205 = .ok (.iaload, 1) := op_46 (bl_at (d := 192) bl_cL_law_192 13 rfl)
theorem dL_law_206 : decode cL_law 206 = .ok (.aload_n 0, 1) := op_42 (bl_at (d := 192) bl_cL_law_192 14 rfl)
theorem dL_law_207 : decode cL_law 207 = .ok (.iload_n 3, 1) := op_29 (bl_at (d := 192) bl_cL_law_192 15 rfl)
theorem dL_law_208 : decode cL_law 208 = .ok (.iconst 2, 1) := op_5 (bl_at (d := 192) bl_cL_law_192 16 rfl)
theorem dL_law_209 : decode cL_law 209 = .ok (.iadd, 1) := op_96 (bl_at (d := 192) bl_cL_law_192 17 rfl)
theorem dL_law_210 : decode cL_law 210 = .ok (.iaload, 1) := op_46 (bl_at (d := 192) bl_cL_law_192 18 rfl)
theorem dL_law_211 : decode cL_law 211 = .ok (.invokevirtual 23, 3) := op_182 (bl_at (d := 192) bl_cL_law_192 19 rfl) (bl_at (d := 192) bl_cL_law_192 20 rfl) (bl_at (d := 192) bl_cL_law_192 21 rfl)
theorem dL_law_214 : decode cL_law 214 = .ok (.pop, 1) := op_87 (bl_at (d := 192) bl_cL_law_192 22 rfl)
theorem dL_law_215 : decode cL_law 215 = .ok (.aload_n 2, 1) := op_44 (bl_at (d := 192) bl_cL_law_192 23 rfl)
theorem dL_law_216 : decode cL_law 216 = .ok (.aload_n 0, 1) := op_42 (bl_at (d := 192) bl_cL_law_192 24 rfl)
theorem dL_law_217 : decode cL_law 217 = .ok (.iload_n 3, 1) := op_29 (bl_at (d := 192) bl_cL_law_192 25 rfl)
theorem dL_law_218 : decode cL_law 218 = .ok (.iconst 1, 1) := op_4 (bl_at (d := 192) bl_cL_law_192 26 rfl)
theorem dL_law_219 : decode cL_law 219 = .ok (.iadd, 1) := op_96 (bl_at (d := 192) bl_cL_law_192 27 rfl)
theorem dL_law_220 : decode cL_law 220 = .ok (.iaload, 1) := op_46 (bl_at (d := 192) bl_cL_law_192 28 rfl)
theorem dL_law_221 : decode cL_law 221 = .ok (.aload_n 0, 1) := op_42 (bl_at (d := 192) bl_cL_law_192 29 rfl)
theorem dL_law_222 : decode cL_law 222 = .ok (.iload_n 3, 1) := op_29 (bl_at (d := 192) bl_cL_law_192 30 rfl)
theorem dL_law_223 : decode cL_law 223 = .ok (.iconst 2, 1) := op_5 (bl_at (d := 192) bl_cL_law_192 31 rfl)
theorem dL_law_224 : decode cL_law 224 = .ok (.iadd, 1) := op_96 (bl_at (d := 224) bl_cL_law_224 0 rfl)
theorem dL_law_225 : decode cL_law 225 = .ok (.iaload, 1) := op_46 (bl_at (d := 224) bl_cL_law_224 1 rfl)
theorem dL_law_226 : decode cL_law 226 = .ok (.invokevirtual 27, 3) := op_182 (bl_at (d := 224) bl_cL_law_224 2 rfl) (bl_at (d := 224) bl_cL_law_224 3 rfl) (bl_at (d := 224) bl_cL_law_224 4 rfl)
theorem dL_law_229 : decode cL_law 229 = .ok (.pop, 1) := op_87 (bl_at (d := 224) bl_cL_law_224 5 rfl)
theorem dL_law_230 : decode cL_law 230 = .ok (.goto 677, 3) := op_167 (bl_at (d := 224) bl_cL_law_224 6 rfl) (bl_at (d := 224) bl_cL_law_224 7 rfl) (bl_at (d := 224) bl_cL_law_224 8 rfl)
theorem dL_law_233 : decode cL_law 233 = .ok (.aload_n 1, 1) := op_43 (bl_at (d := 224) bl_cL_law_224 9 rfl)
theorem dL_law_234 : decode cL_law 234 = .ok (.aload_n 0, 1) := op_42 (bl_at (d := 224) bl_cL_law_224 10 rfl)
theorem dL_law_235 : decode cL_law 235 = .ok (.iload_n 3, 1) := op_29 (bl_at (d := 224) bl_cL_law_224 11 rfl)
theorem dL_law_236 : decode cL_law 236 = .ok (.iconst 1, 1) := op_4 (bl_at (d := 224) bl_cL_law_224 12 rfl)
theorem dL_law_237 : decode cL_law 237 = .ok (.iadd, 1) := op_96 (bl_at (d := 224) bl_cL_law_224 13 rfl)
theorem dL_law_238 : decode cL_law 238 = .ok (.iaload, 1) := op_46 (bl_at (d := 224) bl_cL_law_224 14 rfl)
theorem dL_law_239 : decode cL_law 239 = .ok (.aload_n 0, 1) := op_42 (bl_at (d := 224) bl_cL_law_224 15 rfl)
theorem dL_law_240 : decode cL_law 240 = .ok (.iload_n 3, 1) := op_29 (bl_at (d := 224) bl_cL_law_224 16 rfl)
theorem dL_law_241 : decode cL_law 241 = .ok (.iconst 2, 1) := op_5 (bl_at (d := 224) bl_cL_law_224 17 rfl)
theorem dL_law_242 : decode cL_law 242 = .ok (.iadd, 1) := op_96 (bl_at (d := 224) bl_cL_law_224 18 rfl)
theorem dL_law_243 : decode cL_law 243 = .ok (.iaload, 1) := op_46 (bl_at (d := 224) bl_cL_law_224 19 rfl)
theorem dL_law_244 : decode cL_law 244 = .ok (.invokevirtual 28, 3) := op_182 (bl_at (d := 224) bl_cL_law_224 20 rfl) (bl_at (d := 224) bl_cL_law_224 21 rfl) (bl_at (d := 224) bl_cL_law_224 22 rfl)
theorem dL_law_247 : decode cL_law 247 = .ok (.pop, 1) := op_87 (bl_at (d := 224) bl_cL_law_224 23 rfl)
theorem dL_law_248 : decode cL_law 248 = .ok (.aload_n 2, 1) := op_44 (bl_at (d := 224) bl_cL_law_224 24 rfl)
theorem dL_law_249 : decode cL_law 249 = .ok (.aload_n 0, 1) := op_42 (bl_at (d := 224) bl_cL_law_224 25 rfl)
theorem dL_law_250 : decode cL_law 250 = .ok (.iload_n 3, 1) := op_29 (bl_at (d := 224) bl_cL_law_224 26 rfl)
theorem dL_law_251 : decode cL_law 251 = .ok (.iconst 1, 1) := op_4 (bl_at (d := 224) bl_cL_law_224 27 rfl)
theorem dL_law_252 : decode cL_law 252 = .ok (.iadd, 1) := op_96 (bl_at (d := 224) bl_cL_law_224 28 rfl)
theorem dL_law_253 : decode cL_law 253 = .ok (.iaload, 1) := op_46 (bl_at (d := 224) bl_cL_law_224 29 rfl)
theorem dL_law_254 : decode cL_law 254 = .ok (.aload_n 0, 1) := op_42 (bl_at (d := 224) bl_cL_law_224 30 rfl)
theorem dL_law_255 : decode cL_law 255 = .ok (.iload_n 3, 1) := op_29 (bl_at (d := 224) bl_cL_law_224 31 rfl)
theorem dL_law_256 : decode cL_law 256 = .ok (.iconst 2, 1) := op_5 (bl_at (d := 256) bl_cL_law_256 0 rfl)
theorem dL_law_257 : decode cL_law 257 = .ok (.iadd, 1) := op_96 (bl_at (d := 256) bl_cL_law_256 1 rfl)
theorem dL_law_258 : decode cL_law 258 = .ok (.iaload, 1) := op_46 (bl_at (d := 256) bl_cL_law_256 2 rfl)
theorem dL_law_259 : decode cL_law 259 = .ok (.invokevirtual 31, 3) := op_182 (bl_at (d := 256) bl_cL_law_256 3 rfl) (bl_at (d := 256) bl_cL_law_256 4 rfl) (bl_at (d := 256) bl_cL_law_256 5 rfl)
theorem dL_law_262 : decode cL_law 262 = .ok (.pop, 1) := op_87 (bl_at (d := 256) bl_cL_law_256 6 rfl)
theorem dL_law_263 : decode cL_law 263 = .ok (.goto 644, 3) := op_167 (bl_at (d := 256) bl_cL_law_256 7 rfl) (bl_at (d := 256) bl_cL_law_256 8 rfl) (bl_at (d := 256) bl_cL_law_256 9 rfl)
theorem dL_law_266 : decode cL_law 266 = .ok (.aload_n 1, 1) := op_43 (bl_at (d := 256) bl_cL_law_256 10 rfl)
theorem dL_law_267 : decode cL_law 267 = .ok (.aload_n 0, 1) := op_42 (bl_at (d := 256) bl_cL_law_256 11 rfl)
theorem dL_law_268 : decode cL_law 268 = .ok (.iload_n 3, 1) := op_29 (bl_at (d := 256) bl_cL_law_256 12 rfl)
theorem dL_law_269 : decode cL_law 269 = .ok (.iconst 1, 1) := op_4 (bl_at (d := 256) bl_cL_law_256 13 rfl)
theorem dL_law_270 : decode cL_law 270 = .ok (.iadd, 1) := op_96 (bl_at (d := 256) bl_cL_law_256 14 rfl)
theorem dL_law_271 : decode cL_law 271 = .ok (.iaload, 1) := op_46 (bl_at (d := 256) bl_cL_law_256 15 rfl)
theorem dL_law_272 : decode cL_law 272 = .ok (.aload_n 0, 1) := op_42 (bl_at (d := 256) bl_cL_law_256 16 rfl)
theorem dL_law_273 : decode cL_law 273 = .ok (.iload_n 3, 1) := op_29 (bl_at (d := 256) bl_cL_law_256 17 rfl)
theorem dL_law_274 : decode cL_law 274 = .ok (.iconst 2, 1) := op_5 (bl_at (d := 256) bl_cL_law_256 18 rfl)
theorem dL_law_275 : decode cL_law 275 = .ok (.iadd, 1) := op_96 (bl_at (d := 256) bl_cL_law_256 19 rfl)
theorem dL_law_276 : decode cL_law 276 = .ok (.iaload, 1) := op_46 (bl_at (d := 256) bl_cL_law_256 20 rfl)
theorem dL_law_277 : decode cL_law 277 = .ok (.invokevirtual 32, 3) := op_182 (bl_at (d := 256) bl_cL_law_256 21 rfl) (bl_at (d := 256) bl_cL_law_256 22 rfl) (bl_at (d := 256) bl_cL_law_256 23 rfl)
theorem dL_law_280 : decode cL_law 280 = .ok (.pop, 1) := op_87 (bl_at (d := 256) bl_cL_law_256 24 rfl)
theorem dL_law_281 : decode cL_law 281 = .ok (.aload_n 2, 1) := op_44 (bl_at (d := 256) bl_cL_law_256 25 rfl)
theorem dL_law_282 : decode cL_law 282 = .ok (.aload_n 0, 1) := op_42 (bl_at (d := 256) bl_cL_law_256 26 rfl)
theorem dL_law_283 : decode cL_law 283 = .ok (.iload_n 3, 1) := op_29 (bl_at (d := 256) bl_cL_law_256 27 rfl)
theorem dL_law_284 : decode cL_law 284 = .ok (.iconst 1, 1) := op_4 (bl_at (d := 256) bl_cL_law_256 28 rfl)
theorem dL_law_285 : decode cL_law 285 = .ok (.iadd, 1) := op_96 (bl_at (d := 256) bl_cL_law_256 29 rfl)
theorem dL_law_286 : decode cL_law 286 = .ok (.iaload, 1) := op_46 (bl_at (d := 256) bl_cL_law_256 30 rfl)
theorem dL_law_287 : decode cL_law 287 = .ok (.aload_n 0, 1) := op_42 (bl_at (d := 256) bl_cL_law_256 31 rfl)
theorem dL_law_288 : decode cL_law 288 = .ok (.iload_n 3, 1) := op_29 (bl_at (d := 288) bl_cL_law_288 0 rfl)

end

section
/-! 93.lawdec1 -/
theorem dL_law_289 : decode cL_law 289 = .ok (.iconst 2, 1) := op_5 (bl_at (d := 288) bl_cL_law_288 1 rfl)
theorem dL_law_290 : decode cL_law 290 = .ok (.iadd, 1) := op_96 (bl_at (d := 288) bl_cL_law_288 2 rfl)
theorem dL_law_291 : decode cL_law 291 = .ok (.iaload, 1) := op_46 (bl_at (d := 288) bl_cL_law_288 3 rfl)
theorem dL_law_292 : decode cL_law 292 = .ok (.invokevirtual 35, 3) := op_182 (bl_at (d := 288) bl_cL_law_288 4 rfl) (bl_at (d := 288) bl_cL_law_288 5 rfl) (bl_at (d := 288) bl_cL_law_288 6 rfl)
theorem dL_law_295 : decode cL_law 295 = .ok (.pop, 1) := op_87 (bl_at (d := 288) bl_cL_law_288 7 rfl)
theorem dL_law_296 : decode cL_law 296 = .ok (.goto 611, 3) := op_167 (bl_at (d := 288) bl_cL_law_288 8 rfl) (bl_at (d := 288) bl_cL_law_288 9 rfl) (bl_at (d := 288) bl_cL_law_288 10 rfl)
theorem dL_law_299 : decode cL_law 299 = .ok (.aload_n 1, 1) := op_43 (bl_at (d := 288) bl_cL_law_288 11 rfl)
theorem dL_law_300 : decode cL_law 300 = .ok (.aload_n 0, 1) := op_42 (bl_at (d := 288) bl_cL_law_288 12 rfl)
theorem dL_law_301 : decode cL_law 301 = .ok (.iload_n 3, 1) := op_29 (bl_at (d := 288) bl_cL_law_288 13 rfl)
theorem dL_law_302 : decode cL_law 302 = .ok (.iconst 1, 1) := op_4 (bl_at (d := 288) bl_cL_law_288 14 rfl)
theorem dL_law_303 : decode cL_law 303 = .ok (.iadd, 1) := op_96 (bl_at (d := 288) bl_cL_law_288 15 rfl)
theorem dL_law_304 : decode cL_law 304 = .ok (.iaload, 1) := op_46 (bl_at (d := 288) bl_cL_law_288 16 rfl)
theorem dL_law_305 : decode cL_law 305 = .ok (.aload_n 0, 1) := op_42 (bl_at (d := 288) bl_cL_law_288 17 rfl)
theorem dL_law_306 : decode cL_law 306 = .ok (.iload_n 3, 1) := op_29 (bl_at (d := 288) bl_cL_law_288 18 rfl)
theorem dL_law_307 : decode cL_law 307 = .ok (.iconst 2, 1) := op_5 (bl_at (d := 288) bl_cL_law_288 19 rfl)
theorem dL_law_308 : decode cL_law 308 = .ok (.iadd, 1) := op_96 (bl_at (d := 288) bl_cL_law_288 20 rfl)
theorem dL_law_309 : decode cL_law 309 = .ok (.iaload, 1) := op_46 (bl_at (d := 288) bl_cL_law_288 21 rfl)
theorem dL_law_310 : decode cL_law 310 = .ok (.invokevirtual 36, 3) := op_182 (bl_at (d := 288) bl_cL_law_288 22 rfl) (bl_at (d := 288) bl_cL_law_288 23 rfl) (bl_at (d := 288) bl_cL_law_288 24 rfl)
theorem dL_law_313 : decode cL_law 313 = .ok (.pop, 1) := op_87 (bl_at (d := 288) bl_cL_law_288 25 rfl)
theorem dL_law_314 : decode cL_law 314 = .ok (.aload_n 2, 1) := op_44 (bl_at (d := 288) bl_cL_law_288 26 rfl)
theorem dL_law_315 : decode cL_law 315 = .ok (.aload_n 0, 1) := op_42 (bl_at (d := 288) bl_cL_law_288 27 rfl)
theorem dL_law_316 : decode cL_law 316 = .ok (.iload_n 3, 1) := op_29 (bl_at (d := 288) bl_cL_law_288 28 rfl)
theorem dL_law_317 : decode cL_law 317 = .ok (.iconst 1, 1) := op_4 (bl_at (d := 288) bl_cL_law_288 29 rfl)
theorem dL_law_318 : decode cL_law 318 = .ok (.iadd, 1) := op_96 (bl_at (d := 288) bl_cL_law_288 30 rfl)
theorem dL_law_319 : decode cL_law 319 = .ok (.iaload, 1) := op_46 (bl_at (d := 288) bl_cL_law_288 31 rfl)
theorem dL_law_320 : decode cL_law 320 = .ok (.aload_n 0, 1) := op_42 (bl_at (d := 320) bl_cL_law_320 0 rfl)
theorem dL_law_321 : decode cL_law 321 = .ok (.iload_n 3, 1) := op_29 (bl_at (d := 320) bl_cL_law_320 1 rfl)
theorem dL_law_322 : decode cL_law 322 = .ok (.iconst 2, 1) := op_5 (bl_at (d := 320) bl_cL_law_320 2 rfl)
theorem dL_law_323 : decode cL_law 323 = .ok (.iadd, 1) := op_96 (bl_at (d := 320) bl_cL_law_320 3 rfl)
theorem dL_law_324 : decode cL_law 324 = .ok (.iaload, 1) := op_46 (bl_at (d := 320) bl_cL_law_320 4 rfl)
theorem dL_law_325 : decode cL_law 325 = .ok (.invokevirtual 39, 3) := op_182 (bl_at (d := 320) bl_cL_law_320 5 rfl) (bl_at (d := 320) bl_cL_law_320 6 rfl) (bl_at (d := 320) bl_cL_law_320 7 rfl)
theorem dL_law_328 : decode cL_law 328 = .ok (.pop, 1) := op_87 (bl_at (d := 320) bl_cL_law_320 8 rfl)
theorem dL_law_329 : decode cL_law 329 = .ok (.goto 578, 3) := op_167 (bl_at (d := 320) bl_cL_law_320 9 rfl) (bl_at (d := 320) bl_cL_law_320 10 rfl) (bl_at (d := 320) bl_cL_law_320 11 rfl)
theorem dL_law_332 : decode cL_law 332 = .ok (.aload_n 1, 1) := op_43 (bl_at (d := 320) bl_cL_law_320 12 rfl)
theorem dL_law_333 : decode cL_law 333 = .ok (.aload_n 0, 1) := op_42 (bl_at (d := 320) bl_cL_law_320 13 rfl)
theorem dL_law_334 : decode cL_law 334 = .ok (.iload_n 3, 1) := op_29 (bl_at (d := 320) bl_cL_law_320 14 rfl)
theorem dL_law_335 : decode cL_law 335 = .ok (.iconst 1, 1) := op_4 (bl_at (d := 320) bl_cL_law_320 15 rfl)
theorem dL_law_336 : decode cL_law 336 = .ok (.iadd, 1) := op_96 (bl_at (d := 320) bl_cL_law_320 16 rfl)
theorem dL_law_337 : decode cL_law 337 = .ok (.iaload, 1) := op_46 (bl_at (d := 320) bl_cL_law_320 17 rfl)
theorem dL_law_338 : decode cL_law 338 = .ok (.invokevirtual 40, 3) := op_182 (bl_at (d := 320) bl_cL_law_320 18 rfl) (bl_at (d := 320) bl_cL_law_320 19 rfl) (bl_at (d := 320) bl_cL_law_320 20 rfl)
theorem dL_law_341 : decode cL_law 341 = .ok (.pop, 1) := op_87 (bl_at (d := 320) bl_cL_law_320 21 rfl)
theorem dL_law_342 : decode cL_law 342 = .ok (.aload_n 2, 1) := op_44 (bl_at (d := 320) bl_cL_law_320 22 rfl)
theorem dL_law_343 : decode cL_law 343 = .ok (.aload_n 0, 1) := op_42 (bl_at (d := 320) bl_cL_law_320 23 rfl)
theorem dL_law_344 : decode cL_law 344 = .ok (.iload_n 3, 1) := op_29 (bl_at (d := 320) bl_cL_law_320 24 rfl)
theorem dL_law_345 : decode cL_law 345 = .ok (.iconst 1, 1) := op_4 (bl_at (d := 320) bl_cL_law_320 25 rfl)
theorem dL_law_346 : decode cL_law 346 = .ok (.iadd, 1) := op_96 (bl_at (d := 320) bl_cL_law_320 26 rfl)
theorem dL_law_347 : decode cL_law 347 = .ok (.iaload, 1) := op_46 (bl_at (d := 320) bl_cL_law_320 27 rfl)
theorem dL_law_348 : decode cL_law 348 = .ok (.invokevirtual 43, 3) := op_182 (bl_at (d := 320) bl_cL_law_320 28 rfl) (bl_at (d := 320) bl_cL_law_320 29 rfl) (bl_at (d := 320) bl_cL_law_320 30 rfl)
theorem dL_law_351 : decode cL_law 351 = .ok (.pop, 1) := op_87 (bl_at (d := 320) bl_cL_law_320 31 rfl)
theorem dL_law_352 : decode cL_law 352 = .ok (.goto 555, 3) := op_167 (bl_at (d := 352) bl_cL_law_352 0 rfl) (bl_at (d := 352) bl_cL_law_352 1 rfl) (bl_at (d := 352) bl_cL_law_352 2 rfl)
theorem dL_law_355 : decode cL_law 355 = .ok (.aload_n 1, 1) := op_43 (bl_at (d := 352) bl_cL_law_352 3 rfl)
theorem dL_law_356 : decode cL_law 356 = .ok (.aload_n 0, 1) := op_42 (bl_at (d := 352) bl_cL_law_352 4 rfl)
theorem dL_law_357 : decode cL_law 357 = .ok (.iload_n 3, 1) := op_29 (bl_at (d := 352) bl_cL_law_352 5 rfl)
theorem dL_law_358 : decode cL_law 358 = .ok (.iconst 1, 1) := op_4 (bl_at (d := 352) bl_cL_law_352 6 rfl)
theorem dL_law_359 : decode cL_law 359 = .ok (.iadd, 1) := op_96 (bl_at (d := 352) bl_cL_law_352 7 rfl)
theorem dL_law_360 : decode cL_law 360 = .ok (.iaload, 1) := op_46 (bl_at (d := 352) bl_cL_law_352 8 rfl)
theorem dL_law_361 : decode cL_law 361 = .ok (.invokevirtual 44, 3) := op_182 (bl_at (d := 352) bl_cL_law_352 9 rfl) (bl_at (d := 352) bl_cL_law_352 10 rfl) (bl_at (d := 352) bl_cL_law_352 11 rfl)
theorem dL_law_364 : decode cL_law 364 = .ok (.pop, 1) := op_87 (bl_at (d := 352) bl_cL_law_352 12 rfl)
theorem dL_law_365 : decode cL_law 365 = .ok (.aload_n 2, 1) := op_44 (bl_at (d := 352) bl_cL_law_352 13 rfl)
theorem dL_law_366 : decode cL_law 366 = .ok (.aload_n 0, 1) := op_42 (bl_at (d := 352) bl_cL_law_352 14 rfl)
theorem dL_law_367 : decode cL_law 367 = .ok (.iload_n 3, 1) := op_29 (bl_at (d := 352) bl_cL_law_352 15 rfl)
theorem dL_law_368 : decode cL_law 368 = .ok (.iconst 1, 1) := op_4 (bl_at (d := 352) bl_cL_law_352 16 rfl)
theorem dL_law_369 : decode cL_law 369 = .ok (.iadd, 1) := op_96 (bl_at (d := 352) bl_cL_law_352 17 rfl)
theorem dL_law_370 : decode cL_law 370 = .ok (.iaload, 1) := op_46 (bl_at (d := 352) bl_cL_law_352 18 rfl)
theorem dL_law_371 : decode cL_law 371 = .ok (.invokevirtual 47, 3) := op_182 (bl_at (d := 352) bl_cL_law_352 19 rfl) (bl_at (d := 352) bl_cL_law_352 20 rfl) (bl_at (d := 352) bl_cL_law_352 21 rfl)
theorem dL_law_374 : decode cL_law 374 = .ok (.pop, 1) := op_87 (bl_at (d := 352) bl_cL_law_352 22 rfl)
theorem dL_law_375 : decode cL_law 375 = .ok (.goto 532, 3) := op_167 (bl_at (d := 352) bl_cL_law_352 23 rfl) (bl_at (d := 352) bl_cL_law_352 24 rfl) (bl_at (d := 352) bl_cL_law_352 25 rfl)
theorem dL_law_378 : decode cL_law 378 = .ok (.aload_n 1, 1) := op_43 (bl_at (d := 352) bl_cL_law_352 26 rfl)
theorem dL_law_379 : decode cL_law 379 = .ok (.aload_n 0, 1) := op_42 (bl_at (d := 352) bl_cL_law_352 27 rfl)
theorem dL_law_380 : decode cL_law 380 = .ok (.iload_n 3, 1) := op_29 (bl_at (d := 352) bl_cL_law_352 28 rfl)
theorem dL_law_381 : decode cL_law 381 = .ok (.iconst 1, 1) := op_4 (bl_at (d := 352) bl_cL_law_352 29 rfl)
theorem dL_law_382 : decode cL_law 382 = .ok (.iadd, 1) := op_96 (bl_at (d := 352) bl_cL_law_352 30 rfl)
theorem dL_law_383 : decode cL_law 383 = .ok (.iaload, 1) := op_46 (bl_at (d := 352) bl_cL_law_352 31 rfl)
theorem dL_law_384 : decode cL_law 384 = .ok (.invokevirtual 48, 3) := op_182 (bl_at (d := 384) bl_cL_law_384 0 rfl) (bl_at (d := 384) bl_cL_law_384 1 rfl) (bl_at (d := 384) bl_cL_law_384 2 rfl)
theorem dL_law_387 : decode cL_law 387 = .ok (.pop, 1) := op_87 (bl_at (d := 384) bl_cL_law_384 3 rfl)
theorem dL_law_388 : decode cL_law 388 = .ok (.aload_n 2, 1) := op_44 (bl_at (d := 384) bl_cL_law_384 4 rfl)
theorem dL_law_389 : decode cL_law 389 = .ok (.aload_n 0, 1) := op_42 (bl_at (d := 384) bl_cL_law_384 5 rfl)
theorem dL_law_390 : decode cL_law 390 = .ok (.iload_n 3, 1) := op_29 (bl_at (d := 384) bl_cL_law_384 6 rfl)
theorem dL_law_391 : decode cL_law 391 = .ok (.iconst 1, 1) := op_4 (bl_at (d := 384) bl_cL_law_384 7 rfl)
theorem dL_law_392 : decode cL_law 392 = .ok (.iadd, 1) := op_96 (bl_at (d := 384) bl_cL_law_384 8 rfl)
theorem dL_law_393 : decode cL_law 393 = .ok (.iaload, 1) := op_46 (bl_at (d := 384) bl_cL_law_384 9 rfl)
theorem dL_law_394 : decode cL_law 394 = .ok (.invokevirtual 51, 3) := op_182 (bl_at (d := 384) bl_cL_law_384 10 rfl) (bl_at (d := 384) bl_cL_law_384 11 rfl) (bl_at (d := 384) bl_cL_law_384 12 rfl)
theorem dL_law_397 : decode cL_law 397 = .ok (.pop, 1) := op_87 (bl_at (d := 384) bl_cL_law_384 13 rfl)
theorem dL_law_398 : decode cL_law 398 = .ok (.goto 509, 3) := op_167 (bl_at (d := 384) bl_cL_law_384 14 rfl) (bl_at (d := 384) bl_cL_law_384 15 rfl) (bl_at (d := 384) bl_cL_law_384 16 rfl)
theorem dL_law_401 : decode cL_law 401 = .ok (.aload_n 1, 1) := op_43 (bl_at (d := 384) bl_cL_law_384 17 rfl)
theorem dL_law_402 : decode cL_law 402 = .ok (.aload_n 0, 1) := op_42 (bl_at (d := 384) bl_cL_law_384 18 rfl)
theorem dL_law_403 : decode cL_law 403 = .ok (.iload_n 3, 1) := op_29 (bl_at (d := 384) bl_cL_law_384 19 rfl)
theorem dL_law_404 : decode cL_law 404 = .ok (.iconst 1, 1) := op_4 (bl_at (d := 384) bl_cL_law_384 20 rfl)
theorem dL_law_405 : decode cL_law 405 = .ok (.iadd, 1) := op_96 (bl_at (d := 384) bl_cL_law_384 21 rfl)
theorem dL_law_406 : decode cL_law 406 = .ok (.iaload, 1) := op_46 (bl_at (d := 384) bl_cL_law_384 22 rfl)
theorem dL_law_407 : decode cL_law 407 = .ok (.aload_n 0, 1) := op_42 (bl_at (d := 384) bl_cL_law_384 23 rfl)
theorem dL_law_408 : decode cL_law 408 = .ok (.iload_n 3, 1) := op_29 (bl_at (d := 384) bl_cL_law_384 24 rfl)
theorem dL_law_409 : decode cL_law 409 = .ok (.iconst 2, 1) := op_5 (bl_at (d := 384) bl_cL_law_384 25 rfl)
theorem dL_law_410 : decode cL_law 410 = .ok (.iadd, 1) := op_96 (bl_at (d := 384) bl_cL_law_384 26 rfl)
theorem dL_law_411 : decode cL_law 411 = .ok (.iaload, 1) := op_46 (bl_at (d := 384) bl_cL_law_384 27 rfl)
theorem dL_law_412 : decode cL_law 412 = .ok (.invokevirtual 52, 3) := op_182 (bl_at (d := 384) bl_cL_law_384 28 rfl) (bl_at (d := 384) bl_cL_law_384 29 rfl) (bl_at (d := 384) bl_cL_law_384 30 rfl)
theorem dL_law_415 : decode cL_law 415 = .ok (.pop, 1) := op_87 (bl_at (d := 384) bl_cL_law_384 31 rfl)
theorem dL_law_416 : decode cL_law 416 = .ok (.aload_n 2, 1) := op_44 (bl_at (d := 416) bl_cL_law_416 0 rfl)
theorem dL_law_417 : decode cL_law 417 = .ok (.aload_n 0, 1) := op_42 (bl_at (d := 416) bl_cL_law_416 1 rfl)
theorem dL_law_418 : decode cL_law 418 = .ok (.iload_n 3, 1) := op_29 (bl_at (d := 416) bl_cL_law_416 2 rfl)
theorem dL_law_419 : decode cL_law 419 = .ok (.iconst 1, 1) := op_4 (bl_at (d := 416) bl_cL_law_416 3 rfl)
theorem dL_law_420 : decode cL_law 420 = .ok (.iadd, 1) := op_96 (bl_at (d := 416) bl_cL_law_416 4 rfl)
theorem dL_law_421 : decode cL_law 421 = .ok (.iaload, 1) := op_46 (bl_at (d := 416) bl_cL_law_416 5 rfl)
theorem dL_law_422 : decode cL_law 422 = .ok (.aload_n 0, 1) := op_42 (bl_at (d := 416) bl_cL_law_416 6 rfl)
theorem dL_law_423 : decode cL_law 423 = .ok (.iload_n 3, 1) := op_29 (bl_at (d := 416) bl_cL_law_416 7 rfl)
theorem dL_law_424 : decode cL_law 424 = .ok (.iconst 2, 1) := op_5 (bl_at (d := 416) bl_cL_law_416 8 rfl)
theorem dL_law_425 : decode cL_law 425 = .ok (.iadd, 1) := op_96 (bl_at (d := 416) bl_cL_law_416 9 rfl)
theorem dL_law_426 : decode cL_law 426 = .ok (.iaload, 1) := op_46 (bl_at (d := 416) bl_cL_law_416 10 rfl)
theorem dL_law_427 : decode cL_law 427 = .ok (.invokevirtual 55, 3) := op_182 (bl_at (d := 416) bl_cL_law_416 11 rfl) (bl_at (d := 416) bl_cL_law_416 12 rfl) (bl_at (d := 416) bl_cL_law_416 13 rfl)
theorem dL_law_430 : decode cL_law 430 = .ok (.pop, 1) := op_87 (bl_at (d := 416) bl_cL_law_416 14 rfl)
theorem dL_law_431 : decode cL_law 431 = .ok (.goto 476, 3) := op_167 (bl_at (d := 416) bl_cL_law_416 15 rfl) (bl_at (d := 416) bl_cL_law_416 16 rfl) (bl_at (d := 416) bl_cL_law_416 17 rfl)
theorem dL_law_434 : decode cL_law 434 = .ok (.aload_n 1, 1) := op_43 (bl_at (d := 416) bl_cL_law_416 18 rfl)
theorem dL_law_435 : decode cL_law 435 = .ok (.aload_n 0, 1) := op_42 (bl_at (d := 416) bl_cL_law_416 19 rfl)
theorem dL_law_436 : decode cL_law 436 = .ok (.iload_n 3, 1) := op_29 (bl_at (d := 416) bl_cL_law_416 20 rfl)
theorem dL_law_437 : decode cL_law 437 = .ok (.iconst 1, 1) := op_4 (bl_at (d := 416) bl_cL_law_416 21 rfl)
theorem dL_law_438 : decode cL_law 438 = .ok (.iadd, 1) := op_96 (bl_at (d := 416) bl_cL_law_416 22 rfl)
theorem dL_law_439 : decode cL_law 439 = .ok (.iaload, 1) := op_46 (bl_at (d := 416) bl_cL_law_416 23 rfl)
theorem dL_law_440 : decode cL_law 440 = .ok (.invokevirtual 56, 3) := op_182 (bl_at (d := 416) bl_cL_law_416 24 rfl) (bl_at (d := 416) bl_cL_law_416 25 rfl) (bl_at (d := 416) bl_cL_law_416 26 rfl)
theorem dL_law_443 : decode cL_law 443 = .ok (.pop, 1) := op_87 (bl_at (d := 416) bl_cL_law_416 27 rfl)
theorem dL_law_444 : decode cL_law 444 = .ok (.aload_n 2, 1) := op_44 (bl_at (d := 416) bl_cL_law_416 28 rfl)
theorem dL_law_445 : decode cL_law 445 = .ok (.aload_n 0, 1) := op_42 (bl_at (d := 416) bl_cL_law_416 29 rfl)
theorem dL_law_446 : decode cL_law 446 = .ok (.iload_n 3, 1) := op_29 (bl_at (d := 416) bl_cL_law_416 30 rfl)
theorem dL_law_447 : decode cL_law 447 = .ok (.iconst 1, 1) := op_4 (bl_at (d := 416) bl_cL_law_416 31 rfl)
theorem dL_law_448 : decode cL_law 448 = .ok (.iadd, 1) := op_96 (bl_at (d := 448) bl_cL_law_448 0 rfl)
theorem dL_law_449 : decode cL_law 449 = .ok (.iaload, 1) := op_46 (bl_at (d := 448) bl_cL_law_448 1 rfl)
theorem dL_law_450 : decode cL_law 450 = .ok (.invokevirtual 59, 3) := op_182 (bl_at (d := 448) bl_cL_law_448 2 rfl) (bl_at (d := 448) bl_cL_law_448 3 rfl) (bl_at (d := 448) bl_cL_law_448 4 rfl)
theorem dL_law_453 : decode cL_law 453 = .ok (.pop, 1) := op_87 (bl_at (d := 448) bl_cL_law_448 5 rfl)
theorem dL_law_454 : decode cL_law 454 = .ok (.goto 453, 3) := op_167 (bl_at (d := 448) bl_cL_law_448 6 rfl) (bl_at (d := 448) bl_cL_law_448 7 rfl) (bl_at (d := 448) bl_cL_law_448 8 rfl)
theorem dL_law_457 : decode cL_law 457 = .ok (.aload_n 1, 1) := op_43 (bl_at (d := 448) bl_cL_law_448 9 rfl)
theorem dL_law_458 : decode cL_law 458 = .ok (.aload_n 0, 1) := op_42 (bl_at (d := 448) bl_cL_law_448 10 rfl)
theorem dL_law_459 : decode cL_law 459 = .ok (.iload_n 3, 1) := op_29 (bl_at (d := 448) bl_cL_law_448 11 rfl)
theorem dL_law_460 : decode cL_law 460 = .ok (.iconst 1, 1) := op_4 (bl_at (d := 448) bl_cL_law_448 12 rfl)
theorem dL_law_461 : decode cL_law 461 = .ok (.iadd, 1) := op_96 (bl_at (d := 448) bl_cL_law_448 13 rfl)
theorem dL_law_462 : decode cL_law 462 = .ok (.iaload, 1) := op_46 (bl_at (d := 448) bl_cL_law_448 14 rfl)
theorem dL_law_463 : decode cL_law 463 = .ok (.invokevirtual 60, 3) := op_182 (bl_at (d := 448) bl_cL_law_448 15 rfl) (bl_at (d := 448) bl_cL_law_448 16 rfl) (bl_at (d := 448) bl_cL_law_448 17 rfl)
theorem dL_law_466 : decode cL_law 466 = .ok (.pop, 1) := op_87 (bl_at (d := 448) bl_cL_law_448 18 rfl)
theorem dL_law_467 : decode cL_law 467 = .ok (.aload_n 2, 1) := op_44 (bl_at (d := 448) bl_cL_law_448 19 rfl)
theorem dL_law_468 : decode cL_law 468 = .ok (.aload_n 0, 1) := op_42 (bl_at (d := 448) bl_cL_law_448 20 rfl)
theorem dL_law_469 : decode cL_law 469 = .ok (.iload_n 3, 1) := op_29 (bl_at (d := 448) bl_cL_law_448 21 rfl)
theorem dL_law_470 : decode cL_law 470 = .ok (.iconst 1, 1) := op_4 (bl_at (d := 448) bl_cL_law_448 22 rfl)
theorem dL_law_471 : decode cL_law 471 = .ok (.iadd, 1) := op_96 (bl_at (d := 448) bl_cL_law_448 23 rfl)
theorem dL_law_472 : decode cL_law 472 = .ok (.iaload, 1) := op_46 (bl_at (d := 448) bl_cL_law_448 24 rfl)
theorem dL_law_473 : decode cL_law 473 = .ok (.invokevirtual 63, 3) := op_182 (bl_at (d := 448) bl_cL_law_448 25 rfl) (bl_at (d := 448) bl_cL_law_448 26 rfl) (bl_at (d := 448) bl_cL_law_448 27 rfl)
theorem dL_law_476 : decode cL_law 476 = .ok (.pop, 1) := op_87 (bl_at (d := 448) bl_cL_law_448 28 rfl)
theorem dL_law_477 : decode cL_law 477 = .ok (.goto 430, 3) := op_167 (bl_at (d := 448) bl_cL_law_448 29 rfl) (bl_at (d := 448) bl_cL_law_448 30 rfl) (bl_at (d := 448) bl_cL_law_448 31 rfl)
theorem dL_law_480 : decode cL_law 480 = .ok (.aload_n 1, 1) := op_43 (bl_at (d := 480) bl_cL_law_480 0 rfl)
theorem dL_law_481 : decode cL_law 481 = .ok (.aload_n 0, 1) := op_42 (bl_at (d := 480) bl_cL_law_480 1 rfl)
theorem dL_law_482 : decode cL_law 482 = .ok (.iload_n 3, 1) := op_29 (bl_at (d := 480) bl_cL_law_480 2 rfl)
theorem dL_law_483 : decode cL_law 483 = .ok (.iconst 1, 1) := op_4 (bl_at (d := 480) bl_cL_law_480 3 rfl)
theorem dL_law_484 : decode cL_law 484 = .ok (.iadd, 1) := op_96 (bl_at (d := 480) bl_cL_law_480 4 rfl)

end

section
/-! 93.lawdec2 -/
theorem dL_law_485 : decode cL_law 485 = .ok (.iaload, 1) := op_46 (bl_at (d := 480) bl_cL_law_480 5 rfl)
theorem dL_law_486 : decode cL_law 486 = .ok (.invokevirtual 64, 3) := op_182 (bl_at (d := 480) bl_cL_law_480 6 rfl) (bl_at (d := 480) bl_cL_law_480 7 rfl) (bl_at (d := 480) bl_cL_law_480 8 rfl)
theorem dL_law_489 : decode cL_law 489 = .ok (.pop, 1) := op_87 (bl_at (d := 480) bl_cL_law_480 9 rfl)
theorem dL_law_490 : decode cL_law 490 = .ok (.aload_n 2, 1) := op_44 (bl_at (d := 480) bl_cL_law_480 10 rfl)
theorem dL_law_491 : decode cL_law 491 = .ok (.aload_n 0, 1) := op_42 (bl_at (d := 480) bl_cL_law_480 11 rfl)
theorem dL_law_492 : decode cL_law 492 = .ok (.iload_n 3, 1) := op_29 (bl_at (d := 480) bl_cL_law_480 12 rfl)
theorem dL_law_493 : decode cL_law 493 = .ok (.iconst 1, 1) := op_4 (bl_at (d := 480) bl_cL_law_480 13 rfl)
theorem dL_law_494 : decode cL_law 494 = .ok (.iadd, 1) := op_96 (bl_at (d := 480) bl_cL_law_480 14 rfl)
theorem dL_law_495 : decode cL_law 495 = .ok (.iaload, 1) := op_46 (bl_at (d := 480) bl_cL_law_480 15 rfl)
theorem dL_law_496 : decode cL_law 496 = .ok (.invokevirtual 67, 3) := op_182 (bl_at (d := 480) bl_cL_law_480 16 rfl) (bl_at (d := 480) bl_cL_law_480 17 rfl) (bl_at (d := 480) bl_cL_law_480 18 rfl)
theorem dL_law_499 : decode cL_law 499 = .ok (.pop, 1) := op_87 (bl_at (d := 480) bl_cL_law_480 19 rfl)
theorem dL_law_500 : decode cL_law 500 = .ok (.goto 407, 3) := op_167 (bl_at (d := 480) bl_cL_law_480 20 rfl) (bl_at (d := 480) bl_cL_law_480 21 rfl) (bl_at (d := 480) bl_cL_law_480 22 rfl)
theorem dL_law_503 : decode cL_law 503 = .ok (.aload_n 1, 1) := op_43 (bl_at (d := 480) bl_cL_law_480 23 rfl)
theorem dL_law_504 : decode cL_law 504 = .ok (.aload_n 0, 1) := op_42 (bl_at (d := 480) bl_cL_law_480 24 rfl)
theorem dL_law_505 : decode cL_law 505 = .ok (.iload_n 3, 1) := op_29 (bl_at (d := 480) bl_cL_law_480 25 rfl)
theorem dL_law_506 : decode cL_law 506 = .ok (.iconst 1, 1) := op_4 (bl_at (d := 480) bl_cL_law_480 26 rfl)
theorem dL_law_507 : decode cL_law 507 = .ok (.iadd, 1) := op_96 (bl_at (d := 480) bl_cL_law_480 27 rfl)
theorem dL_law_508 : decode cL_law 508 = .ok (.iaload, 1) := op_46 (bl_at (d := 480) bl_cL_law_480 28 rfl)
theorem dL_law_509 : decode cL_law 509 = .ok (.invokevirtual 68, 3) := op_182 (bl_at (d := 480) bl_cL_law_480 29 rfl) (bl_at (d := 480) bl_cL_law_480 30 rfl) (bl_at (d := 480) bl_cL_law_480 31 rfl)
theorem dL_law_512 : decode cL_law 512 = .ok (.pop, 1) := op_87 (bl_at (d := 512) bl_cL_law_512 0 rfl)
theorem dL_law_513 : decode cL_law 513 = .ok (.aload_n 2, 1) := op_44 (bl_at (d := 512) bl_cL_law_512 1 rfl)
theorem dL_law_514 : decode cL_law 514 = .ok (.aload_n 0, 1) := op_42 (bl_at (d := 512) bl_cL_law_512 2 rfl)
theorem dL_law_515 : decode cL_law 515 = .ok (.iload_n 3, 1) := op_29 (bl_at (d := 512) bl_cL_law_512 3 rfl)
theorem dL_law_516 : decode cL_law 516 = .ok (.iconst 1, 1) := op_4 (bl_at (d := 512) bl_cL_law_512 4 rfl)
theorem dL_law_517 : decode cL_law 517 = .ok (.iadd, 1) := op_96 (bl_at (d := 512) bl_cL_law_512 5 rfl)
theorem dL_law_518 : decode cL_law 518 = .ok (.iaload, 1) := op_46 (bl_at (d := 512) bl_cL_law_512 6 rfl)
theorem dL_law_519 : decode cL_law 519 = .ok (.invokevirtual 71, 3) := op_182 (bl_at (d := 512) bl_cL_law_512 7 rfl) (bl_at (d := 512) bl_cL_law_512 8 rfl) (bl_at (d := 512) bl_cL_law_512 9 rfl)
theorem dL_law_522 : decode cL_law 522 = .ok (.pop, 1) := op_87 (bl_at (d := 512) bl_cL_law_512 10 rfl)
theorem dL_law_523 : decode cL_law 523 = .ok (.goto 384, 3) := op_167 (bl_at (d := 512) bl_cL_law_512 11 rfl) (bl_at (d := 512) bl_cL_law_512 12 rfl) (bl_at (d := 512) bl_cL_law_512 13 rfl)
theorem dL_law_526 : decode cL_law 526 = .ok (.aload_n 1, 1) := op_43 (bl_at (d := 512) bl_cL_law_512 14 rfl)
theorem dL_law_527 : decode cL_law 527 = .ok (.invokevirtual 72, 3) := op_182 (bl_at (d := 512) bl_cL_law_512 15 rfl) (bl_at (d := 512) bl_cL_law_512 16 rfl) (bl_at (d := 512) bl_cL_law_512 17 rfl)
theorem dL_law_530 : decode cL_law 530 = .ok (.pop, 1) := op_87 (bl_at (d := 512) bl_cL_law_512 18 rfl)
theorem dL_law_531 : decode cL_law 531 = .ok (.aload_n 2, 1) := op_44 (bl_at (d := 512) bl_cL_law_512 19 rfl)
theorem dL_law_532 : decode cL_law 532 = .ok (.invokevirtual 75, 3) := op_182 (bl_at (d := 512) bl_cL_law_512 20 rfl) (bl_at (d := 512) bl_cL_law_512 21 rfl) (bl_at (d := 512) bl_cL_law_512 22 rfl)
theorem dL_law_535 : decode cL_law 535 = .ok (.pop, 1) := op_87 (bl_at (d := 512) bl_cL_law_512 23 rfl)
theorem dL_law_536 : decode cL_law 536 = .ok (.goto 371, 3) := op_167 (bl_at (d := 512) bl_cL_law_512 24 rfl) (bl_at (d := 512) bl_cL_law_512 25 rfl) (bl_at (d := 512) bl_cL_law_512 26 rfl)
theorem dL_law_539 : decode cL_law 539 = .ok (.aload_n 1, 1) := op_43 (bl_at (d := 512) bl_cL_law_512 27 rfl)
theorem dL_law_540 : decode cL_law 540 = .ok (.aload_n 0, 1) := op_42 (bl_at (d := 512) bl_cL_law_512 28 rfl)
theorem dL_law_541 : decode cL_law 541 = .ok (.iload_n 3, 1) := op_29 (bl_at (d := 512) bl_cL_law_512 29 rfl)
theorem dL_law_542 : decode cL_law 542 = .ok (.iconst 1, 1) := op_4 (bl_at (d := 512) bl_cL_law_512 30 rfl)
theorem dL_law_543 : decode cL_law 543 = .ok (.iadd, 1) := op_96 (bl_at (d := 512) bl_cL_law_512 31 rfl)
theorem dL_law_544 : decode cL_law 544 = .ok (.iaload, 1) := op_46 (bl_at (d := 544) bl_cL_law_544 0 rfl)
theorem dL_law_545 : decode cL_law 545 = .ok (.invokevirtual 76, 3) := op_182 (bl_at (d := 544) bl_cL_law_544 1 rfl) (bl_at (d := 544) bl_cL_law_544 2 rfl) (bl_at (d := 544) bl_cL_law_544 3 rfl)
theorem dL_law_548 : decode cL_law 548 = .ok (.pop, 1) := op_87 (bl_at (d := 544) bl_cL_law_544 4 rfl)
theorem dL_law_549 : decode cL_law 549 = .ok (.aload_n 2, 1) := op_44 (bl_at (d := 544) bl_cL_law_544 5 rfl)
theorem dL_law_550 : decode cL_law 550 = .ok (.aload_n 0, 1) := op_42 (bl_at (d := 544) bl_cL_law_544 6 rfl)
theorem dL_law_551 : decode cL_law 551 = .ok (.iload_n 3, 1) := op_29 (bl_at (d := 544) bl_cL_law_544 7 rfl)
theorem dL_law_552 : decode cL_law 552 = .ok (.iconst 1, 1) := op_4 (bl_at (d := 544) bl_cL_law_544 8 rfl)
theorem dL_law_553 : decode cL_law 553 = .ok (.iadd, 1) := op_96 (bl_at (d := 544) bl_cL_law_544 9 rfl)
theorem dL_law_554 : decode cL_law 554 = .ok (.iaload, 1) := op_46 (bl_at (d := 544) bl_cL_law_544 10 rfl)
theorem dL_law_555 : decode cL_law 555 = .ok (.invokevirtual 79, 3) := op_182 (bl_at (d := 544) bl_cL_law_544 11 rfl) (bl_at (d := 544) bl_cL_law_544 12 rfl) (bl_at (d := 544) bl_cL_law_544 13 rfl)
theorem dL_law_558 : decode cL_law 558 = .ok (.pop, 1) := op_87 (bl_at (d := 544) bl_cL_law_544 14 rfl)
theorem dL_law_559 : decode cL_law 559 = .ok (.goto 348, 3) := op_167 (bl_at (d := 544) bl_cL_law_544 15 rfl) (bl_at (d := 544) bl_cL_law_544 16 rfl) (bl_at (d := 544) bl_cL_law_544 17 rfl)
theorem dL_law_562 : decode cL_law 562 = .ok (.aload_n 1, 1) := op_43 (bl_at (d := 544) bl_cL_law_544 18 rfl)
theorem dL_law_563 : decode cL_law 563 = .ok (.aload_n 0, 1) := op_42 (bl_at (d := 544) bl_cL_law_544 19 rfl)
theorem dL_law_564 : decode cL_law 564 = .ok (.iload_n 3, 1) := op_29 (bl_at (d := 544) bl_cL_law_544 20 rfl)
theorem dL_law_565 : decode cL_law 565 = .ok (.iconst 1, 1) := op_4 (bl_at (d := 544) bl_cL_law_544 21 rfl)
theorem dL_law_566 : decode cL_law 566 = .ok (.iadd, 1) := op_96 (bl_at (d := 544) bl_cL_law_544 22 rfl)
theorem dL_law_567 : decode cL_law 567 = .ok (.iaload, 1) := op_46 (bl_at (d := 544) bl_cL_law_544 23 rfl)
theorem dL_law_568 : decode cL_law 568 = .ok (.aload_n 0, 1) := op_42 (bl_at (d := 544) bl_cL_law_544 24 rfl)
theorem dL_law_569 : decode cL_law 569 = .ok (.iload_n 3, 1) := op_29 (bl_at (d := 544) bl_cL_law_544 25 rfl)
theorem dL_law_570 : decode cL_law 570 = .ok (.iconst 2, 1) := op_5 (bl_at (d := 544) bl_cL_law_544 26 rfl)
theorem dL_law_571 : decode cL_law 571 = .ok (.iadd, 1) := op_96 (bl_at (d := 544) bl_cL_law_544 27 rfl)
theorem dL_law_572 : decode cL_law 572 = .ok (.iaload, 1) := op_46 (bl_at (d := 544) bl_cL_law_544 28 rfl)
theorem dL_law_573 : decode cL_law 573 = .ok (.aload_n 0, 1) := op_42 (bl_at (d := 544) bl_cL_law_544 29 rfl)
theorem dL_law_574 : decode cL_law 574 = .ok (.iload_n 3, 1) := op_29 (bl_at (d := 544) bl_cL_law_544 30 rfl)
theorem dL_law_575 : decode cL_law 575 = .ok (.iconst 3, 1) := op_6 (bl_at (d := 544) bl_cL_law_544 31 rfl)
theorem dL_law_576 : decode cL_law 576 = .ok (.iadd, 1) := op_96 (bl_at (d := 576) bl_cL_law_576 0 rfl)
theorem dL_law_577 : decode cL_law 577 = .ok (.iaload, 1) := op_46 (bl_at (d := 576) bl_cL_law_576 1 rfl)
theorem dL_law_578 : decode cL_law 578 = .ok (.aload_n 0, 1) := op_42 (bl_at (d := 576) bl_cL_law_576 2 rfl)
theorem dL_law_579 : decode cL_law 579 = .ok (.iload_n 3, 1) := op_29 (bl_at (d := 576) bl_cL_law_576 3 rfl)
theorem dL_law_580 : decode cL_law 580 = .ok (.iconst 4, 1) := op_7 (bl_at (d := 576) bl_cL_law_576 4 rfl)
theorem dL_law_581 : decode cL_law 581 = .ok (.iadd, 1) := op_96 (bl_at (d := 576) bl_cL_law_576 5 rfl)
theorem dL_law_582 : decode cL_law 582 = .ok (.iaload, 1) := op_46 (bl_at (d := 576) bl_cL_law_576 6 rfl)
theorem dL_law_583 : decode cL_law 583 = .ok (.ifCond .eq 7, 3) := op_153 (bl_at (d := 576) bl_cL_law_576 7 rfl) (bl_at (d := 576) bl_cL_law_576 8 rfl) (bl_at (d := 576) bl_cL_law_576 9 rfl)
theorem dL_law_586 : decode cL_law 586 = .ok (.iconst 1, 1) := op_4 (bl_at (d := 576) bl_cL_law_576 10 rfl)
theorem dL_law_587 : decode cL_law 587 = .ok (.goto 4, 3) := op_167 (bl_at (d := 576) bl_cL_law_576 11 rfl) (bl_at (d := 576) bl_cL_law_576 12 rfl) (bl_at (d := 576) bl_cL_law_576 13 rfl)
theorem dL_law_590 : decode cL_law 590 = .ok (.iconst 0, 1) := op_3 (bl_at (d := 576) bl_cL_law_576 14 rfl)
theorem dL_law_591 : decode cL_law 591 = .ok (.invokevirtual 80, 3) := op_182 (bl_at (d := 576) bl_cL_law_576 15 rfl) (bl_at (d := 576) bl_cL_law_576 16 rfl) (bl_at (d := 576) bl_cL_law_576 17 rfl)
theorem dL_law_594 : decode cL_law 594 = .ok (.pop, 1) := op_87 (bl_at (d := 576) bl_cL_law_576 18 rfl)
theorem dL_law_595 : decode cL_law 595 = .ok (.aload_n 2, 1) := op_44 (bl_at (d := 576) bl_cL_law_576 19 rfl)
theorem dL_law_596 : decode cL_law 596 = .ok (.aload_n 0, 1) := op_42 (bl_at (d := 576) bl_cL_law_576 20 rfl)
theorem dL_law_597 : decode cL_law 597 = .ok (.iload_n 3, 1) := op_29 (bl_at (d := 576) bl_cL_law_576 21 rfl)
theorem dL_law_598 : decode cL_law 598 = .ok (.iconst 1, 1) := op_4 (bl_at (d := 576) bl_cL_law_576 22 rfl)
theorem dL_law_599 : decode cL_law 599 = .ok (.iadd, 1) := op_96 (bl_at (d := 576) bl_cL_law_576 23 rfl)
theorem dL_law_600 : decode cL_law 600 = .ok (.iaload, 1) := op_46 (bl_at (d := 576) bl_cL_law_576 24 rfl)
theorem dL_law_601 : decode cL_law 601 = .ok (.aload_n 0, 1) := op_42 (bl_at (d := 576) bl_cL_law_576 25 rfl)
theorem dL_law_602 : decode cL_law 602 = .ok (.iload_n 3, 1) := op_29 (bl_at (d := 576) bl_cL_law_576 26 rfl)
theorem dL_law_603 : decode cL_law 603 = .ok (.iconst 2, 1) := op_5 (bl_at (d := 576) bl_cL_law_576 27 rfl)
theorem dL_law_604 : decode cL_law 604 = .ok (.iadd, 1) := op_96 (bl_at (d := 576) bl_cL_law_576 28 rfl)
theorem dL_law_605 : decode cL_law 605 = .ok (.iaload, 1) := op_46 (bl_at (d := 576) bl_cL_law_576 29 rfl)
theorem dL_law_606 : decode cL_law 606 = .ok (.aload_n 0, 1) := op_42 (bl_at (d := 576) bl_cL_law_576 30 rfl)
theorem dL_law_607 : decode cL_law 607 = .ok (.iload_n 3, 1) := op_29 (bl_at (d := 576) bl_cL_law_576 31 rfl)
theorem dL_law_608 : decode cL_law 608 = .ok (.iconst 3, 1) := op_6 (bl_at (d := 608) bl_cL_law_608 0 rfl)
theorem dL_law_609 : decode cL_law 609 = .ok (.iadd, 1) := op_96 (bl_at (d := 608) bl_cL_law_608 1 rfl)
theorem dL_law_610 : decode cL_law 610 = .ok (.iaload, 1) := op_46 (bl_at (d := 608) bl_cL_law_608 2 rfl)
theorem dL_law_611 : decode cL_law 611 = .ok (.aload_n 0, 1) := op_42 (bl_at (d := 608) bl_cL_law_608 3 rfl)
theorem dL_law_612 : decode cL_law 612 = .ok (.iload_n 3, 1) := op_29 (bl_at (d := 608) bl_cL_law_608 4 rfl)
theorem dL_law_613 : decode cL_law 613 = .ok (.iconst 4, 1) := op_7 (bl_at (d := 608) bl_cL_law_608 5 rfl)
theorem dL_law_614 : decode cL_law 614 = .ok (.iadd, 1) := op_96 (bl_at (d := 608) bl_cL_law_608 6 rfl)
theorem dL_law_615 : decode cL_law 615 = .ok (.iaload, 1) := op_46 (bl_at (d := 608) bl_cL_law_608 7 rfl)
theorem dL_law_616 : decode cL_law 616 = .ok (.ifCond .eq 7, 3) := op_153 (bl_at (d := 608) bl_cL_law_608 8 rfl) (bl_at (d := 608) bl_cL_law_608 9 rfl) (bl_at (d := 608) bl_cL_law_608 10 rfl)
theorem dL_law_619 : decode cL_law 619 = .ok (.iconst 1, 1) := op_4 (bl_at (d := 608) bl_cL_law_608 11 rfl)
theorem dL_law_620 : decode cL_law 620 = .ok (.goto 4, 3) := op_167 (bl_at (d := 608) bl_cL_law_608 12 rfl) (bl_at (d := 608) bl_cL_law_608 13 rfl) (bl_at (d := 608) bl_cL_law_608 14 rfl)
theorem dL_law_623 : decode cL_law 623 = .ok (.iconst 0, 1) := op_3 (bl_at (d := 608) bl_cL_law_608 15 rfl)
theorem dL_law_624 : decode cL_law 624 = .ok (.invokevirtual 84, 3) := op_182 (bl_at (d := 608) bl_cL_law_608 16 rfl) (bl_at (d := 608) bl_cL_law_608 17 rfl) (bl_at (d := 608) bl_cL_law_608 18 rfl)
theorem dL_law_627 : decode cL_law 627 = .ok (.pop, 1) := op_87 (bl_at (d := 608) bl_cL_law_608 19 rfl)
theorem dL_law_628 : decode cL_law 628 = .ok (.goto 279, 3) := op_167 (bl_at (d := 608) bl_cL_law_608 20 rfl) (bl_at (d := 608) bl_cL_law_608 21 rfl) (bl_at (d := 608) bl_cL_law_608 22 rfl)
theorem dL_law_631 : decode cL_law 631 = .ok (.aload_n 1, 1) := op_43 (bl_at (d := 608) bl_cL_law_608 23 rfl)
theorem dL_law_632 : decode cL_law 632 = .ok (.invokevirtual 85, 3) := op_182 (bl_at (d := 608) bl_cL_law_608 24 rfl) (bl_at (d := 608) bl_cL_law_608 25 rfl) (bl_at (d := 608) bl_cL_law_608 26 rfl)
theorem dL_law_635 : decode cL_law 635 = .ok (.pop, 1) := op_87 (bl_at (d := 608) bl_cL_law_608 27 rfl)
theorem dL_law_636 : decode cL_law 636 = .ok (.aload_n 2, 1) := op_44 (bl_at (d := 608) bl_cL_law_608 28 rfl)
theorem dL_law_637 : decode cL_law 637 = .ok (.invokevirtual 88, 3) := op_182 (bl_at (d := 608) bl_cL_law_608 29 rfl) (bl_at (d := 608) bl_cL_law_608 30 rfl) (bl_at (d := 608) bl_cL_law_608 31 rfl)
theorem dL_law_640 : decode cL_law 640 = .ok (.pop, 1) := op_87 (bl_at (d := 640) bl_cL_law_640 0 rfl)
theorem dL_law_641 : decode cL_law 641 = .ok (.goto 266, 3) := op_167 (bl_at (d := 640) bl_cL_law_640 1 rfl) (bl_at (d := 640) bl_cL_law_640 2 rfl) (bl_at (d := 640) bl_cL_law_640 3 rfl)
theorem dL_law_644 : decode cL_law 644 = .ok (.aload_n 1, 1) := op_43 (bl_at (d := 640) bl_cL_law_640 4 rfl)
theorem dL_law_645 : decode cL_law 645 = .ok (.aload_n 0, 1) := op_42 (bl_at (d := 640) bl_cL_law_640 5 rfl)
theorem dL_law_646 : decode cL_law 646 = .ok (.iload_n 3, 1) := op_29 (bl_at (d := 640) bl_cL_law_640 6 rfl)
theorem dL_law_647 : decode cL_law 647 = .ok (.iconst 1, 1) := op_4 (bl_at (d := 640) bl_cL_law_640 7 rfl)
theorem dL_law_648 : decode cL_law 648 = .ok (.iadd, 1) := op_96 (bl_at (d := 640) bl_cL_law_640 8 rfl)
theorem dL_law_649 : decode cL_law 649 = .ok (.iaload, 1) := op_46 (bl_at (d := 640) bl_cL_law_640 9 rfl)
theorem dL_law_650 : decode cL_law 650 = .ok (.aload_n 0, 1) := op_42 (bl_at (d := 640) bl_cL_law_640 10 rfl)
theorem dL_law_651 : decode cL_law 651 = .ok (.iload_n 3, 1) := op_29 (bl_at (d := 640) bl_cL_law_640 11 rfl)
theorem dL_law_652 : decode cL_law 652 = .ok (.iconst 2, 1) := op_5 (bl_at (d := 640) bl_cL_law_640 12 rfl)
theorem dL_law_653 : decode cL_law 653 = .ok (.iadd, 1) := op_96 (bl_at (d := 640) bl_cL_law_640 13 rfl)
theorem dL_law_654 : decode cL_law 654 = .ok (.iaload, 1) := op_46 (bl_at (d := 640) bl_cL_law_640 14 rfl)
theorem dL_law_655 : decode cL_law 655 = .ok (.aload_n 0, 1) := op_42 (bl_at (d := 640) bl_cL_law_640 15 rfl)
theorem dL_law_656 : decode cL_law 656 = .ok (.iload_n 3, 1) := op_29 (bl_at (d := 640) bl_cL_law_640 16 rfl)
theorem dL_law_657 : decode cL_law 657 = .ok (.iconst 3, 1) := op_6 (bl_at (d := 640) bl_cL_law_640 17 rfl)
theorem dL_law_658 : decode cL_law 658 = .ok (.iadd, 1) := op_96 (bl_at (d := 640) bl_cL_law_640 18 rfl)
theorem dL_law_659 : decode cL_law 659 = .ok (.iaload, 1) := op_46 (bl_at (d := 640) bl_cL_law_640 19 rfl)
theorem dL_law_660 : decode cL_law 660 = .ok (.invokevirtual 89, 3) := op_182 (bl_at (d := 640) bl_cL_law_640 20 rfl) (bl_at (d := 640) bl_cL_law_640 21 rfl) (bl_at (d := 640) bl_cL_law_640 22 rfl)
theorem dL_law_663 : decode cL_law 663 = .ok (.pop, 1) := op_87 (bl_at (d := 640) bl_cL_law_640 23 rfl)
theorem dL_law_664 : decode cL_law 664 = .ok (.aload_n 2, 1) := op_44 (bl_at (d := 640) bl_cL_law_640 24 rfl)
theorem dL_law_665 : decode cL_law 665 = .ok (.aload_n 0, 1) := op_42 (bl_at (d := 640) bl_cL_law_640 25 rfl)
theorem dL_law_666 : decode cL_law 666 = .ok (.iload_n 3, 1) := op_29 (bl_at (d := 640) bl_cL_law_640 26 rfl)
theorem dL_law_667 : decode cL_law 667 = .ok (.iconst 1, 1) := op_4 (bl_at (d := 640) bl_cL_law_640 27 rfl)
theorem dL_law_668 : decode cL_law 668 = .ok (.iadd, 1) := op_96 (bl_at (d := 640) bl_cL_law_640 28 rfl)
theorem dL_law_669 : decode cL_law 669 = .ok (.iaload, 1) := op_46 (bl_at (d := 640) bl_cL_law_640 29 rfl)
theorem dL_law_670 : decode cL_law 670 = .ok (.aload_n 0, 1) := op_42 (bl_at (d := 640) bl_cL_law_640 30 rfl)
theorem dL_law_671 : decode cL_law 671 = .ok (.iload_n 3, 1) := op_29 (bl_at (d := 640) bl_cL_law_640 31 rfl)
theorem dL_law_672 : decode cL_law 672 = .ok (.iconst 2, 1) := op_5 (bl_at (d := 672) bl_cL_law_672 0 rfl)
theorem dL_law_673 : decode cL_law 673 = .ok (.iadd, 1) := op_96 (bl_at (d := 672) bl_cL_law_672 1 rfl)
theorem dL_law_674 : decode cL_law 674 = .ok (.iaload, 1) := op_46 (bl_at (d := 672) bl_cL_law_672 2 rfl)
theorem dL_law_675 : decode cL_law 675 = .ok (.aload_n 0, 1) := op_42 (bl_at (d := 672) bl_cL_law_672 3 rfl)
theorem dL_law_676 : decode cL_law 676 = .ok (.iload_n 3, 1) := op_29 (bl_at (d := 672) bl_cL_law_672 4 rfl)
theorem dL_law_677 : decode cL_law 677 = .ok (.iconst 3, 1) := op_6 (bl_at (d := 672) bl_cL_law_672 5 rfl)
theorem dL_law_678 : decode cL_law 678 = .ok (.iadd, 1) := op_96 (bl_at (d := 672) bl_cL_law_672 6 rfl)
theorem dL_law_679 : decode cL_law 679 = .ok (.iaload, 1) := op_46 (bl_at (d := 672) bl_cL_law_672 7 rfl)
theorem dL_law_680 : decode cL_law 680 = .ok (.invokevirtual 93, 3) := op_182 (bl_at (d := 672) bl_cL_law_672 8 rfl) (bl_at (d := 672) bl_cL_law_672 9 rfl) (bl_at (d := 672) bl_cL_law_672 10 rfl)

end

section
/-! 93.lawdec3 -/
theorem dL_law_683 : decode cL_law 683 = .ok (.pop, 1) := op_87 (bl_at (d := 672) bl_cL_law_672 11 rfl)
theorem dL_law_684 : decode cL_law 684 = .ok (.goto 223, 3) := op_167 (bl_at (d := 672) bl_cL_law_672 12 rfl) (bl_at (d := 672) bl_cL_law_672 13 rfl) (bl_at (d := 672) bl_cL_law_672 14 rfl)
theorem dL_law_687 : decode cL_law 687 = .ok (.aload_n 1, 1) := op_43 (bl_at (d := 672) bl_cL_law_672 15 rfl)
theorem dL_law_688 : decode cL_law 688 = .ok (.invokevirtual 94, 3) := op_182 (bl_at (d := 672) bl_cL_law_672 16 rfl) (bl_at (d := 672) bl_cL_law_672 17 rfl) (bl_at (d := 672) bl_cL_law_672 18 rfl)
theorem dL_law_691 : decode cL_law 691 = .ok (.pop, 1) := op_87 (bl_at (d := 672) bl_cL_law_672 19 rfl)
theorem dL_law_692 : decode cL_law 692 = .ok (.aload_n 2, 1) := op_44 (bl_at (d := 672) bl_cL_law_672 20 rfl)
theorem dL_law_693 : decode cL_law 693 = .ok (.invokevirtual 97, 3) := op_182 (bl_at (d := 672) bl_cL_law_672 21 rfl) (bl_at (d := 672) bl_cL_law_672 22 rfl) (bl_at (d := 672) bl_cL_law_672 23 rfl)
theorem dL_law_696 : decode cL_law 696 = .ok (.pop, 1) := op_87 (bl_at (d := 672) bl_cL_law_672 24 rfl)
theorem dL_law_697 : decode cL_law 697 = .ok (.goto 210, 3) := op_167 (bl_at (d := 672) bl_cL_law_672 25 rfl) (bl_at (d := 672) bl_cL_law_672 26 rfl) (bl_at (d := 672) bl_cL_law_672 27 rfl)
theorem dL_law_700 : decode cL_law 700 = .ok (.aload_n 1, 1) := op_43 (bl_at (d := 672) bl_cL_law_672 28 rfl)
theorem dL_law_701 : decode cL_law 701 = .ok (.aload_n 0, 1) := op_42 (bl_at (d := 672) bl_cL_law_672 29 rfl)
theorem dL_law_702 : decode cL_law 702 = .ok (.iload_n 3, 1) := op_29 (bl_at (d := 672) bl_cL_law_672 30 rfl)
theorem dL_law_703 : decode cL_law 703 = .ok (.iconst 1, 1) := op_4 (bl_at (d := 672) bl_cL_law_672 31 rfl)
theorem dL_law_704 : decode cL_law 704 = .ok (.iadd, 1) := op_96 (bl_at (d := 704) bl_cL_law_704 0 rfl)
theorem dL_law_705 : decode cL_law 705 = .ok (.iaload, 1) := op_46 (bl_at (d := 704) bl_cL_law_704 1 rfl)
theorem dL_law_706 : decode cL_law 706 = .ok (.aload_n 0, 1) := op_42 (bl_at (d := 704) bl_cL_law_704 2 rfl)
theorem dL_law_707 : decode cL_law 707 = .ok (.iload_n 3, 1) := op_29 (bl_at (d := 704) bl_cL_law_704 3 rfl)
theorem dL_law_708 : decode cL_law 708 = .ok (.iconst 2, 1) := op_5 (bl_at (d := 704) bl_cL_law_704 4 rfl)
theorem dL_law_709 : decode cL_law 709 = .ok (.iadd, 1) := op_96 (bl_at (d := 704) bl_cL_law_704 5 rfl)
theorem dL_law_710 : decode cL_law 710 = .ok (.iaload, 1) := op_46 (bl_at (d := 704) bl_cL_law_704 6 rfl)
theorem dL_law_711 : decode cL_law 711 = .ok (.invokevirtual 98, 3) := op_182 (bl_at (d := 704) bl_cL_law_704 7 rfl) (bl_at (d := 704) bl_cL_law_704 8 rfl) (bl_at (d := 704) bl_cL_law_704 9 rfl)
theorem dL_law_714 : decode cL_law 714 = .ok (.pop, 1) := op_87 (bl_at (d := 704) bl_cL_law_704 10 rfl)
theorem dL_law_715 : decode cL_law 715 = .ok (.aload_n 2, 1) := op_44 (bl_at (d := 704) bl_cL_law_704 11 rfl)
theorem dL_law_716 : decode cL_law 716 = .ok (.aload_n 0, 1) := op_42 (bl_at (d := 704) bl_cL_law_704 12 rfl)
theorem dL_law_717 : decode cL_law 717 = .ok (.iload_n 3, 1) := op_29 (bl_at (d := 704) bl_cL_law_704 13 rfl)
theorem dL_law_718 : decode cL_law 718 = .ok (.iconst 1, 1) := op_4 (bl_at (d := 704) bl_cL_law_704 14 rfl)
theorem dL_law_719 : decode cL_law 719 = .ok (.iadd, 1) := op_96 (bl_at (d := 704) bl_cL_law_704 15 rfl)
theorem dL_law_720 : decode cL_law 720 = .ok (.iaload, 1) := op_46 (bl_at (d := 704) bl_cL_law_704 16 rfl)
theorem dL_law_721 : decode cL_law 721 = .ok (.aload_n 0, 1) := op_42 (bl_at (d := 704) bl_cL_law_704 17 rfl)
theorem dL_law_722 : decode cL_law 722 = .ok (.iload_n 3, 1) := op_29 (bl_at (d := 704) bl_cL_law_704 18 rfl)
theorem dL_law_723 : decode cL_law 723 = .ok (.iconst 2, 1) := op_5 (bl_at (d := 704) bl_cL_law_704 19 rfl)
theorem dL_law_724 : decode cL_law 724 = .ok (.iadd, 1) := op_96 (bl_at (d := 704) bl_cL_law_704 20 rfl)
theorem dL_law_725 : decode cL_law 725 = .ok (.iaload, 1) := op_46 (bl_at (d := 704) bl_cL_law_704 21 rfl)
theorem dL_law_726 : decode cL_law 726 = .ok (.invokevirtual 101, 3) := op_182 (bl_at (d := 704) bl_cL_law_704 22 rfl) (bl_at (d := 704) bl_cL_law_704 23 rfl) (bl_at (d := 704) bl_cL_law_704 24 rfl)
theorem dL_law_729 : decode cL_law 729 = .ok (.pop, 1) := op_87 (bl_at (d := 704) bl_cL_law_704 25 rfl)
theorem dL_law_730 : decode cL_law 730 = .ok (.goto 177, 3) := op_167 (bl_at (d := 704) bl_cL_law_704 26 rfl) (bl_at (d := 704) bl_cL_law_704 27 rfl) (bl_at (d := 704) bl_cL_law_704 28 rfl)
theorem dL_law_733 : decode cL_law 733 = .ok (.aload_n 1, 1) := op_43 (bl_at (d := 704) bl_cL_law_704 29 rfl)
theorem dL_law_734 : decode cL_law 734 = .ok (.aload_n 0, 1) := op_42 (bl_at (d := 704) bl_cL_law_704 30 rfl)
theorem dL_law_735 : decode cL_law 735 = .ok (.iload_n 3, 1) := op_29 (bl_at (d := 704) bl_cL_law_704 31 rfl)
theorem dL_law_736 : decode cL_law 736 = .ok (.iconst 1, 1) := op_4 (bl_at (d := 736) bl_cL_law_736 0 rfl)
theorem dL_law_737 : decode cL_law 737 = .ok (.iadd, 1) := op_96 (bl_at (d := 736) bl_cL_law_736 1 rfl)
theorem dL_law_738 : decode cL_law 738 = .ok (.iaload, 1) := op_46 (bl_at (d := 736) bl_cL_law_736 2 rfl)
theorem dL_law_739 : decode cL_law 739 = .ok (.invokevirtual 102, 3) := op_182 (bl_at (d := 736) bl_cL_law_736 3 rfl) (bl_at (d := 736) bl_cL_law_736 4 rfl) (bl_at (d := 736) bl_cL_law_736 5 rfl)
theorem dL_law_742 : decode cL_law 742 = .ok (.pop, 1) := op_87 (bl_at (d := 736) bl_cL_law_736 6 rfl)
theorem dL_law_743 : decode cL_law 743 = .ok (.aload_n 2, 1) := op_44 (bl_at (d := 736) bl_cL_law_736 7 rfl)
theorem dL_law_744 : decode cL_law 744 = .ok (.aload_n 0, 1) := op_42 (bl_at (d := 736) bl_cL_law_736 8 rfl)
theorem dL_law_745 : decode cL_law 745 = .ok (.iload_n 3, 1) := op_29 (bl_at (d := 736) bl_cL_law_736 9 rfl)
theorem dL_law_746 : decode cL_law 746 = .ok (.iconst 1, 1) := op_4 (bl_at (d := 736) bl_cL_law_736 10 rfl)
theorem dL_law_747 : decode cL_law 747 = .ok (.iadd, 1) := op_96 (bl_at (d := 736) bl_cL_law_736 11 rfl)
theorem dL_law_748 : decode cL_law 748 = .ok (.iaload, 1) := op_46 (bl_at (d := 736) bl_cL_law_736 12 rfl)
theorem dL_law_749 : decode cL_law 749 = .ok (.invokevirtual 105, 3) := op_182 (bl_at (d := 736) bl_cL_law_736 13 rfl) (bl_at (d := 736) bl_cL_law_736 14 rfl) (bl_at (d := 736) bl_cL_law_736 15 rfl)
theorem dL_law_752 : decode cL_law 752 = .ok (.pop, 1) := op_87 (bl_at (d := 736) bl_cL_law_736 16 rfl)
theorem dL_law_753 : decode cL_law 753 = .ok (.goto 154, 3) := op_167 (bl_at (d := 736) bl_cL_law_736 17 rfl) (bl_at (d := 736) bl_cL_law_736 18 rfl) (bl_at (d := 736) bl_cL_law_736 19 rfl)
theorem dL_law_756 : decode cL_law 756 = .ok (.aload_n 1, 1) := op_43 (bl_at (d := 736) bl_cL_law_736 20 rfl)
theorem dL_law_757 : decode cL_law 757 = .ok (.aload_n 0, 1) := op_42 (bl_at (d := 736) bl_cL_law_736 21 rfl)
theorem dL_law_758 : decode cL_law 758 = .ok (.iload_n 3, 1) := op_29 (bl_at (d := 736) bl_cL_law_736 22 rfl)
theorem dL_law_759 : decode cL_law 759 = .ok (.iconst 1, 1) := op_4 (bl_at (d := 736) bl_cL_law_736 23 rfl)
theorem dL_law_760 : decode cL_law 760 = .ok (.iadd, 1) := op_96 (bl_at (d := 736) bl_cL_law_736 24 rfl)
theorem dL_law_761 : decode cL_law 761 = .ok (.iaload, 1) := op_46 (bl_at (d := 736) bl_cL_law_736 25 rfl)
theorem dL_law_762 : decode cL_law 762 = .ok (.invokevirtual 106, 3) := op_182 (bl_at (d := 736) bl_cL_law_736 26 rfl) (bl_at (d := 736) bl_cL_law_736 27 rfl) (bl_at (d := 736) bl_cL_law_736 28 rfl)
theorem dL_law_765 : decode cL_law 765 = .ok (.pop, 1) := op_87 (bl_at (d := 736) bl_cL_law_736 29 rfl)
theorem dL_law_766 : decode cL_law 766 = .ok (.aload_n 2, 1) := op_44 (bl_at (d := 736) bl_cL_law_736 30 rfl)
theorem dL_law_767 : decode cL_law 767 = .ok (.aload_n 0, 1) := op_42 (bl_at (d := 736) bl_cL_law_736 31 rfl)
theorem dL_law_768 : decode cL_law 768 = .ok (.iload_n 3, 1) := op_29 (bl_at (d := 768) bl_cL_law_768 0 rfl)
theorem dL_law_769 : decode cL_law 769 = .ok (.iconst 1, 1) := op_4 (bl_at (d := 768) bl_cL_law_768 1 rfl)
theorem dL_law_770 : decode cL_law 770 = .ok (.iadd, 1) := op_96 (bl_at (d := 768) bl_cL_law_768 2 rfl)
theorem dL_law_771 : decode cL_law 771 = .ok (.iaload, 1) := op_46 (bl_at (d := 768) bl_cL_law_768 3 rfl)
theorem dL_law_772 : decode cL_law 772 = .ok (.invokevirtual 109, 3) := op_182 (bl_at (d := 768) bl_cL_law_768 4 rfl) (bl_at (d := 768) bl_cL_law_768 5 rfl) (bl_at (d := 768) bl_cL_law_768 6 rfl)
theorem dL_law_775 : decode cL_law 775 = .ok (.pop, 1) := op_87 (bl_at (d := 768) bl_cL_law_768 7 rfl)
theorem dL_law_776 : decode cL_law 776 = .ok (.goto 131, 3) := op_167 (bl_at (d := 768) bl_cL_law_768 8 rfl) (bl_at (d := 768) bl_cL_law_768 9 rfl) (bl_at (d := 768) bl_cL_law_768 10 rfl)
theorem dL_law_779 : decode cL_law 779 = .ok (.aload_n 1, 1) := op_43 (bl_at (d := 768) bl_cL_law_768 11 rfl)
theorem dL_law_780 : decode cL_law 780 = .ok (.aload_n 0, 1) := op_42 (bl_at (d := 768) bl_cL_law_768 12 rfl)
theorem dL_law_781 : decode cL_law 781 = .ok (.iload_n 3, 1) := op_29 (bl_at (d := 768) bl_cL_law_768 13 rfl)
theorem dL_law_782 : decode cL_law 782 = .ok (.iconst 1, 1) := op_4 (bl_at (d := 768) bl_cL_law_768 14 rfl)
theorem dL_law_783 : decode cL_law 783 = .ok (.iadd, 1) := op_96 (bl_at (d := 768) bl_cL_law_768 15 rfl)
theorem dL_law_784 : decode cL_law 784 = .ok (.iaload, 1) := op_46 (bl_at (d := 768) bl_cL_law_768 16 rfl)
theorem dL_law_785 : decode cL_law 785 = .ok (.invokevirtual 110, 3) := op_182 (bl_at (d := 768) bl_cL_law_768 17 rfl) (bl_at (d := 768) bl_cL_law_768 18 rfl) (bl_at (d := 768) bl_cL_law_768 19 rfl)
theorem dL_law_788 : decode cL_law 788 = .ok (.pop2, 1) := op_88 (bl_at (d := 768) bl_cL_law_768 20 rfl)
theorem dL_law_789 : decode cL_law 789 = .ok (.aload_n 2, 1) := op_44 (bl_at (d := 768) bl_cL_law_768 21 rfl)
theorem dL_law_790 : decode cL_law 790 = .ok (.aload_n 0, 1) := op_42 (bl_at (d := 768) bl_cL_law_768 22 rfl)
theorem dL_law_791 : decode cL_law 791 = .ok (.iload_n 3, 1) := op_29 (bl_at (d := 768) bl_cL_law_768 23 rfl)
theorem dL_law_792 : decode cL_law 792 = .ok (.iconst 1, 1) := op_4 (bl_at (d := 768) bl_cL_law_768 24 rfl)
theorem dL_law_793 : decode cL_law 793 = .ok (.iadd, 1) := op_96 (bl_at (d := 768) bl_cL_law_768 25 rfl)
theorem dL_law_794 : decode cL_law 794 = .ok (.iaload, 1) := op_46 (bl_at (d := 768) bl_cL_law_768 26 rfl)
theorem dL_law_795 : decode cL_law 795 = .ok (.invokevirtual 114, 3) := op_182 (bl_at (d := 768) bl_cL_law_768 27 rfl) (bl_at (d := 768) bl_cL_law_768 28 rfl) (bl_at (d := 768) bl_cL_law_768 29 rfl)
theorem dL_law_798 : decode cL_law 798 = .ok (.pop2, 1) := op_88 (bl_at (d := 768) bl_cL_law_768 30 rfl)
theorem dL_law_799 : decode cL_law 799 = .ok (.goto 108, 3) := op_167 (bl_at (d := 768) bl_cL_law_768 31 rfl) (bl_at (d := 800) bl_cL_law_800 0 rfl) (bl_at (d := 800) bl_cL_law_800 1 rfl)
theorem dL_law_802 : decode cL_law 802 = .ok (.aload_n 1, 1) := op_43 (bl_at (d := 800) bl_cL_law_800 2 rfl)
theorem dL_law_803 : decode cL_law 803 = .ok (.aload_n 0, 1) := op_42 (bl_at (d := 800) bl_cL_law_800 3 rfl)
theorem dL_law_804 : decode cL_law 804 = .ok (.iload_n 3, 1) := op_29 (bl_at (d := 800) bl_cL_law_800 4 rfl)
theorem dL_law_805 : decode cL_law 805 = .ok (.iconst 1, 1) := op_4 (bl_at (d := 800) bl_cL_law_800 5 rfl)
theorem dL_law_806 : decode cL_law 806 = .ok (.iadd, 1) := op_96 (bl_at (d := 800) bl_cL_law_800 6 rfl)
theorem dL_law_807 : decode cL_law 807 = .ok (.iaload, 1) := op_46 (bl_at (d := 800) bl_cL_law_800 7 rfl)
theorem dL_law_808 : decode cL_law 808 = .ok (.aload_n 0, 1) := op_42 (bl_at (d := 800) bl_cL_law_800 8 rfl)
theorem dL_law_809 : decode cL_law 809 = .ok (.iload_n 3, 1) := op_29 (bl_at (d := 800) bl_cL_law_800 9 rfl)
theorem dL_law_810 : decode cL_law 810 = .ok (.iconst 2, 1) := op_5 (bl_at (d := 800) bl_cL_law_800 10 rfl)
theorem dL_law_811 : decode cL_law 811 = .ok (.iadd, 1) := op_96 (bl_at (d := 800) bl_cL_law_800 11 rfl)
theorem dL_law_812 : decode cL_law 812 = .ok (.iaload, 1) := op_46 (bl_at (d := 800) bl_cL_law_800 12 rfl)
theorem dL_law_813 : decode cL_law 813 = .ok (.aload_n 0, 1) := op_42 (bl_at (d := 800) bl_cL_law_800 13 rfl)
theorem dL_law_814 : decode cL_law 814 = .ok (.iload_n 3, 1) := op_29 (bl_at (d := 800) bl_cL_law_800 14 rfl)
theorem dL_law_815 : decode cL_law 815 = .ok (.iconst 3, 1) := op_6 (bl_at (d := 800) bl_cL_law_800 15 rfl)
theorem dL_law_816 : decode cL_law 816 = .ok (.iadd, 1) := op_96 (bl_at (d := 800) bl_cL_law_800 16 rfl)
theorem dL_law_817 : decode cL_law 817 = .ok (.iaload, 1) := op_46 (bl_at (d := 800) bl_cL_law_800 17 rfl)
theorem dL_law_818 : decode cL_law 818 = .ok (.invokevirtual 115, 3) := op_182 (bl_at (d := 800) bl_cL_law_800 18 rfl) (bl_at (d := 800) bl_cL_law_800 19 rfl) (bl_at (d := 800) bl_cL_law_800 20 rfl)
theorem dL_law_821 : decode cL_law 821 = .ok (.pop, 1) := op_87 (bl_at (d := 800) bl_cL_law_800 21 rfl)
theorem dL_law_822 : decode cL_law 822 = .ok (.aload_n 2, 1) := op_44 (bl_at (d := 800) bl_cL_law_800 22 rfl)
theorem dL_law_823 : decode cL_law 823 = .ok (.aload_n 0, 1) := op_42 (bl_at (d := 800) bl_cL_law_800 23 rfl)
theorem dL_law_824 : decode cL_law 824 = .ok (.iload_n 3, 1) := op_29 (bl_at (d := 800) bl_cL_law_800 24 rfl)
theorem dL_law_825 : decode cL_law 825 = .ok (.iconst 1, 1) := op_4 (bl_at (d := 800) bl_cL_law_800 25 rfl)
theorem dL_law_826 : decode cL_law 826 = .ok (.iadd, 1) := op_96 (bl_at (d := 800) bl_cL_law_800 26 rfl)
theorem dL_law_827 : decode cL_law 827 = .ok (.iaload, 1) := op_46 (bl_at (d := 800) bl_cL_law_800 27 rfl)
theorem dL_law_828 : decode cL_law 828 = .ok (.aload_n 0, 1) := op_42 (bl_at (d := 800) bl_cL_law_800 28 rfl)
theorem dL_law_829 : decode cL_law 829 = .ok (.iload_n 3, 1) := op_29 (bl_at (d := 800) bl_cL_law_800 29 rfl)
theorem dL_law_830 : decode cL_law 830 = .ok (.iconst 2, 1) := op_5 (bl_at (d := 800) bl_cL_law_800 30 rfl)
theorem dL_law_831 : decode cL_law 831 = .ok (.iadd, 1) := op_96 (bl_at (d := 800) bl_cL_law_800 31 rfl)
theorem dL_law_832 : decode cL_law 832 = .ok (.iaload, 1) := op_46 (bl_at (d := 832) bl_cL_law_832 0 rfl)
theorem dL_law_833 : decode cL_law 833 = .ok (.aload_n 0, 1) := op_42 (bl_at (d := 832) bl_cL_law_832 1 rfl)
theorem dL_law_834 : decode cL_law 834 = .ok (.iload_n 3, 1) := op_29 (bl_at (d := 832) bl_cL_law_832 2 rfl)
theorem dL_law_835 : decode cL_law 835 = .ok (.iconst 3, 1) := op_6 (bl_at (d := 832) bl_cL_law_832 3 rfl)
theorem dL_law_836 : decode cL_law 836 = .ok (.iadd, 1) := op_96 (bl_at (d := 832) bl_cL_law_832 4 rfl)
theorem dL_law_837 : decode cL_law 837 = .ok (.iaload, 1) := op_46 (bl_at (d := 832) bl_cL_law_832 5 rfl)
theorem dL_law_838 : decode cL_law 838 = .ok (.invokevirtual 118, 3) := op_182 (bl_at (d := 832) bl_cL_law_832 6 rfl) (bl_at (d := 832) bl_cL_law_832 7 rfl) (bl_at (d := 832) bl_cL_law_832 8 rfl)
theorem dL_law_841 : decode cL_law 841 = .ok (.pop, 1) := op_87 (bl_at (d := 832) bl_cL_law_832 9 rfl)
theorem dL_law_842 : decode cL_law 842 = .ok (.goto 65, 3) := op_167 (bl_at (d := 832) bl_cL_law_832 10 rfl) (bl_at (d := 832) bl_cL_law_832 11 rfl) (bl_at (d := 832) bl_cL_law_832 12 rfl)
theorem dL_law_845 : decode cL_law 845 = .ok (.aload_n 1, 1) := op_43 (bl_at (d := 832) bl_cL_law_832 13 rfl)
theorem dL_law_846 : decode cL_law 846 = .ok (.invokevirtual 119, 3) := op_182 (bl_at (d := 832) bl_cL_law_832 14 rfl) (bl_at (d := 832) bl_cL_law_832 15 rfl) (bl_at (d := 832) bl_cL_law_832 16 rfl)
theorem dL_law_849 : decode cL_law 849 = .ok (.pop, 1) := op_87 (bl_at (d := 832) bl_cL_law_832 17 rfl)
theorem dL_law_850 : decode cL_law 850 = .ok (.aload_n 2, 1) := op_44 (bl_at (d := 832) bl_cL_law_832 18 rfl)
theorem dL_law_851 : decode cL_law 851 = .ok (.invokevirtual 122, 3) := op_182 (bl_at (d := 832) bl_cL_law_832 19 rfl) (bl_at (d := 832) bl_cL_law_832 20 rfl) (bl_at (d := 832) bl_cL_law_832 21 rfl)
theorem dL_law_854 : decode cL_law 854 = .ok (.pop, 1) := op_87 (bl_at (d := 832) bl_cL_law_832 22 rfl)
theorem dL_law_855 : decode cL_law 855 = .ok (.goto 52, 3) := op_167 (bl_at (d := 832) bl_cL_law_832 23 rfl) (bl_at (d := 832) bl_cL_law_832 24 rfl) (bl_at (d := 832) bl_cL_law_832 25 rfl)
theorem dL_law_858 : decode cL_law 858 = .ok (.aload_n 1, 1) := op_43 (bl_at (d := 832) bl_cL_law_832 26 rfl)
theorem dL_law_859 : decode cL_law 859 = .ok (.invokevirtual 123, 3) := op_182 (bl_at (d := 832) bl_cL_law_832 27 rfl) (bl_at (d := 832) bl_cL_law_832 28 rfl) (bl_at (d := 832) bl_cL_law_832 29 rfl)
theorem dL_law_862 : decode cL_law 862 = .ok (.pop, 1) := op_87 (bl_at (d := 832) bl_cL_law_832 30 rfl)
theorem dL_law_863 : decode cL_law 863 = .ok (.aload_n 2, 1) := op_44 (bl_at (d := 832) bl_cL_law_832 31 rfl)
theorem dL_law_864 : decode cL_law 864 = .ok (.invokevirtual 126, 3) := op_182 (bl_at (d := 864) bl_cL_law_864 0 rfl) (bl_at (d := 864) bl_cL_law_864 1 rfl) (bl_at (d := 864) bl_cL_law_864 2 rfl)
theorem dL_law_867 : decode cL_law 867 = .ok (.pop, 1) := op_87 (bl_at (d := 864) bl_cL_law_864 3 rfl)
theorem dL_law_868 : decode cL_law 868 = .ok (.goto 39, 3) := op_167 (bl_at (d := 864) bl_cL_law_864 4 rfl) (bl_at (d := 864) bl_cL_law_864 5 rfl) (bl_at (d := 864) bl_cL_law_864 6 rfl)
theorem dL_law_871 : decode cL_law 871 = .ok (.aload_n 1, 1) := op_43 (bl_at (d := 864) bl_cL_law_864 7 rfl)
theorem dL_law_872 : decode cL_law 872 = .ok (.invokevirtual 127, 3) := op_182 (bl_at (d := 864) bl_cL_law_864 8 rfl) (bl_at (d := 864) bl_cL_law_864 9 rfl) (bl_at (d := 864) bl_cL_law_864 10 rfl)
theorem dL_law_875 : decode cL_law 875 = .ok (.aload_n 2, 1) := op_44 (bl_at (d := 864) bl_cL_law_864 11 rfl)
theorem dL_law_876 : decode cL_law 876 = .ok (.invokevirtual 130, 3) := op_182 (bl_at (d := 864) bl_cL_law_864 12 rfl) (bl_at (d := 864) bl_cL_law_864 13 rfl) (bl_at (d := 864) bl_cL_law_864 14 rfl)
theorem dL_law_879 : decode cL_law 879 = .ok (.if_icmp .eq 28, 3) := op_159 (bl_at (d := 864) bl_cL_law_864 15 rfl) (bl_at (d := 864) bl_cL_law_864 16 rfl) (bl_at (d := 864) bl_cL_law_864 17 rfl)
theorem dL_law_882 : decode cL_law 882 = .ok (.iconst 0, 1) := op_3 (bl_at (d := 864) bl_cL_law_864 18 rfl)
theorem dL_law_883 : decode cL_law 883 = .ok (.ireturn, 1) := op_172 (bl_at (d := 864) bl_cL_law_864 19 rfl)
theorem dL_law_884 : decode cL_law 884 = .ok (.aload_n 1, 1) := op_43 (bl_at (d := 864) bl_cL_law_864 20 rfl)
theorem dL_law_885 : decode cL_law 885 = .ok (.aload_n 0, 1) := op_42 (bl_at (d := 864) bl_cL_law_864 21 rfl)
theorem dL_law_886 : decode cL_law 886 = .ok (.iload_n 3, 1) := op_29 (bl_at (d := 864) bl_cL_law_864 22 rfl)
theorem dL_law_887 : decode cL_law 887 = .ok (.iconst 1, 1) := op_4 (bl_at (d := 864) bl_cL_law_864 23 rfl)
theorem dL_law_888 : decode cL_law 888 = .ok (.iadd, 1) := op_96 (bl_at (d := 864) bl_cL_law_864 24 rfl)

end

