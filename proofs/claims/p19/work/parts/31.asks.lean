theorem gcons {w : Cond} {ws : List Cond} (h : w ∈ lw_G) (hG : GoodIn lw_G ws) : GoodIn lw_G (w :: ws) := by
  intro v hv
  rcases List.mem_cons.mp hv with rfl | hv
  · exact ⟨h, good_of_word (List.mem_filter.mp h).2⟩
  · exact hG v hv
/-! what each kind asks for -/
def env (tie : Int32) (s : Int) : Nat := if 0 ≤ s then ask tie s + 1 else ask tie s
def pr (k f : Nat) (tie : Int32) (s : Int) : Nat := if k = 0 then ask tie s else if k = 1 then s.toNat else if k = 2 then env tie s else if k = 3 then s.toNat else if k = 4 then f else if k = 5 then env tie s + f else f / 2
theorem pr_le {k f : Nat} {tie : Int32} {s : Int} (hf : f ≤ 9) (hs : s ≤ 99) : pr k f tie s ≤ 110 := by
  have h1 := ask_le (tie := tie) hs
  have h2 : env tie s ≤ 101 := by unfold env; split <;> omega
  unfold pr
  repeat' split
  all_goals omega
/-- what is known of an evening's men and settings -/
def EVH (n : Nat) (K F W : Nat → Nat) (cq : Nat) (kf ff wf stf : Nat → Int32) : Prop := n ≤ 8 ∧ cq ≤ 99 ∧ stf 0 = nI cq ∧ ∀ j, j < n → (kf j = nI (K j) ∧ K j ≤ 6) ∧ (ff j = nI (F j) ∧ F j ≤ 9) ∧ (wf j = nI (W j) ∧ 1 ≤ W j ∧ W j ≤ 9)
/-- the kinds' array -/
def KDS (fk : Nat → Option Nat) (k0 k1 k2 k3 k4 k5 k6 : Nat) : Prop := fk 0 = some k0 ∧ fk 1 = some k1 ∧ fk 2 = some k2 ∧ fk 3 = some k3 ∧ fk 4 = some k4 ∧ fk 5 = some k5 ∧ fk 6 = some k6
theorem le6 {k : Nat} (h : k ≤ 6) : k = 0 ∨ k = 1 ∨ k = 2 ∨ k = 3 ∨ k = 4 ∨ k = 5 ∨ k = 6 := by omega
theorem max0_z {s : Int} (hs : sm s) : (if (0 : Int32) < iI s then iI s else 0) = nI s.toNat := by
  by_cases h : 0 < s
  · rw [if_pos (by rw [← iI_0, iI_lt sm0 hs]; exact h), nI_iI, Int.toNat_of_nonneg (by omega)]
  · rw [if_neg (by rw [← iI_0, iI_lt sm0 hs]; exact h), show s.toNat = 0 by omega]
    rfl
theorem ms_lt {n j fu : Nat} (h : j < n) (hf : n - j < fu + 1) : n - (j + 1) < fu := by omega

set_option maxHeartbeats 1000000 in
set_option maxRecDepth 100000 in
/-- X0_ask -/
theorem c_X0_ask (l : Launch) (dC : Nat → ClassId) (dI : Nat → Nat → Nat) (aC : Nat → ClassId) (sz : Nat) (h1 : Nat) (s0 : Int) (fg : Nat) (tie : Int32) (hs : -1 ≤ s0 ∧ s0 ≤ 99) (hfg : fg ≤ 9) : Met l yX0_ask (wW yX0_ask cX0_ask 5 (some .int)) ({ frames := 0, cells := 0, slots := 0, locals := 0 } : Room) (va_Pc [Value.ref h1, Value.int (iI s0), Value.int (nI fg), Value.int tie] (fun U => U.heap.size = sz ∧ va_P (dC, dI) classes [] U.heap ∧ va_K (dC, dI) classes (TY aC) U ∧ va_D (fun _ => True) [] ∧ NX U)) (va_Qi (fun (r : Int32) (_ : Unit) => r = nI (ask tie s0)) (fun (_ : Unit) (t : State) => va_P (dC, dI) classes [] t.heap ∧ va_K (dC, dI) classes (TY aC) t ∧ va_D (va_A [] sz) []) (va_A [] sz)) 0 0 (va_A [] sz) := by
  refine Met.ofW (cc := cX0_ask) (maxL := 5) (ret := (some .int)) (by decide) rfl ?_
  intro p e s m args below meth c s₁ B hml hv
  obtain ⟨rfl, hsz, hP, hK, hD0, hN⟩ := hv
  have hx := B.exec
  have hb := B.bytes
  have hr := B.returns
  have hts0 := atoms_spec (ws := (wW yX0_ask cX0_ask 5 (some .int))) B.pre
  have hts : ∀ w9 ∈ lw_G, w9.before ([Value.ref h1, Value.int (iI s0), Value.int (nI fg), Value.int tie] : List Value).toArray s = true := fun w9 h9 => hts0 w9 (List.mem_cons_of_mem _ h9)
  have hown : s.vm.findClass RX0 = some m.cls := findClass_of_methodNamed (x := yX0_ask) B.named
  have hlocks := B.notSynchronized
  subst hsz
  have hD := hD0.self (sz := s.heap.size)
  generalize hAe : va_A [] s.heap.size = A at hD ⊢
  have hA : ∀ q : Nat, s.heap.size ≤ q → A q := fun q h => by rw [← hAe]; exact Or.inr h
  obtain ⟨H, hHe⟩ : ∃ H : Heap, H = s.heap := ⟨_, rfl⟩
  have hS : va_S A s.heap H [] := by rw [hHe]; exact va_S.rf
  have hP : va_P (dC, dI) classes [] H := by rw [hHe]; exact hP
  have hl := lv_entry ([Value.ref h1, Value.int (iI s0), Value.int (nI fg), Value.int tie]) (n := 5) (Nat.le_of_ble_eq_true rfl)
  rw [lg_entry_eq]
  generalize (lg_sl ([Value.ref h1, Value.int (iI s0), Value.int (nI fg), Value.int tie]) ++ List.replicate (5 - (lg_sl ([Value.ref h1, Value.int (iI s0), Value.int (nI fg), Value.int tie])).length) Slot.unset).toArray = ls at hl ⊢
  have hl : lv_has ls 5 [(0, Value.ref h1), (1, Value.int (iI s0)), (2, Value.int (nI fg)), (3, Value.int tie)] := hl
  rw [← hHe]
  refine lv_iload_n hx hb dX0_ask_0 rfl (lv_at hl 3 rfl) ?_
  refine lv_iconst (v := 1) hx hb dX0_ask_1 (by decide) ?_
  refine lv_icmp_ne (tgt := 9) hx hb dX0_ask_2 (by decide) (fun c_1 => ?_) (fun c_1 => ?_)
  · refine lv_iload_n hx hb dX0_ask_9 rfl (lv_at hl 1 rfl) ?_
    refine lv_iconst (v := 1) hx hb dX0_ask_10 (by decide) ?_
    refine lv_iadd hx hb dX0_ask_11 ?_
    refine lv_topi (fun x_2 e_2 => ?_)
    refine lv_istore (lv' := [(4, Value.int x_2), (0, Value.ref h1), (1, Value.int (iI s0)), (2, Value.int (nI fg)), (3, Value.int tie)]) hx hb dX0_ask_12 hl (by decide) rfl (fun ls hl => ?_)
    refine lv_iload hx hb dX0_ask_14 (lv_at hl 0 rfl) ?_
    refine lv_if_le (tgt := 24) hx hb dX0_ask_16 (by decide) (fun c_3 => ?_) (fun c_3 => ?_)
    · refine lv_iconst (v := 0) hx hb dX0_ask_24 (by decide) ?_
      have hpd9 := pd_N (cx := []) hP hD [] (by decide) rfl
      have hP9 := hpd9.1
      have hD9 := hpd9.2
      refine W.widen (k := 0) (n := 0) (by omega) (by omega) ?_
      exact W.iret (v := 0) hx hb hr (fun t ht hW => ⟨⟨0, (), rfl, by unfold ask; rw [if_neg c_1]; have h8 : x_2 = iI (s0 + 1) := (by rw [e_2, ← iI_1, iI_add]); exact askN (by unfold sm; omega) (h8 ▸ c_3), by rw [ht]; exact hP9, va_K.moved hW.alike hK, hD9⟩, hS.F ht⟩) hS.2.2 dX0_ask_25
    · refine lv_iload hx hb dX0_ask_19 (lv_at hl 0 rfl) ?_
      refine lv_goto (tgt := 25) hx hb dX0_ask_21 (by decide) ?_
      have hpd9 := pd_N (cx := []) hP hD [] (by decide) rfl
      have hP9 := hpd9.1
      have hD9 := hpd9.2
      refine W.widen (k := 0) (n := 0) (by omega) (by omega) ?_
      exact W.iret (v := x_2) hx hb hr (fun t ht hW => ⟨⟨x_2, (), rfl, by unfold ask; rw [if_neg c_1]; have h8 : x_2 = iI (s0 + 1) := (by rw [e_2, ← iI_1, iI_add]); exact h8.trans (askP (by unfold sm; omega) (h8 ▸ c_3)), by rw [ht]; exact hP9, va_K.moved hW.alike hK, hD9⟩, hS.F ht⟩) hS.2.2 dX0_ask_25
  · refine lv_iload_n hx hb dX0_ask_5 rfl (lv_at hl 1 rfl) ?_
    refine lv_goto (tgt := 12) hx hb dX0_ask_6 (by decide) ?_
    refine lv_istore (lv' := [(4, Value.int (iI s0)), (0, Value.ref h1), (1, Value.int (iI s0)), (2, Value.int (nI fg)), (3, Value.int tie)]) hx hb dX0_ask_12 hl (by decide) rfl (fun ls hl => ?_)
    refine lv_iload hx hb dX0_ask_14 (lv_at hl 0 rfl) ?_
    refine lv_if_le (tgt := 24) hx hb dX0_ask_16 (by decide) (fun c_4 => ?_) (fun c_4 => ?_)
    · refine lv_iconst (v := 0) hx hb dX0_ask_24 (by decide) ?_
      have hpd9 := pd_N (cx := []) hP hD [] (by decide) rfl
      have hP9 := hpd9.1
      have hD9 := hpd9.2
      refine W.widen (k := 0) (n := 0) (by omega) (by omega) ?_
      exact W.iret (v := 0) hx hb hr (fun t ht hW => ⟨⟨0, (), rfl, by unfold ask; rw [if_pos c_1]; exact askN (by unfold sm; omega) c_4, by rw [ht]; exact hP9, va_K.moved hW.alike hK, hD9⟩, hS.F ht⟩) hS.2.2 dX0_ask_25
    · refine lv_iload hx hb dX0_ask_19 (lv_at hl 0 rfl) ?_
      refine lv_goto (tgt := 25) hx hb dX0_ask_21 (by decide) ?_
      have hpd9 := pd_N (cx := []) hP hD [] (by decide) rfl
      have hP9 := hpd9.1
      have hD9 := hpd9.2
      refine W.widen (k := 0) (n := 0) (by omega) (by omega) ?_
      exact W.iret (v := iI s0) hx hb hr (fun t ht hW => ⟨⟨(iI s0), (), rfl, by unfold ask; rw [if_pos c_1]; exact askP (by unfold sm; omega) c_4, by rw [ht]; exact hP9, va_K.moved hW.alike hK, hD9⟩, hS.F ht⟩) hS.2.2 dX0_ask_25

set_option maxHeartbeats 1000000 in
set_option maxRecDepth 100000 in
/-- X1_ask -/
theorem c_X1_ask (l : Launch) (dC : Nat → ClassId) (dI : Nat → Nat → Nat) (aC : Nat → ClassId) (sz : Nat) (h1 : Nat) (s0 : Int) (fg : Nat) (tie : Int32) (hs : -1 ≤ s0 ∧ s0 ≤ 99) (hfg : fg ≤ 9) : Met l yX1_ask (wW yX1_ask cX1_ask 4 (some .int)) ({ frames := 1, cells := 0, slots := 0, locals := 13 } : Room) (va_Pc [Value.ref h1, Value.int (iI s0), Value.int (nI fg), Value.int tie] (fun U => U.heap.size = sz ∧ va_P (dC, dI) classes [] U.heap ∧ va_K (dC, dI) classes (TY aC) U ∧ va_D (fun _ => True) [] ∧ NX U)) (va_Qi (fun (r : Int32) (_ : Unit) => r = nI s0.toNat) (fun (_ : Unit) (t : State) => va_P (dC, dI) classes [] t.heap ∧ va_K (dC, dI) classes (TY aC) t ∧ va_D (va_A [] sz) []) (va_A [] sz)) 0 0 (va_A [] sz) := by
  refine Met.ofW (cc := cX1_ask) (maxL := 4) (ret := (some .int)) (by decide) rfl ?_
  intro p e s m args below meth c s₁ B hml hv
  obtain ⟨rfl, hsz, hP, hK, hD0, hN⟩ := hv
  have hx := B.exec
  have hb := B.bytes
  have hr := B.returns
  have hts0 := atoms_spec (ws := (wW yX1_ask cX1_ask 4 (some .int))) B.pre
  have hts : ∀ w9 ∈ lw_G, w9.before ([Value.ref h1, Value.int (iI s0), Value.int (nI fg), Value.int tie] : List Value).toArray s = true := fun w9 h9 => hts0 w9 (List.mem_cons_of_mem _ h9)
  have hown : s.vm.findClass RX1 = some m.cls := findClass_of_methodNamed (x := yX1_ask) B.named
  have hlocks := B.notSynchronized
  subst hsz
  have hD := hD0.self (sz := s.heap.size)
  generalize hAe : va_A [] s.heap.size = A at hD ⊢
  have hA : ∀ q : Nat, s.heap.size ≤ q → A q := fun q h => by rw [← hAe]; exact Or.inr h
  obtain ⟨H, hHe⟩ : ∃ H : Heap, H = s.heap := ⟨_, rfl⟩
  have hS : va_S A s.heap H [] := by rw [hHe]; exact va_S.rf
  have hP : va_P (dC, dI) classes [] H := by rw [hHe]; exact hP
  have hl := lv_entry ([Value.ref h1, Value.int (iI s0), Value.int (nI fg), Value.int tie]) (n := 4) (Nat.le_of_ble_eq_true rfl)
  rw [lg_entry_eq]
  generalize (lg_sl ([Value.ref h1, Value.int (iI s0), Value.int (nI fg), Value.int tie]) ++ List.replicate (4 - (lg_sl ([Value.ref h1, Value.int (iI s0), Value.int (nI fg), Value.int tie])).length) Slot.unset).toArray = ls at hl ⊢
  have hl : lv_has ls 4 [(0, Value.ref h1), (1, Value.int (iI s0)), (2, Value.int (nI fg)), (3, Value.int tie)] := hl
  rw [← hHe]
  refine lv_iconst (v := 0) hx hb dX1_ask_0 (by decide) ?_
  refine lv_iload_n hx hb dX1_ask_1 rfl (lv_at hl 1 rfl) ?_
  refine va_mmax hx hb (by rw [hml]; exact hl.1.symm) hown (hts _ (gw kw_373 rfl)) (hts _ (gw kw_374 rfl)) (hts _ (gw kw_14 rfl)) (hts _ (gw kw_375 rfl)) (Nat.le_of_ble_eq_true rfl) (Nat.le_of_ble_eq_true rfl) (Nat.zero_le _) (Nat.zero_le _) dX1_ask_2 ?_
  refine lv_topi (fun x_1 e_1 => ?_)
  have hpd9 := pd_N (cx := []) hP hD [] (by decide) rfl
  have hP9 := hpd9.1
  have hD9 := hpd9.2
  refine W.widen (k := 0) (n := 0) (by omega) (by omega) ?_
  exact W.iret (v := x_1) hx hb hr (fun t ht hW => ⟨⟨x_1, (), rfl, by rw [e_1]; exact max0_z (by unfold sm; omega), by rw [ht]; exact hP9, va_K.moved hW.alike hK, hD9⟩, hS.F ht⟩) hS.2.2 dX1_ask_5

set_option maxHeartbeats 1000000 in
set_option maxRecDepth 100000 in
/-- X3_ask -/
theorem c_X3_ask (l : Launch) (dC : Nat → ClassId) (dI : Nat → Nat → Nat) (aC : Nat → ClassId) (sz : Nat) (h1 : Nat) (s0 : Int) (fg : Nat) (tie : Int32) (hs : -1 ≤ s0 ∧ s0 ≤ 99) (hfg : fg ≤ 9) : Met l yX3_ask (wW yX3_ask cX3_ask 5 (some .int)) ({ frames := 1, cells := 0, slots := 0, locals := 24 } : Room) (va_Pc [Value.ref h1, Value.int (iI s0), Value.int (nI fg), Value.int tie] (fun U => U.heap.size = sz ∧ va_P (dC, dI) classes [cO h1 3 []] U.heap ∧ va_K (dC, dI) classes (TY aC) U ∧ va_D (fun _ => True) [cO h1 3 []] ∧ NX U)) (va_Qi (fun (r : Int32) (_ : Unit) => r = nI (env tie s0)) (fun (_ : Unit) (t : State) => va_P (dC, dI) classes [cO h1 3 []] t.heap ∧ va_K (dC, dI) classes (TY aC) t ∧ va_D (va_A [cO h1 3 []] sz) [cO h1 3 []]) (va_A [cO h1 3 []] sz)) 0 0 (va_A [cO h1 3 []] sz) := by
  refine Met.ofW (cc := cX3_ask) (maxL := 5) (ret := (some .int)) (by decide) rfl ?_
  intro p e s m args below meth c s₁ B hml hv
  obtain ⟨rfl, hsz, hP, hK, hD0, hN⟩ := hv
  have hx := B.exec
  have hb := B.bytes
  have hr := B.returns
  have hts0 := atoms_spec (ws := (wW yX3_ask cX3_ask 5 (some .int))) B.pre
  have hts : ∀ w9 ∈ lw_G, w9.before ([Value.ref h1, Value.int (iI s0), Value.int (nI fg), Value.int tie] : List Value).toArray s = true := fun w9 h9 => hts0 w9 (List.mem_cons_of_mem _ h9)
  have hown : s.vm.findClass RX3 = some m.cls := findClass_of_methodNamed (x := yX3_ask) B.named
  have hlocks := B.notSynchronized
  subst hsz
  have hD := hD0.self (sz := s.heap.size)
  generalize hAe : va_A [cO h1 3 []] s.heap.size = A at hD ⊢
  have hA : ∀ q : Nat, s.heap.size ≤ q → A q := fun q h => by rw [← hAe]; exact Or.inr h
  obtain ⟨H, hHe⟩ : ∃ H : Heap, H = s.heap := ⟨_, rfl⟩
  have hS : va_S A s.heap H [] := by rw [hHe]; exact va_S.rf
  have hP : va_P (dC, dI) classes [cO h1 3 []] H := by rw [hHe]; exact hP
  have hl := lv_entry ([Value.ref h1, Value.int (iI s0), Value.int (nI fg), Value.int tie]) (n := 5) (Nat.le_of_ble_eq_true rfl)
  rw [lg_entry_eq]
  generalize (lg_sl ([Value.ref h1, Value.int (iI s0), Value.int (nI fg), Value.int tie]) ++ List.replicate (5 - (lg_sl ([Value.ref h1, Value.int (iI s0), Value.int (nI fg), Value.int tie])).length) Slot.unset).toArray = ls at hl ⊢
  have hl : lv_has ls 5 [(0, Value.ref h1), (1, Value.int (iI s0)), (2, Value.int (nI fg)), (3, Value.int tie)] := hl
  rw [← hHe]
  refine lv_aload_n hx hb dX3_ask_0 rfl (lv_at hl 0 rfl) ?_
  refine lv_iload_n hx hb dX3_ask_1 rfl (lv_at hl 1 rfl) ?_
  refine lv_iload_n hx hb dX3_ask_2 rfl (lv_at hl 2 rfl) ?_
  refine lv_iload_n hx hb dX3_ask_3 rfl (lv_at hl 3 rfl) ?_
  have hpd9 := pdf_N (cx := []) hP hD hS hA [] (by decide) rfl
  have hPc := hpd9.1
  have hDc := hpd9.2.1
  have hFc := hpd9.2.2
  clear hpd9
  refine va_calli (va_runSU (hK.1 3 _ rfl).2 (As := [Value.int (iI s0), Value.int (nI fg), Value.int tie]) (rest := []) ⟨hx, hb, hml, hown, hts⟩ (c_X0_ask l dC dI aC H.size h1 s0 fg tie (hs) (hfg)) (va_cwSU 3 hts (gcons (gw kw_379 rfl) (gcons (gw kw_369 rfl) (gcons (gw kw_111 rfl) (gcons (gw kw_367 rfl) (gcons (gw kw_4 rfl) (gG kw_392)))))) rfl rfl rfl (by decide +kernel) ⟨Nat.le_of_ble_eq_true rfl, Nat.le_of_ble_eq_true rfl⟩) ⟨fb_std, va_recv (q := (RX3, TX3, 0)) hK hP (ci := 3) (q0 := 0) rfl rfl, pre_std hPc hK hDc hN⟩ rfl rfl hl.1 rfl (lv_room (Nat.le_of_ble_eq_true rfl)) dX3_ask_4 ⟨Nat.le_of_ble_eq_true rfl, Nat.le_of_ble_eq_true rfl⟩) hS (fun q _ h => hFc q h) hFc (fun x_1 u9 t9 H1 locs ht hvm hw_1 hB hz1 hk1 hS => ?_)
  obtain ⟨hP1, hK1, hD1⟩ := hB
  rw [ht] at hP1
  clear hK1
  try dsimp only at hw_1
  have hpd9 : PDx (dC, dI) classes A H1 [cO h1 3 []] := jn_N (wr := [cO h1 3 []]) hFc hk1 hP1 hD1 hP hD [] [0] rfl rfl (by decide) (by decide)
  have hP := hpd9.1
  have hD := hpd9.2
  clear hpd9
  generalize H1 = H at hP hS ⊢
  clear hPc hDc hFc hz1 hk1 hP1 hD1 ht hvm
  have hz_4 := hw_1
  refine lv_istore (lv' := [(4, Value.int x_1), (0, Value.ref h1), (1, Value.int (iI s0)), (2, Value.int (nI fg)), (3, Value.int tie)]) hx hb dX3_ask_7 hl (by decide) rfl (fun ls hl => ?_)
  refine lv_iload_n hx hb dX3_ask_9 rfl (lv_at hl 2 rfl) ?_
  refine lv_if_lt (tgt := 20) hx hb dX3_ask_10 (by decide) (fun c_2 => ?_) (fun c_2 => ?_)
  · refine lv_iload hx hb dX3_ask_20 (lv_at hl 0 rfl) ?_
    have hpd9 := pd_N (cx := [cO h1 3 []]) hP hD [0] (by decide) rfl
    have hP9 := hpd9.1
    have hD9 := hpd9.2
    refine W.widen (k := 0) (n := 0) (by omega) (by omega) ?_
    exact W.iret (v := x_1) hx hb hr (fun t ht hW => ⟨⟨x_1, (), rfl, by rw [hz_4]; unfold env; rw [if_neg (by rw [← iI_0, iI_lt (by unfold sm; omega) sm0] at c_2; omega)], by rw [ht]; exact hP9, va_K.moved hW.alike hK, hD9⟩, hS.F ht⟩) hS.2.2 dX3_ask_22
  · refine lv_iload hx hb dX3_ask_13 (lv_at hl 0 rfl) ?_
    refine lv_iconst (v := 1) hx hb dX3_ask_15 (by decide) ?_
    refine lv_iadd hx hb dX3_ask_16 ?_
    refine lv_topi (fun x_3 e_3 => ?_)
    refine lv_goto (tgt := 22) hx hb dX3_ask_17 (by decide) ?_
    have hpd9 := pd_N (cx := [cO h1 3 []]) hP hD [0] (by decide) rfl
    have hP9 := hpd9.1
    have hD9 := hpd9.2
    refine W.widen (k := 0) (n := 0) (by omega) (by omega) ?_
    exact W.iret (v := x_3) hx hb hr (fun t ht hW => ⟨⟨x_3, (), rfl, by rw [e_3, hz_4, nI_1]; unfold env; rw [if_pos (by rw [← iI_0, iI_lt (by unfold sm; omega) sm0] at c_2; omega)], by rw [ht]; exact hP9, va_K.moved hW.alike hK, hD9⟩, hS.F ht⟩) hS.2.2 dX3_ask_22

set_option maxHeartbeats 1000000 in
set_option maxRecDepth 100000 in
/-- X3_ask_10 -/
theorem c_X3_ask_10 (l : Launch) (dC : Nat → ClassId) (dI : Nat → Nat → Nat) (aC : Nat → ClassId) (sz : Nat) (h1 : Nat) (s0 : Int) (fg : Nat) (tie : Int32) (hs : -1 ≤ s0 ∧ s0 ≤ 99) (hfg : fg ≤ 9) : Met l yX3_ask (wW yX3_ask cX3_ask 5 (some .int)) ({ frames := 1, cells := 0, slots := 0, locals := 24 } : Room) (va_Pc [Value.ref h1, Value.int (iI s0), Value.int (nI fg), Value.int tie] (fun U => U.heap.size = sz ∧ va_P (dC, dI) classes [cO h1 10 []] U.heap ∧ va_K (dC, dI) classes (TY aC) U ∧ va_D (fun _ => True) [cO h1 10 []] ∧ NX U)) (va_Qi (fun (r : Int32) (_ : Unit) => r = nI (env tie s0)) (fun (_ : Unit) (t : State) => va_P (dC, dI) classes [cO h1 10 []] t.heap ∧ va_K (dC, dI) classes (TY aC) t ∧ va_D (va_A [cO h1 10 []] sz) [cO h1 10 []]) (va_A [cO h1 10 []] sz)) 0 0 (va_A [cO h1 10 []] sz) := by
  refine Met.ofW (cc := cX3_ask) (maxL := 5) (ret := (some .int)) (by decide) rfl ?_
  intro p e s m args below meth c s₁ B hml hv
  obtain ⟨rfl, hsz, hP, hK, hD0, hN⟩ := hv
  have hx := B.exec
  have hb := B.bytes
  have hr := B.returns
  have hts0 := atoms_spec (ws := (wW yX3_ask cX3_ask 5 (some .int))) B.pre
  have hts : ∀ w9 ∈ lw_G, w9.before ([Value.ref h1, Value.int (iI s0), Value.int (nI fg), Value.int tie] : List Value).toArray s = true := fun w9 h9 => hts0 w9 (List.mem_cons_of_mem _ h9)
  have hown : s.vm.findClass RX3 = some m.cls := findClass_of_methodNamed (x := yX3_ask) B.named
  have hlocks := B.notSynchronized
  subst hsz
  have hD := hD0.self (sz := s.heap.size)
  generalize hAe : va_A [cO h1 10 []] s.heap.size = A at hD ⊢
  have hA : ∀ q : Nat, s.heap.size ≤ q → A q := fun q h => by rw [← hAe]; exact Or.inr h
  obtain ⟨H, hHe⟩ : ∃ H : Heap, H = s.heap := ⟨_, rfl⟩
  have hS : va_S A s.heap H [] := by rw [hHe]; exact va_S.rf
  have hP : va_P (dC, dI) classes [cO h1 10 []] H := by rw [hHe]; exact hP
  have hl := lv_entry ([Value.ref h1, Value.int (iI s0), Value.int (nI fg), Value.int tie]) (n := 5) (Nat.le_of_ble_eq_true rfl)
  rw [lg_entry_eq]
  generalize (lg_sl ([Value.ref h1, Value.int (iI s0), Value.int (nI fg), Value.int tie]) ++ List.replicate (5 - (lg_sl ([Value.ref h1, Value.int (iI s0), Value.int (nI fg), Value.int tie])).length) Slot.unset).toArray = ls at hl ⊢
  have hl : lv_has ls 5 [(0, Value.ref h1), (1, Value.int (iI s0)), (2, Value.int (nI fg)), (3, Value.int tie)] := hl
  rw [← hHe]
  refine lv_aload_n hx hb dX3_ask_0 rfl (lv_at hl 0 rfl) ?_
  refine lv_iload_n hx hb dX3_ask_1 rfl (lv_at hl 1 rfl) ?_
  refine lv_iload_n hx hb dX3_ask_2 rfl (lv_at hl 2 rfl) ?_
  refine lv_iload_n hx hb dX3_ask_3 rfl (lv_at hl 3 rfl) ?_
  have hpd9 := pdf_N (cx := []) hP hD hS hA [] (by decide) rfl
  have hPc := hpd9.1
  have hDc := hpd9.2.1
  have hFc := hpd9.2.2
  clear hpd9
  refine va_calli (va_runSU (hK.1 10 _ rfl).2 (As := [Value.int (iI s0), Value.int (nI fg), Value.int tie]) (rest := []) ⟨hx, hb, hml, hown, hts⟩ (c_X0_ask l dC dI aC H.size h1 s0 fg tie (hs) (hfg)) (va_cwSU 3 hts (gcons (gw kw_379 rfl) (gcons (gw kw_369 rfl) (gcons (gw kw_111 rfl) (gcons (gw kw_367 rfl) (gcons (gw kw_4 rfl) (gG kw_392)))))) rfl rfl rfl (by decide +kernel) ⟨Nat.le_of_ble_eq_true rfl, Nat.le_of_ble_eq_true rfl⟩) ⟨fb_std, va_recv (q := (RX10, TX10, 0)) hK hP (ci := 10) (q0 := 0) rfl rfl, pre_std hPc hK hDc hN⟩ rfl rfl hl.1 rfl (lv_room (Nat.le_of_ble_eq_true rfl)) dX3_ask_4 ⟨Nat.le_of_ble_eq_true rfl, Nat.le_of_ble_eq_true rfl⟩) hS (fun q _ h => hFc q h) hFc (fun x_1 u9 t9 H1 locs ht hvm hw_1 hB hz1 hk1 hS => ?_)
  obtain ⟨hP1, hK1, hD1⟩ := hB
  rw [ht] at hP1
  clear hK1
  try dsimp only at hw_1
  have hpd9 : PDx (dC, dI) classes A H1 [cO h1 10 []] := jn_N (wr := [cO h1 10 []]) hFc hk1 hP1 hD1 hP hD [] [0] rfl rfl (by decide) (by decide)
  have hP := hpd9.1
  have hD := hpd9.2
  clear hpd9
  generalize H1 = H at hP hS ⊢
  clear hPc hDc hFc hz1 hk1 hP1 hD1 ht hvm
  have hz_4 := hw_1
  refine lv_istore (lv' := [(4, Value.int x_1), (0, Value.ref h1), (1, Value.int (iI s0)), (2, Value.int (nI fg)), (3, Value.int tie)]) hx hb dX3_ask_7 hl (by decide) rfl (fun ls hl => ?_)
  refine lv_iload_n hx hb dX3_ask_9 rfl (lv_at hl 2 rfl) ?_
  refine lv_if_lt (tgt := 20) hx hb dX3_ask_10 (by decide) (fun c_2 => ?_) (fun c_2 => ?_)
  · refine lv_iload hx hb dX3_ask_20 (lv_at hl 0 rfl) ?_
    have hpd9 := pd_N (cx := [cO h1 10 []]) hP hD [0] (by decide) rfl
    have hP9 := hpd9.1
    have hD9 := hpd9.2
    refine W.widen (k := 0) (n := 0) (by omega) (by omega) ?_
    exact W.iret (v := x_1) hx hb hr (fun t ht hW => ⟨⟨x_1, (), rfl, by rw [hz_4]; unfold env; rw [if_neg (by rw [← iI_0, iI_lt (by unfold sm; omega) sm0] at c_2; omega)], by rw [ht]; exact hP9, va_K.moved hW.alike hK, hD9⟩, hS.F ht⟩) hS.2.2 dX3_ask_22
  · refine lv_iload hx hb dX3_ask_13 (lv_at hl 0 rfl) ?_
    refine lv_iconst (v := 1) hx hb dX3_ask_15 (by decide) ?_
    refine lv_iadd hx hb dX3_ask_16 ?_
    refine lv_topi (fun x_3 e_3 => ?_)
    refine lv_goto (tgt := 22) hx hb dX3_ask_17 (by decide) ?_
    have hpd9 := pd_N (cx := [cO h1 10 []]) hP hD [0] (by decide) rfl
    have hP9 := hpd9.1
    have hD9 := hpd9.2
    refine W.widen (k := 0) (n := 0) (by omega) (by omega) ?_
    exact W.iret (v := x_3) hx hb hr (fun t ht hW => ⟨⟨x_3, (), rfl, by rw [e_3, hz_4, nI_1]; unfold env; rw [if_pos (by rw [← iI_0, iI_lt (by unfold sm; omega) sm0] at c_2; omega)], by rw [ht]; exact hP9, va_K.moved hW.alike hK, hD9⟩, hS.F ht⟩) hS.2.2 dX3_ask_22

set_option maxHeartbeats 1000000 in
set_option maxRecDepth 100000 in
/-- X6_ask -/
theorem c_X6_ask (l : Launch) (dC : Nat → ClassId) (dI : Nat → Nat → Nat) (aC : Nat → ClassId) (sz : Nat) (h1 : Nat) (s0 : Int) (fg : Nat) (tie : Int32) (hs : -1 ≤ s0 ∧ s0 ≤ 99) (hfg : fg ≤ 9) : Met l yX6_ask (wW yX6_ask cX6_ask 4 (some .int)) ({ frames := 0, cells := 0, slots := 0, locals := 0 } : Room) (va_Pc [Value.ref h1, Value.int (iI s0), Value.int (nI fg), Value.int tie] (fun U => U.heap.size = sz ∧ va_P (dC, dI) classes [] U.heap ∧ va_K (dC, dI) classes (TY aC) U ∧ va_D (fun _ => True) [] ∧ NX U)) (va_Qi (fun (r : Int32) (_ : Unit) => r = nI fg) (fun (_ : Unit) (t : State) => va_P (dC, dI) classes [] t.heap ∧ va_K (dC, dI) classes (TY aC) t ∧ va_D (va_A [] sz) []) (va_A [] sz)) 0 0 (va_A [] sz) := by
  refine Met.ofW (cc := cX6_ask) (maxL := 4) (ret := (some .int)) (by decide) rfl ?_
  intro p e s m args below meth c s₁ B hml hv
  obtain ⟨rfl, hsz, hP, hK, hD0, hN⟩ := hv
  have hx := B.exec
  have hb := B.bytes
  have hr := B.returns
  have hts0 := atoms_spec (ws := (wW yX6_ask cX6_ask 4 (some .int))) B.pre
  have hts : ∀ w9 ∈ lw_G, w9.before ([Value.ref h1, Value.int (iI s0), Value.int (nI fg), Value.int tie] : List Value).toArray s = true := fun w9 h9 => hts0 w9 (List.mem_cons_of_mem _ h9)
  have hown : s.vm.findClass RX6 = some m.cls := findClass_of_methodNamed (x := yX6_ask) B.named
  have hlocks := B.notSynchronized
  subst hsz
  have hD := hD0.self (sz := s.heap.size)
  generalize hAe : va_A [] s.heap.size = A at hD ⊢
  have hA : ∀ q : Nat, s.heap.size ≤ q → A q := fun q h => by rw [← hAe]; exact Or.inr h
  obtain ⟨H, hHe⟩ : ∃ H : Heap, H = s.heap := ⟨_, rfl⟩
  have hS : va_S A s.heap H [] := by rw [hHe]; exact va_S.rf
  have hP : va_P (dC, dI) classes [] H := by rw [hHe]; exact hP
  have hl := lv_entry ([Value.ref h1, Value.int (iI s0), Value.int (nI fg), Value.int tie]) (n := 4) (Nat.le_of_ble_eq_true rfl)
  rw [lg_entry_eq]
  generalize (lg_sl ([Value.ref h1, Value.int (iI s0), Value.int (nI fg), Value.int tie]) ++ List.replicate (4 - (lg_sl ([Value.ref h1, Value.int (iI s0), Value.int (nI fg), Value.int tie])).length) Slot.unset).toArray = ls at hl ⊢
  have hl : lv_has ls 4 [(0, Value.ref h1), (1, Value.int (iI s0)), (2, Value.int (nI fg)), (3, Value.int tie)] := hl
  rw [← hHe]
  refine lv_iload_n hx hb dX6_ask_0 rfl (lv_at hl 2 rfl) ?_
  have hpd9 := pd_N (cx := []) hP hD [] (by decide) rfl
  have hP9 := hpd9.1
  have hD9 := hpd9.2
  refine W.widen (k := 0) (n := 0) (by omega) (by omega) ?_
  exact W.iret (v := nI fg) hx hb hr (fun t ht hW => ⟨⟨(nI fg), (), rfl, rfl, by rw [ht]; exact hP9, va_K.moved hW.alike hK, hD9⟩, hS.F ht⟩) hS.2.2 dX6_ask_1

set_option maxHeartbeats 1000000 in
set_option maxRecDepth 100000 in
/-- X10_ask -/
theorem c_X10_ask (l : Launch) (dC : Nat → ClassId) (dI : Nat → Nat → Nat) (aC : Nat → ClassId) (sz : Nat) (h1 : Nat) (s0 : Int) (fg : Nat) (tie : Int32) (hs : -1 ≤ s0 ∧ s0 ≤ 99) (hfg : fg ≤ 9) : Met l yX10_ask (wW yX10_ask cX10_ask 4 (some .int)) ({ frames := 2, cells := 0, slots := 0, locals := 48 } : Room) (va_Pc [Value.ref h1, Value.int (iI s0), Value.int (nI fg), Value.int tie] (fun U => U.heap.size = sz ∧ va_P (dC, dI) classes [cO h1 10 []] U.heap ∧ va_K (dC, dI) classes (TY aC) U ∧ va_D (fun _ => True) [cO h1 10 []] ∧ NX U)) (va_Qi (fun (r : Int32) (_ : Unit) => r = nI (env tie s0 + fg)) (fun (_ : Unit) (t : State) => va_P (dC, dI) classes [cO h1 10 []] t.heap ∧ va_K (dC, dI) classes (TY aC) t ∧ va_D (va_A [cO h1 10 []] sz) [cO h1 10 []]) (va_A [cO h1 10 []] sz)) 0 0 (va_A [cO h1 10 []] sz) := by
  refine Met.ofW (cc := cX10_ask) (maxL := 4) (ret := (some .int)) (by decide) rfl ?_
  intro p e s m args below meth c s₁ B hml hv
  obtain ⟨rfl, hsz, hP, hK, hD0, hN⟩ := hv
  have hx := B.exec
  have hb := B.bytes
  have hr := B.returns
  have hts0 := atoms_spec (ws := (wW yX10_ask cX10_ask 4 (some .int))) B.pre
  have hts : ∀ w9 ∈ lw_G, w9.before ([Value.ref h1, Value.int (iI s0), Value.int (nI fg), Value.int tie] : List Value).toArray s = true := fun w9 h9 => hts0 w9 (List.mem_cons_of_mem _ h9)
  have hown : s.vm.findClass RX10 = some m.cls := findClass_of_methodNamed (x := yX10_ask) B.named
  have hlocks := B.notSynchronized
  subst hsz
  have hD := hD0.self (sz := s.heap.size)
  generalize hAe : va_A [cO h1 10 []] s.heap.size = A at hD ⊢
  have hA : ∀ q : Nat, s.heap.size ≤ q → A q := fun q h => by rw [← hAe]; exact Or.inr h
  obtain ⟨H, hHe⟩ : ∃ H : Heap, H = s.heap := ⟨_, rfl⟩
  have hS : va_S A s.heap H [] := by rw [hHe]; exact va_S.rf
  have hP : va_P (dC, dI) classes [cO h1 10 []] H := by rw [hHe]; exact hP
  have hl := lv_entry ([Value.ref h1, Value.int (iI s0), Value.int (nI fg), Value.int tie]) (n := 4) (Nat.le_of_ble_eq_true rfl)
  rw [lg_entry_eq]
  generalize (lg_sl ([Value.ref h1, Value.int (iI s0), Value.int (nI fg), Value.int tie]) ++ List.replicate (4 - (lg_sl ([Value.ref h1, Value.int (iI s0), Value.int (nI fg), Value.int tie])).length) Slot.unset).toArray = ls at hl ⊢
  have hl : lv_has ls 4 [(0, Value.ref h1), (1, Value.int (iI s0)), (2, Value.int (nI fg)), (3, Value.int tie)] := hl
  rw [← hHe]
  refine lv_aload_n hx hb dX10_ask_0 rfl (lv_at hl 0 rfl) ?_
  refine lv_iload_n hx hb dX10_ask_1 rfl (lv_at hl 1 rfl) ?_
  refine lv_iload_n hx hb dX10_ask_2 rfl (lv_at hl 2 rfl) ?_
  refine lv_iload_n hx hb dX10_ask_3 rfl (lv_at hl 3 rfl) ?_
  have hpd9 := pdf_N (cx := [cO h1 10 []]) hP hD hS hA [0] (by decide) rfl
  have hPc := hpd9.1
  have hDc := hpd9.2.1
  have hFc := hpd9.2.2
  clear hpd9
  refine va_calli (va_runSU (hK.1 10 _ rfl).2 (As := [Value.int (iI s0), Value.int (nI fg), Value.int tie]) (rest := []) ⟨hx, hb, hml, hown, hts⟩ (c_X3_ask_10 l dC dI aC H.size h1 s0 fg tie (hs) (hfg)) (va_cwSU 3 hts (gcons (gw kw_391 rfl) (gcons (gw kw_1099 rfl) (gcons (gw kw_132 rfl) (gcons (gw kw_377 rfl) (gcons (gw kw_6 rfl) (gG kw_378)))))) rfl rfl rfl (by decide +kernel) ⟨Nat.le_of_ble_eq_true rfl, Nat.le_of_ble_eq_true rfl⟩) ⟨fb_std, va_recv (q := (RX10, TX10, 0)) hK hPc (ci := 10) (q0 := 0) rfl rfl, pre_std hPc hK hDc hN⟩ rfl rfl hl.1 rfl (lv_room (Nat.le_of_ble_eq_true rfl)) dX10_ask_4 ⟨Nat.le_of_ble_eq_true rfl, Nat.le_of_ble_eq_true rfl⟩) hS (fun q _ h => hFc q h) hFc (fun x_1 u9 t9 H1 locs ht hvm hw_1 hB hz1 hk1 hS => ?_)
  obtain ⟨hP1, hK1, hD1⟩ := hB
  rw [ht] at hP1
  clear hK1
  try dsimp only at hw_1
  have hpd9 : PDx (dC, dI) classes A H1 [cO h1 10 []] := jn_N (wr := []) hFc hk1 hP1 hD1 hP hD [0] [] rfl rfl (by decide) (by decide)
  have hP := hpd9.1
  have hD := hpd9.2
  clear hpd9
  generalize H1 = H at hP hS ⊢
  clear hPc hDc hFc hz1 hk1 hP1 hD1 ht hvm
  have hz_4 := hw_1
  refine lv_iload_n hx hb dX10_ask_7 rfl (lv_at hl 2 rfl) ?_
  refine lv_iadd hx hb dX10_ask_8 ?_
  refine lv_topi (fun x_2 e_2 => ?_)
  have hpd9 := pd_N (cx := [cO h1 10 []]) hP hD [0] (by decide) rfl
  have hP9 := hpd9.1
  have hD9 := hpd9.2
  refine W.widen (k := 0) (n := 0) (by omega) (by omega) ?_
  exact W.iret (v := x_2) hx hb hr (fun t ht hW => ⟨⟨x_2, (), rfl, by rw [e_2, hz_4, nI_add], by rw [ht]; exact hP9, va_K.moved hW.alike hK, hD9⟩, hS.F ht⟩) hS.2.2 dX10_ask_9

set_option maxHeartbeats 1000000 in
set_option maxRecDepth 100000 in
/-- X8_ask -/
theorem c_X8_ask (l : Launch) (dC : Nat → ClassId) (dI : Nat → Nat → Nat) (aC : Nat → ClassId) (sz : Nat) (h1 : Nat) (s0 : Int) (fg : Nat) (tie : Int32) (hs : -1 ≤ s0 ∧ s0 ≤ 99) (hfg : fg ≤ 9) : Met l yX8_ask (wW yX8_ask cX8_ask 4 (some .int)) ({ frames := 1, cells := 0, slots := 0, locals := 23 } : Room) (va_Pc [Value.ref h1, Value.int (iI s0), Value.int (nI fg), Value.int tie] (fun U => U.heap.size = sz ∧ va_P (dC, dI) classes [cO h1 8 []] U.heap ∧ va_K (dC, dI) classes (TY aC) U ∧ va_D (fun _ => True) [cO h1 8 []] ∧ NX U)) (va_Qi (fun (r : Int32) (_ : Unit) => r = nI (fg / 2)) (fun (_ : Unit) (t : State) => va_P (dC, dI) classes [cO h1 8 []] t.heap ∧ va_K (dC, dI) classes (TY aC) t ∧ va_D (va_A [cO h1 8 []] sz) [cO h1 8 []]) (va_A [cO h1 8 []] sz)) 0 0 (va_A [cO h1 8 []] sz) := by
  refine Met.ofW (cc := cX8_ask) (maxL := 4) (ret := (some .int)) (by decide) rfl ?_
  intro p e s m args below meth c s₁ B hml hv
  obtain ⟨rfl, hsz, hP, hK, hD0, hN⟩ := hv
  have hx := B.exec
  have hb := B.bytes
  have hr := B.returns
  have hts0 := atoms_spec (ws := (wW yX8_ask cX8_ask 4 (some .int))) B.pre
  have hts : ∀ w9 ∈ lw_G, w9.before ([Value.ref h1, Value.int (iI s0), Value.int (nI fg), Value.int tie] : List Value).toArray s = true := fun w9 h9 => hts0 w9 (List.mem_cons_of_mem _ h9)
  have hown : s.vm.findClass RX8 = some m.cls := findClass_of_methodNamed (x := yX8_ask) B.named
  have hlocks := B.notSynchronized
  subst hsz
  have hD := hD0.self (sz := s.heap.size)
  generalize hAe : va_A [cO h1 8 []] s.heap.size = A at hD ⊢
  have hA : ∀ q : Nat, s.heap.size ≤ q → A q := fun q h => by rw [← hAe]; exact Or.inr h
  obtain ⟨H, hHe⟩ : ∃ H : Heap, H = s.heap := ⟨_, rfl⟩
  have hS : va_S A s.heap H [] := by rw [hHe]; exact va_S.rf
  have hP : va_P (dC, dI) classes [cO h1 8 []] H := by rw [hHe]; exact hP
  have hl := lv_entry ([Value.ref h1, Value.int (iI s0), Value.int (nI fg), Value.int tie]) (n := 4) (Nat.le_of_ble_eq_true rfl)
  rw [lg_entry_eq]
  generalize (lg_sl ([Value.ref h1, Value.int (iI s0), Value.int (nI fg), Value.int tie]) ++ List.replicate (4 - (lg_sl ([Value.ref h1, Value.int (iI s0), Value.int (nI fg), Value.int tie])).length) Slot.unset).toArray = ls at hl ⊢
  have hl : lv_has ls 4 [(0, Value.ref h1), (1, Value.int (iI s0)), (2, Value.int (nI fg)), (3, Value.int tie)] := hl
  rw [← hHe]
  refine lv_aload_n hx hb dX8_ask_0 rfl (lv_at hl 0 rfl) ?_
  refine lv_iload_n hx hb dX8_ask_1 rfl (lv_at hl 1 rfl) ?_
  refine lv_iload_n hx hb dX8_ask_2 rfl (lv_at hl 2 rfl) ?_
  refine lv_iload_n hx hb dX8_ask_3 rfl (lv_at hl 3 rfl) ?_
  have hpd9 := pdf_N (cx := []) hP hD hS hA [] (by decide) rfl
  have hPc := hpd9.1
  have hDc := hpd9.2.1
  have hFc := hpd9.2.2
  clear hpd9
  refine va_calli (va_runSU (hK.1 8 _ rfl).2 (As := [Value.int (iI s0), Value.int (nI fg), Value.int tie]) (rest := []) ⟨hx, hb, hml, hown, hts⟩ (c_X6_ask l dC dI aC H.size h1 s0 fg tie (hs) (hfg)) (va_cwSU 3 hts (gcons (gw kw_387 rfl) (gcons (gw kw_1098 rfl) (gcons (gw kw_139 rfl) (gcons (gw kw_382 rfl) (gcons (gw kw_8 rfl) (gG kw_383)))))) rfl rfl rfl (by decide +kernel) ⟨Nat.le_of_ble_eq_true rfl, Nat.le_of_ble_eq_true rfl⟩) ⟨fb_std, va_recv (q := (RX8, TX8, 0)) hK hP (ci := 8) (q0 := 0) rfl rfl, pre_std hPc hK hDc hN⟩ rfl rfl hl.1 rfl (lv_room (Nat.le_of_ble_eq_true rfl)) dX8_ask_4 ⟨Nat.le_of_ble_eq_true rfl, Nat.le_of_ble_eq_true rfl⟩) hS (fun q _ h => hFc q h) hFc (fun x_1 u9 t9 H1 locs ht hvm hw_1 hB hz1 hk1 hS => ?_)
  obtain ⟨hP1, hK1, hD1⟩ := hB
  rw [ht] at hP1
  clear hK1
  try dsimp only at hw_1
  have hpd9 : PDx (dC, dI) classes A H1 [cO h1 8 []] := jn_N (wr := [cO h1 8 []]) hFc hk1 hP1 hD1 hP hD [] [0] rfl rfl (by decide) (by decide)
  have hP := hpd9.1
  have hD := hpd9.2
  clear hpd9
  generalize H1 = H at hP hS ⊢
  clear hPc hDc hFc hz1 hk1 hP1 hD1 ht hvm
  have hz_4 := hw_1
  refine lv_iconst (v := 2) hx hb dX8_ask_7 (by decide) ?_
  refine lv_idiv hx hb dX8_ask_8 (by decide) ?_
  refine lv_topi (fun x_2 e_2 => ?_)
  have hpd9 := pd_N (cx := [cO h1 8 []]) hP hD [0] (by decide) rfl
  have hP9 := hpd9.1
  have hD9 := hpd9.2
  refine W.widen (k := 0) (n := 0) (by omega) (by omega) ?_
  exact W.iret (v := x_2) hx hb hr (fun t ht hW => ⟨⟨x_2, (), rfl, by rw [e_2, hz_4]; exact pk_div (d := 2) (by omega) (by omega) (by omega), by rw [ht]; exact hP9, va_K.moved hW.alike hK, hD9⟩, hS.F ht⟩) hS.2.2 dX8_ask_9
