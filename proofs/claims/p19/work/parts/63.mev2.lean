set_option maxHeartbeats 1000000 in
set_option maxRecDepth 100000 in
/-- X12_decides -/
theorem c_X12_decides (l : Launch) (dC : Nat → ClassId) (dI : Nat → Nat → Nat) (aC : Nat → ClassId) (sz : Nat) (g0 : Nat) (m_refused : Nat) (m_kind : Nat) (m_figure : Nat) (m_weight : Nat) (m_got : Nat) (m_setting : Nat) (m_tape : Nat) (m_letter : Nat) (m_letterAt : Nat) (m_told : Nat) (m_kept : Nat) (m_price : Nat) (m_offer : Nat) (m_gets : Nat) (m_yes : Nat) (m_buys : Nat) (m_ends : Nat) (m_carried : Nat) (m_row : Nat) (m_keptRow : Nat) (m_likeGets : Nat) (m_likePrice : Nat) (m_ahead : Nat) (tp : Int32) (mat : Int32) (stm : Int32) (him : Int32) (ki : Int32) (crs : Int32) (n : Nat) (sn : Nat) (dn : Int32) (tz : Nat) (T : Nat → Nat) (tof : Nat → Int32) (kf : Nat → Int32) (ff : Nat → Int32) (wf : Nat → Int32) (stf : Nat → Int32) (pf : Nat → Int32) (K : Nat → Nat) (F : Nat → Nat) (W0 : Nat → Nat) (S5 : Nat → Nat) (v : Int32) (hev : EVS n sn dn K F W0 S5 kf ff wf stf) (hw8 : tz ≤ 8) (ht9 : tz = n - sn) (hsn : sn < n) : Met l yX12_decides (wW yX12_decides cX12_decides 5 (some .int)) ({ frames := 1, cells := 0, slots := 0, locals := 23 } : Room) (va_Pc [Value.ref g0, Value.int v] (fun U => U.heap.size = sz ∧ va_P (dC, dI) classes [oX12 g0 m_refused m_kind m_figure m_weight m_got m_setting (nI n) (nI sn) dn m_tape m_letter m_letterAt m_told tp mat stm m_kept him ki crs m_price m_offer m_gets m_yes m_buys m_ends m_carried m_row (nI tz) m_keptRow m_likeGets m_likePrice m_ahead, cI aC m_weight 9 wf, cI aC m_setting 5 stf, cI aC m_row 8 tof, cI aC m_got 8 pf] U.heap ∧ va_K (dC, dI) classes (TY aC) U ∧ va_D (fun _ => True) [oX12 g0 m_refused m_kind m_figure m_weight m_got m_setting (nI n) (nI sn) dn m_tape m_letter m_letterAt m_told tp mat stm m_kept him ki crs m_price m_offer m_gets m_yes m_buys m_ends m_carried m_row (nI tz) m_keptRow m_likeGets m_likePrice m_ahead, cI aC m_weight 9 wf, cI aC m_setting 5 stf, cI aC m_row 8 tof, cI aC m_got 8 pf] ∧ NX U)) (va_Qi (fun (r : Int32) (u : Int32 × Int32 × (Nat → Int32)) => match u with | (sy2, dn2, pg) => r = (if nd (stf 1) (sumr W0 sn (n - sn)) ≤ yw W0 v sn (n - sn) then 1 else 0) ∧ DCD n sn dn W0 (stf 1) v (fun j => tof (j - sn)) pf pg sy2 dn2) (fun (u : Int32 × Int32 × (Nat → Int32)) (t : State) => match u with | (sy2, dn2, pg) => va_P (dC, dI) classes [oX12 g0 m_refused m_kind m_figure m_weight m_got m_setting (nI n) sy2 dn2 m_tape m_letter m_letterAt m_told tp mat stm m_kept him ki crs m_price m_offer m_gets m_yes m_buys m_ends m_carried m_row 0 m_keptRow m_likeGets m_likePrice m_ahead, cI aC m_weight 9 wf, cI aC m_setting 5 stf, cI aC m_row 8 tof, cI aC m_got 8 pg] t.heap ∧ va_K (dC, dI) classes (TY aC) t ∧ va_D (va_A [oX12 g0 m_refused m_kind m_figure m_weight m_got m_setting (nI n) (nI sn) dn m_tape m_letter m_letterAt m_told tp mat stm m_kept him ki crs m_price m_offer m_gets m_yes m_buys m_ends m_carried m_row (nI tz) m_keptRow m_likeGets m_likePrice m_ahead, cI aC m_weight 9 wf, cI aC m_setting 5 stf, cI aC m_row 8 tof, cI aC m_got 8 pf] sz) [oX12 g0 m_refused m_kind m_figure m_weight m_got m_setting (nI n) sy2 dn2 m_tape m_letter m_letterAt m_told tp mat stm m_kept him ki crs m_price m_offer m_gets m_yes m_buys m_ends m_carried m_row 0 m_keptRow m_likeGets m_likePrice m_ahead, cI aC m_weight 9 wf, cI aC m_setting 5 stf, cI aC m_row 8 tof, cI aC m_got 8 pg]) (va_A [oX12 g0 m_refused m_kind m_figure m_weight m_got m_setting (nI n) (nI sn) dn m_tape m_letter m_letterAt m_told tp mat stm m_kept him ki crs m_price m_offer m_gets m_yes m_buys m_ends m_carried m_row (nI tz) m_keptRow m_likeGets m_likePrice m_ahead, cI aC m_weight 9 wf, cI aC m_setting 5 stf, cI aC m_row 8 tof, cI aC m_got 8 pf] sz)) 0 0 (va_A [oX12 g0 m_refused m_kind m_figure m_weight m_got m_setting (nI n) (nI sn) dn m_tape m_letter m_letterAt m_told tp mat stm m_kept him ki crs m_price m_offer m_gets m_yes m_buys m_ends m_carried m_row (nI tz) m_keptRow m_likeGets m_likePrice m_ahead, cI aC m_weight 9 wf, cI aC m_setting 5 stf, cI aC m_row 8 tof, cI aC m_got 8 pf] sz) := by
  refine Met.ofW (cc := cX12_decides) (maxL := 5) (ret := (some .int)) (by decide) rfl ?_
  intro p e s m args below meth c s₁ B hml hv
  obtain ⟨rfl, hsz, hP, hK, hD0, hN⟩ := hv
  have hx := B.exec
  have hb := B.bytes
  have hr := B.returns
  have hts0 := atoms_spec (ws := (wW yX12_decides cX12_decides 5 (some .int))) B.pre
  have hts : ∀ w9 ∈ lw_G, w9.before ([Value.ref g0, Value.int v] : List Value).toArray s = true := fun w9 h9 => hts0 w9 (List.mem_cons_of_mem _ h9)
  have hown : s.vm.findClass RX12 = some m.cls := findClass_of_methodNamed (x := yX12_decides) B.named
  have hlocks := B.notSynchronized
  subst hsz
  have hD := hD0.self (sz := s.heap.size)
  generalize hAe : va_A [oX12 g0 m_refused m_kind m_figure m_weight m_got m_setting (nI n) (nI sn) dn m_tape m_letter m_letterAt m_told tp mat stm m_kept him ki crs m_price m_offer m_gets m_yes m_buys m_ends m_carried m_row (nI tz) m_keptRow m_likeGets m_likePrice m_ahead, cI aC m_weight 9 wf, cI aC m_setting 5 stf, cI aC m_row 8 tof, cI aC m_got 8 pf] s.heap.size = A at hD ⊢
  have hA : ∀ q : Nat, s.heap.size ≤ q → A q := fun q h => by rw [← hAe]; exact Or.inr h
  obtain ⟨H, hHe⟩ : ∃ H : Heap, H = s.heap := ⟨_, rfl⟩
  have hS : va_S A s.heap H [] := by rw [hHe]; exact va_S.rf
  have hP : va_P (dC, dI) classes [oX12 g0 m_refused m_kind m_figure m_weight m_got m_setting (nI n) (nI sn) dn m_tape m_letter m_letterAt m_told tp mat stm m_kept him ki crs m_price m_offer m_gets m_yes m_buys m_ends m_carried m_row (nI tz) m_keptRow m_likeGets m_likePrice m_ahead, cI aC m_weight 9 wf, cI aC m_setting 5 stf, cI aC m_row 8 tof, cI aC m_got 8 pf] H := by rw [hHe]; exact hP
  have hl := lv_entry ([Value.ref g0, Value.int v]) (n := 5) (Nat.le_of_ble_eq_true rfl)
  rw [lg_entry_eq]
  generalize (lg_sl ([Value.ref g0, Value.int v]) ++ List.replicate (5 - (lg_sl ([Value.ref g0, Value.int v])).length) Slot.unset).toArray = ls at hl ⊢
  have hl : lv_has ls 5 [(0, Value.ref g0), (1, Value.int v)] := hl
  rw [← hHe]
  have hn8 := EVS_n hev
  have hy9 := yw_le (W := W0) (y := v) (a := sn) (k := n - sn) (fun j q => ((HW_of hev.1).2 j q).2) (by omega) hn8
  have hs9 := w_le (W := W0) (a := sn) (k := n - sn) (fun j q => ((HW_of hev.1).2 j q).2) (by omega) hn8
  refine lv_aload_n hx hb dX12_decides_0 rfl (lv_at hl 0 rfl) ?_
  refine lv_aload_n hx hb dX12_decides_1 rfl (lv_at hl 0 rfl) ?_
  refine va_get (D := (dC, dI)) (ci := 12) (v := Value.int (nI sn)) (C := RX12) (T := TX12) (N := 33) hx hb hts inX12 hown hK hP 0 rfl rfl 7 (by decide) (hts _ (gw kw_724 rfl)) (fun _ h9 => h9) rfl dX12_decides_2 ?_
  have hpd9 := pdf_N (cx := [oX12 g0 m_refused m_kind m_figure m_weight m_got m_setting (nI n) (nI sn) dn m_tape m_letter m_letterAt m_told tp mat stm m_kept him ki crs m_price m_offer m_gets m_yes m_buys m_ends m_carried m_row (nI tz) m_keptRow m_likeGets m_likePrice m_ahead]) hP hD hS hA [0] (by decide) rfl
  have hPc := hpd9.1
  have hDc := hpd9.2.1
  have hFc := hpd9.2.2
  clear hpd9
  refine va_calli (va_runV (As := [Value.int (nI sn)]) (rest := []) ⟨hx, hb, hml, hown, hts⟩ (c_X12_leftFrom l dC dI aC H.size g0 m_refused m_kind m_figure m_weight m_got m_setting m_tape m_letter m_letterAt m_told m_kept m_price m_offer m_gets m_yes m_buys m_ends m_carried m_row m_keptRow m_likeGets m_likePrice m_ahead (nI sn) dn tp mat stm him ki crs (nI tz) n sn (by omega)) ⟨(callB_of 1 hts (gG kw_922) rfl rfl rfl (hts _ (gw kw_13 rfl)) (hts _ (gw kw_919 rfl)) hd_X12_leftFrom ⟨Nat.le_of_ble_eq_true rfl, Nat.le_of_ble_eq_true rfl⟩), (hts _ (gw kw_921 rfl)), (hts _ (gw ks_50 rfl))⟩ ⟨fb_std, va_recv (q := (RX12, TX12, 33)) hK hPc (ci := 12) (q0 := 0) rfl rfl, pre_std hPc hK hDc hN⟩ rfl rfl hl.1 rfl (lv_room (Nat.le_of_ble_eq_true rfl)) dX12_decides_5 ⟨Nat.le_of_ble_eq_true rfl, Nat.le_of_ble_eq_true rfl⟩) hS (fun q _ h => hFc q h) hFc (fun x_1 u9 t9 H1 locs ht hvm hw_1 hB hz1 hk1 hS => ?_)
  obtain ⟨hP1, hK1, hD1⟩ := hB
  rw [ht] at hP1
  clear hK1
  try dsimp only at hw_1
  have hpd9 : PDx (dC, dI) classes A H1 [cI aC m_weight 9 wf, cI aC m_setting 5 stf, cI aC m_row 8 tof, cI aC m_got 8 pf, oX12 g0 m_refused m_kind m_figure m_weight m_got m_setting (nI n) (nI sn) dn m_tape m_letter m_letterAt m_told tp mat stm m_kept him ki crs m_price m_offer m_gets m_yes m_buys m_ends m_carried m_row (nI tz) m_keptRow m_likeGets m_likePrice m_ahead] := jn_N (wr := [cI aC m_weight 9 wf, cI aC m_setting 5 stf, cI aC m_row 8 tof, cI aC m_got 8 pf]) hFc hk1 hP1 hD1 hP hD [0] [1, 2, 3, 4] rfl rfl (by decide) (by decide)
  have hP := hpd9.1
  have hD := hpd9.2
  clear hpd9
  generalize H1 = H at hP hS ⊢
  clear hPc hDc hFc hz1 hk1 hP1 hD1 ht hvm
  have hlf := hw_1
  refine lv_istore_n (lv' := [(2, Value.int x_1), (0, Value.ref g0), (1, Value.int v)]) hx hb dX12_decides_8 rfl hl (by decide) rfl (fun ls hl => ?_)
  refine lv_aload_n hx hb dX12_decides_9 rfl (lv_at hl 1 rfl) ?_
  refine va_get (D := (dC, dI)) (ci := 12) (v := Value.ref m_setting) (C := RX12) (T := TX12) (N := 33) hx hb hts inX12 hown hK hP 4 rfl rfl 5 (by decide) (hts _ (gw kw_722 rfl)) (fun _ h9 => h9) rfl dX12_decides_10 ?_
  refine lv_iconst (v := 1) hx hb dX12_decides_13 (by decide) ?_
  have h_2 : vp_in 1 5 := by unfold vp_in; decide
  refine va_iald hx hb hK hP 1 0 rfl rfl h_2 dX12_decides_14 ?_
  refine lv_topi (fun x_3 e_3 => ?_)
  have h9 : x_3 = (stf 1) := by rw [e_3]; rfl
  subst h9
  refine lv_aload_n hx hb dX12_decides_15 rfl (lv_at hl 1 rfl) ?_
  refine lv_iload_n hx hb dX12_decides_16 rfl (lv_at hl 2 rfl) ?_
  refine lv_iload_n hx hb dX12_decides_17 rfl (lv_at hl 0 rfl) ?_
  refine lv_iand hx hb dX12_decides_18 ?_
  refine lv_topi (fun x_4 e_4 => ?_)
  have hpd9 := pdf_N (cx := [oX12 g0 m_refused m_kind m_figure m_weight m_got m_setting (nI n) (nI sn) dn m_tape m_letter m_letterAt m_told tp mat stm m_kept him ki crs m_price m_offer m_gets m_yes m_buys m_ends m_carried m_row (nI tz) m_keptRow m_likeGets m_likePrice m_ahead, cI aC m_weight 9 wf]) hP hD hS hA [4, 0] (by decide) rfl
  have hPc := hpd9.1
  have hDc := hpd9.2.1
  have hFc := hpd9.2.2
  clear hpd9
  refine va_calli (va_runV (As := [Value.int x_4]) (rest := [Value.int (stf 1)]) ⟨hx, hb, hml, hown, hts⟩ (c_X12_weightOf l dC dI aC H.size g0 m_refused m_kind m_figure m_weight m_got m_setting m_tape m_letter m_letterAt m_told m_kept m_price m_offer m_gets m_yes m_buys m_ends m_carried m_row m_keptRow m_likeGets m_likePrice m_ahead (nI sn) dn tp mat stm him ki crs (nI tz) n wf W0 x_4 (HW_of hev.1)) ⟨(callB_of 1 hts (gG kw_930) rfl rfl rfl (hts _ (gw kw_13 rfl)) (hts _ (gw kw_927 rfl)) hd_X12_weightOf ⟨Nat.le_of_ble_eq_true rfl, Nat.le_of_ble_eq_true rfl⟩), (hts _ (gw kw_929 rfl)), (hts _ (gw ks_52 rfl))⟩ ⟨fb_std, va_recv (q := (RX12, TX12, 33)) hK hPc (ci := 12) (q0 := 0) rfl rfl, pre_std hPc hK hDc hN⟩ rfl rfl hl.1 rfl (lv_room (Nat.le_of_ble_eq_true rfl)) dX12_decides_19 ⟨Nat.le_of_ble_eq_true rfl, Nat.le_of_ble_eq_true rfl⟩) hS (fun q _ h => hFc q h) hFc (fun x_5 u9 t9 H1 locs ht hvm hw_5 hB hz1 hk1 hS => ?_)
  obtain ⟨hP1, hK1, hD1⟩ := hB
  rw [ht] at hP1
  clear hK1
  try dsimp only at hw_5
  have hpd9 : PDx (dC, dI) classes A H1 [cI aC m_setting 5 stf, cI aC m_row 8 tof, cI aC m_got 8 pf, oX12 g0 m_refused m_kind m_figure m_weight m_got m_setting (nI n) (nI sn) dn m_tape m_letter m_letterAt m_told tp mat stm m_kept him ki crs m_price m_offer m_gets m_yes m_buys m_ends m_carried m_row (nI tz) m_keptRow m_likeGets m_likePrice m_ahead, cI aC m_weight 9 wf] := jn_N (wr := [cI aC m_setting 5 stf, cI aC m_row 8 tof, cI aC m_got 8 pf]) hFc hk1 hP1 hD1 hP hD [4, 0] [1, 2, 3] rfl rfl (by decide) (by decide)
  have hP := hpd9.1
  have hD := hpd9.2
  clear hpd9
  generalize H1 = H at hP hS ⊢
  clear hPc hDc hFc hz1 hk1 hP1 hD1 ht hvm
  have h9 : x_5 = nI (yw W0 v sn (n - sn)) := by rw [hw_5, e_4, yw_and (by omega) hn8 hlf]
  subst h9
  refine lv_aload_n hx hb dX12_decides_22 rfl (lv_at hl 1 rfl) ?_
  refine lv_iload_n hx hb dX12_decides_23 rfl (lv_at hl 0 rfl) ?_
  have hpd9 := pdf_N (cx := [oX12 g0 m_refused m_kind m_figure m_weight m_got m_setting (nI n) (nI sn) dn m_tape m_letter m_letterAt m_told tp mat stm m_kept him ki crs m_price m_offer m_gets m_yes m_buys m_ends m_carried m_row (nI tz) m_keptRow m_likeGets m_likePrice m_ahead, cI aC m_weight 9 wf]) hP hD hS hA [3, 4] (by decide) rfl
  have hPc := hpd9.1
  have hDc := hpd9.2.1
  have hFc := hpd9.2.2
  clear hpd9
  refine va_calli (va_runV (As := [Value.int x_1]) (rest := [Value.int (nI (yw W0 v sn (n - sn))), Value.int (stf 1)]) ⟨hx, hb, hml, hown, hts⟩ (c_X12_weightOf l dC dI aC H.size g0 m_refused m_kind m_figure m_weight m_got m_setting m_tape m_letter m_letterAt m_told m_kept m_price m_offer m_gets m_yes m_buys m_ends m_carried m_row m_keptRow m_likeGets m_likePrice m_ahead (nI sn) dn tp mat stm him ki crs (nI tz) n wf W0 x_1 (HW_of hev.1)) ⟨(callB_of 1 hts (gG kw_930) rfl rfl rfl (hts _ (gw kw_13 rfl)) (hts _ (gw kw_927 rfl)) hd_X12_weightOf ⟨Nat.le_of_ble_eq_true rfl, Nat.le_of_ble_eq_true rfl⟩), (hts _ (gw kw_929 rfl)), (hts _ (gw ks_52 rfl))⟩ ⟨fb_std, va_recv (q := (RX12, TX12, 33)) hK hPc (ci := 12) (q0 := 0) rfl rfl, pre_std hPc hK hDc hN⟩ rfl rfl hl.1 rfl (lv_room (Nat.le_of_ble_eq_true rfl)) dX12_decides_24 ⟨Nat.le_of_ble_eq_true rfl, Nat.le_of_ble_eq_true rfl⟩) hS (fun q _ h => hFc q h) hFc (fun x_6 u9 t9 H1 locs ht hvm hw_6 hB hz1 hk1 hS => ?_)
  obtain ⟨hP1, hK1, hD1⟩ := hB
  rw [ht] at hP1
  clear hK1
  try dsimp only at hw_6
  have hpd9 : PDx (dC, dI) classes A H1 [cI aC m_setting 5 stf, cI aC m_row 8 tof, cI aC m_got 8 pf, oX12 g0 m_refused m_kind m_figure m_weight m_got m_setting (nI n) (nI sn) dn m_tape m_letter m_letterAt m_told tp mat stm m_kept him ki crs m_price m_offer m_gets m_yes m_buys m_ends m_carried m_row (nI tz) m_keptRow m_likeGets m_likePrice m_ahead, cI aC m_weight 9 wf] := jn_N (wr := [cI aC m_setting 5 stf, cI aC m_row 8 tof, cI aC m_got 8 pf]) hFc hk1 hP1 hD1 hP hD [3, 4] [0, 1, 2] rfl rfl (by decide) (by decide)
  have hP := hpd9.1
  have hD := hpd9.2
  clear hpd9
  generalize H1 = H at hP hS ⊢
  clear hPc hDc hFc hz1 hk1 hP1 hD1 ht hvm
  have h9 : x_6 = nI (sumr W0 sn (n - sn)) := by rw [hw_6, yw_left (by omega) hn8 hlf]
  subst h9
  have hpd9 := pdf_N (cx := []) hP hD hS hA [] (by decide) rfl
  have hPc := hpd9.1
  have hDc := hpd9.2.1
  have hFc := hpd9.2.2
  clear hpd9
  refine va_calli (va_runS (As := [Value.int (stf 1), Value.int (nI (yw W0 v sn (n - sn))), Value.int (nI (sumr W0 sn (n - sn)))]) (rest := []) ⟨hx, hb, hml, hown, hts⟩ (c_X12_isCarried l dC dI aC H.size (stf 1) (yw W0 v sn (n - sn)) (sumr W0 sn (n - sn)) (by omega) (by omega)) ⟨(callB_of 3 hts (gG kw_933) rfl rfl rfl (hts _ (gw kw_13 rfl)) (hts _ (gw kw_931 rfl)) hd_X12_isCarried ⟨Nat.le_of_ble_eq_true rfl, Nat.le_of_ble_eq_true rfl⟩), (hts _ (gw kw_932 rfl))⟩ ⟨fb_std, pre_std hPc hK hDc hN⟩ rfl rfl hl.1 rfl (lv_room (Nat.le_of_ble_eq_true rfl)) dX12_decides_27 ⟨Nat.le_of_ble_eq_true rfl, Nat.le_of_ble_eq_true rfl⟩) hS (fun q _ h => hFc q h) hFc (fun x_7 u9 t9 H1 locs ht hvm hw_7 hB hz1 hk1 hS => ?_)
  obtain ⟨hP1, hK1, hD1⟩ := hB
  rw [ht] at hP1
  clear hK1
  try dsimp only at hw_7
  have hpd9 : PDx (dC, dI) classes A H1 [cI aC m_setting 5 stf, cI aC m_row 8 tof, cI aC m_got 8 pf, oX12 g0 m_refused m_kind m_figure m_weight m_got m_setting (nI n) (nI sn) dn m_tape m_letter m_letterAt m_told tp mat stm m_kept him ki crs m_price m_offer m_gets m_yes m_buys m_ends m_carried m_row (nI tz) m_keptRow m_likeGets m_likePrice m_ahead, cI aC m_weight 9 wf] := jn_N (wr := [cI aC m_setting 5 stf, cI aC m_row 8 tof, cI aC m_got 8 pf, oX12 g0 m_refused m_kind m_figure m_weight m_got m_setting (nI n) (nI sn) dn m_tape m_letter m_letterAt m_told tp mat stm m_kept him ki crs m_price m_offer m_gets m_yes m_buys m_ends m_carried m_row (nI tz) m_keptRow m_likeGets m_likePrice m_ahead, cI aC m_weight 9 wf]) hFc hk1 hP1 hD1 hP hD [] [0, 1, 2, 3, 4] rfl rfl (by decide) (by decide)
  have hP := hpd9.1
  have hD := hpd9.2
  clear hpd9
  generalize H1 = H at hP hS ⊢
  clear hPc hDc hFc hz1 hk1 hP1 hD1 ht hvm
  have hz_27 := hw_7
  refine lv_istore_n (lv' := [(3, Value.int x_7), (2, Value.int x_1), (0, Value.ref g0), (1, Value.int v)]) hx hb dX12_decides_30 rfl hl (by decide) rfl (fun ls hl => ?_)
  refine lv_iload_n hx hb dX12_decides_31 rfl (lv_at hl 0 rfl) ?_
  refine lv_if_eq (tgt := 80) hx hb dX12_decides_32 (by decide) (fun c_8 => ?_) (fun c_8 => ?_)
  · have hcar : ¬ CAR n W0 (stf 1) sn v := fun q => absurd (hz_27.symm.trans c_8) (by rw [if_pos (show nd (stf 1) (sumr W0 sn (n - sn)) ≤ yw W0 v sn (n - sn) from q)]; decide)
    refine lv_aload_n hx hb dX12_decides_80 rfl (lv_at hl 2 rfl) ?_
    refine va_get (D := (dC, dI)) (ci := 12) (v := Value.ref m_got) (C := RX12) (T := TX12) (N := 33) hx hb hts inX12 hown hK hP 3 rfl rfl 4 (by decide) (hts _ (gw kw_721 rfl)) (fun _ h9 => h9) rfl dX12_decides_81 ?_
    refine lv_aload_n hx hb dX12_decides_84 rfl (lv_at hl 2 rfl) ?_
    refine va_get (D := (dC, dI)) (ci := 12) (v := Value.int (nI sn)) (C := RX12) (T := TX12) (N := 33) hx hb hts inX12 hown hK hP 3 rfl rfl 7 (by decide) (hts _ (gw kw_724 rfl)) (fun _ h9 => h9) rfl dX12_decides_85 ?_
    refine lv_iconst (v := -1) hx hb dX12_decides_88 (by decide) ?_
    have h_9 : vp_in (nI sn) 8 := by first | exact vp_in_nI (by omega) (by omega) | (unfold vp_in; decide) | (subst_vars; first | (unfold vp_in; decide) | exact vp_in_nI (by omega) (by omega))
    refine va_iast hx hb hK hP hD hS 2 0 rfl rfl h_9 dX12_decides_89 (fun H locs hP hD hS => ?_)
    obtain ⟨f_10, e_f_10⟩ : ∃ y : Nat → Int32, y = upd pf (nI sn : Int32).toNatClampNeg (-1) := ⟨_, rfl⟩
    have hpd9 : PDx (dC, dI) classes A H [cI aC m_setting 5 stf, cI aC m_row 8 tof, cI aC m_got 8 f_10, oX12 g0 m_refused m_kind m_figure m_weight m_got m_setting (nI n) (nI sn) dn m_tape m_letter m_letterAt m_told tp mat stm m_kept him ki crs m_price m_offer m_gets m_yes m_buys m_ends m_carried m_row (nI tz) m_keptRow m_likeGets m_likePrice m_ahead, cI aC m_weight 9 wf] := by rw [e_f_10]; exact ⟨hP, hD⟩
    have hP := hpd9.1
    have hD := hpd9.2
    clear hpd9
    refine lv_aload_n hx hb dX12_decides_90 rfl (lv_at hl 2 rfl) ?_
    refine va_get (D := (dC, dI)) (ci := 12) (v := Value.int (nI sn)) (C := RX12) (T := TX12) (N := 33) hx hb hts inX12 hown hK hP 3 rfl rfl 7 (by decide) (hts _ (gw kw_724 rfl)) (fun _ h9 => h9) rfl dX12_decides_91 ?_
    refine lv_aload_n hx hb dX12_decides_94 rfl (lv_at hl 2 rfl) ?_
    refine va_get (D := (dC, dI)) (ci := 12) (v := Value.int (nI n)) (C := RX12) (T := TX12) (N := 33) hx hb hts inX12 hown hK hP 3 rfl rfl 6 (by decide) (hts _ (gw kw_723 rfl)) (fun _ h9 => h9) rfl dX12_decides_95 ?_
    refine lv_iconst (v := 1) hx hb dX12_decides_98 (by decide) ?_
    refine lv_isub hx hb dX12_decides_99 ?_
    refine lv_topi (fun x_11 e_11 => ?_)
    have h9 : x_11 = (nI n - 1) := e_11
    subst h9
    refine lv_icmp_ne (tgt := 111) hx hb dX12_decides_100 (by decide) (fun c_12 => ?_) (fun c_12 => ?_)
    · refine lv_aload_n hx hb dX12_decides_111 rfl (lv_at hl 2 rfl) ?_
      refine lv_dup hx hb dX12_decides_112 rfl ?_
      refine va_get (D := (dC, dI)) (ci := 12) (v := Value.int (nI sn)) (C := RX12) (T := TX12) (N := 33) hx hb hts inX12 hown hK hP 3 rfl rfl 7 (by decide) (hts _ (gw kw_724 rfl)) (fun _ h9 => h9) rfl dX12_decides_113 ?_
      refine lv_iconst (v := 1) hx hb dX12_decides_116 (by decide) ?_
      refine lv_iadd hx hb dX12_decides_117 ?_
      refine lv_topi (fun x_13 e_13 => ?_)
      have h9 : x_13 = nI (sn + 1) := by rw [e_13, nI_1]
      subst h9
      refine va_put (D := (dC, dI)) (ci := 12) (v := Value.int (nI (sn + 1))) (ty := .int) (C := RX12) (T := TX12) (N := 33) hx hb hts inX12 tyX12 tyX12_ok nmX12 hown hK hP hD hS 3 rfl rfl 7 (by decide) (hts _ (gw kw_724 rfl)) (fun _ h9 => h9) rfl (by decide +kernel) rfl rfl (Nat.le_of_ble_eq_true rfl) dX12_decides_118 (fun H locs hP hD hS => ?_)
      have hpd9 : PDx (dC, dI) classes A H [cI aC m_setting 5 stf, cI aC m_row 8 tof, cI aC m_got 8 f_10, oX12 g0 m_refused m_kind m_figure m_weight m_got m_setting (nI n) (nI (sn + 1)) dn m_tape m_letter m_letterAt m_told tp mat stm m_kept him ki crs m_price m_offer m_gets m_yes m_buys m_ends m_carried m_row (nI tz) m_keptRow m_likeGets m_likePrice m_ahead, cI aC m_weight 9 wf] := ⟨hP, hD⟩
      have hP := hpd9.1
      have hD := hpd9.2
      clear hpd9
      refine lv_aload_n hx hb dX12_decides_121 rfl (lv_at hl 2 rfl) ?_
      refine lv_iconst (v := 0) hx hb dX12_decides_122 (by decide) ?_
      refine va_put (D := (dC, dI)) (ci := 12) (v := Value.int 0) (ty := .int) (C := RX12) (T := TX12) (N := 33) hx hb hts inX12 tyX12 tyX12_ok nmX12 hown hK hP hD hS 3 rfl rfl 28 (by decide) (hts _ (gw kw_745 rfl)) (fun _ h9 => h9) rfl (by decide +kernel) rfl rfl (Nat.le_of_ble_eq_true rfl) dX12_decides_123 (fun H locs hP hD hS => ?_)
      have hpd9 : PDx (dC, dI) classes A H [cI aC m_setting 5 stf, cI aC m_row 8 tof, cI aC m_got 8 f_10, oX12 g0 m_refused m_kind m_figure m_weight m_got m_setting (nI n) (nI (sn + 1)) dn m_tape m_letter m_letterAt m_told tp mat stm m_kept him ki crs m_price m_offer m_gets m_yes m_buys m_ends m_carried m_row 0 m_keptRow m_likeGets m_likePrice m_ahead, cI aC m_weight 9 wf] := ⟨hP, hD⟩
      have hP := hpd9.1
      have hD := hpd9.2
      clear hpd9
      refine lv_iload_n hx hb dX12_decides_126 rfl (lv_at hl 0 rfl) ?_
      refine lv_if_eq (tgt := 134) hx hb dX12_decides_127 (by decide) (fun c_14 => ?_) (fun c_14 => ?_)
      · refine lv_iconst (v := 0) hx hb dX12_decides_134 (by decide) ?_
        have hpd9 := pd_N (cx := [oX12 g0 m_refused m_kind m_figure m_weight m_got m_setting (nI n) (nI (sn + 1)) dn m_tape m_letter m_letterAt m_told tp mat stm m_kept him ki crs m_price m_offer m_gets m_yes m_buys m_ends m_carried m_row 0 m_keptRow m_likeGets m_likePrice m_ahead, cI aC m_weight 9 wf, cI aC m_setting 5 stf, cI aC m_row 8 tof, cI aC m_got 8 f_10]) hP hD [3, 4, 0, 1, 2] (by decide) rfl
        have hP9 := hpd9.1
        have hD9 := hpd9.2
        refine W.widen (k := 0) (n := 0) (by omega) (by omega) ?_
        exact W.iret (v := 0) hx hb hr (fun t ht hW => ⟨⟨0, ((nI (sn + 1)), dn, f_10), rfl, ⟨by unfold CAR at hcar; rw [if_neg hcar], ⟨fun q => absurd q hcar, fun _ => ⟨fun j hj => by rw [e_f_10, nI_clamp (by omega)]; by_cases e : j = sn <;> first | (rw [e, pk_us, if_pos rfl]; done) | (rw [pk_un e, if_neg e]), ⟨fun _ => ⟨rfl, rfl⟩, fun q => absurd (by rw [nI_iI, nI_iI, ← iI_1, iI_sub]; congr 1; omega) c_12⟩⟩⟩⟩, by rw [ht]; exact hP9, va_K.moved hW.alike hK, hD9⟩, hS.F ht⟩) hS.2.2 dX12_decides_135
      · exact absurd c_8 c_14
    · refine lv_aload_n hx hb dX12_decides_103 rfl (lv_at hl 2 rfl) ?_
      refine lv_iconst (v := 1) hx hb dX12_decides_104 (by decide) ?_
      refine va_put (D := (dC, dI)) (ci := 12) (v := Value.int 1) (ty := .int) (C := RX12) (T := TX12) (N := 33) hx hb hts inX12 tyX12 tyX12_ok nmX12 hown hK hP hD hS 3 rfl rfl 8 (by decide) (hts _ (gw kw_725 rfl)) (fun _ h9 => h9) rfl (by decide +kernel) rfl rfl (Nat.le_of_ble_eq_true rfl) dX12_decides_105 (fun H locs hP hD hS => ?_)
      have hpd9 : PDx (dC, dI) classes A H [cI aC m_setting 5 stf, cI aC m_row 8 tof, cI aC m_got 8 f_10, oX12 g0 m_refused m_kind m_figure m_weight m_got m_setting (nI n) (nI sn) 1 m_tape m_letter m_letterAt m_told tp mat stm m_kept him ki crs m_price m_offer m_gets m_yes m_buys m_ends m_carried m_row (nI tz) m_keptRow m_likeGets m_likePrice m_ahead, cI aC m_weight 9 wf] := ⟨hP, hD⟩
      have hP := hpd9.1
      have hD := hpd9.2
      clear hpd9
      refine lv_goto (tgt := 121) hx hb dX12_decides_108 (by decide) ?_
      refine lv_aload_n hx hb dX12_decides_121 rfl (lv_at hl 2 rfl) ?_
      refine lv_iconst (v := 0) hx hb dX12_decides_122 (by decide) ?_
      refine va_put (D := (dC, dI)) (ci := 12) (v := Value.int 0) (ty := .int) (C := RX12) (T := TX12) (N := 33) hx hb hts inX12 tyX12 tyX12_ok nmX12 hown hK hP hD hS 3 rfl rfl 28 (by decide) (hts _ (gw kw_745 rfl)) (fun _ h9 => h9) rfl (by decide +kernel) rfl rfl (Nat.le_of_ble_eq_true rfl) dX12_decides_123 (fun H locs hP hD hS => ?_)
      have hpd9 : PDx (dC, dI) classes A H [cI aC m_setting 5 stf, cI aC m_row 8 tof, cI aC m_got 8 f_10, oX12 g0 m_refused m_kind m_figure m_weight m_got m_setting (nI n) (nI sn) 1 m_tape m_letter m_letterAt m_told tp mat stm m_kept him ki crs m_price m_offer m_gets m_yes m_buys m_ends m_carried m_row 0 m_keptRow m_likeGets m_likePrice m_ahead, cI aC m_weight 9 wf] := ⟨hP, hD⟩
      have hP := hpd9.1
      have hD := hpd9.2
      clear hpd9
      refine lv_iload_n hx hb dX12_decides_126 rfl (lv_at hl 0 rfl) ?_
      refine lv_if_eq (tgt := 134) hx hb dX12_decides_127 (by decide) (fun c_15 => ?_) (fun c_15 => ?_)
      · refine lv_iconst (v := 0) hx hb dX12_decides_134 (by decide) ?_
        have hpd9 := pd_N (cx := [oX12 g0 m_refused m_kind m_figure m_weight m_got m_setting (nI n) (nI sn) 1 m_tape m_letter m_letterAt m_told tp mat stm m_kept him ki crs m_price m_offer m_gets m_yes m_buys m_ends m_carried m_row 0 m_keptRow m_likeGets m_likePrice m_ahead, cI aC m_weight 9 wf, cI aC m_setting 5 stf, cI aC m_row 8 tof, cI aC m_got 8 f_10]) hP hD [3, 4, 0, 1, 2] (by decide) rfl
        have hP9 := hpd9.1
        have hD9 := hpd9.2
        refine W.widen (k := 0) (n := 0) (by omega) (by omega) ?_
        exact W.iret (v := 0) hx hb hr (fun t ht hW => ⟨⟨0, ((nI sn), 1, f_10), rfl, ⟨by unfold CAR at hcar; rw [if_neg hcar], ⟨fun q => absurd q hcar, fun _ => ⟨fun j hj => by rw [e_f_10, nI_clamp (by omega)]; by_cases e : j = sn <;> first | (rw [e, pk_us, if_pos rfl]; done) | (rw [pk_un e, if_neg e]), ⟨fun q => by have h7 := c_12; rw [nI_iI, nI_iI, ← iI_1, iI_sub] at h7; have h6 := (iI_eq (by unfold sm; omega) (by unfold sm; omega)).mp h7; omega, fun _ => ⟨rfl, rfl⟩⟩⟩⟩⟩, by rw [ht]; exact hP9, va_K.moved hW.alike hK, hD9⟩, hS.F ht⟩) hS.2.2 dX12_decides_135
      · exact absurd c_8 c_15
  · have hcar : CAR n W0 (stf 1) sn v := by
      by_cases q : nd (stf 1) (sumr W0 sn (n - sn)) ≤ yw W0 v sn (n - sn)
      · exact q
      · exact absurd (by rw [hz_27, if_neg q]) c_8
    refine lv_iconst (v := 0) hx hb dX12_decides_35 (by decide) ?_
    refine lv_istore (lv' := [(4, Value.int 0), (3, Value.int x_7), (2, Value.int x_1), (0, Value.ref g0), (1, Value.int v)]) hx hb dX12_decides_36 hl (by decide) rfl (fun ls hl => ?_)
    have lp_38 : ∀ (fu : Nat) (k : Nat) (pc9 : Nat → Int32) (hfu : tz - k < fu) (hk : k ≤ tz) (hp : ∀ q, q < 8 → pc9 q = if sn ≤ q ∧ q < sn + k then tof (q - sn) else pf q) (H : Heap) (locs : List Loc) (ls : Array Slot), va_P (dC, dI) classes [cI aC m_setting 5 stf, cI aC m_row 8 tof, cI aC m_got 8 pc9, oX12 g0 m_refused m_kind m_figure m_weight m_got m_setting (nI n) (nI sn) dn m_tape m_letter m_letterAt m_told tp mat stm m_kept him ki crs m_price m_offer m_gets m_yes m_buys m_ends m_carried m_row (nI tz) m_keptRow m_likeGets m_likePrice m_ahead, cI aC m_weight 9 wf] H → va_D A [cI aC m_setting 5 stf, cI aC m_row 8 tof, cI aC m_got 8 pc9, oX12 g0 m_refused m_kind m_figure m_weight m_got m_setting (nI n) (nI sn) dn m_tape m_letter m_letterAt m_told tp mat stm m_kept him ki crs m_price m_offer m_gets m_yes m_buys m_ends m_carried m_row (nI tz) m_keptRow m_likeGets m_likePrice m_ahead, cI aC m_weight 9 wf] → va_S A s.heap H locs → lv_has ls 5 [(0, Value.ref g0), (1, Value.int v), (2, Value.int x_1), (3, Value.int x_7), (4, Value.int (nI k))] → W p l e (headSpec (wW yX12_decides cX12_decides 5 (some .int)) ({ frames := 1, cells := 0, slots := 0, locals := 23 } : Room)).room s m ([Value.ref g0, Value.int v] : List Value).toArray below meth c H locs 0 0 (MQ below (va_Qi (fun (r : Int32) (u : Int32 × Int32 × (Nat → Int32)) => match u with | (sy2, dn2, pg) => r = (if nd (stf 1) (sumr W0 sn (n - sn)) ≤ yw W0 v sn (n - sn) then 1 else 0) ∧ DCD n sn dn W0 (stf 1) v (fun j => tof (j - sn)) pf pg sy2 dn2) (fun (u : Int32 × Int32 × (Nat → Int32)) (t : State) => match u with | (sy2, dn2, pg) => va_P (dC, dI) classes [oX12 g0 m_refused m_kind m_figure m_weight m_got m_setting (nI n) sy2 dn2 m_tape m_letter m_letterAt m_told tp mat stm m_kept him ki crs m_price m_offer m_gets m_yes m_buys m_ends m_carried m_row 0 m_keptRow m_likeGets m_likePrice m_ahead, cI aC m_weight 9 wf, cI aC m_setting 5 stf, cI aC m_row 8 tof, cI aC m_got 8 pg] t.heap ∧ va_K (dC, dI) classes (TY aC) t ∧ va_D A [oX12 g0 m_refused m_kind m_figure m_weight m_got m_setting (nI n) sy2 dn2 m_tape m_letter m_letterAt m_told tp mat stm m_kept him ki crs m_price m_offer m_gets m_yes m_buys m_ends m_carried m_row 0 m_keptRow m_likeGets m_likePrice m_ahead, cI aC m_weight 9 wf, cI aC m_setting 5 stf, cI aC m_row 8 tof, cI aC m_got 8 pg]) A) ([Value.ref g0, Value.int v] : List Value).toArray s 0 0 A) (F0 m 38 ls []) := by
      intro fu
      induction fu with
      | zero => intro k pc9 hfu; exact absurd hfu (Nat.not_lt_zero _)
      | succ fu ih_38 =>
        intro k pc9 hfu hk hp H locs ls hP hD hS hl
        refine lv_iload hx hb dX12_decides_38 (lv_at hl 4 rfl) ?_
        refine lv_aload_n hx hb dX12_decides_40 rfl (lv_at hl 0 rfl) ?_
        refine va_get (D := (dC, dI)) (ci := 12) (v := Value.int (nI tz)) (C := RX12) (T := TX12) (N := 33) hx hb hts inX12 hown hK hP 3 rfl rfl 28 (by decide) (hts _ (gw kw_745 rfl)) (fun _ h9 => h9) rfl dX12_decides_41 ?_
        refine lv_icmp_ge (tgt := 72) hx hb dX12_decides_44 (by decide) (fun c_16 => ?_) (fun c_16 => ?_)
        · have hjn : k = tz := by
            rcases Nat.lt_or_ge k tz with q | q
            · exact absurd c_16 (nI_ge q (by omega))
            · omega
          refine lv_aload_n hx hb dX12_decides_72 rfl (lv_at hl 0 rfl) ?_
          refine lv_iconst (v := 1) hx hb dX12_decides_73 (by decide) ?_
          refine va_put (D := (dC, dI)) (ci := 12) (v := Value.int 1) (ty := .int) (C := RX12) (T := TX12) (N := 33) hx hb hts inX12 tyX12 tyX12_ok nmX12 hown hK hP hD hS 3 rfl rfl 8 (by decide) (hts _ (gw kw_725 rfl)) (fun _ h9 => h9) rfl (by decide +kernel) rfl rfl (Nat.le_of_ble_eq_true rfl) dX12_decides_74 (fun H locs hP hD hS => ?_)
          have hpd9 : PDx (dC, dI) classes A H [cI aC m_setting 5 stf, cI aC m_row 8 tof, cI aC m_got 8 pc9, oX12 g0 m_refused m_kind m_figure m_weight m_got m_setting (nI n) (nI sn) 1 m_tape m_letter m_letterAt m_told tp mat stm m_kept him ki crs m_price m_offer m_gets m_yes m_buys m_ends m_carried m_row (nI tz) m_keptRow m_likeGets m_likePrice m_ahead, cI aC m_weight 9 wf] := ⟨hP, hD⟩
          have hP := hpd9.1
          have hD := hpd9.2
          clear hpd9
          refine lv_goto (tgt := 121) hx hb dX12_decides_77 (by decide) ?_
          refine lv_aload_n hx hb dX12_decides_121 rfl (lv_at hl 0 rfl) ?_
          refine lv_iconst (v := 0) hx hb dX12_decides_122 (by decide) ?_
          refine va_put (D := (dC, dI)) (ci := 12) (v := Value.int 0) (ty := .int) (C := RX12) (T := TX12) (N := 33) hx hb hts inX12 tyX12 tyX12_ok nmX12 hown hK hP hD hS 3 rfl rfl 28 (by decide) (hts _ (gw kw_745 rfl)) (fun _ h9 => h9) rfl (by decide +kernel) rfl rfl (Nat.le_of_ble_eq_true rfl) dX12_decides_123 (fun H locs hP hD hS => ?_)
          have hpd9 : PDx (dC, dI) classes A H [cI aC m_setting 5 stf, cI aC m_row 8 tof, cI aC m_got 8 pc9, oX12 g0 m_refused m_kind m_figure m_weight m_got m_setting (nI n) (nI sn) 1 m_tape m_letter m_letterAt m_told tp mat stm m_kept him ki crs m_price m_offer m_gets m_yes m_buys m_ends m_carried m_row 0 m_keptRow m_likeGets m_likePrice m_ahead, cI aC m_weight 9 wf] := ⟨hP, hD⟩
          have hP := hpd9.1
          have hD := hpd9.2
          clear hpd9
          refine lv_iload_n hx hb dX12_decides_126 rfl (lv_at hl 3 rfl) ?_
          refine lv_if_eq (tgt := 134) hx hb dX12_decides_127 (by decide) (fun c_17 => ?_) (fun c_17 => ?_)
          · exact absurd c_17 c_8
          · refine lv_iconst (v := 1) hx hb dX12_decides_130 (by decide) ?_
            refine lv_goto (tgt := 135) hx hb dX12_decides_131 (by decide) ?_
            have hpd9 := pd_N (cx := [oX12 g0 m_refused m_kind m_figure m_weight m_got m_setting (nI n) (nI sn) 1 m_tape m_letter m_letterAt m_told tp mat stm m_kept him ki crs m_price m_offer m_gets m_yes m_buys m_ends m_carried m_row 0 m_keptRow m_likeGets m_likePrice m_ahead, cI aC m_weight 9 wf, cI aC m_setting 5 stf, cI aC m_row 8 tof, cI aC m_got 8 pc9]) hP hD [3, 4, 0, 1, 2] (by decide) rfl
            have hP9 := hpd9.1
            have hD9 := hpd9.2
            refine W.widen (k := 0) (n := 0) (by omega) (by omega) ?_
            exact W.iret (v := 1) hx hb hr (fun t ht hW => ⟨⟨1, ((nI sn), 1, pc9), rfl, ⟨by unfold CAR at hcar; rw [if_pos hcar], ⟨fun _ => ⟨rfl, rfl, fun j hj => by rw [hp j hj, hjn, ht9, show sn + (n - sn) = n from by omega]⟩, fun q => absurd hcar q⟩⟩, by rw [ht]; exact hP9, va_K.moved hW.alike hK, hD9⟩, hS.F ht⟩) hS.2.2 dX12_decides_135
        · have hlt : k < tz := by
            rcases Nat.lt_or_ge k tz with q | q
            · exact q
            · exact absurd (nI_le q (by omega)) c_16
          refine lv_aload_n hx hb dX12_decides_47 rfl (lv_at hl 0 rfl) ?_
          refine va_get (D := (dC, dI)) (ci := 12) (v := Value.ref m_got) (C := RX12) (T := TX12) (N := 33) hx hb hts inX12 hown hK hP 3 rfl rfl 4 (by decide) (hts _ (gw kw_721 rfl)) (fun _ h9 => h9) rfl dX12_decides_48 ?_
          refine lv_aload_n hx hb dX12_decides_51 rfl (lv_at hl 0 rfl) ?_
          refine va_get (D := (dC, dI)) (ci := 12) (v := Value.int (nI sn)) (C := RX12) (T := TX12) (N := 33) hx hb hts inX12 hown hK hP 3 rfl rfl 7 (by decide) (hts _ (gw kw_724 rfl)) (fun _ h9 => h9) rfl dX12_decides_52 ?_
          refine lv_iload hx hb dX12_decides_55 (lv_at hl 4 rfl) ?_
          refine lv_iadd hx hb dX12_decides_57 ?_
          refine lv_topi (fun x_18 e_18 => ?_)
          have h9 : x_18 = nI (sn + k) := by rw [e_18, nI_add]
          subst h9
          refine lv_aload_n hx hb dX12_decides_58 rfl (lv_at hl 0 rfl) ?_
          refine va_get (D := (dC, dI)) (ci := 12) (v := Value.ref m_row) (C := RX12) (T := TX12) (N := 33) hx hb hts inX12 hown hK hP 3 rfl rfl 27 (by decide) (hts _ (gw kw_744 rfl)) (fun _ h9 => h9) rfl dX12_decides_59 ?_
          refine lv_iload hx hb dX12_decides_62 (lv_at hl 4 rfl) ?_
          have h_19 : vp_in (nI k) 8 := by first | exact vp_in_nI (by omega) (by omega) | (unfold vp_in; decide) | (subst_vars; first | (unfold vp_in; decide) | exact vp_in_nI (by omega) (by omega))
          refine va_iald hx hb hK hP 1 0 rfl rfl h_19 dX12_decides_64 ?_
          refine lv_topi (fun x_20 e_20 => ?_)
          have h_21 : vp_in (nI (sn + k)) 8 := by first | exact vp_in_nI (by omega) (by omega) | (unfold vp_in; decide) | (subst_vars; first | (unfold vp_in; decide) | exact vp_in_nI (by omega) (by omega))
          refine va_iast hx hb hK hP hD hS 2 0 rfl rfl h_21 dX12_decides_65 (fun H locs hP hD hS => ?_)
          obtain ⟨f_22, e_f_22⟩ : ∃ y : Nat → Int32, y = upd pc9 (nI (sn + k) : Int32).toNatClampNeg x_20 := ⟨_, rfl⟩
          have hpd9 : PDx (dC, dI) classes A H [cI aC m_setting 5 stf, cI aC m_row 8 tof, cI aC m_got 8 f_22, oX12 g0 m_refused m_kind m_figure m_weight m_got m_setting (nI n) (nI sn) dn m_tape m_letter m_letterAt m_told tp mat stm m_kept him ki crs m_price m_offer m_gets m_yes m_buys m_ends m_carried m_row (nI tz) m_keptRow m_likeGets m_likePrice m_ahead, cI aC m_weight 9 wf] := by rw [e_f_22]; exact ⟨hP, hD⟩
          have hP := hpd9.1
          have hD := hpd9.2
          clear hpd9
          obtain ⟨x_23, e_23⟩ : ∃ y : Int32, y = (nI k) + 1 := ⟨_, rfl⟩
          refine lv_iinc (v := x_23) (lv' := [(4, Value.int x_23), (0, Value.ref g0), (1, Value.int v), (2, Value.int x_1), (3, Value.int x_7)]) hx hb dX12_decides_66 hl (k := 4) rfl (by rw [e_23]; rfl) (by decide) rfl (fun ls hl => ?_)
          have h9 : x_23 = nI (k + 1) := by rw [e_23, nI_1]
          subst h9
          refine lv_goto (tgt := 38) hx hb dX12_decides_69 (by decide) ?_
          exact ih_38 (k + 1) f_22 (by omega) (by omega) (fun q hq => by rw [e_f_22, nI_clamp (by omega)]; by_cases e : q = sn + k <;> first | (rw [e, pk_us, if_pos (by omega), e_20, nI_clamp (by omega), show sn + k - sn = k from by omega]; done) | (rw [pk_un e, hp q hq]; by_cases e2 : sn ≤ q ∧ q < sn + k <;> first | (rw [if_pos e2, if_pos (by omega)]; done) | (rw [if_neg e2, if_neg (by omega)]))) _ _ _ (hP.sub [0, 1, 2, 3, 4] rfl) (hD.sub [0, 1, 2, 3, 4] (by decide) rfl) hS (lv_sub hl [1, 2, 3, 4, 0] rfl)
    exact lp_38 ((tz - 0) + 1) 0 pf (Nat.lt_succ_self _) (by omega) (fun q hq => by rw [if_neg (by omega)]) _ _ _ (hP.sub [0, 1, 2, 3, 4] rfl) (hD.sub [0, 1, 2, 3, 4] (by decide) rfl) hS (lv_sub hl [3, 4, 2, 1, 0] rfl)

set_option maxHeartbeats 1000000 in
set_option maxRecDepth 100000 in
/-- X12_goes -/
theorem c_X12_goes (l : Launch) (dC : Nat → ClassId) (dI : Nat → Nat → Nat) (aC : Nat → ClassId) (sz : Nat) (g0 : Nat) (m_refused : Nat) (m_kind : Nat) (m_figure : Nat) (m_weight : Nat) (m_got : Nat) (m_setting : Nat) (m_tape : Nat) (m_letter : Nat) (m_letterAt : Nat) (m_told : Nat) (m_kept : Nat) (m_price : Nat) (m_offer : Nat) (m_gets : Nat) (m_yes : Nat) (m_buys : Nat) (m_ends : Nat) (m_carried : Nat) (m_row : Nat) (m_keptRow : Nat) (m_likeGets : Nat) (m_likePrice : Nat) (m_ahead : Nat) (tp : Int32) (mat : Int32) (stm : Int32) (him : Int32) (ki : Int32) (crs : Int32) (n : Nat) (sn : Nat) (dn : Int32) (tz : Nat) (T : Nat → Nat) (tof : Nat → Int32) (kf : Nat → Int32) (ff : Nat → Int32) (wf : Nat → Int32) (stf : Nat → Int32) (pf : Nat → Int32) (K : Nat → Nat) (F : Nat → Nat) (W0 : Nat → Nat) (S5 : Nat → Nat) (mr : Nat → Int32) (v : Int32) (hev : EVS n sn dn K F W0 S5 kf ff wf stf) (hrw : ROW tz T tof) : Met l yX12_goes (wW yX12_goes cX12_goes 2 (some .int)) ({ frames := 2, cells := 0, slots := 0, locals := 47 } : Room) (va_Pc [Value.ref g0, Value.int v] (fun U => U.heap.size = sz ∧ va_P (dC, dI) classes [oX12 g0 m_refused m_kind m_figure m_weight m_got m_setting (nI n) (nI sn) dn m_tape m_letter m_letterAt m_told tp mat stm m_kept him ki crs m_price m_offer m_gets m_yes m_buys m_ends m_carried m_row (nI tz) m_keptRow m_likeGets m_likePrice m_ahead, cI aC m_weight 9 wf, cI aC m_setting 5 stf, cI aC m_row 8 tof, cI aC m_got 8 pf, cI aC m_refused 7 mr] U.heap ∧ va_K (dC, dI) classes (TY aC) U ∧ va_D (fun _ => True) [oX12 g0 m_refused m_kind m_figure m_weight m_got m_setting (nI n) (nI sn) dn m_tape m_letter m_letterAt m_told tp mat stm m_kept him ki crs m_price m_offer m_gets m_yes m_buys m_ends m_carried m_row (nI tz) m_keptRow m_likeGets m_likePrice m_ahead, cI aC m_weight 9 wf, cI aC m_setting 5 stf, cI aC m_row 8 tof, cI aC m_got 8 pf, cI aC m_refused 7 mr] ∧ NX U)) (va_Qi (fun (r : Int32) (u : Int32 × Int32 × Int32 × (Nat → Int32) × (Nat → Int32)) => match u with | (sy2, dn2, ts2, pg, mr2) => GOPT n sn dn W0 S5 tz T v pf r sy2 dn2 ts2 pg) (fun (u : Int32 × Int32 × Int32 × (Nat → Int32) × (Nat → Int32)) (t : State) => match u with | (sy2, dn2, ts2, pg, mr2) => va_P (dC, dI) classes [oX12 g0 m_refused m_kind m_figure m_weight m_got m_setting (nI n) sy2 dn2 m_tape m_letter m_letterAt m_told tp mat stm m_kept him ki crs m_price m_offer m_gets m_yes m_buys m_ends m_carried m_row ts2 m_keptRow m_likeGets m_likePrice m_ahead, cI aC m_weight 9 wf, cI aC m_setting 5 stf, cI aC m_row 8 tof, cI aC m_got 8 pg, cI aC m_refused 7 mr2] t.heap ∧ va_K (dC, dI) classes (TY aC) t ∧ va_D (va_A [oX12 g0 m_refused m_kind m_figure m_weight m_got m_setting (nI n) (nI sn) dn m_tape m_letter m_letterAt m_told tp mat stm m_kept him ki crs m_price m_offer m_gets m_yes m_buys m_ends m_carried m_row (nI tz) m_keptRow m_likeGets m_likePrice m_ahead, cI aC m_weight 9 wf, cI aC m_setting 5 stf, cI aC m_row 8 tof, cI aC m_got 8 pf, cI aC m_refused 7 mr] sz) [oX12 g0 m_refused m_kind m_figure m_weight m_got m_setting (nI n) sy2 dn2 m_tape m_letter m_letterAt m_told tp mat stm m_kept him ki crs m_price m_offer m_gets m_yes m_buys m_ends m_carried m_row ts2 m_keptRow m_likeGets m_likePrice m_ahead, cI aC m_weight 9 wf, cI aC m_setting 5 stf, cI aC m_row 8 tof, cI aC m_got 8 pg, cI aC m_refused 7 mr2]) (va_A [oX12 g0 m_refused m_kind m_figure m_weight m_got m_setting (nI n) (nI sn) dn m_tape m_letter m_letterAt m_told tp mat stm m_kept him ki crs m_price m_offer m_gets m_yes m_buys m_ends m_carried m_row (nI tz) m_keptRow m_likeGets m_likePrice m_ahead, cI aC m_weight 9 wf, cI aC m_setting 5 stf, cI aC m_row 8 tof, cI aC m_got 8 pf, cI aC m_refused 7 mr] sz)) 0 0 (va_A [oX12 g0 m_refused m_kind m_figure m_weight m_got m_setting (nI n) (nI sn) dn m_tape m_letter m_letterAt m_told tp mat stm m_kept him ki crs m_price m_offer m_gets m_yes m_buys m_ends m_carried m_row (nI tz) m_keptRow m_likeGets m_likePrice m_ahead, cI aC m_weight 9 wf, cI aC m_setting 5 stf, cI aC m_row 8 tof, cI aC m_got 8 pf, cI aC m_refused 7 mr] sz) := by
  refine Met.ofW (cc := cX12_goes) (maxL := 2) (ret := (some .int)) (by decide) rfl ?_
  intro p e s m args below meth c s₁ B hml hv
  obtain ⟨rfl, hsz, hP, hK, hD0, hN⟩ := hv
  have hx := B.exec
  have hb := B.bytes
  have hr := B.returns
  have hts0 := atoms_spec (ws := (wW yX12_goes cX12_goes 2 (some .int))) B.pre
  have hts : ∀ w9 ∈ lw_G, w9.before ([Value.ref g0, Value.int v] : List Value).toArray s = true := fun w9 h9 => hts0 w9 (List.mem_cons_of_mem _ h9)
  have hown : s.vm.findClass RX12 = some m.cls := findClass_of_methodNamed (x := yX12_goes) B.named
  have hlocks := B.notSynchronized
  subst hsz
  have hD := hD0.self (sz := s.heap.size)
  generalize hAe : va_A [oX12 g0 m_refused m_kind m_figure m_weight m_got m_setting (nI n) (nI sn) dn m_tape m_letter m_letterAt m_told tp mat stm m_kept him ki crs m_price m_offer m_gets m_yes m_buys m_ends m_carried m_row (nI tz) m_keptRow m_likeGets m_likePrice m_ahead, cI aC m_weight 9 wf, cI aC m_setting 5 stf, cI aC m_row 8 tof, cI aC m_got 8 pf, cI aC m_refused 7 mr] s.heap.size = A at hD ⊢
  have hA : ∀ q : Nat, s.heap.size ≤ q → A q := fun q h => by rw [← hAe]; exact Or.inr h
  obtain ⟨H, hHe⟩ : ∃ H : Heap, H = s.heap := ⟨_, rfl⟩
  have hS : va_S A s.heap H [] := by rw [hHe]; exact va_S.rf
  have hP : va_P (dC, dI) classes [oX12 g0 m_refused m_kind m_figure m_weight m_got m_setting (nI n) (nI sn) dn m_tape m_letter m_letterAt m_told tp mat stm m_kept him ki crs m_price m_offer m_gets m_yes m_buys m_ends m_carried m_row (nI tz) m_keptRow m_likeGets m_likePrice m_ahead, cI aC m_weight 9 wf, cI aC m_setting 5 stf, cI aC m_row 8 tof, cI aC m_got 8 pf, cI aC m_refused 7 mr] H := by rw [hHe]; exact hP
  have hl := lv_entry ([Value.ref g0, Value.int v]) (n := 2) (Nat.le_of_ble_eq_true rfl)
  rw [lg_entry_eq]
  generalize (lg_sl ([Value.ref g0, Value.int v]) ++ List.replicate (2 - (lg_sl ([Value.ref g0, Value.int v])).length) Slot.unset).toArray = ls at hl ⊢
  have hl : lv_has ls 2 [(0, Value.ref g0), (1, Value.int v)] := hl
  rw [← hHe]
  have hn8 := EVS_n hev
  refine lv_aload_n hx hb dX12_goes_0 rfl (lv_at hl 0 rfl) ?_
  have hpd9 := pdf_N (cx := [oX12 g0 m_refused m_kind m_figure m_weight m_got m_setting (nI n) (nI sn) dn m_tape m_letter m_letterAt m_told tp mat stm m_kept him ki crs m_price m_offer m_gets m_yes m_buys m_ends m_carried m_row (nI tz) m_keptRow m_likeGets m_likePrice m_ahead]) hP hD hS hA [0] (by decide) rfl
  have hPc := hpd9.1
  have hDc := hpd9.2.1
  have hFc := hpd9.2.2
  clear hpd9
  refine va_calli (va_runV (As := []) (rest := []) ⟨hx, hb, hml, hown, hts⟩ (c_X12_isOver l dC dI aC H.size g0 m_refused m_kind m_figure m_weight m_got m_setting m_tape m_letter m_letterAt m_told m_kept m_price m_offer m_gets m_yes m_buys m_ends m_carried m_row m_keptRow m_likeGets m_likePrice m_ahead (nI n) (nI sn) dn tp mat stm him ki crs (nI tz) ) ⟨(callB_of 0 hts (gG kw_994) rfl rfl rfl (hts _ (gw kw_13 rfl)) (hts _ (gw kw_991 rfl)) hd_X12_isOver ⟨Nat.le_of_ble_eq_true rfl, Nat.le_of_ble_eq_true rfl⟩), (hts _ (gw kw_993 rfl)), (hts _ (gw ks_58 rfl))⟩ ⟨fb_std, va_recv (q := (RX12, TX12, 33)) hK hPc (ci := 12) (q0 := 0) rfl rfl, pre_std hPc hK hDc hN⟩ rfl rfl hl.1 rfl (lv_room (Nat.le_of_ble_eq_true rfl)) dX12_goes_1 ⟨Nat.le_of_ble_eq_true rfl, Nat.le_of_ble_eq_true rfl⟩) hS (fun q _ h => hFc q h) hFc (fun x_1 u9 t9 H1 locs ht hvm hw_1 hB hz1 hk1 hS => ?_)
  obtain ⟨hP1, hK1, hD1⟩ := hB
  rw [ht] at hP1
  clear hK1
  try dsimp only at hw_1
  have hpd9 : PDx (dC, dI) classes A H1 [cI aC m_weight 9 wf, cI aC m_setting 5 stf, cI aC m_row 8 tof, cI aC m_got 8 pf, cI aC m_refused 7 mr, oX12 g0 m_refused m_kind m_figure m_weight m_got m_setting (nI n) (nI sn) dn m_tape m_letter m_letterAt m_told tp mat stm m_kept him ki crs m_price m_offer m_gets m_yes m_buys m_ends m_carried m_row (nI tz) m_keptRow m_likeGets m_likePrice m_ahead] := jn_N (wr := [cI aC m_weight 9 wf, cI aC m_setting 5 stf, cI aC m_row 8 tof, cI aC m_got 8 pf, cI aC m_refused 7 mr]) hFc hk1 hP1 hD1 hP hD [0] [1, 2, 3, 4, 5] rfl rfl (by decide) (by decide)
  have hP := hpd9.1
  have hD := hpd9.2
  clear hpd9
  generalize H1 = H at hP hS ⊢
  clear hPc hDc hFc hz1 hk1 hP1 hD1 ht hvm
  have hz_1 := hw_1
  refine lv_if_ne (tgt := 14) hx hb dX12_goes_4 (by decide) (fun c_2 => ?_) (fun c_2 => ?_)
  · refine lv_aload_n hx hb dX12_goes_14 rfl (lv_at hl 0 rfl) ?_
    refine lv_bipush (v := -3) hx hb dX12_goes_15 (by decide) ?_
    have hpd9 := pdf_N (cx := [oX12 g0 m_refused m_kind m_figure m_weight m_got m_setting (nI n) (nI sn) dn m_tape m_letter m_letterAt m_told tp mat stm m_kept him ki crs m_price m_offer m_gets m_yes m_buys m_ends m_carried m_row (nI tz) m_keptRow m_likeGets m_likePrice m_ahead, cI aC m_refused 7 mr]) hP hD hS hA [5, 4] (by decide) rfl
    have hPc := hpd9.1
    have hDc := hpd9.2.1
    have hFc := hpd9.2.2
    clear hpd9
    refine va_calli (va_runV (As := [Value.int (-3)]) (rest := []) ⟨hx, hb, hml, hown, hts⟩ (c_X12_no l dC dI aC H.size g0 m_refused m_kind m_figure m_weight m_got m_setting m_tape m_letter m_letterAt m_told m_kept m_price m_offer m_gets m_yes m_buys m_ends m_carried m_row m_keptRow m_likeGets m_likePrice m_ahead (nI n) (nI sn) dn tp mat stm him ki crs (nI tz) (-3) 3 mr (by decide) (by unfold vp_in; decide)) ⟨(callB_of 1 hts (gG kw_827) rfl rfl rfl (hts _ (gw kw_13 rfl)) (hts _ (gw kw_824 rfl)) hd_X12_no ⟨Nat.le_of_ble_eq_true rfl, Nat.le_of_ble_eq_true rfl⟩), (hts _ (gw kw_826 rfl)), (hts _ (gw ks_35 rfl))⟩ ⟨fb_std, va_recv (q := (RX12, TX12, 33)) hK hPc (ci := 12) (q0 := 0) rfl rfl, pre_std hPc hK hDc hN⟩ rfl rfl hl.1 rfl (lv_room (Nat.le_of_ble_eq_true rfl)) dX12_goes_17 ⟨Nat.le_of_ble_eq_true rfl, Nat.le_of_ble_eq_true rfl⟩) hS (fun q _ h => hFc q h) hFc (fun x_3 u9 t9 H1 locs ht hvm hw_3 hB hz1 hk1 hS => ?_)
    obtain ⟨u_4, rfl⟩ : ∃ z, z = u9 := ⟨_, rfl⟩
    obtain ⟨hP1, hK1, hD1⟩ := hB
    rw [ht] at hP1
    clear hK1
    try dsimp only at hw_3
    have hpd9 : PDx (dC, dI) classes A H1 [cI aC m_weight 9 wf, cI aC m_setting 5 stf, cI aC m_row 8 tof, cI aC m_got 8 pf, oX12 g0 m_refused m_kind m_figure m_weight m_got m_setting (nI n) (nI sn) dn m_tape m_letter m_letterAt m_told tp mat stm m_kept him ki crs m_price m_offer m_gets m_yes m_buys m_ends m_carried m_row (nI tz) m_keptRow m_likeGets m_likePrice m_ahead, cI aC m_refused 7 u_4] := jn_N (wr := [cI aC m_weight 9 wf, cI aC m_setting 5 stf, cI aC m_row 8 tof, cI aC m_got 8 pf]) hFc hk1 hP1 hD1 hP hD [5, 4] [0, 1, 2, 3] rfl rfl (by decide) (by decide)
    have hP := hpd9.1
    have hD := hpd9.2
    clear hpd9
    generalize H1 = H at hP hS ⊢
    clear hPc hDc hFc hz1 hk1 hP1 hD1 ht hvm
    obtain ⟨hv9, -⟩ := hw_3
    have hpd9 := pd_N (cx := [oX12 g0 m_refused m_kind m_figure m_weight m_got m_setting (nI n) (nI sn) dn m_tape m_letter m_letterAt m_told tp mat stm m_kept him ki crs m_price m_offer m_gets m_yes m_buys m_ends m_carried m_row (nI tz) m_keptRow m_likeGets m_likePrice m_ahead, cI aC m_weight 9 wf, cI aC m_setting 5 stf, cI aC m_row 8 tof, cI aC m_got 8 pf, cI aC m_refused 7 u_4]) hP hD [4, 0, 1, 2, 3, 5] (by decide) rfl
    have hP9 := hpd9.1
    have hD9 := hpd9.2
    refine W.widen (k := 0) (n := 0) (by omega) (by omega) ?_
    exact W.iret (v := x_3) hx hb hr (fun t ht hW => ⟨⟨x_3, ((nI sn), dn, (nI tz), pf, u_4), rfl, GO_n (fun q => q.1 (ovm_y hn8 hz_1 c_2)) (by rw [hv9]; exact goR_1 (fun q => q.1 (ovm_y hn8 hz_1 c_2))), by rw [ht]; exact hP9, va_K.moved hW.alike hK, hD9⟩, hS.F ht⟩) hS.2.2 dX12_goes_20
  · refine lv_aload_n hx hb dX12_goes_7 rfl (lv_at hl 0 rfl) ?_
    have hpd9 := pdf_N (cx := [oX12 g0 m_refused m_kind m_figure m_weight m_got m_setting (nI n) (nI sn) dn m_tape m_letter m_letterAt m_told tp mat stm m_kept him ki crs m_price m_offer m_gets m_yes m_buys m_ends m_carried m_row (nI tz) m_keptRow m_likeGets m_likePrice m_ahead, cI aC m_setting 5 stf, cI aC m_row 8 tof]) hP hD hS hA [5, 1, 2] (by decide) rfl
    have hPc := hpd9.1
    have hDc := hpd9.2.1
    have hFc := hpd9.2.2
    clear hpd9
    refine va_calli (va_runV (As := []) (rest := []) ⟨hx, hb, hml, hown, hts⟩ (c_X12_isOffer l dC dI aC H.size g0 m_refused m_kind m_figure m_weight m_got m_setting m_tape m_letter m_letterAt m_told m_kept m_price m_offer m_gets m_yes m_buys m_ends m_carried m_row m_keptRow m_likeGets m_likePrice m_ahead tp mat stm him ki crs n sn dn tz T tof kf ff wf stf K F W0 S5 (hev) (hrw)) ⟨(callB_of 0 hts (gG kw_998) rfl rfl rfl (hts _ (gw kw_13 rfl)) (hts _ (gw kw_995 rfl)) hd_X12_isOffer ⟨Nat.le_of_ble_eq_true rfl, Nat.le_of_ble_eq_true rfl⟩), (hts _ (gw kw_997 rfl)), (hts _ (gw ks_59 rfl))⟩ ⟨fb_std, va_recv (q := (RX12, TX12, 33)) hK hPc (ci := 12) (q0 := 0) rfl rfl, pre_std hPc hK hDc hN⟩ rfl rfl hl.1 rfl (lv_room (Nat.le_of_ble_eq_true rfl)) dX12_goes_8 ⟨Nat.le_of_ble_eq_true rfl, Nat.le_of_ble_eq_true rfl⟩) hS (fun q _ h => hFc q h) hFc (fun x_5 u9 t9 H1 locs ht hvm hw_5 hB hz1 hk1 hS => ?_)
    obtain ⟨hP1, hK1, hD1⟩ := hB
    rw [ht] at hP1
    clear hK1
    try dsimp only at hw_5
    have hpd9 : PDx (dC, dI) classes A H1 [cI aC m_weight 9 wf, cI aC m_got 8 pf, cI aC m_refused 7 mr, oX12 g0 m_refused m_kind m_figure m_weight m_got m_setting (nI n) (nI sn) dn m_tape m_letter m_letterAt m_told tp mat stm m_kept him ki crs m_price m_offer m_gets m_yes m_buys m_ends m_carried m_row (nI tz) m_keptRow m_likeGets m_likePrice m_ahead, cI aC m_setting 5 stf, cI aC m_row 8 tof] := jn_N (wr := [cI aC m_weight 9 wf, cI aC m_got 8 pf, cI aC m_refused 7 mr]) hFc hk1 hP1 hD1 hP hD [5, 1, 2] [0, 3, 4] rfl rfl (by decide) (by decide)
    have hP := hpd9.1
    have hD := hpd9.2
    clear hpd9
    generalize H1 = H at hP hS ⊢
    clear hPc hDc hFc hz1 hk1 hP1 hD1 ht hvm
    have hz_8 := hw_5
    refine lv_if_ne (tgt := 21) hx hb dX12_goes_11 (by decide) (fun c_6 => ?_) (fun c_6 => ?_)
    · have hrg : RGT n sn S5 tz T := by
        by_cases q : RGT n sn S5 tz T
        · exact q
        · exact absurd (by rw [hz_8, if_neg q]) c_6
      have hov := ovm_n hz_1 c_2
      have hsn := sn_lt hev hov
      refine lv_iload_n hx hb dX12_goes_21 rfl (lv_at hl 1 rfl) ?_
      refine lv_if_ge (tgt := 34) hx hb dX12_goes_22 (by decide) (fun c_7 => ?_) (fun c_7 => ?_)
      · refine lv_aload_n hx hb dX12_goes_34 rfl (lv_at hl 0 rfl) ?_
        refine lv_iload_n hx hb dX12_goes_35 rfl (lv_at hl 1 rfl) ?_
        have hpd9 := pdf_N (cx := [oX12 g0 m_refused m_kind m_figure m_weight m_got m_setting (nI n) (nI sn) dn m_tape m_letter m_letterAt m_told tp mat stm m_kept him ki crs m_price m_offer m_gets m_yes m_buys m_ends m_carried m_row (nI tz) m_keptRow m_likeGets m_likePrice m_ahead, cI aC m_weight 9 wf, cI aC m_setting 5 stf, cI aC m_row 8 tof, cI aC m_got 8 pf]) hP hD hS hA [3, 0, 4, 5, 1] (by decide) rfl
        have hPc := hpd9.1
        have hDc := hpd9.2.1
        have hFc := hpd9.2.2
        clear hpd9
        refine va_calli (va_runV (As := [Value.int v]) (rest := []) ⟨hx, hb, hml, hown, hts⟩ (c_X12_decides l dC dI aC H.size g0 m_refused m_kind m_figure m_weight m_got m_setting m_tape m_letter m_letterAt m_told m_kept m_price m_offer m_gets m_yes m_buys m_ends m_carried m_row m_keptRow m_likeGets m_likePrice m_ahead tp mat stm him ki crs n sn dn tz T tof kf ff wf stf pf K F W0 S5 v (hev) (hrw.1) (hrg.1) (hsn)) ⟨(callB_of 1 hts (gG kw_1006) rfl rfl rfl (hts _ (gw kw_13 rfl)) (hts _ (gw kw_1003 rfl)) hd_X12_decides ⟨Nat.le_of_ble_eq_true rfl, Nat.le_of_ble_eq_true rfl⟩), (hts _ (gw kw_1005 rfl)), (hts _ (gw ks_60 rfl))⟩ ⟨fb_std, va_recv (q := (RX12, TX12, 33)) hK hPc (ci := 12) (q0 := 0) rfl rfl, pre_std hPc hK hDc hN⟩ rfl rfl hl.1 rfl (lv_room (Nat.le_of_ble_eq_true rfl)) dX12_goes_36 ⟨Nat.le_of_ble_eq_true rfl, Nat.le_of_ble_eq_true rfl⟩) hS (fun q _ h => hFc q h) hFc (fun x_8 u9 t9 H1 locs ht hvm hw_8 hB hz1 hk1 hS => ?_)
        obtain ⟨u_9, u_10, u_11⟩ := u9
        obtain ⟨hP1, hK1, hD1⟩ := hB
        rw [ht] at hP1
        clear hK1
        try dsimp only at hw_8
        have hpd9 : PDx (dC, dI) classes A H1 [cI aC m_refused 7 mr, oX12 g0 m_refused m_kind m_figure m_weight m_got m_setting (nI n) u_9 u_10 m_tape m_letter m_letterAt m_told tp mat stm m_kept him ki crs m_price m_offer m_gets m_yes m_buys m_ends m_carried m_row 0 m_keptRow m_likeGets m_likePrice m_ahead, cI aC m_weight 9 wf, cI aC m_setting 5 stf, cI aC m_row 8 tof, cI aC m_got 8 u_11] := jn_N (wr := [cI aC m_refused 7 mr]) hFc hk1 hP1 hD1 hP hD [3, 0, 4, 5, 1] [2] rfl rfl (by decide) (by decide)
        have hP := hpd9.1
        have hD := hpd9.2
        clear hpd9
        generalize H1 = H at hP hS ⊢
        clear hPc hDc hFc hz1 hk1 hP1 hD1 ht hvm
        obtain ⟨hg1, hg2⟩ := hw_8
        have hpd9 := pd_N (cx := [oX12 g0 m_refused m_kind m_figure m_weight m_got m_setting (nI n) u_9 u_10 m_tape m_letter m_letterAt m_told tp mat stm m_kept him ki crs m_price m_offer m_gets m_yes m_buys m_ends m_carried m_row 0 m_keptRow m_likeGets m_likePrice m_ahead, cI aC m_weight 9 wf, cI aC m_setting 5 stf, cI aC m_row 8 tof, cI aC m_got 8 u_11, cI aC m_refused 7 mr]) hP hD [1, 2, 3, 4, 5, 0] (by decide) rfl
        have hP9 := hpd9.1
        have hD9 := hpd9.2
        refine W.widen (k := 0) (n := 0) (by omega) (by omega) ?_
        exact W.iret (v := x_8) hx hb hr (fun t ht hW => ⟨⟨x_8, (u_9, u_10, 0, u_11, mr), rfl, GO_y ⟨hov, hrg, Int32.not_lt.mpr c_7⟩ (hev.2.1 1 (by omega)) hg1 hg2 (fun j h1 h2 => (hrw.2 (j - sn) (by have := hrg.1; omega)).1), by rw [ht]; exact hP9, va_K.moved hW.alike hK, hD9⟩, hS.F ht⟩) hS.2.2 dX12_goes_39
      · refine lv_aload_n hx hb dX12_goes_25 rfl (lv_at hl 0 rfl) ?_
        refine lv_bipush (v := -4) hx hb dX12_goes_26 (by decide) ?_
        have hpd9 := pdf_N (cx := [oX12 g0 m_refused m_kind m_figure m_weight m_got m_setting (nI n) (nI sn) dn m_tape m_letter m_letterAt m_told tp mat stm m_kept him ki crs m_price m_offer m_gets m_yes m_buys m_ends m_carried m_row (nI tz) m_keptRow m_likeGets m_likePrice m_ahead, cI aC m_refused 7 mr]) hP hD hS hA [3, 2] (by decide) rfl
        have hPc := hpd9.1
        have hDc := hpd9.2.1
        have hFc := hpd9.2.2
        clear hpd9
        refine va_calli (va_runV (As := [Value.int (-4)]) (rest := []) ⟨hx, hb, hml, hown, hts⟩ (c_X12_no l dC dI aC H.size g0 m_refused m_kind m_figure m_weight m_got m_setting m_tape m_letter m_letterAt m_told m_kept m_price m_offer m_gets m_yes m_buys m_ends m_carried m_row m_keptRow m_likeGets m_likePrice m_ahead (nI n) (nI sn) dn tp mat stm him ki crs (nI tz) (-4) 4 mr (by decide) (by unfold vp_in; decide)) ⟨(callB_of 1 hts (gG kw_827) rfl rfl rfl (hts _ (gw kw_13 rfl)) (hts _ (gw kw_824 rfl)) hd_X12_no ⟨Nat.le_of_ble_eq_true rfl, Nat.le_of_ble_eq_true rfl⟩), (hts _ (gw kw_826 rfl)), (hts _ (gw ks_35 rfl))⟩ ⟨fb_std, va_recv (q := (RX12, TX12, 33)) hK hPc (ci := 12) (q0 := 0) rfl rfl, pre_std hPc hK hDc hN⟩ rfl rfl hl.1 rfl (lv_room (Nat.le_of_ble_eq_true rfl)) dX12_goes_28 ⟨Nat.le_of_ble_eq_true rfl, Nat.le_of_ble_eq_true rfl⟩) hS (fun q _ h => hFc q h) hFc (fun x_12 u9 t9 H1 locs ht hvm hw_12 hB hz1 hk1 hS => ?_)
        obtain ⟨u_13, rfl⟩ : ∃ z, z = u9 := ⟨_, rfl⟩
        obtain ⟨hP1, hK1, hD1⟩ := hB
        rw [ht] at hP1
        clear hK1
        try dsimp only at hw_12
        have hpd9 : PDx (dC, dI) classes A H1 [cI aC m_weight 9 wf, cI aC m_got 8 pf, cI aC m_setting 5 stf, cI aC m_row 8 tof, oX12 g0 m_refused m_kind m_figure m_weight m_got m_setting (nI n) (nI sn) dn m_tape m_letter m_letterAt m_told tp mat stm m_kept him ki crs m_price m_offer m_gets m_yes m_buys m_ends m_carried m_row (nI tz) m_keptRow m_likeGets m_likePrice m_ahead, cI aC m_refused 7 u_13] := jn_N (wr := [cI aC m_weight 9 wf, cI aC m_got 8 pf, cI aC m_setting 5 stf, cI aC m_row 8 tof]) hFc hk1 hP1 hD1 hP hD [3, 2] [0, 1, 4, 5] rfl rfl (by decide) (by decide)
        have hP := hpd9.1
        have hD := hpd9.2
        clear hpd9
        generalize H1 = H at hP hS ⊢
        clear hPc hDc hFc hz1 hk1 hP1 hD1 ht hvm
        obtain ⟨hv9, -⟩ := hw_12
        refine lv_goto (tgt := 39) hx hb dX12_goes_31 (by decide) ?_
        have hpd9 := pd_N (cx := [oX12 g0 m_refused m_kind m_figure m_weight m_got m_setting (nI n) (nI sn) dn m_tape m_letter m_letterAt m_told tp mat stm m_kept him ki crs m_price m_offer m_gets m_yes m_buys m_ends m_carried m_row (nI tz) m_keptRow m_likeGets m_likePrice m_ahead, cI aC m_weight 9 wf, cI aC m_setting 5 stf, cI aC m_row 8 tof, cI aC m_got 8 pf, cI aC m_refused 7 u_13]) hP hD [4, 0, 2, 3, 1, 5] (by decide) rfl
        have hP9 := hpd9.1
        have hD9 := hpd9.2
        refine W.widen (k := 0) (n := 0) (by omega) (by omega) ?_
        exact W.iret (v := x_12) hx hb hr (fun t ht hW => ⟨⟨x_12, ((nI sn), dn, (nI tz), pf, u_13), rfl, GO_n (fun q => q.2.2 (Int32.not_le.mp c_7)) (by rw [hv9]; exact goR_2 ⟨hov, hrg⟩ (Int32.not_le.mp c_7)), by rw [ht]; exact hP9, va_K.moved hW.alike hK, hD9⟩, hS.F ht⟩) hS.2.2 dX12_goes_39
    · refine lv_aload_n hx hb dX12_goes_14 rfl (lv_at hl 0 rfl) ?_
      refine lv_bipush (v := -3) hx hb dX12_goes_15 (by decide) ?_
      have hpd9 := pdf_N (cx := [oX12 g0 m_refused m_kind m_figure m_weight m_got m_setting (nI n) (nI sn) dn m_tape m_letter m_letterAt m_told tp mat stm m_kept him ki crs m_price m_offer m_gets m_yes m_buys m_ends m_carried m_row (nI tz) m_keptRow m_likeGets m_likePrice m_ahead, cI aC m_refused 7 mr]) hP hD hS hA [3, 2] (by decide) rfl
      have hPc := hpd9.1
      have hDc := hpd9.2.1
      have hFc := hpd9.2.2
      clear hpd9
      refine va_calli (va_runV (As := [Value.int (-3)]) (rest := []) ⟨hx, hb, hml, hown, hts⟩ (c_X12_no l dC dI aC H.size g0 m_refused m_kind m_figure m_weight m_got m_setting m_tape m_letter m_letterAt m_told m_kept m_price m_offer m_gets m_yes m_buys m_ends m_carried m_row m_keptRow m_likeGets m_likePrice m_ahead (nI n) (nI sn) dn tp mat stm him ki crs (nI tz) (-3) 3 mr (by decide) (by unfold vp_in; decide)) ⟨(callB_of 1 hts (gG kw_827) rfl rfl rfl (hts _ (gw kw_13 rfl)) (hts _ (gw kw_824 rfl)) hd_X12_no ⟨Nat.le_of_ble_eq_true rfl, Nat.le_of_ble_eq_true rfl⟩), (hts _ (gw kw_826 rfl)), (hts _ (gw ks_35 rfl))⟩ ⟨fb_std, va_recv (q := (RX12, TX12, 33)) hK hPc (ci := 12) (q0 := 0) rfl rfl, pre_std hPc hK hDc hN⟩ rfl rfl hl.1 rfl (lv_room (Nat.le_of_ble_eq_true rfl)) dX12_goes_17 ⟨Nat.le_of_ble_eq_true rfl, Nat.le_of_ble_eq_true rfl⟩) hS (fun q _ h => hFc q h) hFc (fun x_14 u9 t9 H1 locs ht hvm hw_14 hB hz1 hk1 hS => ?_)
      obtain ⟨u_15, rfl⟩ : ∃ z, z = u9 := ⟨_, rfl⟩
      obtain ⟨hP1, hK1, hD1⟩ := hB
      rw [ht] at hP1
      clear hK1
      try dsimp only at hw_14
      have hpd9 : PDx (dC, dI) classes A H1 [cI aC m_weight 9 wf, cI aC m_got 8 pf, cI aC m_setting 5 stf, cI aC m_row 8 tof, oX12 g0 m_refused m_kind m_figure m_weight m_got m_setting (nI n) (nI sn) dn m_tape m_letter m_letterAt m_told tp mat stm m_kept him ki crs m_price m_offer m_gets m_yes m_buys m_ends m_carried m_row (nI tz) m_keptRow m_likeGets m_likePrice m_ahead, cI aC m_refused 7 u_15] := jn_N (wr := [cI aC m_weight 9 wf, cI aC m_got 8 pf, cI aC m_setting 5 stf, cI aC m_row 8 tof]) hFc hk1 hP1 hD1 hP hD [3, 2] [0, 1, 4, 5] rfl rfl (by decide) (by decide)
      have hP := hpd9.1
      have hD := hpd9.2
      clear hpd9
      generalize H1 = H at hP hS ⊢
      clear hPc hDc hFc hz1 hk1 hP1 hD1 ht hvm
      obtain ⟨hv9, -⟩ := hw_14
      have hpd9 := pd_N (cx := [oX12 g0 m_refused m_kind m_figure m_weight m_got m_setting (nI n) (nI sn) dn m_tape m_letter m_letterAt m_told tp mat stm m_kept him ki crs m_price m_offer m_gets m_yes m_buys m_ends m_carried m_row (nI tz) m_keptRow m_likeGets m_likePrice m_ahead, cI aC m_weight 9 wf, cI aC m_setting 5 stf, cI aC m_row 8 tof, cI aC m_got 8 pf, cI aC m_refused 7 u_15]) hP hD [4, 0, 2, 3, 1, 5] (by decide) rfl
      have hP9 := hpd9.1
      have hD9 := hpd9.2
      refine W.widen (k := 0) (n := 0) (by omega) (by omega) ?_
      exact W.iret (v := x_14) hx hb hr (fun t ht hW => ⟨⟨x_14, ((nI sn), dn, (nI tz), pf, u_15), rfl, GO_n (fun q => absurd (hz_8.symm.trans c_6) (by rw [if_pos q.2.1]; decide)) (by rw [hv9]; exact goR_1 (fun q => absurd (hz_8.symm.trans c_6) (by rw [if_pos q.2]; decide))), by rw [ht]; exact hP9, va_K.moved hW.alike hK, hD9⟩, hS.F ht⟩) hS.2.2 dX12_goes_20

set_option maxHeartbeats 1000000 in
set_option maxRecDepth 100000 in
/-- X12_says -/
theorem c_X12_says (l : Launch) (dC : Nat → ClassId) (dI : Nat → Nat → Nat) (aC : Nat → ClassId) (sz : Nat) (g0 : Nat) (m_refused : Nat) (m_kind : Nat) (m_figure : Nat) (m_weight : Nat) (m_got : Nat) (m_setting : Nat) (m_tape : Nat) (m_letter : Nat) (m_letterAt : Nat) (m_told : Nat) (m_kept : Nat) (m_price : Nat) (m_offer : Nat) (m_gets : Nat) (m_yes : Nat) (m_buys : Nat) (m_ends : Nat) (m_carried : Nat) (m_row : Nat) (m_keptRow : Nat) (m_likeGets : Nat) (m_likePrice : Nat) (m_ahead : Nat) (tp : Int32) (mat : Int32) (stm : Int32) (him : Int32) (ki : Int32) (crs : Int32) (rm : Int32) (n : Nat) (sn : Nat) (dn : Int32) (kf : Nat → Int32) (ff : Nat → Int32) (wf : Nat → Int32) (stf : Nat → Int32) (pf : Nat → Int32) (of : Nat → Int32) (gf : Nat → Int32) (yf : Nat → Int32) (bf : Nat → Int32) (ef : Nat → Int32) (cf : Nat → Int32) (K : Nat → Nat) (F : Nat → Nat) (W0 : Nat → Nat) (S5 : Nat → Nat) (mr : Nat → Int32) (tof : Nat → Int32) (qf : Nat → Int32) (kr : Nat → Int32) (hev : EVS n sn dn K F W0 S5 kf ff wf stf) : Met l yX12_says (wW yX12_says cX12_says 4 (some .int)) ({ frames := 5, cells := 0, slots := 0, locals := 115 } : Room) (va_Pc [Value.ref g0] (fun U => U.heap.size = sz ∧ va_P (dC, dI) classes [oX12 g0 m_refused m_kind m_figure m_weight m_got m_setting (nI n) (nI sn) dn m_tape m_letter m_letterAt m_told tp mat stm m_kept him ki crs m_price m_offer m_gets m_yes m_buys m_ends m_carried m_row rm m_keptRow m_likeGets m_likePrice m_ahead, cI aC m_kind 9 kf, cI aC m_figure 9 ff, cI aC m_weight 9 wf, cI aC m_setting 5 stf, cI aC m_price 81 pf, cI aC m_offer 81 of, cI aC m_gets 90 gf, cI aC m_yes 9 yf, cI aC m_buys 9 bf, cI aC m_ends 9 ef, cI aC m_carried 9 cf, cI aC m_row 8 tof, cI aC m_got 8 qf, cI aC m_keptRow 8 kr, cI aC m_refused 7 mr] U.heap ∧ va_K (dC, dI) classes (TY aC) U ∧ va_D (fun _ => True) [oX12 g0 m_refused m_kind m_figure m_weight m_got m_setting (nI n) (nI sn) dn m_tape m_letter m_letterAt m_told tp mat stm m_kept him ki crs m_price m_offer m_gets m_yes m_buys m_ends m_carried m_row rm m_keptRow m_likeGets m_likePrice m_ahead, cI aC m_kind 9 kf, cI aC m_figure 9 ff, cI aC m_weight 9 wf, cI aC m_setting 5 stf, cI aC m_price 81 pf, cI aC m_offer 81 of, cI aC m_gets 90 gf, cI aC m_yes 9 yf, cI aC m_buys 9 bf, cI aC m_ends 9 ef, cI aC m_carried 9 cf, cI aC m_row 8 tof, cI aC m_got 8 qf, cI aC m_keptRow 8 kr, cI aC m_refused 7 mr] ∧ NX U)) (va_Qi (fun (r : Int32) (u : (Nat → Int32) × (Nat → Int32) × (Nat → Int32) × (Nat → Int32) × (Nat → Int32) × (Nat → Int32) × (Nat → Int32) × Int32 × Int32 × (Nat → Int32) × (Nat → Int32) × (Nat → Int32) × (Nat → Int32)) => match u with | (pf2, of2, gf2, yf2, bf2, ef2, cf2, sy2, dn2, tog, pg, kr2, mr2) => SYPT n sn dn W0 S5 (PO n K F W0 S5) qf r sy2 dn2 pg ∧ ∀ k, k < 8 → tog k = tof k) (fun (u : (Nat → Int32) × (Nat → Int32) × (Nat → Int32) × (Nat → Int32) × (Nat → Int32) × (Nat → Int32) × (Nat → Int32) × Int32 × Int32 × (Nat → Int32) × (Nat → Int32) × (Nat → Int32) × (Nat → Int32)) (t : State) => match u with | (pf2, of2, gf2, yf2, bf2, ef2, cf2, sy2, dn2, tog, pg, kr2, mr2) => va_P (dC, dI) classes [oX12 g0 m_refused m_kind m_figure m_weight m_got m_setting (nI n) sy2 dn2 m_tape m_letter m_letterAt m_told tp mat stm m_kept him ki crs m_price m_offer m_gets m_yes m_buys m_ends m_carried m_row rm m_keptRow m_likeGets m_likePrice m_ahead, cI aC m_kind 9 kf, cI aC m_figure 9 ff, cI aC m_weight 9 wf, cI aC m_setting 5 stf, cI aC m_price 81 pf2, cI aC m_offer 81 of2, cI aC m_gets 90 gf2, cI aC m_yes 9 yf2, cI aC m_buys 9 bf2, cI aC m_ends 9 ef2, cI aC m_carried 9 cf2, cI aC m_row 8 tog, cI aC m_got 8 pg, cI aC m_keptRow 8 kr2, cI aC m_refused 7 mr2] t.heap ∧ va_K (dC, dI) classes (TY aC) t ∧ va_D (va_A [oX12 g0 m_refused m_kind m_figure m_weight m_got m_setting (nI n) (nI sn) dn m_tape m_letter m_letterAt m_told tp mat stm m_kept him ki crs m_price m_offer m_gets m_yes m_buys m_ends m_carried m_row rm m_keptRow m_likeGets m_likePrice m_ahead, cI aC m_kind 9 kf, cI aC m_figure 9 ff, cI aC m_weight 9 wf, cI aC m_setting 5 stf, cI aC m_price 81 pf, cI aC m_offer 81 of, cI aC m_gets 90 gf, cI aC m_yes 9 yf, cI aC m_buys 9 bf, cI aC m_ends 9 ef, cI aC m_carried 9 cf, cI aC m_row 8 tof, cI aC m_got 8 qf, cI aC m_keptRow 8 kr, cI aC m_refused 7 mr] sz) [oX12 g0 m_refused m_kind m_figure m_weight m_got m_setting (nI n) sy2 dn2 m_tape m_letter m_letterAt m_told tp mat stm m_kept him ki crs m_price m_offer m_gets m_yes m_buys m_ends m_carried m_row rm m_keptRow m_likeGets m_likePrice m_ahead, cI aC m_kind 9 kf, cI aC m_figure 9 ff, cI aC m_weight 9 wf, cI aC m_setting 5 stf, cI aC m_price 81 pf2, cI aC m_offer 81 of2, cI aC m_gets 90 gf2, cI aC m_yes 9 yf2, cI aC m_buys 9 bf2, cI aC m_ends 9 ef2, cI aC m_carried 9 cf2, cI aC m_row 8 tog, cI aC m_got 8 pg, cI aC m_keptRow 8 kr2, cI aC m_refused 7 mr2]) (va_A [oX12 g0 m_refused m_kind m_figure m_weight m_got m_setting (nI n) (nI sn) dn m_tape m_letter m_letterAt m_told tp mat stm m_kept him ki crs m_price m_offer m_gets m_yes m_buys m_ends m_carried m_row rm m_keptRow m_likeGets m_likePrice m_ahead, cI aC m_kind 9 kf, cI aC m_figure 9 ff, cI aC m_weight 9 wf, cI aC m_setting 5 stf, cI aC m_price 81 pf, cI aC m_offer 81 of, cI aC m_gets 90 gf, cI aC m_yes 9 yf, cI aC m_buys 9 bf, cI aC m_ends 9 ef, cI aC m_carried 9 cf, cI aC m_row 8 tof, cI aC m_got 8 qf, cI aC m_keptRow 8 kr, cI aC m_refused 7 mr] sz)) 0 0 (va_A [oX12 g0 m_refused m_kind m_figure m_weight m_got m_setting (nI n) (nI sn) dn m_tape m_letter m_letterAt m_told tp mat stm m_kept him ki crs m_price m_offer m_gets m_yes m_buys m_ends m_carried m_row rm m_keptRow m_likeGets m_likePrice m_ahead, cI aC m_kind 9 kf, cI aC m_figure 9 ff, cI aC m_weight 9 wf, cI aC m_setting 5 stf, cI aC m_price 81 pf, cI aC m_offer 81 of, cI aC m_gets 90 gf, cI aC m_yes 9 yf, cI aC m_buys 9 bf, cI aC m_ends 9 ef, cI aC m_carried 9 cf, cI aC m_row 8 tof, cI aC m_got 8 qf, cI aC m_keptRow 8 kr, cI aC m_refused 7 mr] sz) := by
  refine Met.ofW (cc := cX12_says) (maxL := 4) (ret := (some .int)) (by decide) rfl ?_
  intro p e s m args below meth c s₁ B hml hv
  obtain ⟨rfl, hsz, hP, hK, hD0, hN⟩ := hv
  have hx := B.exec
  have hb := B.bytes
  have hr := B.returns
  have hts0 := atoms_spec (ws := (wW yX12_says cX12_says 4 (some .int))) B.pre
  have hts : ∀ w9 ∈ lw_G, w9.before ([Value.ref g0] : List Value).toArray s = true := fun w9 h9 => hts0 w9 (List.mem_cons_of_mem _ h9)
  have hown : s.vm.findClass RX12 = some m.cls := findClass_of_methodNamed (x := yX12_says) B.named
  have hlocks := B.notSynchronized
  subst hsz
  have hD := hD0.self (sz := s.heap.size)
  generalize hAe : va_A [oX12 g0 m_refused m_kind m_figure m_weight m_got m_setting (nI n) (nI sn) dn m_tape m_letter m_letterAt m_told tp mat stm m_kept him ki crs m_price m_offer m_gets m_yes m_buys m_ends m_carried m_row rm m_keptRow m_likeGets m_likePrice m_ahead, cI aC m_kind 9 kf, cI aC m_figure 9 ff, cI aC m_weight 9 wf, cI aC m_setting 5 stf, cI aC m_price 81 pf, cI aC m_offer 81 of, cI aC m_gets 90 gf, cI aC m_yes 9 yf, cI aC m_buys 9 bf, cI aC m_ends 9 ef, cI aC m_carried 9 cf, cI aC m_row 8 tof, cI aC m_got 8 qf, cI aC m_keptRow 8 kr, cI aC m_refused 7 mr] s.heap.size = A at hD ⊢
  have hA : ∀ q : Nat, s.heap.size ≤ q → A q := fun q h => by rw [← hAe]; exact Or.inr h
  obtain ⟨H, hHe⟩ : ∃ H : Heap, H = s.heap := ⟨_, rfl⟩
  have hS : va_S A s.heap H [] := by rw [hHe]; exact va_S.rf
  have hP : va_P (dC, dI) classes [oX12 g0 m_refused m_kind m_figure m_weight m_got m_setting (nI n) (nI sn) dn m_tape m_letter m_letterAt m_told tp mat stm m_kept him ki crs m_price m_offer m_gets m_yes m_buys m_ends m_carried m_row rm m_keptRow m_likeGets m_likePrice m_ahead, cI aC m_kind 9 kf, cI aC m_figure 9 ff, cI aC m_weight 9 wf, cI aC m_setting 5 stf, cI aC m_price 81 pf, cI aC m_offer 81 of, cI aC m_gets 90 gf, cI aC m_yes 9 yf, cI aC m_buys 9 bf, cI aC m_ends 9 ef, cI aC m_carried 9 cf, cI aC m_row 8 tof, cI aC m_got 8 qf, cI aC m_keptRow 8 kr, cI aC m_refused 7 mr] H := by rw [hHe]; exact hP
  have hl := lv_entry ([Value.ref g0]) (n := 4) (Nat.le_of_ble_eq_true rfl)
  rw [lg_entry_eq]
  generalize (lg_sl ([Value.ref g0]) ++ List.replicate (4 - (lg_sl ([Value.ref g0])).length) Slot.unset).toArray = ls at hl ⊢
  have hl : lv_has ls 4 [(0, Value.ref g0)] := hl
  rw [← hHe]
  have hn8 := EVS_n hev
  refine lv_aload_n hx hb dX12_says_0 rfl (lv_at hl 0 rfl) ?_
  have hpd9 := pdf_N (cx := [oX12 g0 m_refused m_kind m_figure m_weight m_got m_setting (nI n) (nI sn) dn m_tape m_letter m_letterAt m_told tp mat stm m_kept him ki crs m_price m_offer m_gets m_yes m_buys m_ends m_carried m_row rm m_keptRow m_likeGets m_likePrice m_ahead]) hP hD hS hA [0] (by decide) rfl
  have hPc := hpd9.1
  have hDc := hpd9.2.1
  have hFc := hpd9.2.2
  clear hpd9
  refine va_calli (va_runV (As := []) (rest := []) ⟨hx, hb, hml, hown, hts⟩ (c_X12_isOver l dC dI aC H.size g0 m_refused m_kind m_figure m_weight m_got m_setting m_tape m_letter m_letterAt m_told m_kept m_price m_offer m_gets m_yes m_buys m_ends m_carried m_row m_keptRow m_likeGets m_likePrice m_ahead (nI n) (nI sn) dn tp mat stm him ki crs rm ) ⟨(callB_of 0 hts (gG kw_994) rfl rfl rfl (hts _ (gw kw_13 rfl)) (hts _ (gw kw_991 rfl)) hd_X12_isOver ⟨Nat.le_of_ble_eq_true rfl, Nat.le_of_ble_eq_true rfl⟩), (hts _ (gw kw_993 rfl)), (hts _ (gw ks_58 rfl))⟩ ⟨fb_std, va_recv (q := (RX12, TX12, 33)) hK hPc (ci := 12) (q0 := 0) rfl rfl, pre_std hPc hK hDc hN⟩ rfl rfl hl.1 rfl (lv_room (Nat.le_of_ble_eq_true rfl)) dX12_says_1 ⟨Nat.le_of_ble_eq_true rfl, Nat.le_of_ble_eq_true rfl⟩) hS (fun q _ h => hFc q h) hFc (fun x_1 u9 t9 H1 locs ht hvm hw_1 hB hz1 hk1 hS => ?_)
  obtain ⟨hP1, hK1, hD1⟩ := hB
  rw [ht] at hP1
  clear hK1
  try dsimp only at hw_1
  have hpd9 : PDx (dC, dI) classes A H1 [cI aC m_kind 9 kf, cI aC m_figure 9 ff, cI aC m_weight 9 wf, cI aC m_setting 5 stf, cI aC m_price 81 pf, cI aC m_offer 81 of, cI aC m_gets 90 gf, cI aC m_yes 9 yf, cI aC m_buys 9 bf, cI aC m_ends 9 ef, cI aC m_carried 9 cf, cI aC m_row 8 tof, cI aC m_got 8 qf, cI aC m_keptRow 8 kr, cI aC m_refused 7 mr, oX12 g0 m_refused m_kind m_figure m_weight m_got m_setting (nI n) (nI sn) dn m_tape m_letter m_letterAt m_told tp mat stm m_kept him ki crs m_price m_offer m_gets m_yes m_buys m_ends m_carried m_row rm m_keptRow m_likeGets m_likePrice m_ahead] := jn_N (wr := [cI aC m_kind 9 kf, cI aC m_figure 9 ff, cI aC m_weight 9 wf, cI aC m_setting 5 stf, cI aC m_price 81 pf, cI aC m_offer 81 of, cI aC m_gets 90 gf, cI aC m_yes 9 yf, cI aC m_buys 9 bf, cI aC m_ends 9 ef, cI aC m_carried 9 cf, cI aC m_row 8 tof, cI aC m_got 8 qf, cI aC m_keptRow 8 kr, cI aC m_refused 7 mr]) hFc hk1 hP1 hD1 hP hD [0] [1, 2, 3, 4, 5, 6, 7, 8, 9, 10, 11, 12, 13, 14, 15] rfl rfl (by decide) (by decide)
  have hP := hpd9.1
  have hD := hpd9.2
  clear hpd9
  generalize H1 = H at hP hS ⊢
  clear hPc hDc hFc hz1 hk1 hP1 hD1 ht hvm
  have hz_1 := hw_1
  refine lv_if_eq (tgt := 14) hx hb dX12_says_4 (by decide) (fun c_2 => ?_) (fun c_2 => ?_)
  · have hov := ovm_n hz_1 c_2
    have hsn := sn_lt hev hov
    refine lv_aload_n hx hb dX12_says_14 rfl (lv_at hl 0 rfl) ?_
    have hpd9 := pdf_N (cx := [oX12 g0 m_refused m_kind m_figure m_weight m_got m_setting (nI n) (nI sn) dn m_tape m_letter m_letterAt m_told tp mat stm m_kept him ki crs m_price m_offer m_gets m_yes m_buys m_ends m_carried m_row rm m_keptRow m_likeGets m_likePrice m_ahead, cI aC m_kind 9 kf, cI aC m_figure 9 ff, cI aC m_weight 9 wf, cI aC m_setting 5 stf, cI aC m_price 81 pf, cI aC m_offer 81 of, cI aC m_gets 90 gf, cI aC m_yes 9 yf, cI aC m_buys 9 bf, cI aC m_ends 9 ef, cI aC m_carried 9 cf]) hP hD hS hA [15, 0, 1, 2, 3, 4, 5, 6, 7, 8, 9, 10] (by decide) rfl
    have hPc := hpd9.1
    have hDc := hpd9.2.1
    have hFc := hpd9.2.2
    clear hpd9
    refine va_callv (va_runV (As := []) (rest := []) ⟨hx, hb, hml, hown, hts⟩ (c_X12_solvesAll l dC dI aC H.size g0 m_refused m_kind m_figure m_weight m_got m_setting m_tape m_letter m_letterAt m_told m_kept m_price m_offer m_gets m_yes m_buys m_ends m_carried m_row m_keptRow m_likeGets m_likePrice m_ahead (nI sn) dn tp mat stm him ki crs rm n kf ff wf stf pf of gf yf bf ef cf K F W0 (S5 0) (PO n K F W0 S5) (hev.1) (PO_cl hev)) ⟨(callB_of 0 hts (gG kw_896) rfl rfl rfl (hts _ (gw kw_13 rfl)) (hts _ (gw kw_893 rfl)) hd_X12_solvesAll ⟨Nat.le_of_ble_eq_true rfl, Nat.le_of_ble_eq_true rfl⟩), (hts _ (gw kw_895 rfl)), (hts _ (gw ks_45 rfl))⟩ ⟨fb_std, va_recv (q := (RX12, TX12, 33)) hK hPc (ci := 12) (q0 := 0) rfl rfl, pre_std hPc hK hDc hN⟩ rfl rfl hl.1 rfl (lv_room (Nat.le_of_ble_eq_true rfl)) dX12_says_15 ⟨Nat.le_of_ble_eq_true rfl, Nat.le_of_ble_eq_true rfl⟩) hS (fun q _ h => hFc q h) hFc (fun u9 t9 H1 locs ht hvm hw_3 hB hz1 hk1 hS => ?_)
    obtain ⟨u_4, u_5, u_6, u_7, u_8, u_9, u_10⟩ := u9
    obtain ⟨hP1, hK1, hD1⟩ := hB
    rw [ht] at hP1
    clear hK1
    try dsimp only at hw_3
    have hpd9 : PDx (dC, dI) classes A H1 [cI aC m_row 8 tof, cI aC m_got 8 qf, cI aC m_keptRow 8 kr, cI aC m_refused 7 mr, oX12 g0 m_refused m_kind m_figure m_weight m_got m_setting (nI n) (nI sn) dn m_tape m_letter m_letterAt m_told tp mat stm m_kept him ki crs m_price m_offer m_gets m_yes m_buys m_ends m_carried m_row rm m_keptRow m_likeGets m_likePrice m_ahead, cI aC m_kind 9 kf, cI aC m_figure 9 ff, cI aC m_weight 9 wf, cI aC m_setting 5 stf, cI aC m_price 81 u_4, cI aC m_offer 81 u_5, cI aC m_gets 90 u_6, cI aC m_yes 9 u_7, cI aC m_buys 9 u_8, cI aC m_ends 9 u_9, cI aC m_carried 9 u_10] := jn_N (wr := [cI aC m_row 8 tof, cI aC m_got 8 qf, cI aC m_keptRow 8 kr, cI aC m_refused 7 mr]) hFc hk1 hP1 hD1 hP hD [15, 0, 1, 2, 3, 4, 5, 6, 7, 8, 9, 10] [11, 12, 13, 14] rfl rfl (by decide) (by decide)
    have hP := hpd9.1
    have hD := hpd9.2
    clear hpd9
    generalize H1 = H at hP hS ⊢
    clear hPc hDc hFc hz1 hk1 hP1 hD1 ht hvm
    have hm1 := hw_3
    refine lv_aload_n hx hb dX12_says_18 rfl (lv_at hl 0 rfl) ?_
    refine va_get (D := (dC, dI)) (ci := 12) (v := Value.int rm) (C := RX12) (T := TX12) (N := 33) hx hb hts inX12 hown hK hP 4 rfl rfl 28 (by decide) (hts _ (gw kw_745 rfl)) (fun _ h9 => h9) rfl dX12_says_19 ?_
    refine lv_istore_n (lv' := [(1, Value.int rm), (0, Value.ref g0)]) hx hb dX12_says_22 rfl hl (by decide) rfl (fun ls hl => ?_)
    refine lv_iconst (v := 0) hx hb dX12_says_23 (by decide) ?_
    refine lv_istore_n (lv' := [(2, Value.int 0), (1, Value.int rm), (0, Value.ref g0)]) hx hb dX12_says_24 rfl hl (by decide) rfl (fun ls hl => ?_)
    have lp_25 : ∀ (fu : Nat) (k : Nat) (kc : Nat → Int32) (hfu : 8 - k < fu) (hk : k ≤ 8) (hp : ∀ q, q < k → kc q = tof q) (H : Heap) (locs : List Loc) (ls : Array Slot), va_P (dC, dI) classes [cI aC m_row 8 tof, cI aC m_got 8 qf, cI aC m_keptRow 8 kc, cI aC m_refused 7 mr, oX12 g0 m_refused m_kind m_figure m_weight m_got m_setting (nI n) (nI sn) dn m_tape m_letter m_letterAt m_told tp mat stm m_kept him ki crs m_price m_offer m_gets m_yes m_buys m_ends m_carried m_row rm m_keptRow m_likeGets m_likePrice m_ahead, cI aC m_kind 9 kf, cI aC m_figure 9 ff, cI aC m_weight 9 wf, cI aC m_setting 5 stf, cI aC m_price 81 u_4, cI aC m_offer 81 u_5, cI aC m_gets 90 u_6, cI aC m_yes 9 u_7, cI aC m_buys 9 u_8, cI aC m_ends 9 u_9, cI aC m_carried 9 u_10] H → va_D A [cI aC m_row 8 tof, cI aC m_got 8 qf, cI aC m_keptRow 8 kc, cI aC m_refused 7 mr, oX12 g0 m_refused m_kind m_figure m_weight m_got m_setting (nI n) (nI sn) dn m_tape m_letter m_letterAt m_told tp mat stm m_kept him ki crs m_price m_offer m_gets m_yes m_buys m_ends m_carried m_row rm m_keptRow m_likeGets m_likePrice m_ahead, cI aC m_kind 9 kf, cI aC m_figure 9 ff, cI aC m_weight 9 wf, cI aC m_setting 5 stf, cI aC m_price 81 u_4, cI aC m_offer 81 u_5, cI aC m_gets 90 u_6, cI aC m_yes 9 u_7, cI aC m_buys 9 u_8, cI aC m_ends 9 u_9, cI aC m_carried 9 u_10] → va_S A s.heap H locs → lv_has ls 4 [(0, Value.ref g0), (1, Value.int rm), (2, Value.int (nI k))] → W p l e (headSpec (wW yX12_says cX12_says 4 (some .int)) ({ frames := 5, cells := 0, slots := 0, locals := 115 } : Room)).room s m ([Value.ref g0] : List Value).toArray below meth c H locs 0 0 (MQ below (va_Qi (fun (r : Int32) (u : (Nat → Int32) × (Nat → Int32) × (Nat → Int32) × (Nat → Int32) × (Nat → Int32) × (Nat → Int32) × (Nat → Int32) × Int32 × Int32 × (Nat → Int32) × (Nat → Int32) × (Nat → Int32) × (Nat → Int32)) => match u with | (pf2, of2, gf2, yf2, bf2, ef2, cf2, sy2, dn2, tog, pg, kr2, mr2) => SYPT n sn dn W0 S5 (PO n K F W0 S5) qf r sy2 dn2 pg ∧ ∀ k, k < 8 → tog k = tof k) (fun (u : (Nat → Int32) × (Nat → Int32) × (Nat → Int32) × (Nat → Int32) × (Nat → Int32) × (Nat → Int32) × (Nat → Int32) × Int32 × Int32 × (Nat → Int32) × (Nat → Int32) × (Nat → Int32) × (Nat → Int32)) (t : State) => match u with | (pf2, of2, gf2, yf2, bf2, ef2, cf2, sy2, dn2, tog, pg, kr2, mr2) => va_P (dC, dI) classes [oX12 g0 m_refused m_kind m_figure m_weight m_got m_setting (nI n) sy2 dn2 m_tape m_letter m_letterAt m_told tp mat stm m_kept him ki crs m_price m_offer m_gets m_yes m_buys m_ends m_carried m_row rm m_keptRow m_likeGets m_likePrice m_ahead, cI aC m_kind 9 kf, cI aC m_figure 9 ff, cI aC m_weight 9 wf, cI aC m_setting 5 stf, cI aC m_price 81 pf2, cI aC m_offer 81 of2, cI aC m_gets 90 gf2, cI aC m_yes 9 yf2, cI aC m_buys 9 bf2, cI aC m_ends 9 ef2, cI aC m_carried 9 cf2, cI aC m_row 8 tog, cI aC m_got 8 pg, cI aC m_keptRow 8 kr2, cI aC m_refused 7 mr2] t.heap ∧ va_K (dC, dI) classes (TY aC) t ∧ va_D A [oX12 g0 m_refused m_kind m_figure m_weight m_got m_setting (nI n) sy2 dn2 m_tape m_letter m_letterAt m_told tp mat stm m_kept him ki crs m_price m_offer m_gets m_yes m_buys m_ends m_carried m_row rm m_keptRow m_likeGets m_likePrice m_ahead, cI aC m_kind 9 kf, cI aC m_figure 9 ff, cI aC m_weight 9 wf, cI aC m_setting 5 stf, cI aC m_price 81 pf2, cI aC m_offer 81 of2, cI aC m_gets 90 gf2, cI aC m_yes 9 yf2, cI aC m_buys 9 bf2, cI aC m_ends 9 ef2, cI aC m_carried 9 cf2, cI aC m_row 8 tog, cI aC m_got 8 pg, cI aC m_keptRow 8 kr2, cI aC m_refused 7 mr2]) A) ([Value.ref g0] : List Value).toArray s 0 0 A) (F0 m 25 ls []) := by
      intro fu
      induction fu with
      | zero => intro k kc hfu; exact absurd hfu (Nat.not_lt_zero _)
      | succ fu ih_25 =>
        intro k kc hfu hk hp H locs ls hP hD hS hl
        refine lv_iload_n hx hb dX12_says_25 rfl (lv_at hl 2 rfl) ?_
        refine lv_bipush (v := 8) hx hb dX12_says_26 (by decide) ?_
        refine lv_icmp_ge (tgt := 49) hx hb dX12_says_28 (by decide) (fun c_11 => ?_) (fun c_11 => ?_)
        · have hk8 : k = 8 := by
            rcases Nat.lt_or_ge k 8 with q | q
            · exact absurd c_11 (nI_ge (b := 8) q (by omega))
            · omega
          have hkk : ∀ q, q < 8 → kc q = tof q := fun q hq => hp q (by omega)
          refine lv_aload_n hx hb dX12_says_49 rfl (lv_at hl 0 rfl) ?_
          refine lv_aload_n hx hb dX12_says_50 rfl (lv_at hl 0 rfl) ?_
          refine va_get (D := (dC, dI)) (ci := 12) (v := Value.int (nI n)) (C := RX12) (T := TX12) (N := 33) hx hb hts inX12 hown hK hP 4 rfl rfl 6 (by decide) (hts _ (gw kw_723 rfl)) (fun _ h9 => h9) rfl dX12_says_51 ?_
          refine lv_aload_n hx hb dX12_says_54 rfl (lv_at hl 0 rfl) ?_
          refine va_get (D := (dC, dI)) (ci := 12) (v := Value.int (nI sn)) (C := RX12) (T := TX12) (N := 33) hx hb hts inX12 hown hK hP 4 rfl rfl 7 (by decide) (hts _ (gw kw_724 rfl)) (fun _ h9 => h9) rfl dX12_says_55 ?_
          refine lv_isub hx hb dX12_says_58 ?_
          refine lv_topi (fun x_12 e_12 => ?_)
          have h9 : x_12 = nI (n - sn) := by rw [e_12]; exact pk_sub (by omega)
          subst h9
          refine va_put (D := (dC, dI)) (ci := 12) (v := Value.int (nI (n - sn))) (ty := .int) (C := RX12) (T := TX12) (N := 33) hx hb hts inX12 tyX12 tyX12_ok nmX12 hown hK hP hD hS 4 rfl rfl 28 (by decide) (hts _ (gw kw_745 rfl)) (fun _ h9 => h9) rfl (by decide +kernel) rfl rfl (Nat.le_of_ble_eq_true rfl) dX12_says_59 (fun H locs hP hD hS => ?_)
          have hpd9 : PDx (dC, dI) classes A H [cI aC m_row 8 tof, cI aC m_got 8 qf, cI aC m_keptRow 8 kc, cI aC m_refused 7 mr, oX12 g0 m_refused m_kind m_figure m_weight m_got m_setting (nI n) (nI sn) dn m_tape m_letter m_letterAt m_told tp mat stm m_kept him ki crs m_price m_offer m_gets m_yes m_buys m_ends m_carried m_row (nI (n - sn)) m_keptRow m_likeGets m_likePrice m_ahead, cI aC m_kind 9 kf, cI aC m_figure 9 ff, cI aC m_weight 9 wf, cI aC m_setting 5 stf, cI aC m_price 81 u_4, cI aC m_offer 81 u_5, cI aC m_gets 90 u_6, cI aC m_yes 9 u_7, cI aC m_buys 9 u_8, cI aC m_ends 9 u_9, cI aC m_carried 9 u_10] := ⟨hP, hD⟩
          have hP := hpd9.1
          have hD := hpd9.2
          clear hpd9
          refine lv_iconst (v := 0) hx hb dX12_says_62 (by decide) ?_
          refine lv_istore_n (lv' := [(2, Value.int 0), (0, Value.ref g0), (1, Value.int rm)]) hx hb dX12_says_63 rfl hl (by decide) rfl (fun ls hl => ?_)
          have lp_64 : ∀ (fu : Nat) (k : Nat) (tc : Nat → Int32) (hfu : n - sn - k < fu) (hk : k ≤ n - sn) (hp : ∀ q, q < k → tc q = nI (zO (PO n K F W0 S5) sn (sn + q))) (H : Heap) (locs : List Loc) (ls : Array Slot), va_P (dC, dI) classes [cI aC m_row 8 tc, cI aC m_got 8 qf, cI aC m_keptRow 8 kc, cI aC m_refused 7 mr, oX12 g0 m_refused m_kind m_figure m_weight m_got m_setting (nI n) (nI sn) dn m_tape m_letter m_letterAt m_told tp mat stm m_kept him ki crs m_price m_offer m_gets m_yes m_buys m_ends m_carried m_row (nI (n - sn)) m_keptRow m_likeGets m_likePrice m_ahead, cI aC m_kind 9 kf, cI aC m_figure 9 ff, cI aC m_weight 9 wf, cI aC m_setting 5 stf, cI aC m_price 81 u_4, cI aC m_offer 81 u_5, cI aC m_gets 90 u_6, cI aC m_yes 9 u_7, cI aC m_buys 9 u_8, cI aC m_ends 9 u_9, cI aC m_carried 9 u_10] H → va_D A [cI aC m_row 8 tc, cI aC m_got 8 qf, cI aC m_keptRow 8 kc, cI aC m_refused 7 mr, oX12 g0 m_refused m_kind m_figure m_weight m_got m_setting (nI n) (nI sn) dn m_tape m_letter m_letterAt m_told tp mat stm m_kept him ki crs m_price m_offer m_gets m_yes m_buys m_ends m_carried m_row (nI (n - sn)) m_keptRow m_likeGets m_likePrice m_ahead, cI aC m_kind 9 kf, cI aC m_figure 9 ff, cI aC m_weight 9 wf, cI aC m_setting 5 stf, cI aC m_price 81 u_4, cI aC m_offer 81 u_5, cI aC m_gets 90 u_6, cI aC m_yes 9 u_7, cI aC m_buys 9 u_8, cI aC m_ends 9 u_9, cI aC m_carried 9 u_10] → va_S A s.heap H locs → lv_has ls 4 [(0, Value.ref g0), (1, Value.int rm), (2, Value.int (nI k))] → W p l e (headSpec (wW yX12_says cX12_says 4 (some .int)) ({ frames := 5, cells := 0, slots := 0, locals := 115 } : Room)).room s m ([Value.ref g0] : List Value).toArray below meth c H locs 0 0 (MQ below (va_Qi (fun (r : Int32) (u : (Nat → Int32) × (Nat → Int32) × (Nat → Int32) × (Nat → Int32) × (Nat → Int32) × (Nat → Int32) × (Nat → Int32) × Int32 × Int32 × (Nat → Int32) × (Nat → Int32) × (Nat → Int32) × (Nat → Int32)) => match u with | (pf2, of2, gf2, yf2, bf2, ef2, cf2, sy2, dn2, tog, pg, kr2, mr2) => SYPT n sn dn W0 S5 (PO n K F W0 S5) qf r sy2 dn2 pg ∧ ∀ k, k < 8 → tog k = tof k) (fun (u : (Nat → Int32) × (Nat → Int32) × (Nat → Int32) × (Nat → Int32) × (Nat → Int32) × (Nat → Int32) × (Nat → Int32) × Int32 × Int32 × (Nat → Int32) × (Nat → Int32) × (Nat → Int32) × (Nat → Int32)) (t : State) => match u with | (pf2, of2, gf2, yf2, bf2, ef2, cf2, sy2, dn2, tog, pg, kr2, mr2) => va_P (dC, dI) classes [oX12 g0 m_refused m_kind m_figure m_weight m_got m_setting (nI n) sy2 dn2 m_tape m_letter m_letterAt m_told tp mat stm m_kept him ki crs m_price m_offer m_gets m_yes m_buys m_ends m_carried m_row rm m_keptRow m_likeGets m_likePrice m_ahead, cI aC m_kind 9 kf, cI aC m_figure 9 ff, cI aC m_weight 9 wf, cI aC m_setting 5 stf, cI aC m_price 81 pf2, cI aC m_offer 81 of2, cI aC m_gets 90 gf2, cI aC m_yes 9 yf2, cI aC m_buys 9 bf2, cI aC m_ends 9 ef2, cI aC m_carried 9 cf2, cI aC m_row 8 tog, cI aC m_got 8 pg, cI aC m_keptRow 8 kr2, cI aC m_refused 7 mr2] t.heap ∧ va_K (dC, dI) classes (TY aC) t ∧ va_D A [oX12 g0 m_refused m_kind m_figure m_weight m_got m_setting (nI n) sy2 dn2 m_tape m_letter m_letterAt m_told tp mat stm m_kept him ki crs m_price m_offer m_gets m_yes m_buys m_ends m_carried m_row rm m_keptRow m_likeGets m_likePrice m_ahead, cI aC m_kind 9 kf, cI aC m_figure 9 ff, cI aC m_weight 9 wf, cI aC m_setting 5 stf, cI aC m_price 81 pf2, cI aC m_offer 81 of2, cI aC m_gets 90 gf2, cI aC m_yes 9 yf2, cI aC m_buys 9 bf2, cI aC m_ends 9 ef2, cI aC m_carried 9 cf2, cI aC m_row 8 tog, cI aC m_got 8 pg, cI aC m_keptRow 8 kr2, cI aC m_refused 7 mr2]) A) ([Value.ref g0] : List Value).toArray s 0 0 A) (F0 m 64 ls []) := by
            intro fu
            induction fu with
            | zero => intro k tc hfu; exact absurd hfu (Nat.not_lt_zero _)
            | succ fu ih_64 =>
              intro k tc hfu hk hp H locs ls hP hD hS hl
              refine lv_iload_n hx hb dX12_says_64 rfl (lv_at hl 2 rfl) ?_
              refine lv_aload_n hx hb dX12_says_65 rfl (lv_at hl 0 rfl) ?_
              refine va_get (D := (dC, dI)) (ci := 12) (v := Value.int (nI (n - sn))) (C := RX12) (T := TX12) (N := 33) hx hb hts inX12 hown hK hP 4 rfl rfl 28 (by decide) (hts _ (gw kw_745 rfl)) (fun _ h9 => h9) rfl dX12_says_66 ?_
              refine lv_icmp_ge (tgt := 103) hx hb dX12_says_69 (by decide) (fun c_13 => ?_) (fun c_13 => ?_)
              · have hkn : k = n - sn := by
                  rcases Nat.lt_or_ge k (n - sn) with q | q
                  · exact absurd c_13 (nI_ge q (by omega))
                  · omega
                have hof : ∀ q, q < n - sn → tc q = nI (zO (PO n K F W0 S5) sn (sn + q)) := fun q hq => hp q (by omega)
                refine lv_aload_n hx hb dX12_says_103 rfl (lv_at hl 0 rfl) ?_
                refine lv_aload_n hx hb dX12_says_104 rfl (lv_at hl 0 rfl) ?_
                refine va_get (D := (dC, dI)) (ci := 12) (v := Value.ref m_yes) (C := RX12) (T := TX12) (N := 33) hx hb hts inX12 hown hK hP 4 rfl rfl 23 (by decide) (hts _ (gw kw_740 rfl)) (fun _ h9 => h9) rfl dX12_says_105 ?_
                refine lv_aload_n hx hb dX12_says_108 rfl (lv_at hl 0 rfl) ?_
                refine va_get (D := (dC, dI)) (ci := 12) (v := Value.int (nI sn)) (C := RX12) (T := TX12) (N := 33) hx hb hts inX12 hown hK hP 4 rfl rfl 7 (by decide) (hts _ (gw kw_724 rfl)) (fun _ h9 => h9) rfl dX12_says_109 ?_
                have h_14 : vp_in (nI sn) 9 := by first | exact vp_in_nI (by omega) (by omega) | (unfold vp_in; decide) | (subst_vars; first | (unfold vp_in; decide) | exact vp_in_nI (by omega) (by omega))
                refine va_iald hx hb hK hP 12 0 rfl rfl h_14 dX12_says_112 ?_
                refine lv_topi (fun x_15 e_15 => ?_)
                have hy9 : x_15 = zY (PO n K F W0 S5) sn := by rw [e_15, nI_clamp (by omega)]; exact (hm1 sn hsn).2.2.2.1
                have hpd9 := pdf_N (cx := [oX12 g0 m_refused m_kind m_figure m_weight m_got m_setting (nI n) (nI sn) dn m_tape m_letter m_letterAt m_told tp mat stm m_kept him ki crs m_price m_offer m_gets m_yes m_buys m_ends m_carried m_row (nI (n - sn)) m_keptRow m_likeGets m_likePrice m_ahead, cI aC m_weight 9 wf, cI aC m_setting 5 stf, cI aC m_row 8 tc, cI aC m_got 8 qf]) hP hD hS hA [4, 7, 8, 0, 1] (by decide) rfl
                have hPc := hpd9.1
                have hDc := hpd9.2.1
                have hFc := hpd9.2.2
                clear hpd9
                refine va_calli (va_runV (As := [Value.int x_15]) (rest := []) ⟨hx, hb, hml, hown, hts⟩ (c_X12_decides l dC dI aC H.size g0 m_refused m_kind m_figure m_weight m_got m_setting m_tape m_letter m_letterAt m_told m_kept m_price m_offer m_gets m_yes m_buys m_ends m_carried m_row m_keptRow m_likeGets m_likePrice m_ahead tp mat stm him ki crs n sn dn (n - sn) (fun _ => 0) tc kf ff wf stf qf K F W0 S5 x_15 (hev) (by omega) (rfl) (hsn)) ⟨(callB_of 1 hts (gG kw_1006) rfl rfl rfl (hts _ (gw kw_13 rfl)) (hts _ (gw kw_1003 rfl)) hd_X12_decides ⟨Nat.le_of_ble_eq_true rfl, Nat.le_of_ble_eq_true rfl⟩), (hts _ (gw kw_1005 rfl)), (hts _ (gw ks_60 rfl))⟩ ⟨fb_std, va_recv (q := (RX12, TX12, 33)) hK hPc (ci := 12) (q0 := 0) rfl rfl, pre_std hPc hK hDc hN⟩ rfl rfl hl.1 rfl (lv_room (Nat.le_of_ble_eq_true rfl)) dX12_says_113 ⟨Nat.le_of_ble_eq_true rfl, Nat.le_of_ble_eq_true rfl⟩) hS (fun q _ h => hFc q h) hFc (fun x_16 u9 t9 H1 locs ht hvm hw_16 hB hz1 hk1 hS => ?_)
                obtain ⟨u_17, u_18, u_19⟩ := u9
                obtain ⟨hP1, hK1, hD1⟩ := hB
                rw [ht] at hP1
                clear hK1
                try dsimp only at hw_16
                have hpd9 : PDx (dC, dI) classes A H1 [cI aC m_keptRow 8 kc, cI aC m_refused 7 mr, cI aC m_kind 9 kf, cI aC m_figure 9 ff, cI aC m_price 81 u_4, cI aC m_offer 81 u_5, cI aC m_gets 90 u_6, cI aC m_yes 9 u_7, cI aC m_buys 9 u_8, cI aC m_ends 9 u_9, cI aC m_carried 9 u_10, oX12 g0 m_refused m_kind m_figure m_weight m_got m_setting (nI n) u_17 u_18 m_tape m_letter m_letterAt m_told tp mat stm m_kept him ki crs m_price m_offer m_gets m_yes m_buys m_ends m_carried m_row 0 m_keptRow m_likeGets m_likePrice m_ahead, cI aC m_weight 9 wf, cI aC m_setting 5 stf, cI aC m_row 8 tc, cI aC m_got 8 u_19] := jn_N (wr := [cI aC m_keptRow 8 kc, cI aC m_refused 7 mr, cI aC m_kind 9 kf, cI aC m_figure 9 ff, cI aC m_price 81 u_4, cI aC m_offer 81 u_5, cI aC m_gets 90 u_6, cI aC m_yes 9 u_7, cI aC m_buys 9 u_8, cI aC m_ends 9 u_9, cI aC m_carried 9 u_10]) hFc hk1 hP1 hD1 hP hD [4, 7, 8, 0, 1] [2, 3, 5, 6, 9, 10, 11, 12, 13, 14, 15] rfl rfl (by decide) (by decide)
                have hP := hpd9.1
                have hD := hpd9.2
                clear hpd9
                generalize H1 = H at hP hS ⊢
                clear hPc hDc hFc hz1 hk1 hP1 hD1 ht hvm
                obtain ⟨hg1, hg2⟩ := hw_16
                refine lv_istore_n (lv' := [(2, Value.int x_16), (0, Value.ref g0), (1, Value.int rm)]) hx hb dX12_says_116 rfl hl (by decide) rfl (fun ls hl => ?_)
                refine lv_iconst (v := 0) hx hb dX12_says_117 (by decide) ?_
                refine lv_istore_n (lv' := [(3, Value.int 0), (2, Value.int x_16), (0, Value.ref g0), (1, Value.int rm)]) hx hb dX12_says_118 rfl hl (by decide) rfl (fun ls hl => ?_)
                have lp_119 : ∀ (fu : Nat) (k : Nat) (tb : Nat → Int32) (hfu : 8 - k < fu) (hk : k ≤ 8) (hp : ∀ q, q < k → tb q = tof q) (H : Heap) (locs : List Loc) (ls : Array Slot), va_P (dC, dI) classes [cI aC m_keptRow 8 kc, cI aC m_refused 7 mr, cI aC m_kind 9 kf, cI aC m_figure 9 ff, cI aC m_price 81 u_4, cI aC m_offer 81 u_5, cI aC m_gets 90 u_6, cI aC m_yes 9 u_7, cI aC m_buys 9 u_8, cI aC m_ends 9 u_9, cI aC m_carried 9 u_10, oX12 g0 m_refused m_kind m_figure m_weight m_got m_setting (nI n) u_17 u_18 m_tape m_letter m_letterAt m_told tp mat stm m_kept him ki crs m_price m_offer m_gets m_yes m_buys m_ends m_carried m_row 0 m_keptRow m_likeGets m_likePrice m_ahead, cI aC m_weight 9 wf, cI aC m_setting 5 stf, cI aC m_row 8 tb, cI aC m_got 8 u_19] H → va_D A [cI aC m_keptRow 8 kc, cI aC m_refused 7 mr, cI aC m_kind 9 kf, cI aC m_figure 9 ff, cI aC m_price 81 u_4, cI aC m_offer 81 u_5, cI aC m_gets 90 u_6, cI aC m_yes 9 u_7, cI aC m_buys 9 u_8, cI aC m_ends 9 u_9, cI aC m_carried 9 u_10, oX12 g0 m_refused m_kind m_figure m_weight m_got m_setting (nI n) u_17 u_18 m_tape m_letter m_letterAt m_told tp mat stm m_kept him ki crs m_price m_offer m_gets m_yes m_buys m_ends m_carried m_row 0 m_keptRow m_likeGets m_likePrice m_ahead, cI aC m_weight 9 wf, cI aC m_setting 5 stf, cI aC m_row 8 tb, cI aC m_got 8 u_19] → va_S A s.heap H locs → lv_has ls 4 [(0, Value.ref g0), (1, Value.int rm), (2, Value.int x_16), (3, Value.int (nI k))] → W p l e (headSpec (wW yX12_says cX12_says 4 (some .int)) ({ frames := 5, cells := 0, slots := 0, locals := 115 } : Room)).room s m ([Value.ref g0] : List Value).toArray below meth c H locs 0 0 (MQ below (va_Qi (fun (r : Int32) (u : (Nat → Int32) × (Nat → Int32) × (Nat → Int32) × (Nat → Int32) × (Nat → Int32) × (Nat → Int32) × (Nat → Int32) × Int32 × Int32 × (Nat → Int32) × (Nat → Int32) × (Nat → Int32) × (Nat → Int32)) => match u with | (pf2, of2, gf2, yf2, bf2, ef2, cf2, sy2, dn2, tog, pg, kr2, mr2) => SYPT n sn dn W0 S5 (PO n K F W0 S5) qf r sy2 dn2 pg ∧ ∀ k, k < 8 → tog k = tof k) (fun (u : (Nat → Int32) × (Nat → Int32) × (Nat → Int32) × (Nat → Int32) × (Nat → Int32) × (Nat → Int32) × (Nat → Int32) × Int32 × Int32 × (Nat → Int32) × (Nat → Int32) × (Nat → Int32) × (Nat → Int32)) (t : State) => match u with | (pf2, of2, gf2, yf2, bf2, ef2, cf2, sy2, dn2, tog, pg, kr2, mr2) => va_P (dC, dI) classes [oX12 g0 m_refused m_kind m_figure m_weight m_got m_setting (nI n) sy2 dn2 m_tape m_letter m_letterAt m_told tp mat stm m_kept him ki crs m_price m_offer m_gets m_yes m_buys m_ends m_carried m_row rm m_keptRow m_likeGets m_likePrice m_ahead, cI aC m_kind 9 kf, cI aC m_figure 9 ff, cI aC m_weight 9 wf, cI aC m_setting 5 stf, cI aC m_price 81 pf2, cI aC m_offer 81 of2, cI aC m_gets 90 gf2, cI aC m_yes 9 yf2, cI aC m_buys 9 bf2, cI aC m_ends 9 ef2, cI aC m_carried 9 cf2, cI aC m_row 8 tog, cI aC m_got 8 pg, cI aC m_keptRow 8 kr2, cI aC m_refused 7 mr2] t.heap ∧ va_K (dC, dI) classes (TY aC) t ∧ va_D A [oX12 g0 m_refused m_kind m_figure m_weight m_got m_setting (nI n) sy2 dn2 m_tape m_letter m_letterAt m_told tp mat stm m_kept him ki crs m_price m_offer m_gets m_yes m_buys m_ends m_carried m_row rm m_keptRow m_likeGets m_likePrice m_ahead, cI aC m_kind 9 kf, cI aC m_figure 9 ff, cI aC m_weight 9 wf, cI aC m_setting 5 stf, cI aC m_price 81 pf2, cI aC m_offer 81 of2, cI aC m_gets 90 gf2, cI aC m_yes 9 yf2, cI aC m_buys 9 bf2, cI aC m_ends 9 ef2, cI aC m_carried 9 cf2, cI aC m_row 8 tog, cI aC m_got 8 pg, cI aC m_keptRow 8 kr2, cI aC m_refused 7 mr2]) A) ([Value.ref g0] : List Value).toArray s 0 0 A) (F0 m 119 ls []) := by
                  intro fu
                  induction fu with
                  | zero => intro k tb hfu; exact absurd hfu (Nat.not_lt_zero _)
                  | succ fu ih_119 =>
                    intro k tb hfu hk hp H locs ls hP hD hS hl
                    refine lv_iload_n hx hb dX12_says_119 rfl (lv_at hl 3 rfl) ?_
                    refine lv_bipush (v := 8) hx hb dX12_says_120 (by decide) ?_
                    refine lv_icmp_ge (tgt := 143) hx hb dX12_says_122 (by decide) (fun c_20 => ?_) (fun c_20 => ?_)
                    · have hk8 : k = 8 := by
                        rcases Nat.lt_or_ge k 8 with q | q
                        · exact absurd c_20 (nI_ge (b := 8) q (by omega))
                        · omega
                      have hbk : ∀ q, q < 8 → tb q = tof q := fun q hq => hp q (by omega)
                      refine lv_aload_n hx hb dX12_says_143 rfl (lv_at hl 0 rfl) ?_
                      refine lv_iload_n hx hb dX12_says_144 rfl (lv_at hl 1 rfl) ?_
                      refine va_put (D := (dC, dI)) (ci := 12) (v := Value.int rm) (ty := .int) (C := RX12) (T := TX12) (N := 33) hx hb hts inX12 tyX12 tyX12_ok nmX12 hown hK hP hD hS 11 rfl rfl 28 (by decide) (hts _ (gw kw_745 rfl)) (fun _ h9 => h9) rfl (by decide +kernel) rfl rfl (Nat.le_of_ble_eq_true rfl) dX12_says_145 (fun H locs hP hD hS => ?_)
                      have hpd9 : PDx (dC, dI) classes A H [cI aC m_keptRow 8 kc, cI aC m_refused 7 mr, cI aC m_kind 9 kf, cI aC m_figure 9 ff, cI aC m_price 81 u_4, cI aC m_offer 81 u_5, cI aC m_gets 90 u_6, cI aC m_yes 9 u_7, cI aC m_buys 9 u_8, cI aC m_ends 9 u_9, cI aC m_carried 9 u_10, oX12 g0 m_refused m_kind m_figure m_weight m_got m_setting (nI n) u_17 u_18 m_tape m_letter m_letterAt m_told tp mat stm m_kept him ki crs m_price m_offer m_gets m_yes m_buys m_ends m_carried m_row rm m_keptRow m_likeGets m_likePrice m_ahead, cI aC m_weight 9 wf, cI aC m_setting 5 stf, cI aC m_row 8 tb, cI aC m_got 8 u_19] := ⟨hP, hD⟩
                      have hP := hpd9.1
                      have hD := hpd9.2
                      clear hpd9
                      refine lv_iload_n hx hb dX12_says_148 rfl (lv_at hl 2 rfl) ?_
                      have hpd9 := pd_N (cx := [oX12 g0 m_refused m_kind m_figure m_weight m_got m_setting (nI n) u_17 u_18 m_tape m_letter m_letterAt m_told tp mat stm m_kept him ki crs m_price m_offer m_gets m_yes m_buys m_ends m_carried m_row rm m_keptRow m_likeGets m_likePrice m_ahead, cI aC m_kind 9 kf, cI aC m_figure 9 ff, cI aC m_weight 9 wf, cI aC m_setting 5 stf, cI aC m_price 81 u_4, cI aC m_offer 81 u_5, cI aC m_gets 90 u_6, cI aC m_yes 9 u_7, cI aC m_buys 9 u_8, cI aC m_ends 9 u_9, cI aC m_carried 9 u_10, cI aC m_row 8 tb, cI aC m_got 8 u_19, cI aC m_keptRow 8 kc, cI aC m_refused 7 mr]) hP hD [11, 2, 3, 12, 13, 4, 5, 6, 7, 8, 9, 10, 14, 15, 0, 1] (by decide) rfl
                      have hP9 := hpd9.1
                      have hD9 := hpd9.2
                      refine W.widen (k := 0) (n := 0) (by omega) (by omega) ?_
                      exact W.iret (v := x_16) hx hb hr (fun t ht hW => ⟨⟨x_16, (u_4, u_5, u_6, u_7, u_8, u_9, u_10, u_17, u_18, tb, u_19, kc, mr), rfl, ⟨SY_y hov (hev.2.1 1 (by omega)) hy9 hg1 hg2 (fun j h1 h2 => by rw [hof (j - sn) (by omega)]; congr 2; omega), hbk⟩, by rw [ht]; exact hP9, va_K.moved hW.alike hK, hD9⟩, hS.F ht⟩) hS.2.2 dX12_says_149
                    · have hlt : k < 8 := by
                        rcases Nat.lt_or_ge k 8 with q | q
                        · exact q
                        · exact absurd (nI_le (a := 8) q (by omega)) c_20
                      refine lv_aload_n hx hb dX12_says_125 rfl (lv_at hl 0 rfl) ?_
                      refine va_get (D := (dC, dI)) (ci := 12) (v := Value.ref m_row) (C := RX12) (T := TX12) (N := 33) hx hb hts inX12 hown hK hP 11 rfl rfl 27 (by decide) (hts _ (gw kw_744 rfl)) (fun _ h9 => h9) rfl dX12_says_126 ?_
                      refine lv_iload_n hx hb dX12_says_129 rfl (lv_at hl 3 rfl) ?_
                      refine lv_aload_n hx hb dX12_says_130 rfl (lv_at hl 0 rfl) ?_
                      refine va_get (D := (dC, dI)) (ci := 12) (v := Value.ref m_keptRow) (C := RX12) (T := TX12) (N := 33) hx hb hts inX12 hown hK hP 11 rfl rfl 29 (by decide) (hts _ (gw kw_746 rfl)) (fun _ h9 => h9) rfl dX12_says_131 ?_
                      refine lv_iload_n hx hb dX12_says_134 rfl (lv_at hl 3 rfl) ?_
                      have h_21 : vp_in (nI k) 8 := by first | exact vp_in_nI (by omega) (by omega) | (unfold vp_in; decide) | (subst_vars; first | (unfold vp_in; decide) | exact vp_in_nI (by omega) (by omega))
                      refine va_iald hx hb hK hP 0 0 rfl rfl h_21 dX12_says_135 ?_
                      refine lv_topi (fun x_22 e_22 => ?_)
                      have h_23 : vp_in (nI k) 8 := by first | exact vp_in_nI (by omega) (by omega) | (unfold vp_in; decide) | (subst_vars; first | (unfold vp_in; decide) | exact vp_in_nI (by omega) (by omega))
                      refine va_iast hx hb hK hP hD hS 14 0 rfl rfl h_23 dX12_says_136 (fun H locs hP hD hS => ?_)
                      obtain ⟨f_24, e_f_24⟩ : ∃ y : Nat → Int32, y = upd tb (nI k : Int32).toNatClampNeg x_22 := ⟨_, rfl⟩
                      have hpd9 : PDx (dC, dI) classes A H [cI aC m_keptRow 8 kc, cI aC m_refused 7 mr, cI aC m_kind 9 kf, cI aC m_figure 9 ff, cI aC m_price 81 u_4, cI aC m_offer 81 u_5, cI aC m_gets 90 u_6, cI aC m_yes 9 u_7, cI aC m_buys 9 u_8, cI aC m_ends 9 u_9, cI aC m_carried 9 u_10, oX12 g0 m_refused m_kind m_figure m_weight m_got m_setting (nI n) u_17 u_18 m_tape m_letter m_letterAt m_told tp mat stm m_kept him ki crs m_price m_offer m_gets m_yes m_buys m_ends m_carried m_row 0 m_keptRow m_likeGets m_likePrice m_ahead, cI aC m_weight 9 wf, cI aC m_setting 5 stf, cI aC m_row 8 f_24, cI aC m_got 8 u_19] := by rw [e_f_24]; exact ⟨hP, hD⟩
                      have hP := hpd9.1
                      have hD := hpd9.2
                      clear hpd9
                      obtain ⟨x_25, e_25⟩ : ∃ y : Int32, y = (nI k) + 1 := ⟨_, rfl⟩
                      refine lv_iinc (v := x_25) (lv' := [(3, Value.int x_25), (0, Value.ref g0), (1, Value.int rm), (2, Value.int x_16)]) hx hb dX12_says_137 hl (k := 3) rfl (by rw [e_25]; rfl) (by decide) rfl (fun ls hl => ?_)
                      have h9 : x_25 = nI (k + 1) := by rw [e_25, nI_1]
                      subst h9
                      refine lv_goto (tgt := 119) hx hb dX12_says_140 (by decide) ?_
                      exact ih_119 (k + 1) f_24 (by omega) (by omega) (fun q hq => by rw [e_f_24, nI_clamp (by omega)]; by_cases e : q = k <;> first | (rw [e, pk_us, e_22, nI_clamp (by omega)]; exact hkk k (by omega)) | (rw [pk_un e]; exact hp q (by omega))) _ _ _ (hP.sub [0, 1, 2, 3, 4, 5, 6, 7, 8, 9, 10, 11, 12, 13, 14, 15] rfl) (hD.sub [0, 1, 2, 3, 4, 5, 6, 7, 8, 9, 10, 11, 12, 13, 14, 15] (by decide) rfl) hS (lv_sub hl [1, 2, 3, 0] rfl)
                exact lp_119 ((8 - 0) + 1) 0 tc (Nat.lt_succ_self _) (by omega) (fun q hq => by omega) _ _ _ (hP.sub [0, 1, 2, 3, 4, 5, 6, 7, 8, 9, 10, 11, 12, 13, 14, 15] rfl) (hD.sub [0, 1, 2, 3, 4, 5, 6, 7, 8, 9, 10, 11, 12, 13, 14, 15] (by decide) rfl) hS (lv_sub hl [2, 3, 1, 0] rfl)
              · have hlt : k < (n - sn) := by
                  rcases Nat.lt_or_ge k (n - sn) with q | q
                  · exact q
                  · exact absurd (nI_le q (by omega)) c_13
                refine lv_aload_n hx hb dX12_says_72 rfl (lv_at hl 0 rfl) ?_
                refine va_get (D := (dC, dI)) (ci := 12) (v := Value.ref m_row) (C := RX12) (T := TX12) (N := 33) hx hb hts inX12 hown hK hP 4 rfl rfl 27 (by decide) (hts _ (gw kw_744 rfl)) (fun _ h9 => h9) rfl dX12_says_73 ?_
                refine lv_iload_n hx hb dX12_says_76 rfl (lv_at hl 2 rfl) ?_
                refine lv_aload_n hx hb dX12_says_77 rfl (lv_at hl 0 rfl) ?_
                refine va_get (D := (dC, dI)) (ci := 12) (v := Value.ref m_offer) (C := RX12) (T := TX12) (N := 33) hx hb hts inX12 hown hK hP 4 rfl rfl 21 (by decide) (hts _ (gw kw_738 rfl)) (fun _ h9 => h9) rfl dX12_says_78 ?_
                refine lv_bipush (v := 9) hx hb dX12_says_81 (by decide) ?_
                refine lv_aload_n hx hb dX12_says_83 rfl (lv_at hl 0 rfl) ?_
                refine va_get (D := (dC, dI)) (ci := 12) (v := Value.int (nI sn)) (C := RX12) (T := TX12) (N := 33) hx hb hts inX12 hown hK hP 4 rfl rfl 7 (by decide) (hts _ (gw kw_724 rfl)) (fun _ h9 => h9) rfl dX12_says_84 ?_
                refine lv_imul hx hb dX12_says_87 ?_
                refine lv_topi (fun x_26 e_26 => ?_)
                have h9 : x_26 = nI (9 * sn) := by rw [e_26]; exact pk_mul 9 sn
                subst h9
                refine lv_aload_n hx hb dX12_says_88 rfl (lv_at hl 0 rfl) ?_
                refine va_get (D := (dC, dI)) (ci := 12) (v := Value.int (nI sn)) (C := RX12) (T := TX12) (N := 33) hx hb hts inX12 hown hK hP 4 rfl rfl 7 (by decide) (hts _ (gw kw_724 rfl)) (fun _ h9 => h9) rfl dX12_says_89 ?_
                refine lv_iadd hx hb dX12_says_92 ?_
                refine lv_topi (fun x_27 e_27 => ?_)
                have h9 : x_27 = nI (9 * sn + sn) := by rw [e_27, nI_add]
                subst h9
                refine lv_iload_n hx hb dX12_says_93 rfl (lv_at hl 2 rfl) ?_
                refine lv_iadd hx hb dX12_says_94 ?_
                refine lv_topi (fun x_28 e_28 => ?_)
                have h9 : x_28 = nI (9 * sn + sn + k) := by rw [e_28, nI_add]
                subst h9
                have h_29 : vp_in (nI (9 * sn + sn + k)) 81 := by first | exact vp_in_nI (by omega) (by omega) | (unfold vp_in; decide) | (subst_vars; first | (unfold vp_in; decide) | exact vp_in_nI (by omega) (by omega))
                refine va_iald hx hb hK hP 10 0 rfl rfl h_29 dX12_says_95 ?_
                refine lv_topi (fun x_30 e_30 => ?_)
                have h_31 : vp_in (nI k) 8 := by first | exact vp_in_nI (by omega) (by omega) | (unfold vp_in; decide) | (subst_vars; first | (unfold vp_in; decide) | exact vp_in_nI (by omega) (by omega))
                refine va_iast hx hb hK hP hD hS 0 0 rfl rfl h_31 dX12_says_96 (fun H locs hP hD hS => ?_)
                obtain ⟨f_32, e_f_32⟩ : ∃ y : Nat → Int32, y = upd tc (nI k : Int32).toNatClampNeg x_30 := ⟨_, rfl⟩
                have hpd9 : PDx (dC, dI) classes A H [cI aC m_row 8 f_32, cI aC m_got 8 qf, cI aC m_keptRow 8 kc, cI aC m_refused 7 mr, oX12 g0 m_refused m_kind m_figure m_weight m_got m_setting (nI n) (nI sn) dn m_tape m_letter m_letterAt m_told tp mat stm m_kept him ki crs m_price m_offer m_gets m_yes m_buys m_ends m_carried m_row (nI (n - sn)) m_keptRow m_likeGets m_likePrice m_ahead, cI aC m_kind 9 kf, cI aC m_figure 9 ff, cI aC m_weight 9 wf, cI aC m_setting 5 stf, cI aC m_price 81 u_4, cI aC m_offer 81 u_5, cI aC m_gets 90 u_6, cI aC m_yes 9 u_7, cI aC m_buys 9 u_8, cI aC m_ends 9 u_9, cI aC m_carried 9 u_10] := by rw [e_f_32]; exact ⟨hP, hD⟩
                have hP := hpd9.1
                have hD := hpd9.2
                clear hpd9
                obtain ⟨x_33, e_33⟩ : ∃ y : Int32, y = (nI k) + 1 := ⟨_, rfl⟩
                refine lv_iinc (v := x_33) (lv' := [(2, Value.int x_33), (0, Value.ref g0), (1, Value.int rm)]) hx hb dX12_says_97 hl (k := 2) rfl (by rw [e_33]; rfl) (by decide) rfl (fun ls hl => ?_)
                have h9 : x_33 = nI (k + 1) := by rw [e_33, nI_1]
                subst h9
                refine lv_goto (tgt := 64) hx hb dX12_says_100 (by decide) ?_
                exact ih_64 (k + 1) f_32 (by omega) (by omega) (fun q hq => by rw [e_f_32, nI_clamp (by omega)]; by_cases e : q = k <;> first | (rw [e, pk_us, e_30, nI_clamp (by omega), show 9 * sn + sn + k = 9 * sn + (sn + k) from by omega]; exact (hm1 sn hsn).2.1 (sn + k) (by omega)) | (rw [pk_un e]; exact hp q (by omega))) _ _ _ (hP.sub [0, 1, 2, 3, 4, 5, 6, 7, 8, 9, 10, 11, 12, 13, 14, 15] rfl) (hD.sub [0, 1, 2, 3, 4, 5, 6, 7, 8, 9, 10, 11, 12, 13, 14, 15] (by decide) rfl) hS (lv_sub hl [1, 2, 0] rfl)
          exact lp_64 ((n - sn - 0) + 1) 0 tof (Nat.lt_succ_self _) (by omega) (fun q hq => by omega) _ _ _ (hP.sub [0, 1, 2, 3, 4, 5, 6, 7, 8, 9, 10, 11, 12, 13, 14, 15] rfl) (hD.sub [0, 1, 2, 3, 4, 5, 6, 7, 8, 9, 10, 11, 12, 13, 14, 15] (by decide) rfl) hS (lv_sub hl [1, 2, 0] rfl)
        · have hlt : k < 8 := by
            rcases Nat.lt_or_ge k 8 with q | q
            · exact q
            · exact absurd (nI_le (a := 8) q (by omega)) c_11
          refine lv_aload_n hx hb dX12_says_31 rfl (lv_at hl 0 rfl) ?_
          refine va_get (D := (dC, dI)) (ci := 12) (v := Value.ref m_keptRow) (C := RX12) (T := TX12) (N := 33) hx hb hts inX12 hown hK hP 4 rfl rfl 29 (by decide) (hts _ (gw kw_746 rfl)) (fun _ h9 => h9) rfl dX12_says_32 ?_
          refine lv_iload_n hx hb dX12_says_35 rfl (lv_at hl 2 rfl) ?_
          refine lv_aload_n hx hb dX12_says_36 rfl (lv_at hl 0 rfl) ?_
          refine va_get (D := (dC, dI)) (ci := 12) (v := Value.ref m_row) (C := RX12) (T := TX12) (N := 33) hx hb hts inX12 hown hK hP 4 rfl rfl 27 (by decide) (hts _ (gw kw_744 rfl)) (fun _ h9 => h9) rfl dX12_says_37 ?_
          refine lv_iload_n hx hb dX12_says_40 rfl (lv_at hl 2 rfl) ?_
          have h_34 : vp_in (nI k) 8 := by first | exact vp_in_nI (by omega) (by omega) | (unfold vp_in; decide) | (subst_vars; first | (unfold vp_in; decide) | exact vp_in_nI (by omega) (by omega))
          refine va_iald hx hb hK hP 0 0 rfl rfl h_34 dX12_says_41 ?_
          refine lv_topi (fun x_35 e_35 => ?_)
          have h_36 : vp_in (nI k) 8 := by first | exact vp_in_nI (by omega) (by omega) | (unfold vp_in; decide) | (subst_vars; first | (unfold vp_in; decide) | exact vp_in_nI (by omega) (by omega))
          refine va_iast hx hb hK hP hD hS 2 0 rfl rfl h_36 dX12_says_42 (fun H locs hP hD hS => ?_)
          obtain ⟨f_37, e_f_37⟩ : ∃ y : Nat → Int32, y = upd kc (nI k : Int32).toNatClampNeg x_35 := ⟨_, rfl⟩
          have hpd9 : PDx (dC, dI) classes A H [cI aC m_row 8 tof, cI aC m_got 8 qf, cI aC m_keptRow 8 f_37, cI aC m_refused 7 mr, oX12 g0 m_refused m_kind m_figure m_weight m_got m_setting (nI n) (nI sn) dn m_tape m_letter m_letterAt m_told tp mat stm m_kept him ki crs m_price m_offer m_gets m_yes m_buys m_ends m_carried m_row rm m_keptRow m_likeGets m_likePrice m_ahead, cI aC m_kind 9 kf, cI aC m_figure 9 ff, cI aC m_weight 9 wf, cI aC m_setting 5 stf, cI aC m_price 81 u_4, cI aC m_offer 81 u_5, cI aC m_gets 90 u_6, cI aC m_yes 9 u_7, cI aC m_buys 9 u_8, cI aC m_ends 9 u_9, cI aC m_carried 9 u_10] := by rw [e_f_37]; exact ⟨hP, hD⟩
          have hP := hpd9.1
          have hD := hpd9.2
          clear hpd9
          obtain ⟨x_38, e_38⟩ : ∃ y : Int32, y = (nI k) + 1 := ⟨_, rfl⟩
          refine lv_iinc (v := x_38) (lv' := [(2, Value.int x_38), (0, Value.ref g0), (1, Value.int rm)]) hx hb dX12_says_43 hl (k := 2) rfl (by rw [e_38]; rfl) (by decide) rfl (fun ls hl => ?_)
          have h9 : x_38 = nI (k + 1) := by rw [e_38, nI_1]
          subst h9
          refine lv_goto (tgt := 25) hx hb dX12_says_46 (by decide) ?_
          exact ih_25 (k + 1) f_37 (by omega) (by omega) (fun q hq => by rw [e_f_37, nI_clamp (by omega)]; by_cases e : q = k <;> first | (rw [e, pk_us, e_35, nI_clamp (by omega)]; done) | (rw [pk_un e]; exact hp q (by omega))) _ _ _ (hP.sub [0, 1, 2, 3, 4, 5, 6, 7, 8, 9, 10, 11, 12, 13, 14, 15] rfl) (hD.sub [0, 1, 2, 3, 4, 5, 6, 7, 8, 9, 10, 11, 12, 13, 14, 15] (by decide) rfl) hS (lv_sub hl [1, 2, 0] rfl)
    exact lp_25 ((8 - 0) + 1) 0 kr (Nat.lt_succ_self _) (by omega) (fun q hq => by omega) _ _ _ (hP.sub [0, 1, 2, 3, 4, 5, 6, 7, 8, 9, 10, 11, 12, 13, 14, 15] rfl) (hD.sub [0, 1, 2, 3, 4, 5, 6, 7, 8, 9, 10, 11, 12, 13, 14, 15] (by decide) rfl) hS (lv_sub hl [2, 1, 0] rfl)
  · refine lv_aload_n hx hb dX12_says_7 rfl (lv_at hl 0 rfl) ?_
    refine lv_bipush (v := -3) hx hb dX12_says_8 (by decide) ?_
    have hpd9 := pdf_N (cx := [oX12 g0 m_refused m_kind m_figure m_weight m_got m_setting (nI n) (nI sn) dn m_tape m_letter m_letterAt m_told tp mat stm m_kept him ki crs m_price m_offer m_gets m_yes m_buys m_ends m_carried m_row rm m_keptRow m_likeGets m_likePrice m_ahead, cI aC m_refused 7 mr]) hP hD hS hA [15, 14] (by decide) rfl
    have hPc := hpd9.1
    have hDc := hpd9.2.1
    have hFc := hpd9.2.2
    clear hpd9
    refine va_calli (va_runV (As := [Value.int (-3)]) (rest := []) ⟨hx, hb, hml, hown, hts⟩ (c_X12_no l dC dI aC H.size g0 m_refused m_kind m_figure m_weight m_got m_setting m_tape m_letter m_letterAt m_told m_kept m_price m_offer m_gets m_yes m_buys m_ends m_carried m_row m_keptRow m_likeGets m_likePrice m_ahead (nI n) (nI sn) dn tp mat stm him ki crs rm (-3) 3 mr (by decide) (by unfold vp_in; decide)) ⟨(callB_of 1 hts (gG kw_827) rfl rfl rfl (hts _ (gw kw_13 rfl)) (hts _ (gw kw_824 rfl)) hd_X12_no ⟨Nat.le_of_ble_eq_true rfl, Nat.le_of_ble_eq_true rfl⟩), (hts _ (gw kw_826 rfl)), (hts _ (gw ks_35 rfl))⟩ ⟨fb_std, va_recv (q := (RX12, TX12, 33)) hK hPc (ci := 12) (q0 := 0) rfl rfl, pre_std hPc hK hDc hN⟩ rfl rfl hl.1 rfl (lv_room (Nat.le_of_ble_eq_true rfl)) dX12_says_10 ⟨Nat.le_of_ble_eq_true rfl, Nat.le_of_ble_eq_true rfl⟩) hS (fun q _ h => hFc q h) hFc (fun x_39 u9 t9 H1 locs ht hvm hw_39 hB hz1 hk1 hS => ?_)
    obtain ⟨u_40, rfl⟩ : ∃ z, z = u9 := ⟨_, rfl⟩
    obtain ⟨hP1, hK1, hD1⟩ := hB
    rw [ht] at hP1
    clear hK1
    try dsimp only at hw_39
    have hpd9 : PDx (dC, dI) classes A H1 [cI aC m_kind 9 kf, cI aC m_figure 9 ff, cI aC m_weight 9 wf, cI aC m_setting 5 stf, cI aC m_price 81 pf, cI aC m_offer 81 of, cI aC m_gets 90 gf, cI aC m_yes 9 yf, cI aC m_buys 9 bf, cI aC m_ends 9 ef, cI aC m_carried 9 cf, cI aC m_row 8 tof, cI aC m_got 8 qf, cI aC m_keptRow 8 kr, oX12 g0 m_refused m_kind m_figure m_weight m_got m_setting (nI n) (nI sn) dn m_tape m_letter m_letterAt m_told tp mat stm m_kept him ki crs m_price m_offer m_gets m_yes m_buys m_ends m_carried m_row rm m_keptRow m_likeGets m_likePrice m_ahead, cI aC m_refused 7 u_40] := jn_N (wr := [cI aC m_kind 9 kf, cI aC m_figure 9 ff, cI aC m_weight 9 wf, cI aC m_setting 5 stf, cI aC m_price 81 pf, cI aC m_offer 81 of, cI aC m_gets 90 gf, cI aC m_yes 9 yf, cI aC m_buys 9 bf, cI aC m_ends 9 ef, cI aC m_carried 9 cf, cI aC m_row 8 tof, cI aC m_got 8 qf, cI aC m_keptRow 8 kr]) hFc hk1 hP1 hD1 hP hD [15, 14] [0, 1, 2, 3, 4, 5, 6, 7, 8, 9, 10, 11, 12, 13] rfl rfl (by decide) (by decide)
    have hP := hpd9.1
    have hD := hpd9.2
    clear hpd9
    generalize H1 = H at hP hS ⊢
    clear hPc hDc hFc hz1 hk1 hP1 hD1 ht hvm
    obtain ⟨hv9, -⟩ := hw_39
    have hpd9 := pd_N (cx := [oX12 g0 m_refused m_kind m_figure m_weight m_got m_setting (nI n) (nI sn) dn m_tape m_letter m_letterAt m_told tp mat stm m_kept him ki crs m_price m_offer m_gets m_yes m_buys m_ends m_carried m_row rm m_keptRow m_likeGets m_likePrice m_ahead, cI aC m_kind 9 kf, cI aC m_figure 9 ff, cI aC m_weight 9 wf, cI aC m_setting 5 stf, cI aC m_price 81 pf, cI aC m_offer 81 of, cI aC m_gets 90 gf, cI aC m_yes 9 yf, cI aC m_buys 9 bf, cI aC m_ends 9 ef, cI aC m_carried 9 cf, cI aC m_row 8 tof, cI aC m_got 8 qf, cI aC m_keptRow 8 kr, cI aC m_refused 7 u_40]) hP hD [14, 0, 1, 2, 3, 4, 5, 6, 7, 8, 9, 10, 11, 12, 13, 15] (by decide) rfl
    have hP9 := hpd9.1
    have hD9 := hpd9.2
    refine W.widen (k := 0) (n := 0) (by omega) (by omega) ?_
    exact W.iret (v := x_39) hx hb hr (fun t ht hW => ⟨⟨x_39, (pf, of, gf, yf, bf, ef, cf, (nI sn), dn, tof, qf, kr, u_40), rfl, ⟨⟨fun _ => ⟨hv9, rfl, rfl, fun j _ => rfl⟩, fun q => absurd (ovm_y hn8 hz_1 c_2) q⟩, fun k _ => rfl⟩, by rw [ht]; exact hP9, va_K.moved hW.alike hK, hD9⟩, hS.F ht⟩) hS.2.2 dX12_says_13
