theorem cp5 {a1 a2 b1 b2 c1 c2 d1 d2 e1 e2 : Nat → Int32} (h : (∀ j, j < 8 → a2 j = a1 j) ∧ (∀ j, j < 8 → b2 j = b1 j) ∧ (∀ j, j < 8 → c2 j = c1 j) ∧ (∀ j, j < 8 → d2 j = d1 j) ∧ (∀ j, j < 5 → e2 j = e1 j)) : (∀ j, j < 8 → a2 j = a1 j) ∧ (∀ j, j < 8 → b2 j = b1 j) ∧ (∀ j, j < 8 → c2 j = c1 j) ∧ (∀ j, j < 8 → d2 j = d1 j) ∧ (∀ j, j < 5 → e2 j = e1 j) := h

set_option maxHeartbeats 1000000 in
set_option maxRecDepth 100000 in
/-- X11_man -/
theorem c_X11_man (l : Launch) (dC : Nat → ClassId) (dI : Nat → Nat → Nat) (aC : Nat → ClassId) (sz : Nat) (h0 : Nat) (xp : Nat) (xtp : Nat) (xn : Nat) (xt : Nat) (xk : Nat) (xl : Nat) (xc : Nat) (xo : Nat) (xto : Nat) (xr : Nat) (xch : Nat) (ts : Int32) (ik : Int32) (st : Int32) (ek : Nat) (ef : Nat) (ew : Nat) (ep : Nat) (es : Nat) (n : Nat) (sn : Nat) (dn : Int32) (kf : Nat → Int32) (ff : Nat → Int32) (wf : Nat → Int32) (stf : Nat → Int32) (K : Nat → Nat) (F : Nat → Nat) (W0 : Nat → Nat) (S5 : Nat → Nat) (rf : Nat → Int32) (i : Int32) (w : Int32) (hev : EVS n sn dn K F W0 S5 kf ff wf stf) : Met l yX11_man (wW yX11_man cX11_man 3 (some .int)) ({ frames := 1, cells := 0, slots := 0, locals := 21 } : Room) (va_Pc [Value.ref h0, Value.int i, Value.int w] (fun U => U.heap.size = sz ∧ va_P (dC, dI) classes [oX11 h0 xp xtp xn xt xk xl xc xo xto xr xch ts ik st, oX4 xn ek ef ew ep es (nI n) (nI sn) dn, cI aC ek 8 kf, cI aC ef 8 ff, cI aC ew 8 wf, cI aC xr 7 rf] U.heap ∧ va_K (dC, dI) classes (TY aC) U ∧ va_D (fun _ => True) [oX11 h0 xp xtp xn xt xk xl xc xo xto xr xch ts ik st, oX4 xn ek ef ew ep es (nI n) (nI sn) dn, cI aC ek 8 kf, cI aC ef 8 ff, cI aC ew 8 wf, cI aC xr 7 rf] ∧ NX U)) (va_Qi (fun (r : Int32) (rf2 : Nat → Int32) => r = rMan n K F W0 i w) (fun (rf2 : Nat → Int32) (t : State) => va_P (dC, dI) classes [oX11 h0 xp xtp xn xt xk xl xc xo xto xr xch ts ik st, oX4 xn ek ef ew ep es (nI n) (nI sn) dn, cI aC ek 8 kf, cI aC ef 8 ff, cI aC ew 8 wf, cI aC xr 7 rf2] t.heap ∧ va_K (dC, dI) classes (TY aC) t ∧ va_D (va_A [oX11 h0 xp xtp xn xt xk xl xc xo xto xr xch ts ik st, oX4 xn ek ef ew ep es (nI n) (nI sn) dn, cI aC ek 8 kf, cI aC ef 8 ff, cI aC ew 8 wf, cI aC xr 7 rf] sz) [oX11 h0 xp xtp xn xt xk xl xc xo xto xr xch ts ik st, oX4 xn ek ef ew ep es (nI n) (nI sn) dn, cI aC ek 8 kf, cI aC ef 8 ff, cI aC ew 8 wf, cI aC xr 7 rf2]) (va_A [oX11 h0 xp xtp xn xt xk xl xc xo xto xr xch ts ik st, oX4 xn ek ef ew ep es (nI n) (nI sn) dn, cI aC ek 8 kf, cI aC ef 8 ff, cI aC ew 8 wf, cI aC xr 7 rf] sz)) 0 0 (va_A [oX11 h0 xp xtp xn xt xk xl xc xo xto xr xch ts ik st, oX4 xn ek ef ew ep es (nI n) (nI sn) dn, cI aC ek 8 kf, cI aC ef 8 ff, cI aC ew 8 wf, cI aC xr 7 rf] sz) := by
  refine Met.ofW (cc := cX11_man) (maxL := 3) (ret := (some .int)) (by decide) rfl ?_
  intro p e s m args below meth c s₁ B hml hv
  obtain ⟨rfl, hsz, hP, hK, hD0, hN⟩ := hv
  have hx := B.exec
  have hb := B.bytes
  have hr := B.returns
  have hts0 := atoms_spec (ws := (wW yX11_man cX11_man 3 (some .int))) B.pre
  have hts : ∀ w9 ∈ lw_G, w9.before ([Value.ref h0, Value.int i, Value.int w] : List Value).toArray s = true := fun w9 h9 => hts0 w9 (List.mem_cons_of_mem _ h9)
  have hown : s.vm.findClass RX11 = some m.cls := findClass_of_methodNamed (x := yX11_man) B.named
  have hlocks := B.notSynchronized
  subst hsz
  have hD := hD0.self (sz := s.heap.size)
  generalize hAe : va_A [oX11 h0 xp xtp xn xt xk xl xc xo xto xr xch ts ik st, oX4 xn ek ef ew ep es (nI n) (nI sn) dn, cI aC ek 8 kf, cI aC ef 8 ff, cI aC ew 8 wf, cI aC xr 7 rf] s.heap.size = A at hD ⊢
  have hA : ∀ q : Nat, s.heap.size ≤ q → A q := fun q h => by rw [← hAe]; exact Or.inr h
  obtain ⟨H, hHe⟩ : ∃ H : Heap, H = s.heap := ⟨_, rfl⟩
  have hS : va_S A s.heap H [] := by rw [hHe]; exact va_S.rf
  have hP : va_P (dC, dI) classes [oX11 h0 xp xtp xn xt xk xl xc xo xto xr xch ts ik st, oX4 xn ek ef ew ep es (nI n) (nI sn) dn, cI aC ek 8 kf, cI aC ef 8 ff, cI aC ew 8 wf, cI aC xr 7 rf] H := by rw [hHe]; exact hP
  have hl := lv_entry ([Value.ref h0, Value.int i, Value.int w]) (n := 3) (Nat.le_of_ble_eq_true rfl)
  rw [lg_entry_eq]
  generalize (lg_sl ([Value.ref h0, Value.int i, Value.int w]) ++ List.replicate (3 - (lg_sl ([Value.ref h0, Value.int i, Value.int w])).length) Slot.unset).toArray = ls at hl ⊢
  have hl : lv_has ls 3 [(0, Value.ref h0), (1, Value.int i), (2, Value.int w)] := hl
  rw [← hHe]
  have hn8 := EVS_n hev
  refine lv_aload_n hx hb dX11_man_0 rfl (lv_at hl 0 rfl) ?_
  refine va_get (D := (dC, dI)) (ci := 11) (v := Value.ref xn) (C := RX11) (T := TX11) (N := 14) hx hb hts inX11 hown hK hP 0 rfl rfl 2 (by decide) (hts _ (gw kw_228 rfl)) (fun _ h9 => h9) rfl dX11_man_1 ?_
  refine lv_iload_n hx hb dX11_man_4 rfl (lv_at hl 1 rfl) ?_
  have hpd9 := pdf_N (cx := [oX4 xn ek ef ew ep es (nI n) (nI sn) dn]) hP hD hS hA [1] (by decide) rfl
  have hPc := hpd9.1
  have hDc := hpd9.2.1
  have hFc := hpd9.2.2
  clear hpd9
  refine va_calli (va_runV (As := [Value.int i]) (rest := []) ⟨hx, hb, hml, hown, hts⟩ (c_X4_has l dC dI aC H.size xn ek ef ew ep es (nI n) (nI sn) dn i ) ⟨(callB_of 1 hts (gG kw_340) rfl rfl rfl (hts _ (gw kw_2 rfl)) (hts _ (gw kw_337 rfl)) hd_X4_has ⟨Nat.le_of_ble_eq_true rfl, Nat.le_of_ble_eq_true rfl⟩), (hts _ (gw kw_338 rfl)), (hts _ (gw kw_339 rfl))⟩ ⟨fb_std, va_recv (q := (RX4, TX4, 8)) hK hPc (ci := 4) (q0 := 0) rfl rfl, pre_std hPc hK hDc hN⟩ rfl rfl hl.1 rfl (lv_room (Nat.le_of_ble_eq_true rfl)) dX11_man_5 ⟨Nat.le_of_ble_eq_true rfl, Nat.le_of_ble_eq_true rfl⟩) hS (fun q _ h => hFc q h) hFc (fun x_1 u9 t9 H1 locs ht hvm hw_1 hB hz1 hk1 hS => ?_)
  obtain ⟨hP1, hK1, hD1⟩ := hB
  rw [ht] at hP1
  clear hK1
  try dsimp only at hw_1
  have hpd9 : PDx (dC, dI) classes A H1 [oX11 h0 xp xtp xn xt xk xl xc xo xto xr xch ts ik st, cI aC ek 8 kf, cI aC ef 8 ff, cI aC ew 8 wf, cI aC xr 7 rf, oX4 xn ek ef ew ep es (nI n) (nI sn) dn] := jn_N (wr := [oX11 h0 xp xtp xn xt xk xl xc xo xto xr xch ts ik st, cI aC ek 8 kf, cI aC ef 8 ff, cI aC ew 8 wf, cI aC xr 7 rf]) hFc hk1 hP1 hD1 hP hD [1] [0, 2, 3, 4, 5] rfl rfl (by decide) (by decide)
  have hP := hpd9.1
  have hD := hpd9.2
  clear hpd9
  generalize H1 = H at hP hS ⊢
  clear hPc hDc hFc hz1 hk1 hP1 hD1 ht hvm
  have hz_5 := hw_1
  refine lv_if_ne (tgt := 17) hx hb dX11_man_8 (by decide) (fun c_2 => ?_) (fun c_2 => ?_)
  · obtain ⟨a, ha8, ha9⟩ := OKI_ix hn8 (has_y hz_5 c_2)
    have h9 : i = nI a := ha9
    subst h9
    have he := hev.1.2.2.2 a ha8
    refine lv_iload_n hx hb dX11_man_17 rfl (lv_at hl 2 rfl) ?_
    by_cases c_3 : w = 0
    · refine lv_tableIn (tgt := 44) hx hb dX11_man_18 (by rw [c_3]; decide) (by rw [c_3]; decide) (by rw [c_3]; rfl) (by decide) ?_
      refine lv_aload_n hx hb dX11_man_44 rfl (lv_at hl 0 rfl) ?_
      refine va_get (D := (dC, dI)) (ci := 11) (v := Value.ref xn) (C := RX11) (T := TX11) (N := 14) hx hb hts inX11 hown hK hP 0 rfl rfl 2 (by decide) (hts _ (gw kw_228 rfl)) (fun _ h9 => h9) rfl dX11_man_45 ?_
      refine va_get (D := (dC, dI)) (ci := 4) (v := Value.ref ek) (C := RX4) (T := TX4) (N := 8) hx hb hts inX4 hown hK hP 5 rfl rfl 0 (by decide) (hts _ (gw kw_34 rfl)) (fun _ h9 => h9) rfl dX11_man_48 ?_
      refine lv_iload_n hx hb dX11_man_51 rfl (lv_at hl 1 rfl) ?_
      have h_4 : vp_in (nI a) 8 := by first | exact vp_in_nI (by omega) (by omega) | (unfold vp_in; decide) | (subst_vars; first | (unfold vp_in; decide) | exact vp_in_nI (by omega) (by omega))
      refine va_iald hx hb hK hP 1 0 rfl rfl h_4 dX11_man_52 ?_
      refine lv_topi (fun x_5 e_5 => ?_)
      have hpd9 := pd_N (cx := [oX11 h0 xp xtp xn xt xk xl xc xo xto xr xch ts ik st, oX4 xn ek ef ew ep es (nI n) (nI sn) dn, cI aC ek 8 kf, cI aC ef 8 ff, cI aC ew 8 wf, cI aC xr 7 rf]) hP hD [0, 5, 1, 2, 3, 4] (by decide) rfl
      have hP9 := hpd9.1
      have hD9 := hpd9.2
      refine W.widen (k := 0) (n := 0) (by omega) (by omega) ?_
      exact W.iret (v := x_5) hx hb hr (fun t ht hW => ⟨⟨x_5, (rf), rfl, by rw [e_5, nI_clamp (by omega)]; unfold rMan; rw [if_pos (OKI_nI hn8 ha8), if_pos c_3, nI_clamp (by omega)]; exact he.1.1, by rw [ht]; exact hP9, va_K.moved hW.alike hK, hD9⟩, hS.F ht⟩) hS.2.2 dX11_man_53
    by_cases c_6 : w = 1
    · refine lv_tableIn (tgt := 54) hx hb dX11_man_18 (by rw [c_6]; decide) (by rw [c_6]; decide) (by rw [c_6]; rfl) (by decide) ?_
      refine lv_aload_n hx hb dX11_man_54 rfl (lv_at hl 0 rfl) ?_
      refine va_get (D := (dC, dI)) (ci := 11) (v := Value.ref xn) (C := RX11) (T := TX11) (N := 14) hx hb hts inX11 hown hK hP 0 rfl rfl 2 (by decide) (hts _ (gw kw_228 rfl)) (fun _ h9 => h9) rfl dX11_man_55 ?_
      refine va_get (D := (dC, dI)) (ci := 4) (v := Value.ref ef) (C := RX4) (T := TX4) (N := 8) hx hb hts inX4 hown hK hP 5 rfl rfl 1 (by decide) (hts _ (gw kw_37 rfl)) (fun _ h9 => h9) rfl dX11_man_58 ?_
      refine lv_iload_n hx hb dX11_man_61 rfl (lv_at hl 1 rfl) ?_
      have h_7 : vp_in (nI a) 8 := by first | exact vp_in_nI (by omega) (by omega) | (unfold vp_in; decide) | (subst_vars; first | (unfold vp_in; decide) | exact vp_in_nI (by omega) (by omega))
      refine va_iald hx hb hK hP 2 0 rfl rfl h_7 dX11_man_62 ?_
      refine lv_topi (fun x_8 e_8 => ?_)
      have hpd9 := pd_N (cx := [oX11 h0 xp xtp xn xt xk xl xc xo xto xr xch ts ik st, oX4 xn ek ef ew ep es (nI n) (nI sn) dn, cI aC ek 8 kf, cI aC ef 8 ff, cI aC ew 8 wf, cI aC xr 7 rf]) hP hD [0, 5, 1, 2, 3, 4] (by decide) rfl
      have hP9 := hpd9.1
      have hD9 := hpd9.2
      refine W.widen (k := 0) (n := 0) (by omega) (by omega) ?_
      exact W.iret (v := x_8) hx hb hr (fun t ht hW => ⟨⟨x_8, (rf), rfl, by rw [e_8, nI_clamp (by omega)]; unfold rMan; rw [if_pos (OKI_nI hn8 ha8), if_neg c_3, if_pos c_6, nI_clamp (by omega)]; exact he.2.1.1, by rw [ht]; exact hP9, va_K.moved hW.alike hK, hD9⟩, hS.F ht⟩) hS.2.2 dX11_man_63
    by_cases c_9 : w = 2
    · refine lv_tableIn (tgt := 64) hx hb dX11_man_18 (by rw [c_9]; decide) (by rw [c_9]; decide) (by rw [c_9]; rfl) (by decide) ?_
      refine lv_aload_n hx hb dX11_man_64 rfl (lv_at hl 0 rfl) ?_
      refine va_get (D := (dC, dI)) (ci := 11) (v := Value.ref xn) (C := RX11) (T := TX11) (N := 14) hx hb hts inX11 hown hK hP 0 rfl rfl 2 (by decide) (hts _ (gw kw_228 rfl)) (fun _ h9 => h9) rfl dX11_man_65 ?_
      refine va_get (D := (dC, dI)) (ci := 4) (v := Value.ref ew) (C := RX4) (T := TX4) (N := 8) hx hb hts inX4 hown hK hP 5 rfl rfl 2 (by decide) (hts _ (gw kw_39 rfl)) (fun _ h9 => h9) rfl dX11_man_68 ?_
      refine lv_iload_n hx hb dX11_man_71 rfl (lv_at hl 1 rfl) ?_
      have h_10 : vp_in (nI a) 8 := by first | exact vp_in_nI (by omega) (by omega) | (unfold vp_in; decide) | (subst_vars; first | (unfold vp_in; decide) | exact vp_in_nI (by omega) (by omega))
      refine va_iald hx hb hK hP 3 0 rfl rfl h_10 dX11_man_72 ?_
      refine lv_topi (fun x_11 e_11 => ?_)
      have hpd9 := pd_N (cx := [oX11 h0 xp xtp xn xt xk xl xc xo xto xr xch ts ik st, oX4 xn ek ef ew ep es (nI n) (nI sn) dn, cI aC ek 8 kf, cI aC ef 8 ff, cI aC ew 8 wf, cI aC xr 7 rf]) hP hD [0, 5, 1, 2, 3, 4] (by decide) rfl
      have hP9 := hpd9.1
      have hD9 := hpd9.2
      refine W.widen (k := 0) (n := 0) (by omega) (by omega) ?_
      exact W.iret (v := x_11) hx hb hr (fun t ht hW => ⟨⟨x_11, (rf), rfl, by rw [e_11, nI_clamp (by omega)]; unfold rMan; rw [if_pos (OKI_nI hn8 ha8), if_neg c_3, if_neg c_6, if_pos c_9, nI_clamp (by omega)]; exact he.2.2.1, by rw [ht]; exact hP9, va_K.moved hW.alike hK, hD9⟩, hS.F ht⟩) hS.2.2 dX11_man_73
    refine lv_tableOut (tgt := 74) hx hb dX11_man_18 (sw_out3 c_3 c_6 c_9) (by decide) ?_
    refine lv_aload_n hx hb dX11_man_74 rfl (lv_at hl 0 rfl) ?_
    refine lv_bipush (v := -2) hx hb dX11_man_75 (by decide) ?_
    have hpd9 := pdf_N (cx := [oX11 h0 xp xtp xn xt xk xl xc xo xto xr xch ts ik st, cI aC xr 7 rf]) hP hD hS hA [0, 4] (by decide) rfl
    have hPc := hpd9.1
    have hDc := hpd9.2.1
    have hFc := hpd9.2.2
    clear hpd9
    refine va_calli (va_runV (As := [Value.int (-2)]) (rest := []) ⟨hx, hb, hml, hown, hts⟩ (c_X11_refuse l dC dI aC H.size h0 xp xtp xn xt xk xl xc xo xto xr xch ts ik st (-2) 2 rf (by decide) (by decide) (by decide) (by unfold vp_in; decide)) ⟨(callB_of 1 hts (gG kw_276) rfl rfl rfl (hts _ (gw kw_1 rfl)) (hts _ (gw kw_273 rfl)) hd_X11_refuse ⟨Nat.le_of_ble_eq_true rfl, Nat.le_of_ble_eq_true rfl⟩), (hts _ (gw kw_275 rfl)), (hts _ (gw ks_0 rfl))⟩ ⟨fb_std, va_recv (q := (RX11, TX11, 14)) hK hPc (ci := 11) (q0 := 0) rfl rfl, pre_std hPc hK hDc hN⟩ rfl rfl hl.1 rfl (lv_room (Nat.le_of_ble_eq_true rfl)) dX11_man_77 ⟨Nat.le_of_ble_eq_true rfl, Nat.le_of_ble_eq_true rfl⟩) hS (fun q _ h => hFc q h) hFc (fun x_12 u9 t9 H1 locs ht hvm hw_12 hB hz1 hk1 hS => ?_)
    obtain ⟨u_13, rfl⟩ : ∃ z, z = u9 := ⟨_, rfl⟩
    obtain ⟨hP1, hK1, hD1⟩ := hB
    rw [ht] at hP1
    clear hK1
    try dsimp only at hw_12
    have hpd9 : PDx (dC, dI) classes A H1 [cI aC ek 8 kf, cI aC ef 8 ff, cI aC ew 8 wf, oX4 xn ek ef ew ep es (nI n) (nI sn) dn, oX11 h0 xp xtp xn xt xk xl xc xo xto xr xch ts ik st, cI aC xr 7 u_13] := jn_N (wr := [cI aC ek 8 kf, cI aC ef 8 ff, cI aC ew 8 wf, oX4 xn ek ef ew ep es (nI n) (nI sn) dn]) hFc hk1 hP1 hD1 hP hD [0, 4] [1, 2, 3, 5] rfl rfl (by decide) (by decide)
    have hP := hpd9.1
    have hD := hpd9.2
    clear hpd9
    generalize H1 = H at hP hS ⊢
    clear hPc hDc hFc hz1 hk1 hP1 hD1 ht hvm
    obtain ⟨hv9, -⟩ := hw_12
    have hpd9 := pd_N (cx := [oX11 h0 xp xtp xn xt xk xl xc xo xto xr xch ts ik st, oX4 xn ek ef ew ep es (nI n) (nI sn) dn, cI aC ek 8 kf, cI aC ef 8 ff, cI aC ew 8 wf, cI aC xr 7 u_13]) hP hD [4, 3, 0, 1, 2, 5] (by decide) rfl
    have hP9 := hpd9.1
    have hD9 := hpd9.2
    refine W.widen (k := 0) (n := 0) (by omega) (by omega) ?_
    exact W.iret (v := x_12) hx hb hr (fun t ht hW => ⟨⟨x_12, (u_13), rfl, by rw [hv9]; unfold rMan; rw [if_pos (OKI_nI hn8 ha8), if_neg c_3, if_neg c_6, if_neg c_9], by rw [ht]; exact hP9, va_K.moved hW.alike hK, hD9⟩, hS.F ht⟩) hS.2.2 dX11_man_80
  · refine lv_aload_n hx hb dX11_man_11 rfl (lv_at hl 0 rfl) ?_
    refine lv_iconst (v := -1) hx hb dX11_man_12 (by decide) ?_
    have hpd9 := pdf_N (cx := [oX11 h0 xp xtp xn xt xk xl xc xo xto xr xch ts ik st, cI aC xr 7 rf]) hP hD hS hA [0, 4] (by decide) rfl
    have hPc := hpd9.1
    have hDc := hpd9.2.1
    have hFc := hpd9.2.2
    clear hpd9
    refine va_calli (va_runV (As := [Value.int (-1)]) (rest := []) ⟨hx, hb, hml, hown, hts⟩ (c_X11_refuse l dC dI aC H.size h0 xp xtp xn xt xk xl xc xo xto xr xch ts ik st (-1) 1 rf (by decide) (by decide) (by decide) (by unfold vp_in; decide)) ⟨(callB_of 1 hts (gG kw_276) rfl rfl rfl (hts _ (gw kw_1 rfl)) (hts _ (gw kw_273 rfl)) hd_X11_refuse ⟨Nat.le_of_ble_eq_true rfl, Nat.le_of_ble_eq_true rfl⟩), (hts _ (gw kw_275 rfl)), (hts _ (gw ks_0 rfl))⟩ ⟨fb_std, va_recv (q := (RX11, TX11, 14)) hK hPc (ci := 11) (q0 := 0) rfl rfl, pre_std hPc hK hDc hN⟩ rfl rfl hl.1 rfl (lv_room (Nat.le_of_ble_eq_true rfl)) dX11_man_13 ⟨Nat.le_of_ble_eq_true rfl, Nat.le_of_ble_eq_true rfl⟩) hS (fun q _ h => hFc q h) hFc (fun x_14 u9 t9 H1 locs ht hvm hw_14 hB hz1 hk1 hS => ?_)
    obtain ⟨u_15, rfl⟩ : ∃ z, z = u9 := ⟨_, rfl⟩
    obtain ⟨hP1, hK1, hD1⟩ := hB
    rw [ht] at hP1
    clear hK1
    try dsimp only at hw_14
    have hpd9 : PDx (dC, dI) classes A H1 [cI aC ek 8 kf, cI aC ef 8 ff, cI aC ew 8 wf, oX4 xn ek ef ew ep es (nI n) (nI sn) dn, oX11 h0 xp xtp xn xt xk xl xc xo xto xr xch ts ik st, cI aC xr 7 u_15] := jn_N (wr := [cI aC ek 8 kf, cI aC ef 8 ff, cI aC ew 8 wf, oX4 xn ek ef ew ep es (nI n) (nI sn) dn]) hFc hk1 hP1 hD1 hP hD [0, 4] [1, 2, 3, 5] rfl rfl (by decide) (by decide)
    have hP := hpd9.1
    have hD := hpd9.2
    clear hpd9
    generalize H1 = H at hP hS ⊢
    clear hPc hDc hFc hz1 hk1 hP1 hD1 ht hvm
    obtain ⟨hv9, -⟩ := hw_14
    have hpd9 := pd_N (cx := [oX11 h0 xp xtp xn xt xk xl xc xo xto xr xch ts ik st, oX4 xn ek ef ew ep es (nI n) (nI sn) dn, cI aC ek 8 kf, cI aC ef 8 ff, cI aC ew 8 wf, cI aC xr 7 u_15]) hP hD [4, 3, 0, 1, 2, 5] (by decide) rfl
    have hP9 := hpd9.1
    have hD9 := hpd9.2
    refine W.widen (k := 0) (n := 0) (by omega) (by omega) ?_
    exact W.iret (v := x_14) hx hb hr (fun t ht hW => ⟨⟨x_14, (u_15), rfl, by rw [hv9]; unfold rMan; rw [if_neg (has_n hz_5 c_2)], by rw [ht]; exact hP9, va_K.moved hW.alike hK, hD9⟩, hS.F ht⟩) hS.2.2 dX11_man_16

set_option maxHeartbeats 1000000 in
set_option maxRecDepth 100000 in
/-- X11_set -/
theorem c_X11_set (l : Launch) (dC : Nat → ClassId) (dI : Nat → Nat → Nat) (aC : Nat → ClassId) (sz : Nat) (h0 : Nat) (xp : Nat) (xtp : Nat) (xn : Nat) (xt : Nat) (xk : Nat) (xl : Nat) (xc : Nat) (xo : Nat) (xto : Nat) (xr : Nat) (xch : Nat) (ts : Int32) (ik : Int32) (st : Int32) (ek : Nat) (ef : Nat) (ew : Nat) (ep : Nat) (es : Nat) (n : Nat) (sn : Nat) (dn : Int32) (kf : Nat → Int32) (ff : Nat → Int32) (wf : Nat → Int32) (stf : Nat → Int32) (K : Nat → Nat) (F : Nat → Nat) (W0 : Nat → Nat) (S5 : Nat → Nat) (rf : Nat → Int32) (a1 : Int32) (a2 : Int32) (tG : Nat) (hev : EVS n sn dn K F W0 S5 kf ff wf stf) : Met l yX11_set (wW yX11_set cX11_set 4 (some .int)) ({ frames := 1, cells := 0, slots := 0, locals := 21 } : Room) (va_Pc [Value.ref h0, Value.int a1, Value.int a2] (fun U => U.heap.size = sz ∧ va_P (dC, dI) classes [oX11 h0 xp xtp xn xt xk xl xc xo xto xr xch ts ik st, oX4 xn ek ef ew ep es (nI n) (nI sn) dn, cI aC es 5 stf, cI aC xr 7 rf] U.heap ∧ va_K (dC, dI) classes (TY aC) U ∧ va_D (fun _ => True) [oX11 h0 xp xtp xn xt xk xl xc xo xto xr xch ts ik st, oX4 xn ek ef ew ep es (nI n) (nI sn) dn, cI aC es 5 stf, cI aC xr 7 rf] ∧ NX U ∧ va_Z "EldestSays" "GREATEST" "[I" (.ref tG) (va_A [oX11 h0 xp xtp xn xt xk xl xc xo xto xr xch ts ik st, oX4 xn ek ef ew ep es (nI n) (nI sn) dn, cI aC es 5 stf, cI aC xr 7 rf] sz) U U.heap ∧ va_T .int tG 5 (fun j => .int (GV j)) (va_A [oX11 h0 xp xtp xn xt xk xl xc xo xto xr xch ts ik st, oX4 xn ek ef ew ep es (nI n) (nI sn) dn, cI aC es 5 stf, cI aC xr 7 rf] sz) U U.heap)) (va_Qi (fun (r : Int32) (u : (Nat → Int32) × Int32 × (Nat → Int32)) => match u with | (sg2, st2, rf2) => r = setR S5 a1 a2 ∧ (SOK a1 a2 → st2 = 1) ∧ (¬ SOK a1 a2 → st2 = st ∧ sg2 = stf) ∧ EVS n sn dn K F W0 (setS S5 a1 a2) kf ff wf sg2) (fun (u : (Nat → Int32) × Int32 × (Nat → Int32)) (t : State) => match u with | (sg2, st2, rf2) => va_P (dC, dI) classes [oX11 h0 xp xtp xn xt xk xl xc xo xto xr xch ts ik st2, oX4 xn ek ef ew ep es (nI n) (nI sn) dn, cI aC es 5 sg2, cI aC xr 7 rf2] t.heap ∧ va_K (dC, dI) classes (TY aC) t ∧ va_D (va_A [oX11 h0 xp xtp xn xt xk xl xc xo xto xr xch ts ik st, oX4 xn ek ef ew ep es (nI n) (nI sn) dn, cI aC es 5 stf, cI aC xr 7 rf] sz) [oX11 h0 xp xtp xn xt xk xl xc xo xto xr xch ts ik st2, oX4 xn ek ef ew ep es (nI n) (nI sn) dn, cI aC es 5 sg2, cI aC xr 7 rf2]) (va_A [oX11 h0 xp xtp xn xt xk xl xc xo xto xr xch ts ik st, oX4 xn ek ef ew ep es (nI n) (nI sn) dn, cI aC es 5 stf, cI aC xr 7 rf] sz)) 0 0 (va_A [oX11 h0 xp xtp xn xt xk xl xc xo xto xr xch ts ik st, oX4 xn ek ef ew ep es (nI n) (nI sn) dn, cI aC es 5 stf, cI aC xr 7 rf] sz) := by
  refine Met.ofW (cc := cX11_set) (maxL := 4) (ret := (some .int)) (by decide) rfl ?_
  intro p e s m args below meth c s₁ B hml hv
  obtain ⟨rfl, hsz, hP, hK, hD0, hN, hZG, hTG⟩ := hv
  have hx := B.exec
  have hb := B.bytes
  have hr := B.returns
  have hts0 := atoms_spec (ws := (wW yX11_set cX11_set 4 (some .int))) B.pre
  have hts : ∀ w9 ∈ lw_G, w9.before ([Value.ref h0, Value.int a1, Value.int a2] : List Value).toArray s = true := fun w9 h9 => hts0 w9 (List.mem_cons_of_mem _ h9)
  have hown : s.vm.findClass RX11 = some m.cls := findClass_of_methodNamed (x := yX11_set) B.named
  have hlocks := B.notSynchronized
  subst hsz
  have hD := hD0.self (sz := s.heap.size)
  generalize hAe : va_A [oX11 h0 xp xtp xn xt xk xl xc xo xto xr xch ts ik st, oX4 xn ek ef ew ep es (nI n) (nI sn) dn, cI aC es 5 stf, cI aC xr 7 rf] s.heap.size = A at hZG hTG hD ⊢
  have hA : ∀ q : Nat, s.heap.size ≤ q → A q := fun q h => by rw [← hAe]; exact Or.inr h
  obtain ⟨H, hHe⟩ : ∃ H : Heap, H = s.heap := ⟨_, rfl⟩
  have hS : va_S A s.heap H [] := by rw [hHe]; exact va_S.rf
  have hP : va_P (dC, dI) classes [oX11 h0 xp xtp xn xt xk xl xc xo xto xr xch ts ik st, oX4 xn ek ef ew ep es (nI n) (nI sn) dn, cI aC es 5 stf, cI aC xr 7 rf] H := by rw [hHe]; exact hP
  have hl := lv_entry ([Value.ref h0, Value.int a1, Value.int a2]) (n := 4) (Nat.le_of_ble_eq_true rfl)
  rw [lg_entry_eq]
  generalize (lg_sl ([Value.ref h0, Value.int a1, Value.int a2]) ++ List.replicate (4 - (lg_sl ([Value.ref h0, Value.int a1, Value.int a2])).length) Slot.unset).toArray = ls at hl ⊢
  have hl : lv_has ls 4 [(0, Value.ref h0), (1, Value.int a1), (2, Value.int a2)] := hl
  rw [← hHe]
  refine lv_iload_n hx hb dX11_set_0 rfl (lv_at hl 1 rfl) ?_
  refine lv_if_lt (tgt := 12) hx hb dX11_set_1 (by decide) (fun c_1 => ?_) (fun c_1 => ?_)
  · refine lv_aload_n hx hb dX11_set_12 rfl (lv_at hl 0 rfl) ?_
    refine lv_bipush (v := -2) hx hb dX11_set_13 (by decide) ?_
    have hpd9 := pdf_N (cx := [oX11 h0 xp xtp xn xt xk xl xc xo xto xr xch ts ik st, cI aC xr 7 rf]) hP hD hS hA [0, 3] (by decide) rfl
    have hPc := hpd9.1
    have hDc := hpd9.2.1
    have hFc := hpd9.2.2
    clear hpd9
    refine va_calli (va_runV (As := [Value.int (-2)]) (rest := []) ⟨hx, hb, hml, hown, hts⟩ (c_X11_refuse l dC dI aC H.size h0 xp xtp xn xt xk xl xc xo xto xr xch ts ik st (-2) 2 rf (by decide) (by decide) (by decide) (by unfold vp_in; decide)) ⟨(callB_of 1 hts (gG kw_276) rfl rfl rfl (hts _ (gw kw_1 rfl)) (hts _ (gw kw_273 rfl)) hd_X11_refuse ⟨Nat.le_of_ble_eq_true rfl, Nat.le_of_ble_eq_true rfl⟩), (hts _ (gw kw_275 rfl)), (hts _ (gw ks_0 rfl))⟩ ⟨fb_std, va_recv (q := (RX11, TX11, 14)) hK hPc (ci := 11) (q0 := 0) rfl rfl, pre_std hPc hK hDc hN⟩ rfl rfl hl.1 rfl (lv_room (Nat.le_of_ble_eq_true rfl)) dX11_set_15 ⟨Nat.le_of_ble_eq_true rfl, Nat.le_of_ble_eq_true rfl⟩) hS (fun q _ h => hFc q h) hFc (fun x_2 u9 t9 H1 locs ht hvm hw_2 hB hz1 hk1 hS => ?_)
    obtain ⟨u_3, rfl⟩ : ∃ z, z = u9 := ⟨_, rfl⟩
    obtain ⟨hP1, hK1, hD1⟩ := hB
    rw [ht] at hP1
    clear hK1
    try dsimp only at hw_2
    have hpd9 : PDx (dC, dI) classes A H1 [oX4 xn ek ef ew ep es (nI n) (nI sn) dn, cI aC es 5 stf, oX11 h0 xp xtp xn xt xk xl xc xo xto xr xch ts ik st, cI aC xr 7 u_3] := jn_N (wr := [oX4 xn ek ef ew ep es (nI n) (nI sn) dn, cI aC es 5 stf]) hFc hk1 hP1 hD1 hP hD [0, 3] [1, 2] rfl rfl (by decide) (by decide)
    have hP := hpd9.1
    have hD := hpd9.2
    clear hpd9
    generalize H1 = H at hP hS ⊢
    clear hPc hDc hFc hz1 hk1 hP1 hD1 ht hvm
    obtain ⟨hv9, -⟩ := hw_2
    have hpd9 := pd_N (cx := [oX11 h0 xp xtp xn xt xk xl xc xo xto xr xch ts ik st, oX4 xn ek ef ew ep es (nI n) (nI sn) dn, cI aC es 5 stf, cI aC xr 7 u_3]) hP hD [2, 0, 1, 3] (by decide) rfl
    have hP9 := hpd9.1
    have hD9 := hpd9.2
    refine W.widen (k := 0) (n := 0) (by omega) (by omega) ?_
    exact W.iret (v := x_2) hx hb hr (fun t ht hW => ⟨⟨x_2, (stf, st, u_3), rfl, ⟨by rw [hv9]; unfold setR; rw [if_pos c_1], fun q => absurd q (fun q => q.1 c_1), fun _ => ⟨rfl, rfl⟩, by rw [setS_n (fun q => q.1 c_1)]; exact hev⟩, by rw [ht]; exact hP9, va_K.moved hW.alike hK, hD9⟩, hS.F ht⟩) hS.2.2 dX11_set_18
  · refine lv_iload_n hx hb dX11_set_4 rfl (lv_at hl 1 rfl) ?_
    refine va_gets (v := .ref tG) hx hb hZG hS hown (hts _ (gw kw_345 rfl)) (fun _ h9 => h9) dX11_set_5 ?_
    refine va_tlen (v := 5) hx hb hTG hS (by decide) dX11_set_8 ?_
    refine lv_icmp_lt (tgt := 19) hx hb dX11_set_9 (by decide) (fun c_4 => ?_) (fun c_4 => ?_)
    · refine lv_iload_n hx hb dX11_set_19 rfl (lv_at hl 2 rfl) ?_
      refine lv_if_ge (tgt := 30) hx hb dX11_set_20 (by decide) (fun c_5 => ?_) (fun c_5 => ?_)
      · refine lv_iload_n hx hb dX11_set_30 rfl (lv_at hl 2 rfl) ?_
        refine va_gets (v := .ref tG) hx hb hZG hS hown (hts _ (gw kw_345 rfl)) (fun _ h9 => h9) dX11_set_31 ?_
        refine lv_iload_n hx hb dX11_set_34 rfl (lv_at hl 1 rfl) ?_
        have h_6 : vp_in a1 5 := vin c_1 c_4 rfl
        refine va_ti hx hb hTG hS h_6 rfl dX11_set_35 ?_
        refine lv_topi (fun x_7 e_7 => ?_)
        refine lv_icmp_le (tgt := 46) hx hb dX11_set_36 (by decide) (fun c_8 => ?_) (fun c_8 => ?_)
        · refine lv_aload_n hx hb dX11_set_46 rfl (lv_at hl 0 rfl) ?_
          refine va_get (D := (dC, dI)) (ci := 11) (v := Value.ref xn) (C := RX11) (T := TX11) (N := 14) hx hb hts inX11 hown hK hP 0 rfl rfl 2 (by decide) (hts _ (gw kw_228 rfl)) (fun _ h9 => h9) rfl dX11_set_47 ?_
          refine va_get (D := (dC, dI)) (ci := 4) (v := Value.ref es) (C := RX4) (T := TX4) (N := 8) hx hb hts inX4 hown hK hP 1 rfl rfl 4 (by decide) (hts _ (gw kw_45 rfl)) (fun _ h9 => h9) rfl dX11_set_50 ?_
          refine lv_iload_n hx hb dX11_set_53 rfl (lv_at hl 1 rfl) ?_
          have h_9 : vp_in a1 5 := vin c_1 c_4 rfl
          refine va_iald hx hb hK hP 2 0 rfl rfl h_9 dX11_set_54 ?_
          refine lv_topi (fun x_10 e_10 => ?_)
          refine lv_istore_n (lv' := [(3, Value.int x_10), (0, Value.ref h0), (1, Value.int a1), (2, Value.int a2)]) hx hb dX11_set_55 rfl hl (by decide) rfl (fun ls hl => ?_)
          refine lv_aload_n hx hb dX11_set_56 rfl (lv_at hl 1 rfl) ?_
          refine va_get (D := (dC, dI)) (ci := 11) (v := Value.ref xn) (C := RX11) (T := TX11) (N := 14) hx hb hts inX11 hown hK hP 0 rfl rfl 2 (by decide) (hts _ (gw kw_228 rfl)) (fun _ h9 => h9) rfl dX11_set_57 ?_
          refine va_get (D := (dC, dI)) (ci := 4) (v := Value.ref es) (C := RX4) (T := TX4) (N := 8) hx hb hts inX4 hown hK hP 1 rfl rfl 4 (by decide) (hts _ (gw kw_45 rfl)) (fun _ h9 => h9) rfl dX11_set_60 ?_
          refine lv_iload_n hx hb dX11_set_63 rfl (lv_at hl 2 rfl) ?_
          refine lv_iload_n hx hb dX11_set_64 rfl (lv_at hl 3 rfl) ?_
          have h_11 : vp_in a1 5 := vin c_1 c_4 rfl
          refine va_iast hx hb hK hP hD hS 2 0 rfl rfl h_11 dX11_set_65 (fun H locs hP hD hS => ?_)
          obtain ⟨f_12, e_f_12⟩ : ∃ y : Nat → Int32, y = upd stf (a1 : Int32).toNatClampNeg a2 := ⟨_, rfl⟩
          have hpd9 : PDx (dC, dI) classes A H [oX11 h0 xp xtp xn xt xk xl xc xo xto xr xch ts ik st, oX4 xn ek ef ew ep es (nI n) (nI sn) dn, cI aC es 5 f_12, cI aC xr 7 rf] := by rw [e_f_12]; exact ⟨hP, hD⟩
          have hP := hpd9.1
          have hD := hpd9.2
          clear hpd9
          refine lv_aload_n hx hb dX11_set_66 rfl (lv_at hl 1 rfl) ?_
          refine lv_iconst (v := 1) hx hb dX11_set_67 (by decide) ?_
          refine va_put (D := (dC, dI)) (ci := 11) (v := Value.int 1) (ty := .boolean) (C := RX11) (T := TX11) (N := 14) hx hb hts inX11 tyX11 tyX11_ok nmX11 hown hK hP hD hS 0 rfl rfl 13 (by decide) (hts _ (gw kw_239 rfl)) (fun _ h9 => h9) rfl (by decide +kernel) rfl rfl (Nat.le_of_ble_eq_true rfl) dX11_set_68 (fun H locs hP hD hS => ?_)
          have hpd9 : PDx (dC, dI) classes A H [oX11 h0 xp xtp xn xt xk xl xc xo xto xr xch ts ik 1, oX4 xn ek ef ew ep es (nI n) (nI sn) dn, cI aC es 5 f_12, cI aC xr 7 rf] := ⟨hP, hD⟩
          have hP := hpd9.1
          have hD := hpd9.2
          clear hpd9
          refine lv_iload_n hx hb dX11_set_71 rfl (lv_at hl 0 rfl) ?_
          have hpd9 := pd_N (cx := [oX11 h0 xp xtp xn xt xk xl xc xo xto xr xch ts ik 1, oX4 xn ek ef ew ep es (nI n) (nI sn) dn, cI aC es 5 f_12, cI aC xr 7 rf]) hP hD [0, 1, 2, 3] (by decide) rfl
          have hP9 := hpd9.1
          have hD9 := hpd9.2
          refine W.widen (k := 0) (n := 0) (by omega) (by omega) ?_
          exact W.iret (v := x_10) hx hb hr (fun t ht hW => ⟨⟨x_10, (f_12, 1, rf), rfl, ⟨by rw [e_10]; unfold setR; rw [if_neg c_1, if_neg (Int32.not_le.mpr c_4), if_neg (Int32.not_lt.mpr c_5), if_neg (by rw [← e_7]; exact Int32.not_lt.mpr c_8)]; obtain ⟨a, b, q1, q2, -⟩ := SOK_ix ⟨c_1, c_4, Int32.not_lt.mpr c_5, by rw [← e_7]; exact Int32.not_lt.mpr c_8⟩; rw [q2, nI_clamp (by omega)]; exact hev.2.1 a q1, fun _ => rfl, fun q => absurd ⟨c_1, c_4, Int32.not_lt.mpr c_5, by rw [← e_7]; exact Int32.not_lt.mpr c_8⟩ q, EVS_set hev ⟨c_1, c_4, Int32.not_lt.mpr c_5, by rw [← e_7]; exact Int32.not_lt.mpr c_8⟩ e_f_12⟩, by rw [ht]; exact hP9, va_K.moved hW.alike hK, hD9⟩, hS.F ht⟩) hS.2.2 dX11_set_72
        · refine lv_aload_n hx hb dX11_set_39 rfl (lv_at hl 0 rfl) ?_
          refine lv_bipush (v := -6) hx hb dX11_set_40 (by decide) ?_
          have hpd9 := pdf_N (cx := [oX11 h0 xp xtp xn xt xk xl xc xo xto xr xch ts ik st, cI aC xr 7 rf]) hP hD hS hA [0, 3] (by decide) rfl
          have hPc := hpd9.1
          have hDc := hpd9.2.1
          have hFc := hpd9.2.2
          clear hpd9
          refine va_calli (va_runV (As := [Value.int (-6)]) (rest := []) ⟨hx, hb, hml, hown, hts⟩ (c_X11_refuse l dC dI aC H.size h0 xp xtp xn xt xk xl xc xo xto xr xch ts ik st (-6) 6 rf (by decide) (by decide) (by decide) (by unfold vp_in; decide)) ⟨(callB_of 1 hts (gG kw_276) rfl rfl rfl (hts _ (gw kw_1 rfl)) (hts _ (gw kw_273 rfl)) hd_X11_refuse ⟨Nat.le_of_ble_eq_true rfl, Nat.le_of_ble_eq_true rfl⟩), (hts _ (gw kw_275 rfl)), (hts _ (gw ks_0 rfl))⟩ ⟨fb_std, va_recv (q := (RX11, TX11, 14)) hK hPc (ci := 11) (q0 := 0) rfl rfl, pre_std hPc hK hDc hN⟩ rfl rfl hl.1 rfl (lv_room (Nat.le_of_ble_eq_true rfl)) dX11_set_42 ⟨Nat.le_of_ble_eq_true rfl, Nat.le_of_ble_eq_true rfl⟩) hS (fun q _ h => hFc q h) hFc (fun x_13 u9 t9 H1 locs ht hvm hw_13 hB hz1 hk1 hS => ?_)
          obtain ⟨u_14, rfl⟩ : ∃ z, z = u9 := ⟨_, rfl⟩
          obtain ⟨hP1, hK1, hD1⟩ := hB
          rw [ht] at hP1
          clear hK1
          try dsimp only at hw_13
          have hpd9 : PDx (dC, dI) classes A H1 [oX4 xn ek ef ew ep es (nI n) (nI sn) dn, cI aC es 5 stf, oX11 h0 xp xtp xn xt xk xl xc xo xto xr xch ts ik st, cI aC xr 7 u_14] := jn_N (wr := [oX4 xn ek ef ew ep es (nI n) (nI sn) dn, cI aC es 5 stf]) hFc hk1 hP1 hD1 hP hD [0, 3] [1, 2] rfl rfl (by decide) (by decide)
          have hP := hpd9.1
          have hD := hpd9.2
          clear hpd9
          generalize H1 = H at hP hS ⊢
          clear hPc hDc hFc hz1 hk1 hP1 hD1 ht hvm
          obtain ⟨hv9, -⟩ := hw_13
          have hpd9 := pd_N (cx := [oX11 h0 xp xtp xn xt xk xl xc xo xto xr xch ts ik st, oX4 xn ek ef ew ep es (nI n) (nI sn) dn, cI aC es 5 stf, cI aC xr 7 u_14]) hP hD [2, 0, 1, 3] (by decide) rfl
          have hP9 := hpd9.1
          have hD9 := hpd9.2
          refine W.widen (k := 0) (n := 0) (by omega) (by omega) ?_
          exact W.iret (v := x_13) hx hb hr (fun t ht hW => ⟨⟨x_13, (stf, st, u_14), rfl, ⟨by rw [hv9]; unfold setR; rw [if_neg c_1, if_neg (Int32.not_le.mpr c_4), if_neg (Int32.not_lt.mpr c_5), if_pos (by rw [← e_7]; exact Int32.not_le.mp c_8)], fun q => absurd q (fun q => q.2.2.2 (by rw [← e_7]; exact Int32.not_le.mp c_8)), fun _ => ⟨rfl, rfl⟩, by rw [setS_n (fun q => q.2.2.2 (by rw [← e_7]; exact Int32.not_le.mp c_8))]; exact hev⟩, by rw [ht]; exact hP9, va_K.moved hW.alike hK, hD9⟩, hS.F ht⟩) hS.2.2 dX11_set_45
      · refine lv_aload_n hx hb dX11_set_23 rfl (lv_at hl 0 rfl) ?_
        refine lv_bipush (v := -4) hx hb dX11_set_24 (by decide) ?_
        have hpd9 := pdf_N (cx := [oX11 h0 xp xtp xn xt xk xl xc xo xto xr xch ts ik st, cI aC xr 7 rf]) hP hD hS hA [0, 3] (by decide) rfl
        have hPc := hpd9.1
        have hDc := hpd9.2.1
        have hFc := hpd9.2.2
        clear hpd9
        refine va_calli (va_runV (As := [Value.int (-4)]) (rest := []) ⟨hx, hb, hml, hown, hts⟩ (c_X11_refuse l dC dI aC H.size h0 xp xtp xn xt xk xl xc xo xto xr xch ts ik st (-4) 4 rf (by decide) (by decide) (by decide) (by unfold vp_in; decide)) ⟨(callB_of 1 hts (gG kw_276) rfl rfl rfl (hts _ (gw kw_1 rfl)) (hts _ (gw kw_273 rfl)) hd_X11_refuse ⟨Nat.le_of_ble_eq_true rfl, Nat.le_of_ble_eq_true rfl⟩), (hts _ (gw kw_275 rfl)), (hts _ (gw ks_0 rfl))⟩ ⟨fb_std, va_recv (q := (RX11, TX11, 14)) hK hPc (ci := 11) (q0 := 0) rfl rfl, pre_std hPc hK hDc hN⟩ rfl rfl hl.1 rfl (lv_room (Nat.le_of_ble_eq_true rfl)) dX11_set_26 ⟨Nat.le_of_ble_eq_true rfl, Nat.le_of_ble_eq_true rfl⟩) hS (fun q _ h => hFc q h) hFc (fun x_15 u9 t9 H1 locs ht hvm hw_15 hB hz1 hk1 hS => ?_)
        obtain ⟨u_16, rfl⟩ : ∃ z, z = u9 := ⟨_, rfl⟩
        obtain ⟨hP1, hK1, hD1⟩ := hB
        rw [ht] at hP1
        clear hK1
        try dsimp only at hw_15
        have hpd9 : PDx (dC, dI) classes A H1 [oX4 xn ek ef ew ep es (nI n) (nI sn) dn, cI aC es 5 stf, oX11 h0 xp xtp xn xt xk xl xc xo xto xr xch ts ik st, cI aC xr 7 u_16] := jn_N (wr := [oX4 xn ek ef ew ep es (nI n) (nI sn) dn, cI aC es 5 stf]) hFc hk1 hP1 hD1 hP hD [0, 3] [1, 2] rfl rfl (by decide) (by decide)
        have hP := hpd9.1
        have hD := hpd9.2
        clear hpd9
        generalize H1 = H at hP hS ⊢
        clear hPc hDc hFc hz1 hk1 hP1 hD1 ht hvm
        obtain ⟨hv9, -⟩ := hw_15
        have hpd9 := pd_N (cx := [oX11 h0 xp xtp xn xt xk xl xc xo xto xr xch ts ik st, oX4 xn ek ef ew ep es (nI n) (nI sn) dn, cI aC es 5 stf, cI aC xr 7 u_16]) hP hD [2, 0, 1, 3] (by decide) rfl
        have hP9 := hpd9.1
        have hD9 := hpd9.2
        refine W.widen (k := 0) (n := 0) (by omega) (by omega) ?_
        exact W.iret (v := x_15) hx hb hr (fun t ht hW => ⟨⟨x_15, (stf, st, u_16), rfl, ⟨by rw [hv9]; unfold setR; rw [if_neg c_1, if_neg (Int32.not_le.mpr c_4), if_pos (Int32.not_le.mp c_5)], fun q => absurd q (fun q => q.2.2.1 (Int32.not_le.mp c_5)), fun _ => ⟨rfl, rfl⟩, by rw [setS_n (fun q => q.2.2.1 (Int32.not_le.mp c_5))]; exact hev⟩, by rw [ht]; exact hP9, va_K.moved hW.alike hK, hD9⟩, hS.F ht⟩) hS.2.2 dX11_set_29
    · refine lv_aload_n hx hb dX11_set_12 rfl (lv_at hl 0 rfl) ?_
      refine lv_bipush (v := -2) hx hb dX11_set_13 (by decide) ?_
      have hpd9 := pdf_N (cx := [oX11 h0 xp xtp xn xt xk xl xc xo xto xr xch ts ik st, cI aC xr 7 rf]) hP hD hS hA [0, 3] (by decide) rfl
      have hPc := hpd9.1
      have hDc := hpd9.2.1
      have hFc := hpd9.2.2
      clear hpd9
      refine va_calli (va_runV (As := [Value.int (-2)]) (rest := []) ⟨hx, hb, hml, hown, hts⟩ (c_X11_refuse l dC dI aC H.size h0 xp xtp xn xt xk xl xc xo xto xr xch ts ik st (-2) 2 rf (by decide) (by decide) (by decide) (by unfold vp_in; decide)) ⟨(callB_of 1 hts (gG kw_276) rfl rfl rfl (hts _ (gw kw_1 rfl)) (hts _ (gw kw_273 rfl)) hd_X11_refuse ⟨Nat.le_of_ble_eq_true rfl, Nat.le_of_ble_eq_true rfl⟩), (hts _ (gw kw_275 rfl)), (hts _ (gw ks_0 rfl))⟩ ⟨fb_std, va_recv (q := (RX11, TX11, 14)) hK hPc (ci := 11) (q0 := 0) rfl rfl, pre_std hPc hK hDc hN⟩ rfl rfl hl.1 rfl (lv_room (Nat.le_of_ble_eq_true rfl)) dX11_set_15 ⟨Nat.le_of_ble_eq_true rfl, Nat.le_of_ble_eq_true rfl⟩) hS (fun q _ h => hFc q h) hFc (fun x_17 u9 t9 H1 locs ht hvm hw_17 hB hz1 hk1 hS => ?_)
      obtain ⟨u_18, rfl⟩ : ∃ z, z = u9 := ⟨_, rfl⟩
      obtain ⟨hP1, hK1, hD1⟩ := hB
      rw [ht] at hP1
      clear hK1
      try dsimp only at hw_17
      have hpd9 : PDx (dC, dI) classes A H1 [oX4 xn ek ef ew ep es (nI n) (nI sn) dn, cI aC es 5 stf, oX11 h0 xp xtp xn xt xk xl xc xo xto xr xch ts ik st, cI aC xr 7 u_18] := jn_N (wr := [oX4 xn ek ef ew ep es (nI n) (nI sn) dn, cI aC es 5 stf]) hFc hk1 hP1 hD1 hP hD [0, 3] [1, 2] rfl rfl (by decide) (by decide)
      have hP := hpd9.1
      have hD := hpd9.2
      clear hpd9
      generalize H1 = H at hP hS ⊢
      clear hPc hDc hFc hz1 hk1 hP1 hD1 ht hvm
      obtain ⟨hv9, -⟩ := hw_17
      have hpd9 := pd_N (cx := [oX11 h0 xp xtp xn xt xk xl xc xo xto xr xch ts ik st, oX4 xn ek ef ew ep es (nI n) (nI sn) dn, cI aC es 5 stf, cI aC xr 7 u_18]) hP hD [2, 0, 1, 3] (by decide) rfl
      have hP9 := hpd9.1
      have hD9 := hpd9.2
      refine W.widen (k := 0) (n := 0) (by omega) (by omega) ?_
      exact W.iret (v := x_17) hx hb hr (fun t ht hW => ⟨⟨x_17, (stf, st, u_18), rfl, ⟨by rw [hv9]; unfold setR; rw [if_neg c_1, if_pos (Int32.not_lt.mp c_4)], fun q => absurd q (fun q => c_4 q.2.1), fun _ => ⟨rfl, rfl⟩, by rw [setS_n (fun q => c_4 q.2.1)]; exact hev⟩, by rw [ht]; exact hP9, va_K.moved hW.alike hK, hD9⟩, hS.F ht⟩) hS.2.2 dX11_set_18

set_option maxHeartbeats 1000000 in
set_option maxRecDepth 100000 in
/-- X11_image -/
theorem c_X11_image (l : Launch) (dC : Nat → ClassId) (dI : Nat → Nat → Nat) (aC : Nat → ClassId) (sz : Nat) (h0 : Nat) (xp : Nat) (xtp : Nat) (xn : Nat) (xt : Nat) (xk : Nat) (xl : Nat) (xc : Nat) (xo : Nat) (xto : Nat) (xr : Nat) (xch : Nat) (ts : Int32) (ik : Int32) (st : Int32) (ek : Nat) (ef : Nat) (ew : Nat) (ep : Nat) (es : Nat) (n : Nat) (sn : Nat) (dn : Int32) (kek : Nat) (kef : Nat) (kew : Nat) (kep : Nat) (kes : Nat) (ksz : Int32) (ksy : Int32) (kdn : Int32) (kkf : Nat → Int32) (kff : Nat → Int32) (kwf : Nat → Int32) (kpf : Nat → Int32) (kstf : Nat → Int32) (kf : Nat → Int32) (ff : Nat → Int32) (wf : Nat → Int32) (pf : Nat → Int32) (stf : Nat → Int32) (tG : Nat) (hdn : dn = 0 ∨ dn = 1) : Met l yX11_image (wW yX11_image cX11_image 1 (some .int)) ({ frames := 2, cells := 0, slots := 0, locals := 61 } : Room) (va_Pc [Value.ref h0] (fun U => U.heap.size = sz ∧ va_P (dC, dI) classes [oX11 h0 xp xtp xn xt xk xl xc xo xto xr xch ts ik st, oX4 xn ek ef ew ep es (nI n) (nI sn) dn, cI aC ek 8 kf, cI aC ef 8 ff, cI aC ew 8 wf, cI aC ep 8 pf, cI aC es 5 stf, oX4 xk kek kef kew kep kes ksz ksy kdn, cI aC kek 8 kkf, cI aC kef 8 kff, cI aC kew 8 kwf, cI aC kep 8 kpf, cI aC kes 5 kstf] U.heap ∧ va_K (dC, dI) classes (TY aC) U ∧ va_D (fun _ => True) [oX11 h0 xp xtp xn xt xk xl xc xo xto xr xch ts ik st, oX4 xn ek ef ew ep es (nI n) (nI sn) dn, cI aC ek 8 kf, cI aC ef 8 ff, cI aC ew 8 wf, cI aC ep 8 pf, cI aC es 5 stf, oX4 xk kek kef kew kep kes ksz ksy kdn, cI aC kek 8 kkf, cI aC kef 8 kff, cI aC kew 8 kwf, cI aC kep 8 kpf, cI aC kes 5 kstf] ∧ NX U ∧ va_Z "EldestSays" "GREATEST" "[I" (.ref tG) (va_A [oX11 h0 xp xtp xn xt xk xl xc xo xto xr xch ts ik st, oX4 xn ek ef ew ep es (nI n) (nI sn) dn, cI aC ek 8 kf, cI aC ef 8 ff, cI aC ew 8 wf, cI aC ep 8 pf, cI aC es 5 stf, oX4 xk kek kef kew kep kes ksz ksy kdn, cI aC kek 8 kkf, cI aC kef 8 kff, cI aC kew 8 kwf, cI aC kep 8 kpf, cI aC kes 5 kstf] sz) U U.heap ∧ va_T .int tG 5 (fun j => .int (GV j)) (va_A [oX11 h0 xp xtp xn xt xk xl xc xo xto xr xch ts ik st, oX4 xn ek ef ew ep es (nI n) (nI sn) dn, cI aC ek 8 kf, cI aC ef 8 ff, cI aC ew 8 wf, cI aC ep 8 pf, cI aC es 5 stf, oX4 xk kek kef kew kep kes ksz ksy kdn, cI aC kek 8 kkf, cI aC kef 8 kff, cI aC kew 8 kwf, cI aC kep 8 kpf, cI aC kes 5 kstf] sz) U U.heap)) (va_Qi (fun (r : Int32) (u : (Nat → Int32) × (Nat → Int32) × (Nat → Int32) × (Nat → Int32) × (Nat → Int32)) => match u with | (kkf2, kff2, kwf2, kpf2, kstf2) => r = nI n ∧ (∀ j, j < 8 → kkf2 j = kf j) ∧ (∀ j, j < 8 → kff2 j = ff j) ∧ (∀ j, j < 8 → kwf2 j = wf j) ∧ (∀ j, j < 8 → kpf2 j = pf j) ∧ (∀ j, j < 5 → kstf2 j = stf j)) (fun (u : (Nat → Int32) × (Nat → Int32) × (Nat → Int32) × (Nat → Int32) × (Nat → Int32)) (t : State) => match u with | (kkf2, kff2, kwf2, kpf2, kstf2) => va_P (dC, dI) classes [oX11 h0 xp xtp xn xt xk xl xc xo xto xr xch ts 1 st, oX4 xn ek ef ew ep es (nI n) (nI sn) dn, cI aC ek 8 kf, cI aC ef 8 ff, cI aC ew 8 wf, cI aC ep 8 pf, cI aC es 5 stf, oX4 xk kek kef kew kep kes (nI n) (nI sn) dn, cI aC kek 8 kkf2, cI aC kef 8 kff2, cI aC kew 8 kwf2, cI aC kep 8 kpf2, cI aC kes 5 kstf2] t.heap ∧ va_K (dC, dI) classes (TY aC) t ∧ va_D (va_A [oX11 h0 xp xtp xn xt xk xl xc xo xto xr xch ts ik st, oX4 xn ek ef ew ep es (nI n) (nI sn) dn, cI aC ek 8 kf, cI aC ef 8 ff, cI aC ew 8 wf, cI aC ep 8 pf, cI aC es 5 stf, oX4 xk kek kef kew kep kes ksz ksy kdn, cI aC kek 8 kkf, cI aC kef 8 kff, cI aC kew 8 kwf, cI aC kep 8 kpf, cI aC kes 5 kstf] sz) [oX11 h0 xp xtp xn xt xk xl xc xo xto xr xch ts 1 st, oX4 xn ek ef ew ep es (nI n) (nI sn) dn, cI aC ek 8 kf, cI aC ef 8 ff, cI aC ew 8 wf, cI aC ep 8 pf, cI aC es 5 stf, oX4 xk kek kef kew kep kes (nI n) (nI sn) dn, cI aC kek 8 kkf2, cI aC kef 8 kff2, cI aC kew 8 kwf2, cI aC kep 8 kpf2, cI aC kes 5 kstf2]) (va_A [oX11 h0 xp xtp xn xt xk xl xc xo xto xr xch ts ik st, oX4 xn ek ef ew ep es (nI n) (nI sn) dn, cI aC ek 8 kf, cI aC ef 8 ff, cI aC ew 8 wf, cI aC ep 8 pf, cI aC es 5 stf, oX4 xk kek kef kew kep kes ksz ksy kdn, cI aC kek 8 kkf, cI aC kef 8 kff, cI aC kew 8 kwf, cI aC kep 8 kpf, cI aC kes 5 kstf] sz)) 0 0 (va_A [oX11 h0 xp xtp xn xt xk xl xc xo xto xr xch ts ik st, oX4 xn ek ef ew ep es (nI n) (nI sn) dn, cI aC ek 8 kf, cI aC ef 8 ff, cI aC ew 8 wf, cI aC ep 8 pf, cI aC es 5 stf, oX4 xk kek kef kew kep kes ksz ksy kdn, cI aC kek 8 kkf, cI aC kef 8 kff, cI aC kew 8 kwf, cI aC kep 8 kpf, cI aC kes 5 kstf] sz) := by
  refine Met.ofW (cc := cX11_image) (maxL := 1) (ret := (some .int)) (by decide) rfl ?_
  intro p e s m args below meth c s₁ B hml hv
  obtain ⟨rfl, hsz, hP, hK, hD0, hN, hZG, hTG⟩ := hv
  have hx := B.exec
  have hb := B.bytes
  have hr := B.returns
  have hts0 := atoms_spec (ws := (wW yX11_image cX11_image 1 (some .int))) B.pre
  have hts : ∀ w9 ∈ lw_G, w9.before ([Value.ref h0] : List Value).toArray s = true := fun w9 h9 => hts0 w9 (List.mem_cons_of_mem _ h9)
  have hown : s.vm.findClass RX11 = some m.cls := findClass_of_methodNamed (x := yX11_image) B.named
  have hlocks := B.notSynchronized
  subst hsz
  have hD := hD0.self (sz := s.heap.size)
  generalize hAe : va_A [oX11 h0 xp xtp xn xt xk xl xc xo xto xr xch ts ik st, oX4 xn ek ef ew ep es (nI n) (nI sn) dn, cI aC ek 8 kf, cI aC ef 8 ff, cI aC ew 8 wf, cI aC ep 8 pf, cI aC es 5 stf, oX4 xk kek kef kew kep kes ksz ksy kdn, cI aC kek 8 kkf, cI aC kef 8 kff, cI aC kew 8 kwf, cI aC kep 8 kpf, cI aC kes 5 kstf] s.heap.size = A at hZG hTG hD ⊢
  have hA : ∀ q : Nat, s.heap.size ≤ q → A q := fun q h => by rw [← hAe]; exact Or.inr h
  obtain ⟨H, hHe⟩ : ∃ H : Heap, H = s.heap := ⟨_, rfl⟩
  have hS : va_S A s.heap H [] := by rw [hHe]; exact va_S.rf
  have hP : va_P (dC, dI) classes [oX11 h0 xp xtp xn xt xk xl xc xo xto xr xch ts ik st, oX4 xn ek ef ew ep es (nI n) (nI sn) dn, cI aC ek 8 kf, cI aC ef 8 ff, cI aC ew 8 wf, cI aC ep 8 pf, cI aC es 5 stf, oX4 xk kek kef kew kep kes ksz ksy kdn, cI aC kek 8 kkf, cI aC kef 8 kff, cI aC kew 8 kwf, cI aC kep 8 kpf, cI aC kes 5 kstf] H := by rw [hHe]; exact hP
  have hl := lv_entry ([Value.ref h0]) (n := 1) (Nat.le_of_ble_eq_true rfl)
  rw [lg_entry_eq]
  generalize (lg_sl ([Value.ref h0]) ++ List.replicate (1 - (lg_sl ([Value.ref h0])).length) Slot.unset).toArray = ls at hl ⊢
  have hl : lv_has ls 1 [(0, Value.ref h0)] := hl
  rw [← hHe]
  refine lv_aload_n hx hb dX11_image_0 rfl (lv_at hl 0 rfl) ?_
  refine va_get (D := (dC, dI)) (ci := 11) (v := Value.ref xk) (C := RX11) (T := TX11) (N := 14) hx hb hts inX11 hown hK hP 0 rfl rfl 4 (by decide) (hts _ (gw kw_230 rfl)) (fun _ h9 => h9) rfl dX11_image_1 ?_
  refine lv_aload_n hx hb dX11_image_4 rfl (lv_at hl 0 rfl) ?_
  refine va_get (D := (dC, dI)) (ci := 11) (v := Value.ref xn) (C := RX11) (T := TX11) (N := 14) hx hb hts inX11 hown hK hP 0 rfl rfl 2 (by decide) (hts _ (gw kw_228 rfl)) (fun _ h9 => h9) rfl dX11_image_5 ?_
  have hpd9 := pdf_N (cx := [oX4 xk kek kef kew kep kes ksz ksy kdn, cI aC kek 8 kkf, cI aC kef 8 kff, cI aC kew 8 kwf, cI aC kep 8 kpf, cI aC kes 5 kstf, oX4 xn ek ef ew ep es (nI n) (nI sn) dn, cI aC ek 8 kf, cI aC ef 8 ff, cI aC ew 8 wf, cI aC ep 8 pf, cI aC es 5 stf]) hP hD hS hA [7, 8, 9, 10, 11, 12, 1, 2, 3, 4, 5, 6] (by decide) rfl
  have hPc := hpd9.1
  have hDc := hpd9.2.1
  have hFc := hpd9.2.2
  clear hpd9
  refine va_callv (va_runV (As := [Value.ref xn]) (rest := []) ⟨hx, hb, hml, hown, hts⟩ (c_X4_copy l dC dI aC H.size xk xn kek kef kew kep kes ek ef ew ep es ksz ksy kdn (nI n) (nI sn) dn kkf kff kwf kpf kstf kf ff wf pf stf tG (hdn)) ⟨(callB_of 1 hts (gG kw_598) rfl rfl rfl (hts _ (gw kw_2 rfl)) (hts _ (gw kw_595 rfl)) hd_X4_copy ⟨Nat.le_of_ble_eq_true rfl, Nat.le_of_ble_eq_true rfl⟩), (hts _ (gw kw_596 rfl)), (hts _ (gw kw_597 rfl))⟩ ⟨fun a U g mk q => by obtain ⟨q0, q1, qP, qK, qD, qN, z0, z1⟩ := q; exact ⟨q0, q1, qP, va_K.moved (u := U) (U := U.calling g mk a) (Vm.Alike.refl U.vm) qK, qD, NX.same (u := U) (U := U.calling g mk a) rfl qN, va_Z.moved (u := U) (U := U.calling g mk a) (Vm.Alike.refl U.vm) z0, va_T.moved (u := U) (U := U.calling g mk a) (Vm.Alike.refl U.vm) z1⟩, va_recv (q := (RX4, TX4, 8)) hK hPc (ci := 4) (q0 := 0) rfl rfl, fun U hU hW => ⟨rfl, by rw [hU], by rw [hU]; exact hPc, va_K.moved hW.alike hK, hDc.weaken (fun _ _ _ _ => trivial), NX.warm hW hN, by rw [hU]; exact va_Z.moved hW.alike (va_Z.narrow (va_Z.kept hZG hS.2.1) hFc), by rw [hU]; exact va_T.moved hW.alike (va_T.narrow (va_T.kept hTG hS.2.1) hFc)⟩⟩ rfl rfl hl.1 rfl (lv_room (Nat.le_of_ble_eq_true rfl)) dX11_image_8 ⟨Nat.le_of_ble_eq_true rfl, Nat.le_of_ble_eq_true rfl⟩) hS (fun q _ h => hFc q h) hFc (fun u9 t9 H1 locs ht hvm hw_1 hB hz1 hk1 hS => ?_)
  obtain ⟨u_2, u_3, u_4, u_5, u_6⟩ := u9
  obtain ⟨hP1, hK1, hD1⟩ := hB
  rw [ht] at hP1
  clear hK1
  try dsimp only at hw_1
  have hpd9 : PDx (dC, dI) classes A H1 [oX11 h0 xp xtp xn xt xk xl xc xo xto xr xch ts ik st, oX4 xk kek kef kew kep kes (nI n) (nI sn) dn, cI aC kek 8 u_2, cI aC kef 8 u_3, cI aC kew 8 u_4, cI aC kep 8 u_5, cI aC kes 5 u_6, oX4 xn ek ef ew ep es (nI n) (nI sn) dn, cI aC ek 8 kf, cI aC ef 8 ff, cI aC ew 8 wf, cI aC ep 8 pf, cI aC es 5 stf] := jn_N (wr := [oX11 h0 xp xtp xn xt xk xl xc xo xto xr xch ts ik st]) hFc hk1 hP1 hD1 hP hD [7, 8, 9, 10, 11, 12, 1, 2, 3, 4, 5, 6] [0] rfl rfl (by decide) (by decide)
  have hP := hpd9.1
  have hD := hpd9.2
  clear hpd9
  generalize H1 = H at hP hS ⊢
  clear hPc hDc hFc hz1 hk1 hP1 hD1 ht hvm
  have hc9 := hw_1
  refine lv_aload_n hx hb dX11_image_11 rfl (lv_at hl 0 rfl) ?_
  refine lv_iconst (v := 1) hx hb dX11_image_12 (by decide) ?_
  refine va_put (D := (dC, dI)) (ci := 11) (v := Value.int 1) (ty := .boolean) (C := RX11) (T := TX11) (N := 14) hx hb hts inX11 tyX11 tyX11_ok nmX11 hown hK hP hD hS 0 rfl rfl 12 (by decide) (hts _ (gw kw_238 rfl)) (fun _ h9 => h9) rfl (by decide +kernel) rfl rfl (Nat.le_of_ble_eq_true rfl) dX11_image_13 (fun H locs hP hD hS => ?_)
  have hpd9 : PDx (dC, dI) classes A H [oX11 h0 xp xtp xn xt xk xl xc xo xto xr xch ts 1 st, oX4 xk kek kef kew kep kes (nI n) (nI sn) dn, cI aC kek 8 u_2, cI aC kef 8 u_3, cI aC kew 8 u_4, cI aC kep 8 u_5, cI aC kes 5 u_6, oX4 xn ek ef ew ep es (nI n) (nI sn) dn, cI aC ek 8 kf, cI aC ef 8 ff, cI aC ew 8 wf, cI aC ep 8 pf, cI aC es 5 stf] := ⟨hP, hD⟩
  have hP := hpd9.1
  have hD := hpd9.2
  clear hpd9
  refine lv_aload_n hx hb dX11_image_16 rfl (lv_at hl 0 rfl) ?_
  refine va_get (D := (dC, dI)) (ci := 11) (v := Value.ref xn) (C := RX11) (T := TX11) (N := 14) hx hb hts inX11 hown hK hP 0 rfl rfl 2 (by decide) (hts _ (gw kw_228 rfl)) (fun _ h9 => h9) rfl dX11_image_17 ?_
  refine va_get (D := (dC, dI)) (ci := 4) (v := Value.int (nI n)) (C := RX4) (T := TX4) (N := 8) hx hb hts inX4 hown hK hP 7 rfl rfl 5 (by decide) (hts _ (gw kw_50 rfl)) (fun _ h9 => h9) rfl dX11_image_20 ?_
  have hpd9 := pd_N (cx := [oX11 h0 xp xtp xn xt xk xl xc xo xto xr xch ts 1 st, oX4 xn ek ef ew ep es (nI n) (nI sn) dn, cI aC ek 8 kf, cI aC ef 8 ff, cI aC ew 8 wf, cI aC ep 8 pf, cI aC es 5 stf, oX4 xk kek kef kew kep kes (nI n) (nI sn) dn, cI aC kek 8 u_2, cI aC kef 8 u_3, cI aC kew 8 u_4, cI aC kep 8 u_5, cI aC kes 5 u_6]) hP hD [0, 7, 8, 9, 10, 11, 12, 1, 2, 3, 4, 5, 6] (by decide) rfl
  have hP9 := hpd9.1
  have hD9 := hpd9.2
  refine W.widen (k := 0) (n := 0) (by omega) (by omega) ?_
  exact W.iret (v := nI n) hx hb hr (fun t ht hW => ⟨⟨(nI n), (u_2, u_3, u_4, u_5, u_6), rfl, ⟨rfl, cp5 hc9⟩, by rw [ht]; exact hP9, va_K.moved hW.alike hK, hD9⟩, hS.F ht⟩) hS.2.2 dX11_image_23

set_option maxHeartbeats 1000000 in
set_option maxRecDepth 100000 in
/-- X11_restore -/
theorem c_X11_restore (l : Launch) (dC : Nat → ClassId) (dI : Nat → Nat → Nat) (aC : Nat → ClassId) (sz : Nat) (h0 : Nat) (xp : Nat) (xtp : Nat) (xn : Nat) (xt : Nat) (xk : Nat) (xl : Nat) (xc : Nat) (xo : Nat) (xto : Nat) (xr : Nat) (xch : Nat) (ts : Int32) (ik : Int32) (st : Int32) (ek : Nat) (ef : Nat) (ew : Nat) (ep : Nat) (es : Nat) (n : Nat) (sn : Nat) (dn : Int32) (kek : Nat) (kef : Nat) (kew : Nat) (kep : Nat) (kes : Nat) (ksz : Int32) (ksy : Int32) (kdn : Int32) (kkf : Nat → Int32) (kff : Nat → Int32) (kwf : Nat → Int32) (kpf : Nat → Int32) (kstf : Nat → Int32) (kf : Nat → Int32) (ff : Nat → Int32) (wf : Nat → Int32) (pf : Nat → Int32) (stf : Nat → Int32) (rf : Nat → Int32) (tG : Nat) (hdn : kdn = 0 ∨ kdn = 1) : Met l yX11_restore (wW yX11_restore cX11_restore 1 (some .int)) ({ frames := 2, cells := 0, slots := 0, locals := 61 } : Room) (va_Pc [Value.ref h0] (fun U => U.heap.size = sz ∧ va_P (dC, dI) classes [oX11 h0 xp xtp xn xt xk xl xc xo xto xr xch ts ik st, oX4 xn ek ef ew ep es (nI n) (nI sn) dn, cI aC ek 8 kf, cI aC ef 8 ff, cI aC ew 8 wf, cI aC ep 8 pf, cI aC es 5 stf, oX4 xk kek kef kew kep kes ksz ksy kdn, cI aC kek 8 kkf, cI aC kef 8 kff, cI aC kew 8 kwf, cI aC kep 8 kpf, cI aC kes 5 kstf, cI aC xr 7 rf] U.heap ∧ va_K (dC, dI) classes (TY aC) U ∧ va_D (fun _ => True) [oX11 h0 xp xtp xn xt xk xl xc xo xto xr xch ts ik st, oX4 xn ek ef ew ep es (nI n) (nI sn) dn, cI aC ek 8 kf, cI aC ef 8 ff, cI aC ew 8 wf, cI aC ep 8 pf, cI aC es 5 stf, oX4 xk kek kef kew kep kes ksz ksy kdn, cI aC kek 8 kkf, cI aC kef 8 kff, cI aC kew 8 kwf, cI aC kep 8 kpf, cI aC kes 5 kstf, cI aC xr 7 rf] ∧ NX U ∧ va_Z "EldestSays" "GREATEST" "[I" (.ref tG) (va_A [oX11 h0 xp xtp xn xt xk xl xc xo xto xr xch ts ik st, oX4 xn ek ef ew ep es (nI n) (nI sn) dn, cI aC ek 8 kf, cI aC ef 8 ff, cI aC ew 8 wf, cI aC ep 8 pf, cI aC es 5 stf, oX4 xk kek kef kew kep kes ksz ksy kdn, cI aC kek 8 kkf, cI aC kef 8 kff, cI aC kew 8 kwf, cI aC kep 8 kpf, cI aC kes 5 kstf, cI aC xr 7 rf] sz) U U.heap ∧ va_T .int tG 5 (fun j => .int (GV j)) (va_A [oX11 h0 xp xtp xn xt xk xl xc xo xto xr xch ts ik st, oX4 xn ek ef ew ep es (nI n) (nI sn) dn, cI aC ek 8 kf, cI aC ef 8 ff, cI aC ew 8 wf, cI aC ep 8 pf, cI aC es 5 stf, oX4 xk kek kef kew kep kes ksz ksy kdn, cI aC kek 8 kkf, cI aC kef 8 kff, cI aC kew 8 kwf, cI aC kep 8 kpf, cI aC kes 5 kstf, cI aC xr 7 rf] sz) U U.heap)) (va_Qi (fun (r : Int32) (u : Int32 × Int32 × Int32 × Int32 × (Nat → Int32) × (Nat → Int32) × (Nat → Int32) × (Nat → Int32) × (Nat → Int32) × (Nat → Int32)) => match u with | (sz2, sy2, dn2, st2, kf2, ff2, wf2, pf2, stf2, rf2) => (ik = 0 → r = -3 ∧ sz2 = nI n ∧ sy2 = nI sn ∧ dn2 = dn ∧ st2 = st ∧ kf2 = kf ∧ ff2 = ff ∧ wf2 = wf ∧ pf2 = pf ∧ stf2 = stf) ∧ (ik ≠ 0 → r = ksz ∧ sz2 = ksz ∧ sy2 = ksy ∧ dn2 = kdn ∧ st2 = 1 ∧ (∀ j, j < 8 → kf2 j = kkf j) ∧ (∀ j, j < 8 → ff2 j = kff j) ∧ (∀ j, j < 8 → wf2 j = kwf j) ∧ (∀ j, j < 8 → pf2 j = kpf j) ∧ (∀ j, j < 5 → stf2 j = kstf j))) (fun (u : Int32 × Int32 × Int32 × Int32 × (Nat → Int32) × (Nat → Int32) × (Nat → Int32) × (Nat → Int32) × (Nat → Int32) × (Nat → Int32)) (t : State) => match u with | (sz2, sy2, dn2, st2, kf2, ff2, wf2, pf2, stf2, rf2) => va_P (dC, dI) classes [oX11 h0 xp xtp xn xt xk xl xc xo xto xr xch ts ik st2, oX4 xn ek ef ew ep es sz2 sy2 dn2, cI aC ek 8 kf2, cI aC ef 8 ff2, cI aC ew 8 wf2, cI aC ep 8 pf2, cI aC es 5 stf2, oX4 xk kek kef kew kep kes ksz ksy kdn, cI aC kek 8 kkf, cI aC kef 8 kff, cI aC kew 8 kwf, cI aC kep 8 kpf, cI aC kes 5 kstf, cI aC xr 7 rf2] t.heap ∧ va_K (dC, dI) classes (TY aC) t ∧ va_D (va_A [oX11 h0 xp xtp xn xt xk xl xc xo xto xr xch ts ik st, oX4 xn ek ef ew ep es (nI n) (nI sn) dn, cI aC ek 8 kf, cI aC ef 8 ff, cI aC ew 8 wf, cI aC ep 8 pf, cI aC es 5 stf, oX4 xk kek kef kew kep kes ksz ksy kdn, cI aC kek 8 kkf, cI aC kef 8 kff, cI aC kew 8 kwf, cI aC kep 8 kpf, cI aC kes 5 kstf, cI aC xr 7 rf] sz) [oX11 h0 xp xtp xn xt xk xl xc xo xto xr xch ts ik st2, oX4 xn ek ef ew ep es sz2 sy2 dn2, cI aC ek 8 kf2, cI aC ef 8 ff2, cI aC ew 8 wf2, cI aC ep 8 pf2, cI aC es 5 stf2, oX4 xk kek kef kew kep kes ksz ksy kdn, cI aC kek 8 kkf, cI aC kef 8 kff, cI aC kew 8 kwf, cI aC kep 8 kpf, cI aC kes 5 kstf, cI aC xr 7 rf2]) (va_A [oX11 h0 xp xtp xn xt xk xl xc xo xto xr xch ts ik st, oX4 xn ek ef ew ep es (nI n) (nI sn) dn, cI aC ek 8 kf, cI aC ef 8 ff, cI aC ew 8 wf, cI aC ep 8 pf, cI aC es 5 stf, oX4 xk kek kef kew kep kes ksz ksy kdn, cI aC kek 8 kkf, cI aC kef 8 kff, cI aC kew 8 kwf, cI aC kep 8 kpf, cI aC kes 5 kstf, cI aC xr 7 rf] sz)) 0 0 (va_A [oX11 h0 xp xtp xn xt xk xl xc xo xto xr xch ts ik st, oX4 xn ek ef ew ep es (nI n) (nI sn) dn, cI aC ek 8 kf, cI aC ef 8 ff, cI aC ew 8 wf, cI aC ep 8 pf, cI aC es 5 stf, oX4 xk kek kef kew kep kes ksz ksy kdn, cI aC kek 8 kkf, cI aC kef 8 kff, cI aC kew 8 kwf, cI aC kep 8 kpf, cI aC kes 5 kstf, cI aC xr 7 rf] sz) := by
  refine Met.ofW (cc := cX11_restore) (maxL := 1) (ret := (some .int)) (by decide) rfl ?_
  intro p e s m args below meth c s₁ B hml hv
  obtain ⟨rfl, hsz, hP, hK, hD0, hN, hZG, hTG⟩ := hv
  have hx := B.exec
  have hb := B.bytes
  have hr := B.returns
  have hts0 := atoms_spec (ws := (wW yX11_restore cX11_restore 1 (some .int))) B.pre
  have hts : ∀ w9 ∈ lw_G, w9.before ([Value.ref h0] : List Value).toArray s = true := fun w9 h9 => hts0 w9 (List.mem_cons_of_mem _ h9)
  have hown : s.vm.findClass RX11 = some m.cls := findClass_of_methodNamed (x := yX11_restore) B.named
  have hlocks := B.notSynchronized
  subst hsz
  have hD := hD0.self (sz := s.heap.size)
  generalize hAe : va_A [oX11 h0 xp xtp xn xt xk xl xc xo xto xr xch ts ik st, oX4 xn ek ef ew ep es (nI n) (nI sn) dn, cI aC ek 8 kf, cI aC ef 8 ff, cI aC ew 8 wf, cI aC ep 8 pf, cI aC es 5 stf, oX4 xk kek kef kew kep kes ksz ksy kdn, cI aC kek 8 kkf, cI aC kef 8 kff, cI aC kew 8 kwf, cI aC kep 8 kpf, cI aC kes 5 kstf, cI aC xr 7 rf] s.heap.size = A at hZG hTG hD ⊢
  have hA : ∀ q : Nat, s.heap.size ≤ q → A q := fun q h => by rw [← hAe]; exact Or.inr h
  obtain ⟨H, hHe⟩ : ∃ H : Heap, H = s.heap := ⟨_, rfl⟩
  have hS : va_S A s.heap H [] := by rw [hHe]; exact va_S.rf
  have hP : va_P (dC, dI) classes [oX11 h0 xp xtp xn xt xk xl xc xo xto xr xch ts ik st, oX4 xn ek ef ew ep es (nI n) (nI sn) dn, cI aC ek 8 kf, cI aC ef 8 ff, cI aC ew 8 wf, cI aC ep 8 pf, cI aC es 5 stf, oX4 xk kek kef kew kep kes ksz ksy kdn, cI aC kek 8 kkf, cI aC kef 8 kff, cI aC kew 8 kwf, cI aC kep 8 kpf, cI aC kes 5 kstf, cI aC xr 7 rf] H := by rw [hHe]; exact hP
  have hl := lv_entry ([Value.ref h0]) (n := 1) (Nat.le_of_ble_eq_true rfl)
  rw [lg_entry_eq]
  generalize (lg_sl ([Value.ref h0]) ++ List.replicate (1 - (lg_sl ([Value.ref h0])).length) Slot.unset).toArray = ls at hl ⊢
  have hl : lv_has ls 1 [(0, Value.ref h0)] := hl
  rw [← hHe]
  refine lv_aload_n hx hb dX11_restore_0 rfl (lv_at hl 0 rfl) ?_
  refine va_get (D := (dC, dI)) (ci := 11) (v := Value.int ik) (C := RX11) (T := TX11) (N := 14) hx hb hts inX11 hown hK hP 0 rfl rfl 12 (by decide) (hts _ (gw kw_238 rfl)) (fun _ h9 => h9) rfl dX11_restore_1 ?_
  refine lv_if_ne (tgt := 14) hx hb dX11_restore_4 (by decide) (fun c_1 => ?_) (fun c_1 => ?_)
  · refine lv_aload_n hx hb dX11_restore_14 rfl (lv_at hl 0 rfl) ?_
    refine va_get (D := (dC, dI)) (ci := 11) (v := Value.ref xn) (C := RX11) (T := TX11) (N := 14) hx hb hts inX11 hown hK hP 0 rfl rfl 2 (by decide) (hts _ (gw kw_228 rfl)) (fun _ h9 => h9) rfl dX11_restore_15 ?_
    refine lv_aload_n hx hb dX11_restore_18 rfl (lv_at hl 0 rfl) ?_
    refine va_get (D := (dC, dI)) (ci := 11) (v := Value.ref xk) (C := RX11) (T := TX11) (N := 14) hx hb hts inX11 hown hK hP 0 rfl rfl 4 (by decide) (hts _ (gw kw_230 rfl)) (fun _ h9 => h9) rfl dX11_restore_19 ?_
    have hpd9 := pdf_N (cx := [oX4 xn ek ef ew ep es (nI n) (nI sn) dn, cI aC ek 8 kf, cI aC ef 8 ff, cI aC ew 8 wf, cI aC ep 8 pf, cI aC es 5 stf, oX4 xk kek kef kew kep kes ksz ksy kdn, cI aC kek 8 kkf, cI aC kef 8 kff, cI aC kew 8 kwf, cI aC kep 8 kpf, cI aC kes 5 kstf]) hP hD hS hA [1, 2, 3, 4, 5, 6, 7, 8, 9, 10, 11, 12] (by decide) rfl
    have hPc := hpd9.1
    have hDc := hpd9.2.1
    have hFc := hpd9.2.2
    clear hpd9
    refine va_callv (va_runV (As := [Value.ref xk]) (rest := []) ⟨hx, hb, hml, hown, hts⟩ (c_X4_copy l dC dI aC H.size xn xk ek ef ew ep es kek kef kew kep kes (nI n) (nI sn) dn ksz ksy kdn kf ff wf pf stf kkf kff kwf kpf kstf tG (hdn)) ⟨(callB_of 1 hts (gG kw_598) rfl rfl rfl (hts _ (gw kw_2 rfl)) (hts _ (gw kw_595 rfl)) hd_X4_copy ⟨Nat.le_of_ble_eq_true rfl, Nat.le_of_ble_eq_true rfl⟩), (hts _ (gw kw_596 rfl)), (hts _ (gw kw_597 rfl))⟩ ⟨fun a U g mk q => by obtain ⟨q0, q1, qP, qK, qD, qN, z0, z1⟩ := q; exact ⟨q0, q1, qP, va_K.moved (u := U) (U := U.calling g mk a) (Vm.Alike.refl U.vm) qK, qD, NX.same (u := U) (U := U.calling g mk a) rfl qN, va_Z.moved (u := U) (U := U.calling g mk a) (Vm.Alike.refl U.vm) z0, va_T.moved (u := U) (U := U.calling g mk a) (Vm.Alike.refl U.vm) z1⟩, va_recv (q := (RX4, TX4, 8)) hK hPc (ci := 4) (q0 := 0) rfl rfl, fun U hU hW => ⟨rfl, by rw [hU], by rw [hU]; exact hPc, va_K.moved hW.alike hK, hDc.weaken (fun _ _ _ _ => trivial), NX.warm hW hN, by rw [hU]; exact va_Z.moved hW.alike (va_Z.narrow (va_Z.kept hZG hS.2.1) hFc), by rw [hU]; exact va_T.moved hW.alike (va_T.narrow (va_T.kept hTG hS.2.1) hFc)⟩⟩ rfl rfl hl.1 rfl (lv_room (Nat.le_of_ble_eq_true rfl)) dX11_restore_22 ⟨Nat.le_of_ble_eq_true rfl, Nat.le_of_ble_eq_true rfl⟩) hS (fun q _ h => hFc q h) hFc (fun u9 t9 H1 locs ht hvm hw_2 hB hz1 hk1 hS => ?_)
    obtain ⟨u_3, u_4, u_5, u_6, u_7⟩ := u9
    obtain ⟨hP1, hK1, hD1⟩ := hB
    rw [ht] at hP1
    clear hK1
    try dsimp only at hw_2
    have hpd9 : PDx (dC, dI) classes A H1 [oX11 h0 xp xtp xn xt xk xl xc xo xto xr xch ts ik st, cI aC xr 7 rf, oX4 xn ek ef ew ep es ksz ksy kdn, cI aC ek 8 u_3, cI aC ef 8 u_4, cI aC ew 8 u_5, cI aC ep 8 u_6, cI aC es 5 u_7, oX4 xk kek kef kew kep kes ksz ksy kdn, cI aC kek 8 kkf, cI aC kef 8 kff, cI aC kew 8 kwf, cI aC kep 8 kpf, cI aC kes 5 kstf] := jn_N (wr := [oX11 h0 xp xtp xn xt xk xl xc xo xto xr xch ts ik st, cI aC xr 7 rf]) hFc hk1 hP1 hD1 hP hD [1, 2, 3, 4, 5, 6, 7, 8, 9, 10, 11, 12] [0, 13] rfl rfl (by decide) (by decide)
    have hP := hpd9.1
    have hD := hpd9.2
    clear hpd9
    generalize H1 = H at hP hS ⊢
    clear hPc hDc hFc hz1 hk1 hP1 hD1 ht hvm
    have hc9 := hw_2
    refine lv_aload_n hx hb dX11_restore_25 rfl (lv_at hl 0 rfl) ?_
    refine lv_iconst (v := 1) hx hb dX11_restore_26 (by decide) ?_
    refine va_put (D := (dC, dI)) (ci := 11) (v := Value.int 1) (ty := .boolean) (C := RX11) (T := TX11) (N := 14) hx hb hts inX11 tyX11 tyX11_ok nmX11 hown hK hP hD hS 0 rfl rfl 13 (by decide) (hts _ (gw kw_239 rfl)) (fun _ h9 => h9) rfl (by decide +kernel) rfl rfl (Nat.le_of_ble_eq_true rfl) dX11_restore_27 (fun H locs hP hD hS => ?_)
    have hpd9 : PDx (dC, dI) classes A H [oX11 h0 xp xtp xn xt xk xl xc xo xto xr xch ts ik 1, cI aC xr 7 rf, oX4 xn ek ef ew ep es ksz ksy kdn, cI aC ek 8 u_3, cI aC ef 8 u_4, cI aC ew 8 u_5, cI aC ep 8 u_6, cI aC es 5 u_7, oX4 xk kek kef kew kep kes ksz ksy kdn, cI aC kek 8 kkf, cI aC kef 8 kff, cI aC kew 8 kwf, cI aC kep 8 kpf, cI aC kes 5 kstf] := ⟨hP, hD⟩
    have hP := hpd9.1
    have hD := hpd9.2
    clear hpd9
    refine lv_aload_n hx hb dX11_restore_30 rfl (lv_at hl 0 rfl) ?_
    refine va_get (D := (dC, dI)) (ci := 11) (v := Value.ref xn) (C := RX11) (T := TX11) (N := 14) hx hb hts inX11 hown hK hP 0 rfl rfl 2 (by decide) (hts _ (gw kw_228 rfl)) (fun _ h9 => h9) rfl dX11_restore_31 ?_
    refine va_get (D := (dC, dI)) (ci := 4) (v := Value.int ksz) (C := RX4) (T := TX4) (N := 8) hx hb hts inX4 hown hK hP 2 rfl rfl 5 (by decide) (hts _ (gw kw_50 rfl)) (fun _ h9 => h9) rfl dX11_restore_34 ?_
    have hpd9 := pd_N (cx := [oX11 h0 xp xtp xn xt xk xl xc xo xto xr xch ts ik 1, oX4 xn ek ef ew ep es ksz ksy kdn, cI aC ek 8 u_3, cI aC ef 8 u_4, cI aC ew 8 u_5, cI aC ep 8 u_6, cI aC es 5 u_7, oX4 xk kek kef kew kep kes ksz ksy kdn, cI aC kek 8 kkf, cI aC kef 8 kff, cI aC kew 8 kwf, cI aC kep 8 kpf, cI aC kes 5 kstf, cI aC xr 7 rf]) hP hD [0, 2, 3, 4, 5, 6, 7, 8, 9, 10, 11, 12, 13, 1] (by decide) rfl
    have hP9 := hpd9.1
    have hD9 := hpd9.2
    refine W.widen (k := 0) (n := 0) (by omega) (by omega) ?_
    exact W.iret (v := ksz) hx hb hr (fun t ht hW => ⟨⟨ksz, (ksz, ksy, kdn, 1, u_3, u_4, u_5, u_6, u_7, rf), rfl, ⟨fun q => absurd q c_1, fun _ => ⟨rfl, rfl, rfl, rfl, rfl, cp5 hc9⟩⟩, by rw [ht]; exact hP9, va_K.moved hW.alike hK, hD9⟩, hS.F ht⟩) hS.2.2 dX11_restore_37
  · refine lv_aload_n hx hb dX11_restore_7 rfl (lv_at hl 0 rfl) ?_
    refine lv_bipush (v := -3) hx hb dX11_restore_8 (by decide) ?_
    have hpd9 := pdf_N (cx := [oX11 h0 xp xtp xn xt xk xl xc xo xto xr xch ts ik st, cI aC xr 7 rf]) hP hD hS hA [0, 13] (by decide) rfl
    have hPc := hpd9.1
    have hDc := hpd9.2.1
    have hFc := hpd9.2.2
    clear hpd9
    refine va_calli (va_runV (As := [Value.int (-3)]) (rest := []) ⟨hx, hb, hml, hown, hts⟩ (c_X11_refuse l dC dI aC H.size h0 xp xtp xn xt xk xl xc xo xto xr xch ts ik st (-3) 3 rf (by decide) (by decide) (by decide) (by unfold vp_in; decide)) ⟨(callB_of 1 hts (gG kw_276) rfl rfl rfl (hts _ (gw kw_1 rfl)) (hts _ (gw kw_273 rfl)) hd_X11_refuse ⟨Nat.le_of_ble_eq_true rfl, Nat.le_of_ble_eq_true rfl⟩), (hts _ (gw kw_275 rfl)), (hts _ (gw ks_0 rfl))⟩ ⟨fb_std, va_recv (q := (RX11, TX11, 14)) hK hPc (ci := 11) (q0 := 0) rfl rfl, pre_std hPc hK hDc hN⟩ rfl rfl hl.1 rfl (lv_room (Nat.le_of_ble_eq_true rfl)) dX11_restore_10 ⟨Nat.le_of_ble_eq_true rfl, Nat.le_of_ble_eq_true rfl⟩) hS (fun q _ h => hFc q h) hFc (fun x_8 u9 t9 H1 locs ht hvm hw_8 hB hz1 hk1 hS => ?_)
    obtain ⟨u_9, rfl⟩ : ∃ z, z = u9 := ⟨_, rfl⟩
    obtain ⟨hP1, hK1, hD1⟩ := hB
    rw [ht] at hP1
    clear hK1
    try dsimp only at hw_8
    have hpd9 : PDx (dC, dI) classes A H1 [oX4 xn ek ef ew ep es (nI n) (nI sn) dn, cI aC ek 8 kf, cI aC ef 8 ff, cI aC ew 8 wf, cI aC ep 8 pf, cI aC es 5 stf, oX4 xk kek kef kew kep kes ksz ksy kdn, cI aC kek 8 kkf, cI aC kef 8 kff, cI aC kew 8 kwf, cI aC kep 8 kpf, cI aC kes 5 kstf, oX11 h0 xp xtp xn xt xk xl xc xo xto xr xch ts ik st, cI aC xr 7 u_9] := jn_N (wr := [oX4 xn ek ef ew ep es (nI n) (nI sn) dn, cI aC ek 8 kf, cI aC ef 8 ff, cI aC ew 8 wf, cI aC ep 8 pf, cI aC es 5 stf, oX4 xk kek kef kew kep kes ksz ksy kdn, cI aC kek 8 kkf, cI aC kef 8 kff, cI aC kew 8 kwf, cI aC kep 8 kpf, cI aC kes 5 kstf]) hFc hk1 hP1 hD1 hP hD [0, 13] [1, 2, 3, 4, 5, 6, 7, 8, 9, 10, 11, 12] rfl rfl (by decide) (by decide)
    have hP := hpd9.1
    have hD := hpd9.2
    clear hpd9
    generalize H1 = H at hP hS ⊢
    clear hPc hDc hFc hz1 hk1 hP1 hD1 ht hvm
    obtain ⟨hv9, -⟩ := hw_8
    have hpd9 := pd_N (cx := [oX11 h0 xp xtp xn xt xk xl xc xo xto xr xch ts ik st, oX4 xn ek ef ew ep es (nI n) (nI sn) dn, cI aC ek 8 kf, cI aC ef 8 ff, cI aC ew 8 wf, cI aC ep 8 pf, cI aC es 5 stf, oX4 xk kek kef kew kep kes ksz ksy kdn, cI aC kek 8 kkf, cI aC kef 8 kff, cI aC kew 8 kwf, cI aC kep 8 kpf, cI aC kes 5 kstf, cI aC xr 7 u_9]) hP hD [12, 0, 1, 2, 3, 4, 5, 6, 7, 8, 9, 10, 11, 13] (by decide) rfl
    have hP9 := hpd9.1
    have hD9 := hpd9.2
    refine W.widen (k := 0) (n := 0) (by omega) (by omega) ?_
    exact W.iret (v := x_8) hx hb hr (fun t ht hW => ⟨⟨x_8, ((nI n), (nI sn), dn, st, kf, ff, wf, pf, stf, u_9), rfl, ⟨fun _ => ⟨hv9, rfl, rfl, rfl, rfl, rfl, rfl, rfl, rfl, rfl⟩, fun q => absurd c_1 q⟩, by rw [ht]; exact hP9, va_K.moved hW.alike hK, hD9⟩, hS.F ht⟩) hS.2.2 dX11_restore_13

set_option maxHeartbeats 1000000 in
set_option maxRecDepth 100000 in
/-- X11_countRefusals -/
theorem c_X11_countRefusals (l : Launch) (dC : Nat → ClassId) (dI : Nat → Nat → Nat) (aC : Nat → ClassId) (sz : Nat) (h0 : Nat) (xp : Nat) (xtp : Nat) (xn : Nat) (xt : Nat) (xk : Nat) (xl : Nat) (xc : Nat) (xo : Nat) (xto : Nat) (xr : Nat) (xch : Nat) (ts : Int32) (ik : Int32) (st : Int32) (rf : Nat → Int32) (w : Int32)  : Met l yX11_countRefusals (wW yX11_countRefusals cX11_countRefusals 2 (some .int)) ({ frames := 0, cells := 0, slots := 0, locals := 0 } : Room) (va_Pc [Value.ref h0, Value.int w] (fun U => U.heap.size = sz ∧ va_P (dC, dI) classes [oX11 h0 xp xtp xn xt xk xl xc xo xto xr xch ts ik st, cI aC xr 7 rf] U.heap ∧ va_K (dC, dI) classes (TY aC) U ∧ va_D (fun _ => True) [oX11 h0 xp xtp xn xt xk xl xc xo xto xr xch ts ik st, cI aC xr 7 rf] ∧ NX U)) (va_Qi (fun (r : Int32) (_ : Unit) => True) (fun (_ : Unit) (t : State) => va_P (dC, dI) classes [oX11 h0 xp xtp xn xt xk xl xc xo xto xr xch ts ik st, cI aC xr 7 rf] t.heap ∧ va_K (dC, dI) classes (TY aC) t ∧ va_D (va_A [oX11 h0 xp xtp xn xt xk xl xc xo xto xr xch ts ik st, cI aC xr 7 rf] sz) [oX11 h0 xp xtp xn xt xk xl xc xo xto xr xch ts ik st, cI aC xr 7 rf]) (va_A [oX11 h0 xp xtp xn xt xk xl xc xo xto xr xch ts ik st, cI aC xr 7 rf] sz)) 0 0 (va_A [oX11 h0 xp xtp xn xt xk xl xc xo xto xr xch ts ik st, cI aC xr 7 rf] sz) := by
  refine Met.ofW (cc := cX11_countRefusals) (maxL := 2) (ret := (some .int)) (by decide) rfl ?_
  intro p e s m args below meth c s₁ B hml hv
  obtain ⟨rfl, hsz, hP, hK, hD0, hN⟩ := hv
  have hx := B.exec
  have hb := B.bytes
  have hr := B.returns
  have hts0 := atoms_spec (ws := (wW yX11_countRefusals cX11_countRefusals 2 (some .int))) B.pre
  have hts : ∀ w9 ∈ lw_G, w9.before ([Value.ref h0, Value.int w] : List Value).toArray s = true := fun w9 h9 => hts0 w9 (List.mem_cons_of_mem _ h9)
  have hown : s.vm.findClass RX11 = some m.cls := findClass_of_methodNamed (x := yX11_countRefusals) B.named
  have hlocks := B.notSynchronized
  subst hsz
  have hD := hD0.self (sz := s.heap.size)
  generalize hAe : va_A [oX11 h0 xp xtp xn xt xk xl xc xo xto xr xch ts ik st, cI aC xr 7 rf] s.heap.size = A at hD ⊢
  have hA : ∀ q : Nat, s.heap.size ≤ q → A q := fun q h => by rw [← hAe]; exact Or.inr h
  obtain ⟨H, hHe⟩ : ∃ H : Heap, H = s.heap := ⟨_, rfl⟩
  have hS : va_S A s.heap H [] := by rw [hHe]; exact va_S.rf
  have hP : va_P (dC, dI) classes [oX11 h0 xp xtp xn xt xk xl xc xo xto xr xch ts ik st, cI aC xr 7 rf] H := by rw [hHe]; exact hP
  have hl := lv_entry ([Value.ref h0, Value.int w]) (n := 2) (Nat.le_of_ble_eq_true rfl)
  rw [lg_entry_eq]
  generalize (lg_sl ([Value.ref h0, Value.int w]) ++ List.replicate (2 - (lg_sl ([Value.ref h0, Value.int w])).length) Slot.unset).toArray = ls at hl ⊢
  have hl : lv_has ls 2 [(0, Value.ref h0), (1, Value.int w)] := hl
  rw [← hHe]
  refine lv_iload_n hx hb dX11_countRefusals_0 rfl (lv_at hl 1 rfl) ?_
  refine lv_iconst (v := 1) hx hb dX11_countRefusals_1 (by decide) ?_
  refine lv_icmp_lt (tgt := 20) hx hb dX11_countRefusals_2 (by decide) (fun c_1 => ?_) (fun c_1 => ?_)
  · refine lv_bipush (v := -9) hx hb dX11_countRefusals_20 (by decide) ?_
    have hpd9 := pd_N (cx := [oX11 h0 xp xtp xn xt xk xl xc xo xto xr xch ts ik st, cI aC xr 7 rf]) hP hD [0, 1] (by decide) rfl
    have hP9 := hpd9.1
    have hD9 := hpd9.2
    refine W.widen (k := 0) (n := 0) (by omega) (by omega) ?_
    exact W.iret (v := -9) hx hb hr (fun t ht hW => ⟨⟨(-9), (), rfl, trivial, by rw [ht]; exact hP9, va_K.moved hW.alike hK, hD9⟩, hS.F ht⟩) hS.2.2 dX11_countRefusals_22
  · refine lv_iload_n hx hb dX11_countRefusals_5 rfl (lv_at hl 1 rfl) ?_
    refine lv_bipush (v := 6) hx hb dX11_countRefusals_6 (by decide) ?_
    refine lv_icmp_gt (tgt := 20) hx hb dX11_countRefusals_8 (by decide) (fun c_2 => ?_) (fun c_2 => ?_)
    · refine lv_bipush (v := -9) hx hb dX11_countRefusals_20 (by decide) ?_
      have hpd9 := pd_N (cx := [oX11 h0 xp xtp xn xt xk xl xc xo xto xr xch ts ik st, cI aC xr 7 rf]) hP hD [0, 1] (by decide) rfl
      have hP9 := hpd9.1
      have hD9 := hpd9.2
      refine W.widen (k := 0) (n := 0) (by omega) (by omega) ?_
      exact W.iret (v := -9) hx hb hr (fun t ht hW => ⟨⟨(-9), (), rfl, trivial, by rw [ht]; exact hP9, va_K.moved hW.alike hK, hD9⟩, hS.F ht⟩) hS.2.2 dX11_countRefusals_22
    · refine lv_aload_n hx hb dX11_countRefusals_11 rfl (lv_at hl 0 rfl) ?_
      refine va_get (D := (dC, dI)) (ci := 11) (v := Value.ref xr) (C := RX11) (T := TX11) (N := 14) hx hb hts inX11 hown hK hP 0 rfl rfl 9 (by decide) (hts _ (gw kw_235 rfl)) (fun _ h9 => h9) rfl dX11_countRefusals_12 ?_
      refine lv_iload_n hx hb dX11_countRefusals_15 rfl (lv_at hl 1 rfl) ?_
      have h_3 : vp_in w 7 := vin (n := 7) (fun q => c_1 (Int32.lt_trans q (by decide))) (Int32.lt_of_le_of_lt (Int32.not_lt.mp c_2) (by decide)) rfl
      refine va_iald hx hb hK hP 1 0 rfl rfl h_3 dX11_countRefusals_16 ?_
      refine lv_topi (fun x_4 e_4 => ?_)
      refine lv_goto (tgt := 22) hx hb dX11_countRefusals_17 (by decide) ?_
      have hpd9 := pd_N (cx := [oX11 h0 xp xtp xn xt xk xl xc xo xto xr xch ts ik st, cI aC xr 7 rf]) hP hD [0, 1] (by decide) rfl
      have hP9 := hpd9.1
      have hD9 := hpd9.2
      refine W.widen (k := 0) (n := 0) (by omega) (by omega) ?_
      exact W.iret (v := x_4) hx hb hr (fun t ht hW => ⟨⟨x_4, (), rfl, trivial, by rw [ht]; exact hP9, va_K.moved hW.alike hK, hD9⟩, hS.F ht⟩) hS.2.2 dX11_countRefusals_22

set_option maxHeartbeats 1000000 in
set_option maxRecDepth 100000 in
/-- X11_count -/
theorem c_X11_count (l : Launch) (dC : Nat → ClassId) (dI : Nat → Nat → Nat) (aC : Nat → ClassId) (sz : Nat) (h0 : Nat) (xp : Nat) (xtp : Nat) (xn : Nat) (xt : Nat) (xk : Nat) (xl : Nat) (xc : Nat) (xo : Nat) (xto : Nat) (xr : Nat) (xch : Nat) (ts : Int32) (ik : Int32) (st : Int32) (po : Nat) (pp : Nat) (ps : Nat) (pa : Nat) (pe : Nat) (pb : Nat) (pk : Nat) (pu : Nat) (pw : Nat) (pq : Nat) (pt : Nat) (un : Int32) (fw : Int32) (ek : Nat) (ef : Nat) (ew : Nat) (ep : Nat) (es : Nat) (n : Nat) (sn : Nat) (dn : Int32) (kf : Nat → Int32) (ff : Nat → Int32) (wf : Nat → Int32) (stf : Nat → Int32) (K : Nat → Nat) (F : Nat → Nat) (W0 : Nat → Nat) (S5 : Nat → Nat) (L : List Nat) (g : Nat → Nat → Int32) (fo : Nat → Option Nat) (fp : Nat → Option Nat) (fs : Nat → Option Nat) (ro : Nat → Nat) (rp : Nat → Nat) (rs : Nat → Nat) (fk : Nat → Option Nat) (k0 : Nat) (k1 : Nat) (k2 : Nat) (k3 : Nat) (k4 : Nat) (k5 : Nat) (k6 : Nat) (uf : Nat → Int32) (vf : Nat → Int32) (qf : Nat → Int32) (tf : Nat → Int32) (bf : Nat → Int32) (yf : Nat → Int32) (ef0 : Nat → Int32) (rf : Nat → Int32) (pf : Nat → Int32) (lz : Int32) (lsg : Nat) (w : Int32) (hgr : GRD L fo fp fs ro rp rs) (hev : EVS n sn dn K F W0 S5 kf ff wf stf) (hkd : KDS fk k0 k1 k2 k3 k4 k5 k6) (hst : STL st n (PO n K F W0 S5) ro rp rs g yf ef0 bf) : Met l yX11_count (wW yX11_count cX11_count 2 (some .int)) ({ frames := 7, cells := 0, slots := 0, locals := 151 } : Room) (va_Pc [Value.ref h0, Value.int w] (fun U => U.heap.size = sz ∧ va_P (dC, dI) classes (wp [oX11 h0 xp xtp xn xt xk xl xc xo xto xr xch ts ik st, oX9 xp po pp ps pa pe pb xn pk pu pw pq pt un fw, oX4 xn ek ef ew ep es (nI n) (nI sn) dn, cI aC ek 8 kf, cI aC ef 8 ff, cI aC ew 8 wf, cI aC es 5 stf, cA aC po 8 fo, cA aC pp 8 fp, cA aC ps 8 fs, cK aC pk 7 fk, cO k0 0 [], cO k1 1 [], cO k2 3 [], cO k3 5 [], cO k4 6 [], cO k5 10 [], cO k6 8 [], cI aC pa 8 yf, cI aC pe 8 ef0, cI aC pb 8 bf, cI aC pu 7 uf, cI aC pw 7 vf, cI aC pq 128 qf, cI aC pt 128 tf, cI aC ep 8 pf, cI aC xr 7 rf, oX7 xl lz lsg] (va_pl L (plE aC g))) U.heap ∧ va_K (dC, dI) classes (TY aC) U ∧ va_D (fun _ => True) (wp [oX11 h0 xp xtp xn xt xk xl xc xo xto xr xch ts ik st, oX9 xp po pp ps pa pe pb xn pk pu pw pq pt un fw, oX4 xn ek ef ew ep es (nI n) (nI sn) dn, cI aC ek 8 kf, cI aC ef 8 ff, cI aC ew 8 wf, cI aC es 5 stf, cA aC po 8 fo, cA aC pp 8 fp, cA aC ps 8 fs, cK aC pk 7 fk, cO k0 0 [], cO k1 1 [], cO k2 3 [], cO k3 5 [], cO k4 6 [], cO k5 10 [], cO k6 8 [], cI aC pa 8 yf, cI aC pe 8 ef0, cI aC pb 8 bf, cI aC pu 7 uf, cI aC pw 7 vf, cI aC pq 128 qf, cI aC pt 128 tf, cI aC ep 8 pf, cI aC xr 7 rf, oX7 xl lz lsg] (va_pl L (plE aC g))) ∧ NX U)) (va_Qi (fun (r : Int32) (u : Int32 × Int32 × (Nat → Int32) × (Nat → Int32) × (Nat → Int32) × (Nat → Int32) × (Nat → Int32) × (Nat → Int32) × (Nat → Int32) × (Nat → Nat → Int32) × Int32) => match u with | (un2, fw2, ug, vg, qg, tg, bg, yg, eg, g2, st2) => STL st2 n (PO n K F W0 S5) ro rp rs g2 yg eg bg ∧ (∀ a, OFF ro rp rs a → g2 a = g a)) (fun (u : Int32 × Int32 × (Nat → Int32) × (Nat → Int32) × (Nat → Int32) × (Nat → Int32) × (Nat → Int32) × (Nat → Int32) × (Nat → Int32) × (Nat → Nat → Int32) × Int32) (t : State) => match u with | (un2, fw2, ug, vg, qg, tg, bg, yg, eg, g2, st2) => va_P (dC, dI) classes (wp [oX11 h0 xp xtp xn xt xk xl xc xo xto xr xch ts ik st2, oX9 xp po pp ps pa pe pb xn pk pu pw pq pt un2 fw2, oX4 xn ek ef ew ep es (nI n) (nI sn) dn, cI aC ek 8 kf, cI aC ef 8 ff, cI aC ew 8 wf, cI aC es 5 stf, cA aC po 8 fo, cA aC pp 8 fp, cA aC ps 8 fs, cK aC pk 7 fk, cO k0 0 [], cO k1 1 [], cO k2 3 [], cO k3 5 [], cO k4 6 [], cO k5 10 [], cO k6 8 [], cI aC pa 8 yg, cI aC pe 8 eg, cI aC pb 8 bg, cI aC pu 7 ug, cI aC pw 7 vg, cI aC pq 128 qg, cI aC pt 128 tg, cI aC ep 8 pf, cI aC xr 7 rf, oX7 xl lz lsg] (va_pl L (plE aC g2))) t.heap ∧ va_K (dC, dI) classes (TY aC) t ∧ va_D (va_A (wp [oX11 h0 xp xtp xn xt xk xl xc xo xto xr xch ts ik st, oX9 xp po pp ps pa pe pb xn pk pu pw pq pt un fw, oX4 xn ek ef ew ep es (nI n) (nI sn) dn, cI aC ek 8 kf, cI aC ef 8 ff, cI aC ew 8 wf, cI aC es 5 stf, cA aC po 8 fo, cA aC pp 8 fp, cA aC ps 8 fs, cK aC pk 7 fk, cO k0 0 [], cO k1 1 [], cO k2 3 [], cO k3 5 [], cO k4 6 [], cO k5 10 [], cO k6 8 [], cI aC pa 8 yf, cI aC pe 8 ef0, cI aC pb 8 bf, cI aC pu 7 uf, cI aC pw 7 vf, cI aC pq 128 qf, cI aC pt 128 tf, cI aC ep 8 pf, cI aC xr 7 rf, oX7 xl lz lsg] (va_pl L (plE aC g))) sz) (wp [oX11 h0 xp xtp xn xt xk xl xc xo xto xr xch ts ik st2, oX9 xp po pp ps pa pe pb xn pk pu pw pq pt un2 fw2, oX4 xn ek ef ew ep es (nI n) (nI sn) dn, cI aC ek 8 kf, cI aC ef 8 ff, cI aC ew 8 wf, cI aC es 5 stf, cA aC po 8 fo, cA aC pp 8 fp, cA aC ps 8 fs, cK aC pk 7 fk, cO k0 0 [], cO k1 1 [], cO k2 3 [], cO k3 5 [], cO k4 6 [], cO k5 10 [], cO k6 8 [], cI aC pa 8 yg, cI aC pe 8 eg, cI aC pb 8 bg, cI aC pu 7 ug, cI aC pw 7 vg, cI aC pq 128 qg, cI aC pt 128 tg, cI aC ep 8 pf, cI aC xr 7 rf, oX7 xl lz lsg] (va_pl L (plE aC g2)))) (va_A (wp [oX11 h0 xp xtp xn xt xk xl xc xo xto xr xch ts ik st, oX9 xp po pp ps pa pe pb xn pk pu pw pq pt un fw, oX4 xn ek ef ew ep es (nI n) (nI sn) dn, cI aC ek 8 kf, cI aC ef 8 ff, cI aC ew 8 wf, cI aC es 5 stf, cA aC po 8 fo, cA aC pp 8 fp, cA aC ps 8 fs, cK aC pk 7 fk, cO k0 0 [], cO k1 1 [], cO k2 3 [], cO k3 5 [], cO k4 6 [], cO k5 10 [], cO k6 8 [], cI aC pa 8 yf, cI aC pe 8 ef0, cI aC pb 8 bf, cI aC pu 7 uf, cI aC pw 7 vf, cI aC pq 128 qf, cI aC pt 128 tf, cI aC ep 8 pf, cI aC xr 7 rf, oX7 xl lz lsg] (va_pl L (plE aC g))) sz)) 0 0 (va_A (wp [oX11 h0 xp xtp xn xt xk xl xc xo xto xr xch ts ik st, oX9 xp po pp ps pa pe pb xn pk pu pw pq pt un fw, oX4 xn ek ef ew ep es (nI n) (nI sn) dn, cI aC ek 8 kf, cI aC ef 8 ff, cI aC ew 8 wf, cI aC es 5 stf, cA aC po 8 fo, cA aC pp 8 fp, cA aC ps 8 fs, cK aC pk 7 fk, cO k0 0 [], cO k1 1 [], cO k2 3 [], cO k3 5 [], cO k4 6 [], cO k5 10 [], cO k6 8 [], cI aC pa 8 yf, cI aC pe 8 ef0, cI aC pb 8 bf, cI aC pu 7 uf, cI aC pw 7 vf, cI aC pq 128 qf, cI aC pt 128 tf, cI aC ep 8 pf, cI aC xr 7 rf, oX7 xl lz lsg] (va_pl L (plE aC g))) sz) := by
  refine Met.ofW (cc := cX11_count) (maxL := 2) (ret := (some .int)) (by decide) rfl ?_
  intro p e s m args below meth c s₁ B hml hv
  obtain ⟨rfl, hsz, hP, hK, hD0, hN⟩ := hv
  have hx := B.exec
  have hb := B.bytes
  have hr := B.returns
  have hts0 := atoms_spec (ws := (wW yX11_count cX11_count 2 (some .int))) B.pre
  have hts : ∀ w9 ∈ lw_G, w9.before ([Value.ref h0, Value.int w] : List Value).toArray s = true := fun w9 h9 => hts0 w9 (List.mem_cons_of_mem _ h9)
  have hown : s.vm.findClass RX11 = some m.cls := findClass_of_methodNamed (x := yX11_count) B.named
  have hlocks := B.notSynchronized
  subst hsz
  have hD := hD0.self (sz := s.heap.size)
  generalize hAe : va_A (wp [oX11 h0 xp xtp xn xt xk xl xc xo xto xr xch ts ik st, oX9 xp po pp ps pa pe pb xn pk pu pw pq pt un fw, oX4 xn ek ef ew ep es (nI n) (nI sn) dn, cI aC ek 8 kf, cI aC ef 8 ff, cI aC ew 8 wf, cI aC es 5 stf, cA aC po 8 fo, cA aC pp 8 fp, cA aC ps 8 fs, cK aC pk 7 fk, cO k0 0 [], cO k1 1 [], cO k2 3 [], cO k3 5 [], cO k4 6 [], cO k5 10 [], cO k6 8 [], cI aC pa 8 yf, cI aC pe 8 ef0, cI aC pb 8 bf, cI aC pu 7 uf, cI aC pw 7 vf, cI aC pq 128 qf, cI aC pt 128 tf, cI aC ep 8 pf, cI aC xr 7 rf, oX7 xl lz lsg] (va_pl L (plE aC g))) s.heap.size = A at hD ⊢
  have hA : ∀ q : Nat, s.heap.size ≤ q → A q := fun q h => by rw [← hAe]; exact Or.inr h
  obtain ⟨H, hHe⟩ : ∃ H : Heap, H = s.heap := ⟨_, rfl⟩
  have hS : va_S A s.heap H [] := by rw [hHe]; exact va_S.rf
  have hP : va_P (dC, dI) classes (wp [oX11 h0 xp xtp xn xt xk xl xc xo xto xr xch ts ik st, oX9 xp po pp ps pa pe pb xn pk pu pw pq pt un fw, oX4 xn ek ef ew ep es (nI n) (nI sn) dn, cI aC ek 8 kf, cI aC ef 8 ff, cI aC ew 8 wf, cI aC es 5 stf, cA aC po 8 fo, cA aC pp 8 fp, cA aC ps 8 fs, cK aC pk 7 fk, cO k0 0 [], cO k1 1 [], cO k2 3 [], cO k3 5 [], cO k4 6 [], cO k5 10 [], cO k6 8 [], cI aC pa 8 yf, cI aC pe 8 ef0, cI aC pb 8 bf, cI aC pu 7 uf, cI aC pw 7 vf, cI aC pq 128 qf, cI aC pt 128 tf, cI aC ep 8 pf, cI aC xr 7 rf, oX7 xl lz lsg] (va_pl L (plE aC g))) H := by rw [hHe]; exact hP
  have hl := lv_entry ([Value.ref h0, Value.int w]) (n := 2) (Nat.le_of_ble_eq_true rfl)
  rw [lg_entry_eq]
  generalize (lg_sl ([Value.ref h0, Value.int w]) ++ List.replicate (2 - (lg_sl ([Value.ref h0, Value.int w])).length) Slot.unset).toArray = ls at hl ⊢
  have hl : lv_has ls 2 [(0, Value.ref h0), (1, Value.int w)] := hl
  rw [← hHe]
  have hn8 := EVS_n hev
  refine lv_iload_n hx hb dX11_count_0 rfl (lv_at hl 1 rfl) ?_
  by_cases c_1 : w = 0
  · refine lv_tableIn (tgt := 44) hx hb dX11_count_1 (by rw [c_1]; decide) (by rw [c_1]; decide) (by rw [c_1]; rfl) (by decide) ?_
    refine lv_aload_n hx hb dX11_count_44 rfl (lv_at hl 0 rfl) ?_
    refine va_get (D := (dC, dI)) (ci := 11) (v := Value.ref xn) (C := RX11) (T := TX11) (N := 14) hx hb hts inX11 hown hK hP 0 rfl rfl 2 (by decide) (hts _ (gw kw_228 rfl)) (fun _ h9 => h9) rfl dX11_count_45 ?_
    refine va_get (D := (dC, dI)) (ci := 4) (v := Value.int (nI n)) (C := RX4) (T := TX4) (N := 8) hx hb hts inX4 hown hK hP 2 rfl rfl 5 (by decide) (hts _ (gw kw_50 rfl)) (fun _ h9 => h9) rfl dX11_count_48 ?_
    have hpd9 := pd_P (cx := [oX11 h0 xp xtp xn xt xk xl xc xo xto xr xch ts ik st, oX9 xp po pp ps pa pe pb xn pk pu pw pq pt un fw, oX4 xn ek ef ew ep es (nI n) (nI sn) dn, cI aC ek 8 kf, cI aC ef 8 ff, cI aC ew 8 wf, cI aC es 5 stf, cA aC po 8 fo, cA aC pp 8 fp, cA aC ps 8 fs, cK aC pk 7 fk, cO k0 0 [], cO k1 1 [], cO k2 3 [], cO k3 5 [], cO k4 6 [], cO k5 10 [], cO k6 8 [], cI aC pa 8 yf, cI aC pe 8 ef0, cI aC pb 8 bf, cI aC pu 7 uf, cI aC pw 7 vf, cI aC pq 128 qf, cI aC pt 128 tf, cI aC ep 8 pf, cI aC xr 7 rf, oX7 xl lz lsg]) hP hD [0, 1, 2, 3, 4, 5, 6, 7, 8, 9, 10, 11, 12, 13, 14, 15, 16, 17, 18, 19, 20, 21, 22, 23, 24, 25, 26, 27] (by decide) rfl
    have hP9 := hpd9.1
    have hD9 := hpd9.2
    refine W.widen (k := 0) (n := 0) (by omega) (by omega) ?_
    exact W.iret (v := nI n) hx hb hr (fun t ht hW => ⟨⟨(nI n), (un, fw, uf, vf, qf, tf, bf, yf, ef0, g, st), rfl, ⟨hst, fun a _ => rfl⟩, by rw [ht]; exact hP9, va_K.moved hW.alike hK, hD9⟩, hS.F ht⟩) hS.2.2 dX11_count_51
  by_cases c_2 : w = 1
  · refine lv_tableIn (tgt := 52) hx hb dX11_count_1 (by rw [c_2]; decide) (by rw [c_2]; decide) (by rw [c_2]; rfl) (by decide) ?_
    refine lv_aload_n hx hb dX11_count_52 rfl (lv_at hl 0 rfl) ?_
    refine va_get (D := (dC, dI)) (ci := 11) (v := Value.ref xn) (C := RX11) (T := TX11) (N := 14) hx hb hts inX11 hown hK hP 0 rfl rfl 2 (by decide) (hts _ (gw kw_228 rfl)) (fun _ h9 => h9) rfl dX11_count_53 ?_
    refine va_get (D := (dC, dI)) (ci := 4) (v := Value.int (nI sn)) (C := RX4) (T := TX4) (N := 8) hx hb hts inX4 hown hK hP 2 rfl rfl 6 (by decide) (hts _ (gw kw_52 rfl)) (fun _ h9 => h9) rfl dX11_count_56 ?_
    have hpd9 := pd_P (cx := [oX11 h0 xp xtp xn xt xk xl xc xo xto xr xch ts ik st, oX9 xp po pp ps pa pe pb xn pk pu pw pq pt un fw, oX4 xn ek ef ew ep es (nI n) (nI sn) dn, cI aC ek 8 kf, cI aC ef 8 ff, cI aC ew 8 wf, cI aC es 5 stf, cA aC po 8 fo, cA aC pp 8 fp, cA aC ps 8 fs, cK aC pk 7 fk, cO k0 0 [], cO k1 1 [], cO k2 3 [], cO k3 5 [], cO k4 6 [], cO k5 10 [], cO k6 8 [], cI aC pa 8 yf, cI aC pe 8 ef0, cI aC pb 8 bf, cI aC pu 7 uf, cI aC pw 7 vf, cI aC pq 128 qf, cI aC pt 128 tf, cI aC ep 8 pf, cI aC xr 7 rf, oX7 xl lz lsg]) hP hD [0, 1, 2, 3, 4, 5, 6, 7, 8, 9, 10, 11, 12, 13, 14, 15, 16, 17, 18, 19, 20, 21, 22, 23, 24, 25, 26, 27] (by decide) rfl
    have hP9 := hpd9.1
    have hD9 := hpd9.2
    refine W.widen (k := 0) (n := 0) (by omega) (by omega) ?_
    exact W.iret (v := nI sn) hx hb hr (fun t ht hW => ⟨⟨(nI sn), (un, fw, uf, vf, qf, tf, bf, yf, ef0, g, st), rfl, ⟨hst, fun a _ => rfl⟩, by rw [ht]; exact hP9, va_K.moved hW.alike hK, hD9⟩, hS.F ht⟩) hS.2.2 dX11_count_59
  by_cases c_3 : w = 2
  · refine lv_tableIn (tgt := 60) hx hb dX11_count_1 (by rw [c_3]; decide) (by rw [c_3]; decide) (by rw [c_3]; rfl) (by decide) ?_
    refine lv_aload_n hx hb dX11_count_60 rfl (lv_at hl 0 rfl) ?_
    refine va_get (D := (dC, dI)) (ci := 11) (v := Value.ref xn) (C := RX11) (T := TX11) (N := 14) hx hb hts inX11 hown hK hP 0 rfl rfl 2 (by decide) (hts _ (gw kw_228 rfl)) (fun _ h9 => h9) rfl dX11_count_61 ?_
    refine va_get (D := (dC, dI)) (ci := 4) (v := Value.int dn) (C := RX4) (T := TX4) (N := 8) hx hb hts inX4 hown hK hP 2 rfl rfl 7 (by decide) (hts _ (gw kw_55 rfl)) (fun _ h9 => h9) rfl dX11_count_64 ?_
    refine lv_if_eq (tgt := 74) hx hb dX11_count_67 (by decide) (fun c_4 => ?_) (fun c_4 => ?_)
    · refine lv_iconst (v := 0) hx hb dX11_count_74 (by decide) ?_
      have hpd9 := pd_P (cx := [oX11 h0 xp xtp xn xt xk xl xc xo xto xr xch ts ik st, oX9 xp po pp ps pa pe pb xn pk pu pw pq pt un fw, oX4 xn ek ef ew ep es (nI n) (nI sn) dn, cI aC ek 8 kf, cI aC ef 8 ff, cI aC ew 8 wf, cI aC es 5 stf, cA aC po 8 fo, cA aC pp 8 fp, cA aC ps 8 fs, cK aC pk 7 fk, cO k0 0 [], cO k1 1 [], cO k2 3 [], cO k3 5 [], cO k4 6 [], cO k5 10 [], cO k6 8 [], cI aC pa 8 yf, cI aC pe 8 ef0, cI aC pb 8 bf, cI aC pu 7 uf, cI aC pw 7 vf, cI aC pq 128 qf, cI aC pt 128 tf, cI aC ep 8 pf, cI aC xr 7 rf, oX7 xl lz lsg]) hP hD [0, 1, 2, 3, 4, 5, 6, 7, 8, 9, 10, 11, 12, 13, 14, 15, 16, 17, 18, 19, 20, 21, 22, 23, 24, 25, 26, 27] (by decide) rfl
      have hP9 := hpd9.1
      have hD9 := hpd9.2
      refine W.widen (k := 0) (n := 0) (by omega) (by omega) ?_
      exact W.iret (v := 0) hx hb hr (fun t ht hW => ⟨⟨0, (un, fw, uf, vf, qf, tf, bf, yf, ef0, g, st), rfl, ⟨hst, fun a _ => rfl⟩, by rw [ht]; exact hP9, va_K.moved hW.alike hK, hD9⟩, hS.F ht⟩) hS.2.2 dX11_count_75
    · refine lv_iconst (v := 1) hx hb dX11_count_70 (by decide) ?_
      refine lv_goto (tgt := 75) hx hb dX11_count_71 (by decide) ?_
      have hpd9 := pd_P (cx := [oX11 h0 xp xtp xn xt xk xl xc xo xto xr xch ts ik st, oX9 xp po pp ps pa pe pb xn pk pu pw pq pt un fw, oX4 xn ek ef ew ep es (nI n) (nI sn) dn, cI aC ek 8 kf, cI aC ef 8 ff, cI aC ew 8 wf, cI aC es 5 stf, cA aC po 8 fo, cA aC pp 8 fp, cA aC ps 8 fs, cK aC pk 7 fk, cO k0 0 [], cO k1 1 [], cO k2 3 [], cO k3 5 [], cO k4 6 [], cO k5 10 [], cO k6 8 [], cI aC pa 8 yf, cI aC pe 8 ef0, cI aC pb 8 bf, cI aC pu 7 uf, cI aC pw 7 vf, cI aC pq 128 qf, cI aC pt 128 tf, cI aC ep 8 pf, cI aC xr 7 rf, oX7 xl lz lsg]) hP hD [0, 1, 2, 3, 4, 5, 6, 7, 8, 9, 10, 11, 12, 13, 14, 15, 16, 17, 18, 19, 20, 21, 22, 23, 24, 25, 26, 27] (by decide) rfl
      have hP9 := hpd9.1
      have hD9 := hpd9.2
      refine W.widen (k := 0) (n := 0) (by omega) (by omega) ?_
      exact W.iret (v := 1) hx hb hr (fun t ht hW => ⟨⟨1, (un, fw, uf, vf, qf, tf, bf, yf, ef0, g, st), rfl, ⟨hst, fun a _ => rfl⟩, by rw [ht]; exact hP9, va_K.moved hW.alike hK, hD9⟩, hS.F ht⟩) hS.2.2 dX11_count_75
  by_cases c_5 : w = 3
  · refine lv_tableIn (tgt := 76) hx hb dX11_count_1 (by rw [c_5]; decide) (by rw [c_5]; decide) (by rw [c_5]; rfl) (by decide) ?_
    refine lv_aload_n hx hb dX11_count_76 rfl (lv_at hl 0 rfl) ?_
    refine va_get (D := (dC, dI)) (ci := 11) (v := Value.ref xn) (C := RX11) (T := TX11) (N := 14) hx hb hts inX11 hown hK hP 0 rfl rfl 2 (by decide) (hts _ (gw kw_228 rfl)) (fun _ h9 => h9) rfl dX11_count_77 ?_
    have hpd9 := pdf_N (cx := [oX4 xn ek ef ew ep es (nI n) (nI sn) dn, cI aC ew 8 wf, cI aC ep 8 pf]) hP hD hS hA [2, 5, 25] (by decide) rfl
    have hPc := hpd9.1
    have hDc := hpd9.2.1
    have hFc := hpd9.2.2
    clear hpd9
    refine va_calli (va_runV (As := []) (rest := []) ⟨hx, hb, hml, hown, hts⟩ (c_X4_weightLeft l dC dI aC H.size xn ek ef ew ep es n sn dn wf pf W0 (HW_of hev.1) (hev.2.2.2.1)) ⟨(callB_of 0 hts (gG kw_705) rfl rfl rfl (hts _ (gw kw_2 rfl)) (hts _ (gw kw_702 rfl)) hd_X4_weightLeft ⟨Nat.le_of_ble_eq_true rfl, Nat.le_of_ble_eq_true rfl⟩), (hts _ (gw kw_703 rfl)), (hts _ (gw kw_704 rfl))⟩ ⟨fb_std, va_recv (q := (RX4, TX4, 8)) hK hPc (ci := 4) (q0 := 0) rfl rfl, pre_std hPc hK hDc hN⟩ rfl rfl hl.1 rfl (lv_room (Nat.le_of_ble_eq_true rfl)) dX11_count_80 ⟨Nat.le_of_ble_eq_true rfl, Nat.le_of_ble_eq_true rfl⟩) hS (fun q _ h => hFc q h) hFc (fun x_6 u9 t9 H1 locs ht hvm hw_6 hB hz1 hk1 hS => ?_)
    obtain ⟨hP1, hK1, hD1⟩ := hB
    rw [ht] at hP1
    clear hK1
    try dsimp only at hw_6
    have hpd9 : PDx (dC, dI) classes A H1 (wp [oX11 h0 xp xtp xn xt xk xl xc xo xto xr xch ts ik st, oX9 xp po pp ps pa pe pb xn pk pu pw pq pt un fw, cI aC ek 8 kf, cI aC ef 8 ff, cI aC es 5 stf, cA aC po 8 fo, cA aC pp 8 fp, cA aC ps 8 fs, cK aC pk 7 fk, cO k0 0 [], cO k1 1 [], cO k2 3 [], cO k3 5 [], cO k4 6 [], cO k5 10 [], cO k6 8 [], cI aC pa 8 yf, cI aC pe 8 ef0, cI aC pb 8 bf, cI aC pu 7 uf, cI aC pw 7 vf, cI aC pq 128 qf, cI aC pt 128 tf, cI aC xr 7 rf, oX7 xl lz lsg, oX4 xn ek ef ew ep es (nI n) (nI sn) dn, cI aC ew 8 wf, cI aC ep 8 pf] (va_pl L (plE aC g))) := jn_Q (wr := [oX11 h0 xp xtp xn xt xk xl xc xo xto xr xch ts ik st, oX9 xp po pp ps pa pe pb xn pk pu pw pq pt un fw, cI aC ek 8 kf, cI aC ef 8 ff, cI aC es 5 stf, cA aC po 8 fo, cA aC pp 8 fp, cA aC ps 8 fs, cK aC pk 7 fk, cO k0 0 [], cO k1 1 [], cO k2 3 [], cO k3 5 [], cO k4 6 [], cO k5 10 [], cO k6 8 [], cI aC pa 8 yf, cI aC pe 8 ef0, cI aC pb 8 bf, cI aC pu 7 uf, cI aC pw 7 vf, cI aC pq 128 qf, cI aC pt 128 tf, cI aC xr 7 rf, oX7 xl lz lsg]) hFc hk1 hP1 hD1 hP hD [2, 5, 25] [0, 1, 3, 4, 6, 7, 8, 9, 10, 11, 12, 13, 14, 15, 16, 17, 18, 19, 20, 21, 22, 23, 24, 26, 27] rfl rfl (by decide) (by decide)
    have hP := hpd9.1
    have hD := hpd9.2
    clear hpd9
    generalize H1 = H at hP hS ⊢
    clear hPc hDc hFc hz1 hk1 hP1 hD1 ht hvm
    have hpd9 := pd_P (cx := [oX11 h0 xp xtp xn xt xk xl xc xo xto xr xch ts ik st, oX9 xp po pp ps pa pe pb xn pk pu pw pq pt un fw, oX4 xn ek ef ew ep es (nI n) (nI sn) dn, cI aC ek 8 kf, cI aC ef 8 ff, cI aC ew 8 wf, cI aC es 5 stf, cA aC po 8 fo, cA aC pp 8 fp, cA aC ps 8 fs, cK aC pk 7 fk, cO k0 0 [], cO k1 1 [], cO k2 3 [], cO k3 5 [], cO k4 6 [], cO k5 10 [], cO k6 8 [], cI aC pa 8 yf, cI aC pe 8 ef0, cI aC pb 8 bf, cI aC pu 7 uf, cI aC pw 7 vf, cI aC pq 128 qf, cI aC pt 128 tf, cI aC ep 8 pf, cI aC xr 7 rf, oX7 xl lz lsg]) hP hD [0, 1, 25, 2, 3, 26, 4, 5, 6, 7, 8, 9, 10, 11, 12, 13, 14, 15, 16, 17, 18, 19, 20, 21, 22, 27, 23, 24] (by decide) rfl
    have hP9 := hpd9.1
    have hD9 := hpd9.2
    refine W.widen (k := 0) (n := 0) (by omega) (by omega) ?_
    exact W.iret (v := x_6) hx hb hr (fun t ht hW => ⟨⟨x_6, (un, fw, uf, vf, qf, tf, bf, yf, ef0, g, st), rfl, ⟨hst, fun a _ => rfl⟩, by rw [ht]; exact hP9, va_K.moved hW.alike hK, hD9⟩, hS.F ht⟩) hS.2.2 dX11_count_83
  by_cases c_7 : w = 4
  · refine lv_tableIn (tgt := 84) hx hb dX11_count_1 (by rw [c_7]; decide) (by rw [c_7]; decide) (by rw [c_7]; rfl) (by decide) ?_
    refine lv_aload_n hx hb dX11_count_84 rfl (lv_at hl 0 rfl) ?_
    refine va_get (D := (dC, dI)) (ci := 11) (v := Value.ref xl) (C := RX11) (T := TX11) (N := 14) hx hb hts inX11 hown hK hP 0 rfl rfl 5 (by decide) (hts _ (gw kw_231 rfl)) (fun _ h9 => h9) rfl dX11_count_85 ?_
    refine va_get (D := (dC, dI)) (ci := 7) (v := Value.int lz) (C := RX7) (T := TX7) (N := 2) hx hb hts inX7 hown hK hP 27 rfl rfl 0 (by decide) (hts _ (gw kw_81 rfl)) (fun _ h9 => h9) rfl dX11_count_88 ?_
    have hpd9 := pd_P (cx := [oX11 h0 xp xtp xn xt xk xl xc xo xto xr xch ts ik st, oX9 xp po pp ps pa pe pb xn pk pu pw pq pt un fw, oX4 xn ek ef ew ep es (nI n) (nI sn) dn, cI aC ek 8 kf, cI aC ef 8 ff, cI aC ew 8 wf, cI aC es 5 stf, cA aC po 8 fo, cA aC pp 8 fp, cA aC ps 8 fs, cK aC pk 7 fk, cO k0 0 [], cO k1 1 [], cO k2 3 [], cO k3 5 [], cO k4 6 [], cO k5 10 [], cO k6 8 [], cI aC pa 8 yf, cI aC pe 8 ef0, cI aC pb 8 bf, cI aC pu 7 uf, cI aC pw 7 vf, cI aC pq 128 qf, cI aC pt 128 tf, cI aC ep 8 pf, cI aC xr 7 rf, oX7 xl lz lsg]) hP hD [0, 1, 2, 3, 4, 5, 6, 7, 8, 9, 10, 11, 12, 13, 14, 15, 16, 17, 18, 19, 20, 21, 22, 23, 24, 25, 26, 27] (by decide) rfl
    have hP9 := hpd9.1
    have hD9 := hpd9.2
    refine W.widen (k := 0) (n := 0) (by omega) (by omega) ?_
    exact W.iret (v := lz) hx hb hr (fun t ht hW => ⟨⟨lz, (un, fw, uf, vf, qf, tf, bf, yf, ef0, g, st), rfl, ⟨hst, fun a _ => rfl⟩, by rw [ht]; exact hP9, va_K.moved hW.alike hK, hD9⟩, hS.F ht⟩) hS.2.2 dX11_count_91
  by_cases c_8 : w = 5
  · refine lv_tableIn (tgt := 92) hx hb dX11_count_1 (by rw [c_8]; decide) (by rw [c_8]; decide) (by rw [c_8]; rfl) (by decide) ?_
    refine lv_aload_n hx hb dX11_count_92 rfl (lv_at hl 0 rfl) ?_
    refine va_get (D := (dC, dI)) (ci := 11) (v := Value.int ts) (C := RX11) (T := TX11) (N := 14) hx hb hts inX11 hown hK hP 0 rfl rfl 11 (by decide) (hts _ (gw kw_237 rfl)) (fun _ h9 => h9) rfl dX11_count_93 ?_
    have hpd9 := pd_P (cx := [oX11 h0 xp xtp xn xt xk xl xc xo xto xr xch ts ik st, oX9 xp po pp ps pa pe pb xn pk pu pw pq pt un fw, oX4 xn ek ef ew ep es (nI n) (nI sn) dn, cI aC ek 8 kf, cI aC ef 8 ff, cI aC ew 8 wf, cI aC es 5 stf, cA aC po 8 fo, cA aC pp 8 fp, cA aC ps 8 fs, cK aC pk 7 fk, cO k0 0 [], cO k1 1 [], cO k2 3 [], cO k3 5 [], cO k4 6 [], cO k5 10 [], cO k6 8 [], cI aC pa 8 yf, cI aC pe 8 ef0, cI aC pb 8 bf, cI aC pu 7 uf, cI aC pw 7 vf, cI aC pq 128 qf, cI aC pt 128 tf, cI aC ep 8 pf, cI aC xr 7 rf, oX7 xl lz lsg]) hP hD [0, 1, 2, 3, 4, 5, 6, 7, 8, 9, 10, 11, 12, 13, 14, 15, 16, 17, 18, 19, 20, 21, 22, 23, 24, 25, 26, 27] (by decide) rfl
    have hP9 := hpd9.1
    have hD9 := hpd9.2
    refine W.widen (k := 0) (n := 0) (by omega) (by omega) ?_
    exact W.iret (v := ts) hx hb hr (fun t ht hW => ⟨⟨ts, (un, fw, uf, vf, qf, tf, bf, yf, ef0, g, st), rfl, ⟨hst, fun a _ => rfl⟩, by rw [ht]; exact hP9, va_K.moved hW.alike hK, hD9⟩, hS.F ht⟩) hS.2.2 dX11_count_96
  by_cases c_9 : w = 6
  · refine lv_tableIn (tgt := 97) hx hb dX11_count_1 (by rw [c_9]; decide) (by rw [c_9]; decide) (by rw [c_9]; rfl) (by decide) ?_
    refine lv_aload_n hx hb dX11_count_97 rfl (lv_at hl 0 rfl) ?_
    refine va_get (D := (dC, dI)) (ci := 11) (v := Value.ref xn) (C := RX11) (T := TX11) (N := 14) hx hb hts inX11 hown hK hP 0 rfl rfl 2 (by decide) (hts _ (gw kw_228 rfl)) (fun _ h9 => h9) rfl dX11_count_98 ?_
    have hpd9 := pdf_N (cx := [oX4 xn ek ef ew ep es (nI n) (nI sn) dn]) hP hD hS hA [2] (by decide) rfl
    have hPc := hpd9.1
    have hDc := hpd9.2.1
    have hFc := hpd9.2.2
    clear hpd9
    refine va_calli (va_runV (As := []) (rest := []) ⟨hx, hb, hml, hown, hts⟩ (c_X4_isOver l dC dI aC H.size xn ek ef ew ep es (nI n) (nI sn) dn ) ⟨(callB_of 0 hts (gG kw_523) rfl rfl rfl (hts _ (gw kw_2 rfl)) (hts _ (gw kw_520 rfl)) hd_X4_isOver ⟨Nat.le_of_ble_eq_true rfl, Nat.le_of_ble_eq_true rfl⟩), (hts _ (gw kw_521 rfl)), (hts _ (gw kw_522 rfl))⟩ ⟨fb_std, va_recv (q := (RX4, TX4, 8)) hK hPc (ci := 4) (q0 := 0) rfl rfl, pre_std hPc hK hDc hN⟩ rfl rfl hl.1 rfl (lv_room (Nat.le_of_ble_eq_true rfl)) dX11_count_101 ⟨Nat.le_of_ble_eq_true rfl, Nat.le_of_ble_eq_true rfl⟩) hS (fun q _ h => hFc q h) hFc (fun x_10 u9 t9 H1 locs ht hvm hw_10 hB hz1 hk1 hS => ?_)
    obtain ⟨hP1, hK1, hD1⟩ := hB
    rw [ht] at hP1
    clear hK1
    try dsimp only at hw_10
    have hpd9 : PDx (dC, dI) classes A H1 (wp [oX11 h0 xp xtp xn xt xk xl xc xo xto xr xch ts ik st, oX9 xp po pp ps pa pe pb xn pk pu pw pq pt un fw, cI aC ek 8 kf, cI aC ef 8 ff, cI aC ew 8 wf, cI aC es 5 stf, cA aC po 8 fo, cA aC pp 8 fp, cA aC ps 8 fs, cK aC pk 7 fk, cO k0 0 [], cO k1 1 [], cO k2 3 [], cO k3 5 [], cO k4 6 [], cO k5 10 [], cO k6 8 [], cI aC pa 8 yf, cI aC pe 8 ef0, cI aC pb 8 bf, cI aC pu 7 uf, cI aC pw 7 vf, cI aC pq 128 qf, cI aC pt 128 tf, cI aC ep 8 pf, cI aC xr 7 rf, oX7 xl lz lsg, oX4 xn ek ef ew ep es (nI n) (nI sn) dn] (va_pl L (plE aC g))) := jn_Q (wr := [oX11 h0 xp xtp xn xt xk xl xc xo xto xr xch ts ik st, oX9 xp po pp ps pa pe pb xn pk pu pw pq pt un fw, cI aC ek 8 kf, cI aC ef 8 ff, cI aC ew 8 wf, cI aC es 5 stf, cA aC po 8 fo, cA aC pp 8 fp, cA aC ps 8 fs, cK aC pk 7 fk, cO k0 0 [], cO k1 1 [], cO k2 3 [], cO k3 5 [], cO k4 6 [], cO k5 10 [], cO k6 8 [], cI aC pa 8 yf, cI aC pe 8 ef0, cI aC pb 8 bf, cI aC pu 7 uf, cI aC pw 7 vf, cI aC pq 128 qf, cI aC pt 128 tf, cI aC ep 8 pf, cI aC xr 7 rf, oX7 xl lz lsg]) hFc hk1 hP1 hD1 hP hD [2] [0, 1, 3, 4, 5, 6, 7, 8, 9, 10, 11, 12, 13, 14, 15, 16, 17, 18, 19, 20, 21, 22, 23, 24, 25, 26, 27] rfl rfl (by decide) (by decide)
    have hP := hpd9.1
    have hD := hpd9.2
    clear hpd9
    generalize H1 = H at hP hS ⊢
    clear hPc hDc hFc hz1 hk1 hP1 hD1 ht hvm
    have hz_101 := hw_10
    refine lv_if_eq (tgt := 111) hx hb dX11_count_104 (by decide) (fun c_11 => ?_) (fun c_11 => ?_)
    · have hsn := sn_lt hev (ovx_n hz_101 c_11)
      refine lv_aload_n hx hb dX11_count_111 rfl (lv_at hl 0 rfl) ?_
      have hpd9 := pdf_P (cx := [oX11 h0 xp xtp xn xt xk xl xc xo xto xr xch ts ik st, oX9 xp po pp ps pa pe pb xn pk pu pw pq pt un fw, oX4 xn ek ef ew ep es (nI n) (nI sn) dn, cI aC ek 8 kf, cI aC ef 8 ff, cI aC ew 8 wf, cI aC es 5 stf, cA aC po 8 fo, cA aC pp 8 fp, cA aC ps 8 fs, cK aC pk 7 fk, cO k0 0 [], cO k1 1 [], cO k2 3 [], cO k3 5 [], cO k4 6 [], cO k5 10 [], cO k6 8 [], cI aC pa 8 yf, cI aC pe 8 ef0, cI aC pb 8 bf, cI aC pu 7 uf, cI aC pw 7 vf, cI aC pq 128 qf, cI aC pt 128 tf]) hP hD hS hA [0, 1, 27, 2, 3, 4, 5, 6, 7, 8, 9, 10, 11, 12, 13, 14, 15, 16, 17, 18, 19, 20, 21, 22, 23] (by decide) rfl
      have hPc := hpd9.1
      have hDc := hpd9.2.1
      have hFc := hpd9.2.2
      clear hpd9
      refine va_callr (va_runV (As := []) (rest := []) ⟨hx, hb, hml, hown, hts⟩ (c_X11_solved l dC dI aC H.size h0 xp xtp xn xt xk xl xc xo xto xr xch ts ik st po pp ps pa pe pb pk pu pw pq pt un fw ek ef ew ep es n sn dn kf ff wf stf K F W0 S5 L g fo fp fs ro rp rs fk k0 k1 k2 k3 k4 k5 k6 uf vf qf tf bf yf ef0 (hgr) (hev) (hkd) (hst)) ⟨(callB_of 0 hts (gG kw_353) rfl rfl rfl (hts _ (gw kw_1 rfl)) (hts _ (gw kw_350 rfl)) hd_X11_solved ⟨Nat.le_of_ble_eq_true rfl, Nat.le_of_ble_eq_true rfl⟩), (hts _ (gw kw_352 rfl)), (hts _ (gw ks_6 rfl))⟩ ⟨fb_std, va_recv (q := (RX11, TX11, 14)) hK hPc (ci := 11) (q0 := 0) rfl rfl, pre_std hPc hK hDc hN⟩ rfl rfl hl.1 rfl (lv_room (Nat.le_of_ble_eq_true rfl)) dX11_count_112 ⟨Nat.le_of_ble_eq_true rfl, Nat.le_of_ble_eq_true rfl⟩) hS (fun q _ h => hFc q h) hFc (fun u9 q_12 t9 H1 locs ht hvm hw_12 hB hz1 hk1 hS => ?_)
      obtain ⟨u_13, u_14, u_15, u_16, u_17, u_18, u_19, u_20, u_21, u_22⟩ := u9
      obtain ⟨q_12_e, hP1, hK1, hD1⟩ := hB
      rw [ht] at hP1
      clear hK1
      try dsimp only at hw_12
      have hpd9 : PDx (dC, dI) classes A H1 (wp [cI aC ep 8 pf, cI aC xr 7 rf, oX7 xl lz lsg, oX11 h0 xp xtp xn xt xk xl xc xo xto xr xch ts ik 0, oX9 xp po pp ps pa pe pb xn pk pu pw pq pt u_13 u_14, oX4 xn ek ef ew ep es (nI n) (nI sn) dn, cI aC ek 8 kf, cI aC ef 8 ff, cI aC ew 8 wf, cI aC es 5 stf, cA aC po 8 fo, cA aC pp 8 fp, cA aC ps 8 fs, cK aC pk 7 fk, cO k0 0 [], cO k1 1 [], cO k2 3 [], cO k3 5 [], cO k4 6 [], cO k5 10 [], cO k6 8 [], cI aC pa 8 u_20, cI aC pe 8 u_21, cI aC pb 8 u_19, cI aC pu 7 u_15, cI aC pw 7 u_16, cI aC pq 128 u_17, cI aC pt 128 u_18] (va_pl L (plE aC u_22))) := jn_P (wr := [cI aC ep 8 pf, cI aC xr 7 rf, oX7 xl lz lsg]) hFc hk1 hP1 hD1 hP hD [0, 1, 27, 2, 3, 4, 5, 6, 7, 8, 9, 10, 11, 12, 13, 14, 15, 16, 17, 18, 19, 20, 21, 22, 23] [24, 25, 26] rfl rfl (by decide) (by decide)
      have hP := hpd9.1
      have hD := hpd9.2
      clear hpd9
      generalize H1 = H at hP hS ⊢
      clear hPc hDc hFc hz1 hk1 hP1 hD1 ht hvm
      have h9 := q_12_e.symm
      subst h9
      obtain ⟨hm1, hm2⟩ := hw_12
      refine va_get (D := (dC, dI)) (ci := 9) (v := Value.ref pe) (C := RX9) (T := TX9) (N := 14) hx hb hts inX9 hown hK hP 4 rfl rfl 4 (by decide) (hts _ (gw kw_159 rfl)) (fun _ h9 => h9) rfl dX11_count_115 ?_
      refine lv_aload_n hx hb dX11_count_118 rfl (lv_at hl 0 rfl) ?_
      refine va_get (D := (dC, dI)) (ci := 11) (v := Value.ref xn) (C := RX11) (T := TX11) (N := 14) hx hb hts inX11 hown hK hP 3 rfl rfl 2 (by decide) (hts _ (gw kw_228 rfl)) (fun _ h9 => h9) rfl dX11_count_119 ?_
      refine va_get (D := (dC, dI)) (ci := 4) (v := Value.int (nI sn)) (C := RX4) (T := TX4) (N := 8) hx hb hts inX4 hown hK hP 5 rfl rfl 6 (by decide) (hts _ (gw kw_52 rfl)) (fun _ h9 => h9) rfl dX11_count_122 ?_
      have h_23 : vp_in (nI sn) 8 := by first | exact vp_in_nI (by omega) (by omega) | (unfold vp_in; decide) | (subst_vars; first | (unfold vp_in; decide) | exact vp_in_nI (by omega) (by omega))
      refine va_iald hx hb hK hP 22 0 rfl rfl h_23 dX11_count_125 ?_
      refine lv_topi (fun x_24 e_24 => ?_)
      refine lv_aload_n hx hb dX11_count_126 rfl (lv_at hl 0 rfl) ?_
      refine va_get (D := (dC, dI)) (ci := 11) (v := Value.ref xn) (C := RX11) (T := TX11) (N := 14) hx hb hts inX11 hown hK hP 3 rfl rfl 2 (by decide) (hts _ (gw kw_228 rfl)) (fun _ h9 => h9) rfl dX11_count_127 ?_
      refine va_get (D := (dC, dI)) (ci := 4) (v := Value.int (nI sn)) (C := RX4) (T := TX4) (N := 8) hx hb hts inX4 hown hK hP 5 rfl rfl 6 (by decide) (hts _ (gw kw_52 rfl)) (fun _ h9 => h9) rfl dX11_count_130 ?_
      refine lv_isub hx hb dX11_count_133 ?_
      refine lv_topi (fun x_25 e_25 => ?_)
      have hpd9 := pd_P (cx := [oX11 h0 xp xtp xn xt xk xl xc xo xto xr xch ts ik 0, oX9 xp po pp ps pa pe pb xn pk pu pw pq pt u_13 u_14, oX4 xn ek ef ew ep es (nI n) (nI sn) dn, cI aC ek 8 kf, cI aC ef 8 ff, cI aC ew 8 wf, cI aC es 5 stf, cA aC po 8 fo, cA aC pp 8 fp, cA aC ps 8 fs, cK aC pk 7 fk, cO k0 0 [], cO k1 1 [], cO k2 3 [], cO k3 5 [], cO k4 6 [], cO k5 10 [], cO k6 8 [], cI aC pa 8 u_20, cI aC pe 8 u_21, cI aC pb 8 u_19, cI aC pu 7 u_15, cI aC pw 7 u_16, cI aC pq 128 u_17, cI aC pt 128 u_18, cI aC ep 8 pf, cI aC xr 7 rf, oX7 xl lz lsg]) hP hD [3, 4, 5, 6, 7, 8, 9, 10, 11, 12, 13, 14, 15, 16, 17, 18, 19, 20, 21, 22, 23, 24, 25, 26, 27, 0, 1, 2] (by decide) rfl
      have hP9 := hpd9.1
      have hD9 := hpd9.2
      refine W.widen (k := 0) (n := 0) (by omega) (by omega) ?_
      exact W.iret (v := x_25) hx hb hr (fun t ht hW => ⟨⟨x_25, (u_13, u_14, u_15, u_16, u_17, u_18, u_19, u_20, u_21, u_22, 0), rfl, ⟨Or.inr ⟨rfl, hm1⟩, hm2⟩, by rw [ht]; exact hP9, va_K.moved hW.alike hK, hD9⟩, hS.F ht⟩) hS.2.2 dX11_count_134
    · refine lv_iconst (v := 0) hx hb dX11_count_107 (by decide) ?_
      refine lv_goto (tgt := 134) hx hb dX11_count_108 (by decide) ?_
      have hpd9 := pd_P (cx := [oX11 h0 xp xtp xn xt xk xl xc xo xto xr xch ts ik st, oX9 xp po pp ps pa pe pb xn pk pu pw pq pt un fw, oX4 xn ek ef ew ep es (nI n) (nI sn) dn, cI aC ek 8 kf, cI aC ef 8 ff, cI aC ew 8 wf, cI aC es 5 stf, cA aC po 8 fo, cA aC pp 8 fp, cA aC ps 8 fs, cK aC pk 7 fk, cO k0 0 [], cO k1 1 [], cO k2 3 [], cO k3 5 [], cO k4 6 [], cO k5 10 [], cO k6 8 [], cI aC pa 8 yf, cI aC pe 8 ef0, cI aC pb 8 bf, cI aC pu 7 uf, cI aC pw 7 vf, cI aC pq 128 qf, cI aC pt 128 tf, cI aC ep 8 pf, cI aC xr 7 rf, oX7 xl lz lsg]) hP hD [0, 1, 27, 2, 3, 4, 5, 6, 7, 8, 9, 10, 11, 12, 13, 14, 15, 16, 17, 18, 19, 20, 21, 22, 23, 24, 25, 26] (by decide) rfl
      have hP9 := hpd9.1
      have hD9 := hpd9.2
      refine W.widen (k := 0) (n := 0) (by omega) (by omega) ?_
      exact W.iret (v := 0) hx hb hr (fun t ht hW => ⟨⟨0, (un, fw, uf, vf, qf, tf, bf, yf, ef0, g, st), rfl, ⟨hst, fun a _ => rfl⟩, by rw [ht]; exact hP9, va_K.moved hW.alike hK, hD9⟩, hS.F ht⟩) hS.2.2 dX11_count_134
  refine lv_tableOut (tgt := 135) hx hb dX11_count_1 (sw_out7 c_1 c_2 c_3 c_5 c_7 c_8 c_9) (by decide) ?_
  refine lv_aload_n hx hb dX11_count_135 rfl (lv_at hl 0 rfl) ?_
  refine lv_iload_n hx hb dX11_count_136 rfl (lv_at hl 1 rfl) ?_
  refine lv_bipush (v := 10) hx hb dX11_count_137 (by decide) ?_
  refine lv_isub hx hb dX11_count_139 ?_
  refine lv_topi (fun x_26 e_26 => ?_)
  have hpd9 := pdf_N (cx := [oX11 h0 xp xtp xn xt xk xl xc xo xto xr xch ts ik st, cI aC xr 7 rf]) hP hD hS hA [0, 26] (by decide) rfl
  have hPc := hpd9.1
  have hDc := hpd9.2.1
  have hFc := hpd9.2.2
  clear hpd9
  refine va_calli (va_runV (As := [Value.int x_26]) (rest := []) ⟨hx, hb, hml, hown, hts⟩ (c_X11_countRefusals l dC dI aC H.size h0 xp xtp xn xt xk xl xc xo xto xr xch ts ik st rf x_26 ) ⟨(callB_of 1 hts (gG kw_710) rfl rfl rfl (hts _ (gw kw_1 rfl)) (hts _ (gw kw_707 rfl)) hd_X11_countRefusals ⟨Nat.le_of_ble_eq_true rfl, Nat.le_of_ble_eq_true rfl⟩), (hts _ (gw kw_709 rfl)), (hts _ (gw ks_34 rfl))⟩ ⟨fb_std, va_recv (q := (RX11, TX11, 14)) hK hPc (ci := 11) (q0 := 0) rfl rfl, pre_std hPc hK hDc hN⟩ rfl rfl hl.1 rfl (lv_room (Nat.le_of_ble_eq_true rfl)) dX11_count_140 ⟨Nat.le_of_ble_eq_true rfl, Nat.le_of_ble_eq_true rfl⟩) hS (fun q _ h => hFc q h) hFc (fun x_27 u9 t9 H1 locs ht hvm hw_27 hB hz1 hk1 hS => ?_)
  obtain ⟨hP1, hK1, hD1⟩ := hB
  rw [ht] at hP1
  clear hK1
  try dsimp only at hw_27
  have hpd9 : PDx (dC, dI) classes A H1 (wp [oX9 xp po pp ps pa pe pb xn pk pu pw pq pt un fw, oX4 xn ek ef ew ep es (nI n) (nI sn) dn, cI aC ek 8 kf, cI aC ef 8 ff, cI aC ew 8 wf, cI aC es 5 stf, cA aC po 8 fo, cA aC pp 8 fp, cA aC ps 8 fs, cK aC pk 7 fk, cO k0 0 [], cO k1 1 [], cO k2 3 [], cO k3 5 [], cO k4 6 [], cO k5 10 [], cO k6 8 [], cI aC pa 8 yf, cI aC pe 8 ef0, cI aC pb 8 bf, cI aC pu 7 uf, cI aC pw 7 vf, cI aC pq 128 qf, cI aC pt 128 tf, cI aC ep 8 pf, oX7 xl lz lsg, oX11 h0 xp xtp xn xt xk xl xc xo xto xr xch ts ik st, cI aC xr 7 rf] (va_pl L (plE aC g))) := jn_Q (wr := [oX9 xp po pp ps pa pe pb xn pk pu pw pq pt un fw, oX4 xn ek ef ew ep es (nI n) (nI sn) dn, cI aC ek 8 kf, cI aC ef 8 ff, cI aC ew 8 wf, cI aC es 5 stf, cA aC po 8 fo, cA aC pp 8 fp, cA aC ps 8 fs, cK aC pk 7 fk, cO k0 0 [], cO k1 1 [], cO k2 3 [], cO k3 5 [], cO k4 6 [], cO k5 10 [], cO k6 8 [], cI aC pa 8 yf, cI aC pe 8 ef0, cI aC pb 8 bf, cI aC pu 7 uf, cI aC pw 7 vf, cI aC pq 128 qf, cI aC pt 128 tf, cI aC ep 8 pf, oX7 xl lz lsg]) hFc hk1 hP1 hD1 hP hD [0, 26] [1, 2, 3, 4, 5, 6, 7, 8, 9, 10, 11, 12, 13, 14, 15, 16, 17, 18, 19, 20, 21, 22, 23, 24, 25, 27] rfl rfl (by decide) (by decide)
  have hP := hpd9.1
  have hD := hpd9.2
  clear hpd9
  generalize H1 = H at hP hS ⊢
  clear hPc hDc hFc hz1 hk1 hP1 hD1 ht hvm
  have hpd9 := pd_P (cx := [oX11 h0 xp xtp xn xt xk xl xc xo xto xr xch ts ik st, oX9 xp po pp ps pa pe pb xn pk pu pw pq pt un fw, oX4 xn ek ef ew ep es (nI n) (nI sn) dn, cI aC ek 8 kf, cI aC ef 8 ff, cI aC ew 8 wf, cI aC es 5 stf, cA aC po 8 fo, cA aC pp 8 fp, cA aC ps 8 fs, cK aC pk 7 fk, cO k0 0 [], cO k1 1 [], cO k2 3 [], cO k3 5 [], cO k4 6 [], cO k5 10 [], cO k6 8 [], cI aC pa 8 yf, cI aC pe 8 ef0, cI aC pb 8 bf, cI aC pu 7 uf, cI aC pw 7 vf, cI aC pq 128 qf, cI aC pt 128 tf, cI aC ep 8 pf, cI aC xr 7 rf, oX7 xl lz lsg]) hP hD [26, 0, 1, 2, 3, 4, 5, 6, 7, 8, 9, 10, 11, 12, 13, 14, 15, 16, 17, 18, 19, 20, 21, 22, 23, 24, 27, 25] (by decide) rfl
  have hP9 := hpd9.1
  have hD9 := hpd9.2
  refine W.widen (k := 0) (n := 0) (by omega) (by omega) ?_
  exact W.iret (v := x_27) hx hb hr (fun t ht hW => ⟨⟨x_27, (un, fw, uf, vf, qf, tf, bf, yf, ef0, g, st), rfl, ⟨hst, fun a _ => rfl⟩, by rw [ht]; exact hP9, va_K.moved hW.alike hK, hD9⟩, hS.F ht⟩) hS.2.2 dX11_count_143
