section
/-! 70.league -/
set_option maxRecDepth 100000 in
theorem c_X9_cheapestSet_w (l : Launch) (dC : Nat → ClassId) (dI : Nat → Nat → Nat) (aC : Nat → ClassId) (sz : Nat) (h1 : Nat) (po : Nat) (pp : Nat) (ps : Nat) (pa : Nat) (pe : Nat) (pb : Nat) (pv : Nat) (pk : Nat) (pu : Nat) (pw : Nat) (pq : Nat) (pt : Nat) (ek : Nat) (ef : Nat) (ew : Nat) (ep : Nat) (es : Nat) (n : Nat) (sy : Int32) (dn : Int32) (wf : Nat → Int32) (stf : Nat → Int32) (W0 : Nat → Nat) (i : Nat) (k : Nat) (fw : Nat) (up : Nat → Nat) (uw : Nat → Nat) (uf : Nat → Int32) (vf : Nat → Int32) (qf : Nat → Int32) (tf : Nat → Int32) (hw : n ≤ 8 ∧ ∀ j, j < n → wf j = nI (W0 j) ∧ W0 j ≤ 9) (hi : i < n) (hk : k ≤ 7) (hfw : fw ≤ 100) (hu : ∀ u, u < k → (uf u = nI (up u) ∧ vf u = nI (uw u)) ∧ uw u ≤ 72 ∧ up u ≤ 1000) : Met l yX9_cheapestSet (wW yX9_cheapestSet cX9_cheapestSet 7 (some .int)) ({ frames := 2, cells := 0, slots := 0, locals := 36 } : Room) (va_Pc [Value.ref h1, Value.int (nI i)] (fun U => U.heap.size = sz ∧ va_P (dC, dI) classes [oX9 h1 po pp ps pa pe pb pv pk pu pw pq pt (nI k) (nI fw), oX4 pv ek ef ew ep es (nI n) sy dn, cI aC ew 8 wf, cI aC es 5 stf, cI aC pu 7 uf, cI aC pw 7 vf, cI aC pq 128 qf, cI aC pt 128 tf] U.heap ∧ va_K (dC, dI) classes (TY aC) U ∧ va_D (fun _ => True) [oX9 h1 po pp ps pa pe pb pv pk pu pw pq pt (nI k) (nI fw), oX4 pv ek ef ew ep es (nI n) sy dn, cI aC ew 8 wf, cI aC es 5 stf, cI aC pu 7 uf, cI aC pw 7 vf, cI aC pq 128 qf, cI aC pt 128 tf] ∧ NX U)) (va_Qi (fun (r : Int32) (u : (Nat → Int32) × (Nat → Int32)) => match u with | (qg, tg) => BST (fun z => nd (stf 1) (sumr W0 i (n - i)) ≤ W0 i + fw + cst uw z) (cst up) (2 ^ k) r ∧ ∀ x, x < 2 ^ k → qg x = nI (cst up x)) (fun (u : (Nat → Int32) × (Nat → Int32)) (t : State) => match u with | (qg, tg) => va_P (dC, dI) classes [oX9 h1 po pp ps pa pe pb pv pk pu pw pq pt (nI k) (nI fw), oX4 pv ek ef ew ep es (nI n) sy dn, cI aC ew 8 wf, cI aC es 5 stf, cI aC pu 7 uf, cI aC pw 7 vf, cI aC pq 128 qg, cI aC pt 128 tg] t.heap ∧ va_K (dC, dI) classes (TY aC) t ∧ va_D (va_A [oX9 h1 po pp ps pa pe pb pv pk pu pw pq pt (nI k) (nI fw), oX4 pv ek ef ew ep es (nI n) sy dn, cI aC ew 8 wf, cI aC es 5 stf, cI aC pu 7 uf, cI aC pw 7 vf, cI aC pq 128 qf, cI aC pt 128 tf] sz) [oX9 h1 po pp ps pa pe pb pv pk pu pw pq pt (nI k) (nI fw), oX4 pv ek ef ew ep es (nI n) sy dn, cI aC ew 8 wf, cI aC es 5 stf, cI aC pu 7 uf, cI aC pw 7 vf, cI aC pq 128 qg, cI aC pt 128 tg]) (va_A [oX9 h1 po pp ps pa pe pb pv pk pu pw pq pt (nI k) (nI fw), oX4 pv ek ef ew ep es (nI n) sy dn, cI aC ew 8 wf, cI aC es 5 stf, cI aC pu 7 uf, cI aC pw 7 vf, cI aC pq 128 qf, cI aC pt 128 tf] sz)) 0 0 (va_A [oX9 h1 po pp ps pa pe pb pv pk pu pw pq pt (nI k) (nI fw), oX4 pv ek ef ew ep es (nI n) sy dn, cI aC ew 8 wf, cI aC es 5 stf, cI aC pu 7 uf, cI aC pw 7 vf, cI aC pq 128 qf, cI aC pt 128 tf] sz) := by
  refine Met.ofW (cc := cX9_cheapestSet) (maxL := 7) (ret := (some .int)) (by decide) rfl ?_
  intro p e s m args below meth c s₁ B hml hv
  obtain ⟨rfl, hsz, hP, hK, hD0, hN⟩ := hv
  have hx := B.exec
  have hb := B.bytes
  have hr := B.returns
  have hts0 := atoms_spec (ws := (wW yX9_cheapestSet cX9_cheapestSet 7 (some .int))) B.pre
  have hts : ∀ w9 ∈ lw_G, w9.before ([Value.ref h1, Value.int (nI i)] : List Value).toArray s = true := fun w9 h9 => hts0 w9 (List.mem_cons_of_mem _ h9)
  have hown : s.vm.findClass RX9 = some m.cls := findClass_of_methodNamed (x := yX9_cheapestSet) B.named
  have hlocks := B.notSynchronized
  subst hsz
  have hD := hD0.self (sz := s.heap.size)
  generalize hAe : va_A [oX9 h1 po pp ps pa pe pb pv pk pu pw pq pt (nI k) (nI fw), oX4 pv ek ef ew ep es (nI n) sy dn, cI aC ew 8 wf, cI aC es 5 stf, cI aC pu 7 uf, cI aC pw 7 vf, cI aC pq 128 qf, cI aC pt 128 tf] s.heap.size = A at hD ⊢
  have hA : ∀ q : Nat, s.heap.size ≤ q → A q := fun q h => by rw [← hAe]; exact Or.inr h
  obtain ⟨H, hHe⟩ : ∃ H : Heap, H = s.heap := ⟨_, rfl⟩
  have hS : va_S A s.heap H [] := by rw [hHe]; exact va_S.rf
  have hP : va_P (dC, dI) classes [oX9 h1 po pp ps pa pe pb pv pk pu pw pq pt (nI k) (nI fw), oX4 pv ek ef ew ep es (nI n) sy dn, cI aC ew 8 wf, cI aC es 5 stf, cI aC pu 7 uf, cI aC pw 7 vf, cI aC pq 128 qf, cI aC pt 128 tf] H := by rw [hHe]; exact hP
  have hl := lv_entry ([Value.ref h1, Value.int (nI i)]) (n := 7) (Nat.le_of_ble_eq_true rfl)
  rw [lg_entry_eq]
  generalize (lg_sl ([Value.ref h1, Value.int (nI i)]) ++ List.replicate (7 - (lg_sl ([Value.ref h1, Value.int (nI i)])).length) Slot.unset).toArray = ls at hl ⊢
  have hl : lv_has ls 7 [(0, Value.ref h1), (1, Value.int (nI i))] := hl
  rw [← hHe]
  have hn8 := hw.1
  have hp7 := p2_le hk
  have hW9 := (hw.2 i hi).2
  have hs9 := w_le (W := W0) (a := i) (k := n - i) (fun j q => (hw.2 j q).2) (by omega) hw.1
  refine lv_aload_n hx hb dX9_cheapestSet_0 rfl (lv_at hl 0 rfl) ?_
  refine lv_aload_n hx hb dX9_cheapestSet_1 rfl (lv_at hl 0 rfl) ?_
  refine va_get (D := (dC, dI)) (ci := 9) (v := Value.ref pv) (C := RX9) (T := TX9) (N := 14) hx hb hts inX9 hown hK hP 0 rfl rfl 6 (by decide) (hts _ (gw kw_162 rfl)) (fun _ h9 => h9) rfl dX9_cheapestSet_2 ?_
  refine va_get (D := (dC, dI)) (ci := 4) (v := Value.ref ew) (C := RX4) (T := TX4) (N := 8) hx hb hts inX4 hown hK hP 1 rfl rfl 2 (by decide) (hts _ (gw kw_40 rfl)) (fun _ h9 => h9) rfl dX9_cheapestSet_5 ?_
  refine lv_iload_n hx hb dX9_cheapestSet_8 rfl (lv_at hl 1 rfl) ?_
  have h_1 : vp_in (nI i) 8 := by first | exact vp_in_nI (by omega) (by omega) | (unfold vp_in; decide) | (subst_vars; first | (unfold vp_in; decide) | exact vp_in_nI (by omega) (by omega))
  refine va_iald hx hb hK hP 2 0 rfl rfl h_1 dX9_cheapestSet_9 ?_
  refine lv_topi (fun x_2 e_2 => ?_)
  have h9 : x_2 = nI (W0 i) := by rw [e_2, nI_clamp (by omega)]; exact (hw.2 i hi).1
  subst h9
  have hpd9 := pdf_N (cx := [oX9 h1 po pp ps pa pe pb pv pk pu pw pq pt (nI k) (nI fw), cI aC pu 7 uf, cI aC pw 7 vf, cI aC pq 128 qf, cI aC pt 128 tf]) hP hD hS hA [0, 4, 5, 6, 7] (by decide) rfl
  have hPc := hpd9.1
  have hDc := hpd9.2.1
  have hFc := hpd9.2.2
  clear hpd9
  refine va_calli (va_runV (As := [Value.int (nI (W0 i))]) (rest := []) ⟨hx, hb, hml, hown, hts⟩ (c_X9_listSets l dC dI aC H.size h1 po pp ps pa pe pb pv pk pu pw pq pt k fw (W0 i) up uw uf vf qf tf (hk) (fun u q => (hu u q).1)) ⟨(callB_of 1 hts (gG kw_461) rfl rfl rfl (hts _ (gw kw_11 rfl)) (hts _ (gw kw_458 rfl)) hd_X9_listSets ⟨Nat.le_of_ble_eq_true rfl, Nat.le_of_ble_eq_true rfl⟩), (hts _ (gw kw_460 rfl)), (hts _ (gw ks_15 rfl))⟩ ⟨fb_std, va_recv (q := (RX9, TX9, 14)) hK hPc (ci := 9) (q0 := 0) rfl rfl, pre_std hPc hK hDc hN⟩ rfl rfl hl.1 rfl (lv_room (Nat.le_of_ble_eq_true rfl)) dX9_cheapestSet_10 ⟨Nat.le_of_ble_eq_true rfl, Nat.le_of_ble_eq_true rfl⟩) hS (fun q _ h => hFc q h) hFc (fun x_3 u9 t9 H1 locs ht hvm hw_3 hB hz1 hk1 hS => ?_)
  obtain ⟨u_4, u_5⟩ := u9
  obtain ⟨hP1, hK1, hD1⟩ := hB
  rw [ht] at hP1
  clear hK1
  try dsimp only at hw_3
  have hpd9 : PDx (dC, dI) classes A H1 [oX4 pv ek ef ew ep es (nI n) sy dn, cI aC ew 8 wf, cI aC es 5 stf, oX9 h1 po pp ps pa pe pb pv pk pu pw pq pt (nI k) (nI fw), cI aC pu 7 uf, cI aC pw 7 vf, cI aC pq 128 u_4, cI aC pt 128 u_5] := jn_N (wr := [oX4 pv ek ef ew ep es (nI n) sy dn, cI aC ew 8 wf, cI aC es 5 stf]) hFc hk1 hP1 hD1 hP hD [0, 4, 5, 6, 7] [1, 2, 3] rfl rfl (by decide) (by decide)
  have hP := hpd9.1
  have hD := hpd9.2
  clear hpd9
  generalize H1 = H at hP hS ⊢
  clear hPc hDc hFc hz1 hk1 hP1 hD1 ht hvm
  obtain ⟨hl0, hl1⟩ := hw_3
  have h9 : x_3 = nI (2 ^ k) := hl0
  subst h9
  refine lv_istore_n (lv' := [(2, Value.int (nI (2 ^ k))), (0, Value.ref h1), (1, Value.int (nI i))]) hx hb dX9_cheapestSet_13 rfl hl (by decide) rfl (fun ls hl => ?_)
  refine lv_aload_n hx hb dX9_cheapestSet_14 rfl (lv_at hl 1 rfl) ?_
  refine va_get (D := (dC, dI)) (ci := 9) (v := Value.ref pv) (C := RX9) (T := TX9) (N := 14) hx hb hts inX9 hown hK hP 3 rfl rfl 6 (by decide) (hts _ (gw kw_162 rfl)) (fun _ h9 => h9) rfl dX9_cheapestSet_15 ?_
  refine lv_iload_n hx hb dX9_cheapestSet_18 rfl (lv_at hl 2 rfl) ?_
  have hpd9 := pdf_N (cx := [oX4 pv ek ef ew ep es (nI n) sy dn, cI aC ew 8 wf]) hP hD hS hA [0, 1] (by decide) rfl
  have hPc := hpd9.1
  have hDc := hpd9.2.1
  have hFc := hpd9.2.2
  clear hpd9
  refine va_calli (va_runV (As := [Value.int (nI i)]) (rest := []) ⟨hx, hb, hml, hown, hts⟩ (c_X4_weightFrom l dC dI aC H.size pv ek ef ew ep es n sy dn wf W0 i (hw) (by omega)) ⟨(callB_of 1 hts (gG kw_465) rfl rfl rfl (hts _ (gw kw_2 rfl)) (hts _ (gw kw_462 rfl)) hd_X4_weightFrom ⟨Nat.le_of_ble_eq_true rfl, Nat.le_of_ble_eq_true rfl⟩), (hts _ (gw kw_463 rfl)), (hts _ (gw kw_464 rfl))⟩ ⟨fb_std, va_recv (q := (RX4, TX4, 8)) hK hPc (ci := 4) (q0 := 0) rfl rfl, pre_std hPc hK hDc hN⟩ rfl rfl hl.1 rfl (lv_room (Nat.le_of_ble_eq_true rfl)) dX9_cheapestSet_19 ⟨Nat.le_of_ble_eq_true rfl, Nat.le_of_ble_eq_true rfl⟩) hS (fun q _ h => hFc q h) hFc (fun x_6 u9 t9 H1 locs ht hvm hw_6 hB hz1 hk1 hS => ?_)
  obtain ⟨hP1, hK1, hD1⟩ := hB
  rw [ht] at hP1
  clear hK1
  try dsimp only at hw_6
  have hpd9 : PDx (dC, dI) classes A H1 [cI aC es 5 stf, oX9 h1 po pp ps pa pe pb pv pk pu pw pq pt (nI k) (nI fw), cI aC pu 7 uf, cI aC pw 7 vf, cI aC pq 128 u_4, cI aC pt 128 u_5, oX4 pv ek ef ew ep es (nI n) sy dn, cI aC ew 8 wf] := jn_N (wr := [cI aC es 5 stf, oX9 h1 po pp ps pa pe pb pv pk pu pw pq pt (nI k) (nI fw), cI aC pu 7 uf, cI aC pw 7 vf, cI aC pq 128 u_4, cI aC pt 128 u_5]) hFc hk1 hP1 hD1 hP hD [0, 1] [2, 3, 4, 5, 6, 7] rfl rfl (by decide) (by decide)
  have hP := hpd9.1
  have hD := hpd9.2
  clear hpd9
  generalize H1 = H at hP hS ⊢
  clear hPc hDc hFc hz1 hk1 hP1 hD1 ht hvm
  have h9 : x_6 = nI (sumr W0 i (n - i)) := hw_6
  subst h9
  refine lv_istore_n (lv' := [(3, Value.int (nI (sumr W0 i (n - i)))), (2, Value.int (nI (2 ^ k))), (0, Value.ref h1), (1, Value.int (nI i))]) hx hb dX9_cheapestSet_22 rfl hl (by decide) rfl (fun ls hl => ?_)
  refine lv_bipush (v := -9) hx hb dX9_cheapestSet_23 (by decide) ?_
  refine lv_istore (lv' := [(4, Value.int (-9)), (3, Value.int (nI (sumr W0 i (n - i)))), (2, Value.int (nI (2 ^ k))), (0, Value.ref h1), (1, Value.int (nI i))]) hx hb dX9_cheapestSet_25 hl (by decide) rfl (fun ls hl => ?_)
  refine lv_iconst (v := 0) hx hb dX9_cheapestSet_27 (by decide) ?_
  refine lv_istore (lv' := [(5, Value.int 0), (4, Value.int (-9)), (3, Value.int (nI (sumr W0 i (n - i)))), (2, Value.int (nI (2 ^ k))), (0, Value.ref h1), (1, Value.int (nI i))]) hx hb dX9_cheapestSet_28 hl (by decide) rfl (fun ls hl => ?_)
  have lp_30 : ∀ (fu : Nat) (x : Nat) (bl : Int32) (hfu : 2 ^ k - x < fu) (hxx : x ≤ 2 ^ k) (hbl : BST (fun z => nd (stf 1) (sumr W0 i (n - i)) ≤ W0 i + fw + cst uw z) (cst up) x bl) (H : Heap) (locs : List Loc) (ls : Array Slot), va_P (dC, dI) classes [cI aC es 5 stf, oX9 h1 po pp ps pa pe pb pv pk pu pw pq pt (nI k) (nI fw), cI aC pu 7 uf, cI aC pw 7 vf, cI aC pq 128 u_4, cI aC pt 128 u_5, oX4 pv ek ef ew ep es (nI n) sy dn, cI aC ew 8 wf] H → va_D A [cI aC es 5 stf, oX9 h1 po pp ps pa pe pb pv pk pu pw pq pt (nI k) (nI fw), cI aC pu 7 uf, cI aC pw 7 vf, cI aC pq 128 u_4, cI aC pt 128 u_5, oX4 pv ek ef ew ep es (nI n) sy dn, cI aC ew 8 wf] → va_S A s.heap H locs → lv_has ls 7 [(0, Value.ref h1), (1, Value.int (nI i)), (2, Value.int (nI (2 ^ k))), (3, Value.int (nI (sumr W0 i (n - i)))), (4, Value.int bl), (5, Value.int (nI x))] → W p l e (headSpec (wW yX9_cheapestSet cX9_cheapestSet 7 (some .int)) ({ frames := 2, cells := 0, slots := 0, locals := 36 } : Room)).room s m ([Value.ref h1, Value.int (nI i)] : List Value).toArray below meth c H locs 0 0 (MQ below (va_Qi (fun (r : Int32) (u : (Nat → Int32) × (Nat → Int32)) => match u with | (qg, tg) => BST (fun z => nd (stf 1) (sumr W0 i (n - i)) ≤ W0 i + fw + cst uw z) (cst up) (2 ^ k) r ∧ ∀ x, x < 2 ^ k → qg x = nI (cst up x)) (fun (u : (Nat → Int32) × (Nat → Int32)) (t : State) => match u with | (qg, tg) => va_P (dC, dI) classes [oX9 h1 po pp ps pa pe pb pv pk pu pw pq pt (nI k) (nI fw), oX4 pv ek ef ew ep es (nI n) sy dn, cI aC ew 8 wf, cI aC es 5 stf, cI aC pu 7 uf, cI aC pw 7 vf, cI aC pq 128 qg, cI aC pt 128 tg] t.heap ∧ va_K (dC, dI) classes (TY aC) t ∧ va_D A [oX9 h1 po pp ps pa pe pb pv pk pu pw pq pt (nI k) (nI fw), oX4 pv ek ef ew ep es (nI n) sy dn, cI aC ew 8 wf, cI aC es 5 stf, cI aC pu 7 uf, cI aC pw 7 vf, cI aC pq 128 qg, cI aC pt 128 tg]) A) ([Value.ref h1, Value.int (nI i)] : List Value).toArray s 0 0 A) (F0 m 30 ls []) := by
    intro fu
    induction fu with
    | zero => intro x bl hfu; exact absurd hfu (Nat.not_lt_zero _)
    | succ fu ih_30 =>
      intro x bl hfu hxx hbl H locs ls hP hD hS hl
      refine lv_iload hx hb dX9_cheapestSet_30 (lv_at hl 5 rfl) ?_
      refine lv_iload_n hx hb dX9_cheapestSet_32 rfl (lv_at hl 2 rfl) ?_
      refine lv_icmp_ge (tgt := 103) hx hb dX9_cheapestSet_33 (by decide) (fun c_7 => ?_) (fun c_7 => ?_)
      · have hxe : x = 2 ^ k := by
          rcases Nat.lt_or_ge x (2 ^ k) with q | q
          · exact absurd c_7 (nI_ge q (by omega))
          · omega
        refine lv_iload hx hb dX9_cheapestSet_103 (lv_at hl 4 rfl) ?_
        have hpd9 := pd_N (cx := [oX9 h1 po pp ps pa pe pb pv pk pu pw pq pt (nI k) (nI fw), oX4 pv ek ef ew ep es (nI n) sy dn, cI aC ew 8 wf, cI aC es 5 stf, cI aC pu 7 uf, cI aC pw 7 vf, cI aC pq 128 u_4, cI aC pt 128 u_5]) hP hD [1, 6, 7, 0, 2, 3, 4, 5] (by decide) rfl
        have hP9 := hpd9.1
        have hD9 := hpd9.2
        refine W.widen (k := 0) (n := 0) (by omega) (by omega) ?_
        exact W.iret (v := bl) hx hb hr (fun t ht hW => ⟨⟨bl, (u_4, u_5), rfl, ⟨by rw [← hxe]; exact hbl, fun x hx => (hl1 x hx).1⟩, by rw [ht]; exact hP9, va_K.moved hW.alike hK, hD9⟩, hS.F ht⟩) hS.2.2 dX9_cheapestSet_105
      · have hlx : x < 2 ^ k := by
          rcases Nat.lt_or_ge x (2 ^ k) with q | q
          · exact q
          · exact absurd (nI_le q (by omega)) c_7
        obtain ⟨hd1, hd2⟩ := hl1 x hlx
        have hcu := cst_le (f := uw) (k := k) (s := x) (b := 72) hlx (fun u q => (hu u q).2.1)
        refine lv_iload hx hb dX9_cheapestSet_36 (lv_at hl 4 rfl) ?_
        refine lv_if_lt (tgt := 58) hx hb dX9_cheapestSet_38 (by decide) (fun c_8 => ?_) (fun c_8 => ?_)
        · have hb0 := hbl.resolve_right (fun ⟨b, q1, q2, _⟩ => absurd c_8 (by rw [q2]; exact nI_pos (by omega)))
          refine lv_iconst (v := 1) hx hb dX9_cheapestSet_58 (by decide) ?_
          refine lv_goto (tgt := 63) hx hb dX9_cheapestSet_59 (by decide) ?_
          refine lv_istore (lv' := [(6, Value.int 1), (0, Value.ref h1), (1, Value.int (nI i)), (2, Value.int (nI (2 ^ k))), (3, Value.int (nI (sumr W0 i (n - i)))), (4, Value.int bl), (5, Value.int (nI x))]) hx hb dX9_cheapestSet_63 hl (by decide) rfl (fun ls hl => ?_)
          refine lv_iload hx hb dX9_cheapestSet_65 (lv_at hl 0 rfl) ?_
          refine lv_if_eq (tgt := 97) hx hb dX9_cheapestSet_67 (by decide) (fun c_9 => ?_) (fun c_9 => ?_)
          · exact absurd c_9 (by decide)
          · refine lv_aload_n hx hb dX9_cheapestSet_70 rfl (lv_at hl 1 rfl) ?_
            refine va_get (D := (dC, dI)) (ci := 9) (v := Value.ref pv) (C := RX9) (T := TX9) (N := 14) hx hb hts inX9 hown hK hP 1 rfl rfl 6 (by decide) (hts _ (gw kw_162 rfl)) (fun _ h9 => h9) rfl dX9_cheapestSet_71 ?_
            refine va_get (D := (dC, dI)) (ci := 4) (v := Value.ref es) (C := RX4) (T := TX4) (N := 8) hx hb hts inX4 hown hK hP 6 rfl rfl 4 (by decide) (hts _ (gw kw_44 rfl)) (fun _ h9 => h9) rfl dX9_cheapestSet_74 ?_
            refine lv_iconst (v := 1) hx hb dX9_cheapestSet_77 (by decide) ?_
            have h_10 : vp_in 1 5 := by unfold vp_in; decide
            refine va_iald hx hb hK hP 0 0 rfl rfl h_10 dX9_cheapestSet_78 ?_
            refine lv_topi (fun x_11 e_11 => ?_)
            have h9 : x_11 = (stf 1) := by rw [e_11]; rfl
            subst h9
            refine lv_aload_n hx hb dX9_cheapestSet_79 rfl (lv_at hl 1 rfl) ?_
            refine va_get (D := (dC, dI)) (ci := 9) (v := Value.ref pt) (C := RX9) (T := TX9) (N := 14) hx hb hts inX9 hown hK hP 1 rfl rfl 11 (by decide) (hts _ (gw kw_168 rfl)) (fun _ h9 => h9) rfl dX9_cheapestSet_80 ?_
            refine lv_iload hx hb dX9_cheapestSet_83 (lv_at hl 6 rfl) ?_
            have h_12 : vp_in (nI x) 128 := by first | exact vp_in_nI (by omega) (by omega) | (unfold vp_in; decide) | (subst_vars; first | (unfold vp_in; decide) | exact vp_in_nI (by omega) (by omega))
            refine va_iald hx hb hK hP 5 0 rfl rfl h_12 dX9_cheapestSet_85 ?_
            refine lv_topi (fun x_13 e_13 => ?_)
            have h9 : x_13 = nI (W0 i + fw + cst uw x) := by rw [e_13, nI_clamp (by omega)]; exact hd2
            subst h9
            refine lv_iload_n hx hb dX9_cheapestSet_86 rfl (lv_at hl 4 rfl) ?_
            have hpd9 := pdf_N (cx := []) hP hD hS hA [] (by decide) rfl
            have hPc := hpd9.1
            have hDc := hpd9.2.1
            have hFc := hpd9.2.2
            clear hpd9
            refine va_calli (va_runSN (As := [Value.int (stf 1), Value.int (nI (W0 i + fw + cst uw x)), Value.int (nI (sumr W0 i (n - i)))]) (rest := []) ⟨hx, hb, hml, hown, hts⟩ (c_X11_isEnough l dC dI aC H.size (stf 1) (W0 i + fw + cst uw x) (sumr W0 i (n - i)) (by omega) (by omega)) ⟨(va_cnB 3 hts (gG kw_469) rfl rfl rfl (hN.1 _ kw_467 rfl) (hts _ (gw kw_1 rfl)) hd_X11_isEnough ⟨Nat.le_of_ble_eq_true rfl, Nat.le_of_ble_eq_true rfl⟩), (hts _ (gw kw_468 rfl)), trivial⟩ ⟨fb_std, pre_std hPc hK hDc hN⟩ rfl rfl hl.1 rfl (lv_room (Nat.le_of_ble_eq_true rfl)) dX9_cheapestSet_87 ⟨Nat.le_of_ble_eq_true rfl, Nat.le_of_ble_eq_true rfl⟩) hS (fun q _ h => hFc q h) hFc (fun x_14 u9 t9 H1 locs ht hvm hw_14 hB hz1 hk1 hS => ?_)
            obtain ⟨hP1, hK1, hD1⟩ := hB
            rw [ht] at hP1
            clear hK1
            try dsimp only at hw_14
            have hpd9 : PDx (dC, dI) classes A H1 [cI aC es 5 stf, oX9 h1 po pp ps pa pe pb pv pk pu pw pq pt (nI k) (nI fw), cI aC pu 7 uf, cI aC pw 7 vf, cI aC pq 128 u_4, cI aC pt 128 u_5, oX4 pv ek ef ew ep es (nI n) sy dn, cI aC ew 8 wf] := jn_N (wr := [cI aC es 5 stf, oX9 h1 po pp ps pa pe pb pv pk pu pw pq pt (nI k) (nI fw), cI aC pu 7 uf, cI aC pw 7 vf, cI aC pq 128 u_4, cI aC pt 128 u_5, oX4 pv ek ef ew ep es (nI n) sy dn, cI aC ew 8 wf]) hFc hk1 hP1 hD1 hP hD [] [0, 1, 2, 3, 4, 5, 6, 7] rfl rfl (by decide) (by decide)
            have hP := hpd9.1
            have hD := hpd9.2
            clear hpd9
            generalize H1 = H at hP hS ⊢
            clear hPc hDc hFc hz1 hk1 hP1 hD1 ht hvm
            have hz_87 := hw_14
            refine lv_if_eq (tgt := 97) hx hb dX9_cheapestSet_90 (by decide) (fun c_15 => ?_) (fun c_15 => ?_)
            · have hEx : ¬ (fun z => nd (stf 1) (sumr W0 i (n - i)) ≤ W0 i + fw + cst uw z) x := fun q => absurd (hz_87.symm.trans c_15) (by rw [if_pos q]; decide)
              have hbn := BST_no (ct := cst up) (Or.inl hb0) hEx
              obtain ⟨x_16, e_16⟩ : ∃ y : Int32, y = (nI x) + 1 := ⟨_, rfl⟩
              refine lv_iinc (v := x_16) (lv' := [(5, Value.int x_16), (6, Value.int 1), (0, Value.ref h1), (1, Value.int (nI i)), (2, Value.int (nI (2 ^ k))), (3, Value.int (nI (sumr W0 i (n - i)))), (4, Value.int bl)]) hx hb dX9_cheapestSet_97 hl (k := 6) rfl (by rw [e_16]; rfl) (by decide) rfl (fun ls hl => ?_)
              have h9 : x_16 = nI (x + 1) := by rw [e_16, nI_1]
              subst h9
              refine lv_goto (tgt := 30) hx hb dX9_cheapestSet_100 (by decide) ?_
              exact ih_30 (x + 1) bl (by omega) (by omega) (hbn) _ _ _ (hP.sub [0, 1, 2, 3, 4, 5, 6, 7] rfl) (hD.sub [0, 1, 2, 3, 4, 5, 6, 7] (by decide) rfl) hS (lv_sub hl [2, 3, 4, 5, 6, 0] rfl)
            · refine lv_iload hx hb dX9_cheapestSet_93 (lv_at hl 6 rfl) ?_
              refine lv_istore (lv' := [(4, Value.int (nI x)), (6, Value.int 1), (0, Value.ref h1), (1, Value.int (nI i)), (2, Value.int (nI (2 ^ k))), (3, Value.int (nI (sumr W0 i (n - i)))), (5, Value.int (nI x))]) hx hb dX9_cheapestSet_95 hl (by decide) rfl (fun ls hl => ?_)
              have hEx : (fun z => nd (stf 1) (sumr W0 i (n - i)) ≤ W0 i + fw + cst uw z) x := by
                by_cases q : nd (stf 1) (sumr W0 i (n - i)) ≤ W0 i + fw + cst uw x
                · exact q
                · exact absurd (by rw [hz_87, if_neg q]) c_15
              have hbn := BST_first (ct := cst up) hb0.2 hEx
              obtain ⟨x_17, e_17⟩ : ∃ y : Int32, y = (nI x) + 1 := ⟨_, rfl⟩
              refine lv_iinc (v := x_17) (lv' := [(5, Value.int x_17), (4, Value.int (nI x)), (6, Value.int 1), (0, Value.ref h1), (1, Value.int (nI i)), (2, Value.int (nI (2 ^ k))), (3, Value.int (nI (sumr W0 i (n - i))))]) hx hb dX9_cheapestSet_97 hl (k := 6) rfl (by rw [e_17]; rfl) (by decide) rfl (fun ls hl => ?_)
              have h9 : x_17 = nI (x + 1) := by rw [e_17, nI_1]
              subst h9
              refine lv_goto (tgt := 30) hx hb dX9_cheapestSet_100 (by decide) ?_
              exact ih_30 (x + 1) (nI x) (by omega) (by omega) (hbn) _ _ _ (hP.sub [0, 1, 2, 3, 4, 5, 6, 7] rfl) (hD.sub [0, 1, 2, 3, 4, 5, 6, 7] (by decide) rfl) hS (lv_sub hl [3, 4, 5, 6, 1, 0] rfl)
        · obtain ⟨b, hb1, hb2, hb3, hb4⟩ := hbl.resolve_left (fun h => c_8 (by rw [h.1]; decide))
          have h9 : bl = nI b := hb2
          subst h9
          have hcb := cst_le (f := up) (k := k) (s := b) (b := 1000) (by omega) (fun u q => (hu u q).2.2)
          have hcx9 := cst_le (f := up) (k := k) (s := x) (b := 1000) (by omega) (fun u q => (hu u q).2.2)
          refine lv_aload_n hx hb dX9_cheapestSet_41 rfl (lv_at hl 0 rfl) ?_
          refine va_get (D := (dC, dI)) (ci := 9) (v := Value.ref pq) (C := RX9) (T := TX9) (N := 14) hx hb hts inX9 hown hK hP 1 rfl rfl 10 (by decide) (hts _ (gw kw_167 rfl)) (fun _ h9 => h9) rfl dX9_cheapestSet_42 ?_
          refine lv_iload hx hb dX9_cheapestSet_45 (lv_at hl 5 rfl) ?_
          have h_18 : vp_in (nI x) 128 := by first | exact vp_in_nI (by omega) (by omega) | (unfold vp_in; decide) | (subst_vars; first | (unfold vp_in; decide) | exact vp_in_nI (by omega) (by omega))
          refine va_iald hx hb hK hP 4 0 rfl rfl h_18 dX9_cheapestSet_47 ?_
          refine lv_topi (fun x_19 e_19 => ?_)
          have h9 : x_19 = nI (cst up x) := by rw [e_19, nI_clamp (by omega)]; exact hd1
          subst h9
          refine lv_aload_n hx hb dX9_cheapestSet_48 rfl (lv_at hl 0 rfl) ?_
          refine va_get (D := (dC, dI)) (ci := 9) (v := Value.ref pq) (C := RX9) (T := TX9) (N := 14) hx hb hts inX9 hown hK hP 1 rfl rfl 10 (by decide) (hts _ (gw kw_167 rfl)) (fun _ h9 => h9) rfl dX9_cheapestSet_49 ?_
          refine lv_iload hx hb dX9_cheapestSet_52 (lv_at hl 4 rfl) ?_
          have h_20 : vp_in (nI b) 128 := by first | exact vp_in_nI (by omega) (by omega) | (unfold vp_in; decide) | (subst_vars; first | (unfold vp_in; decide) | exact vp_in_nI (by omega) (by omega))
          refine va_iald hx hb hK hP 4 0 rfl rfl h_20 dX9_cheapestSet_54 ?_
          refine lv_topi (fun x_21 e_21 => ?_)
          have h9 : x_21 = nI (cst up b) := by rw [e_21, nI_clamp (by omega)]; exact (hl1 b (by omega)).1
          subst h9
          refine lv_icmp_gt (tgt := 62) hx hb dX9_cheapestSet_55 (by decide) (fun c_22 => ?_) (fun c_22 => ?_)
          · have hcx : cst up b < cst up x := (nI_ltI (by omega) (by omega)).mp c_22
            refine lv_iconst (v := 0) hx hb dX9_cheapestSet_62 (by decide) ?_
            refine lv_istore (lv' := [(6, Value.int 0), (0, Value.ref h1), (1, Value.int (nI i)), (2, Value.int (nI (2 ^ k))), (3, Value.int (nI (sumr W0 i (n - i)))), (4, Value.int (nI b)), (5, Value.int (nI x))]) hx hb dX9_cheapestSet_63 hl (by decide) rfl (fun ls hl => ?_)
            refine lv_iload hx hb dX9_cheapestSet_65 (lv_at hl 0 rfl) ?_
            refine lv_if_eq (tgt := 97) hx hb dX9_cheapestSet_67 (by decide) (fun c_23 => ?_) (fun c_23 => ?_)
            · have hbn := BST_dear (bl := nI b) hb1 rfl hb3 hb4 hcx
              obtain ⟨x_24, e_24⟩ : ∃ y : Int32, y = (nI x) + 1 := ⟨_, rfl⟩
              refine lv_iinc (v := x_24) (lv' := [(5, Value.int x_24), (6, Value.int 0), (0, Value.ref h1), (1, Value.int (nI i)), (2, Value.int (nI (2 ^ k))), (3, Value.int (nI (sumr W0 i (n - i)))), (4, Value.int (nI b))]) hx hb dX9_cheapestSet_97 hl (k := 6) rfl (by rw [e_24]; rfl) (by decide) rfl (fun ls hl => ?_)
              have h9 : x_24 = nI (x + 1) := by rw [e_24, nI_1]
              subst h9
              refine lv_goto (tgt := 30) hx hb dX9_cheapestSet_100 (by decide) ?_
              exact ih_30 (x + 1) (nI b) (by omega) (by omega) (hbn) _ _ _ (hP.sub [0, 1, 2, 3, 4, 5, 6, 7] rfl) (hD.sub [0, 1, 2, 3, 4, 5, 6, 7] (by decide) rfl) hS (lv_sub hl [2, 3, 4, 5, 6, 0] rfl)
            · exact absurd rfl c_23
          · have hcx : cst up x ≤ cst up b := by
              rcases Nat.lt_or_ge (cst up b) (cst up x) with q | q
              · exact absurd (nI_lt q (by omega)) c_22
              · exact q
            refine lv_iconst (v := 1) hx hb dX9_cheapestSet_58 (by decide) ?_
            refine lv_goto (tgt := 63) hx hb dX9_cheapestSet_59 (by decide) ?_
            refine lv_istore (lv' := [(6, Value.int 1), (0, Value.ref h1), (1, Value.int (nI i)), (2, Value.int (nI (2 ^ k))), (3, Value.int (nI (sumr W0 i (n - i)))), (4, Value.int (nI b)), (5, Value.int (nI x))]) hx hb dX9_cheapestSet_63 hl (by decide) rfl (fun ls hl => ?_)
            refine lv_iload hx hb dX9_cheapestSet_65 (lv_at hl 0 rfl) ?_
            refine lv_if_eq (tgt := 97) hx hb dX9_cheapestSet_67 (by decide) (fun c_25 => ?_) (fun c_25 => ?_)
            · exact absurd c_25 (by decide)
            · refine lv_aload_n hx hb dX9_cheapestSet_70 rfl (lv_at hl 1 rfl) ?_
              refine va_get (D := (dC, dI)) (ci := 9) (v := Value.ref pv) (C := RX9) (T := TX9) (N := 14) hx hb hts inX9 hown hK hP 1 rfl rfl 6 (by decide) (hts _ (gw kw_162 rfl)) (fun _ h9 => h9) rfl dX9_cheapestSet_71 ?_
              refine va_get (D := (dC, dI)) (ci := 4) (v := Value.ref es) (C := RX4) (T := TX4) (N := 8) hx hb hts inX4 hown hK hP 6 rfl rfl 4 (by decide) (hts _ (gw kw_44 rfl)) (fun _ h9 => h9) rfl dX9_cheapestSet_74 ?_
              refine lv_iconst (v := 1) hx hb dX9_cheapestSet_77 (by decide) ?_
              have h_26 : vp_in 1 5 := by unfold vp_in; decide
              refine va_iald hx hb hK hP 0 0 rfl rfl h_26 dX9_cheapestSet_78 ?_
              refine lv_topi (fun x_27 e_27 => ?_)
              have h9 : x_27 = (stf 1) := by rw [e_27]; rfl
              subst h9
              refine lv_aload_n hx hb dX9_cheapestSet_79 rfl (lv_at hl 1 rfl) ?_
              refine va_get (D := (dC, dI)) (ci := 9) (v := Value.ref pt) (C := RX9) (T := TX9) (N := 14) hx hb hts inX9 hown hK hP 1 rfl rfl 11 (by decide) (hts _ (gw kw_168 rfl)) (fun _ h9 => h9) rfl dX9_cheapestSet_80 ?_
              refine lv_iload hx hb dX9_cheapestSet_83 (lv_at hl 6 rfl) ?_
              have h_28 : vp_in (nI x) 128 := by first | exact vp_in_nI (by omega) (by omega) | (unfold vp_in; decide) | (subst_vars; first | (unfold vp_in; decide) | exact vp_in_nI (by omega) (by omega))
              refine va_iald hx hb hK hP 5 0 rfl rfl h_28 dX9_cheapestSet_85 ?_
              refine lv_topi (fun x_29 e_29 => ?_)
              have h9 : x_29 = nI (W0 i + fw + cst uw x) := by rw [e_29, nI_clamp (by omega)]; exact hd2
              subst h9
              refine lv_iload_n hx hb dX9_cheapestSet_86 rfl (lv_at hl 4 rfl) ?_
              have hpd9 := pdf_N (cx := []) hP hD hS hA [] (by decide) rfl
              have hPc := hpd9.1
              have hDc := hpd9.2.1
              have hFc := hpd9.2.2
              clear hpd9
              refine va_calli (va_runSN (As := [Value.int (stf 1), Value.int (nI (W0 i + fw + cst uw x)), Value.int (nI (sumr W0 i (n - i)))]) (rest := []) ⟨hx, hb, hml, hown, hts⟩ (c_X11_isEnough l dC dI aC H.size (stf 1) (W0 i + fw + cst uw x) (sumr W0 i (n - i)) (by omega) (by omega)) ⟨(va_cnB 3 hts (gG kw_469) rfl rfl rfl (hN.1 _ kw_467 rfl) (hts _ (gw kw_1 rfl)) hd_X11_isEnough ⟨Nat.le_of_ble_eq_true rfl, Nat.le_of_ble_eq_true rfl⟩), (hts _ (gw kw_468 rfl)), trivial⟩ ⟨fb_std, pre_std hPc hK hDc hN⟩ rfl rfl hl.1 rfl (lv_room (Nat.le_of_ble_eq_true rfl)) dX9_cheapestSet_87 ⟨Nat.le_of_ble_eq_true rfl, Nat.le_of_ble_eq_true rfl⟩) hS (fun q _ h => hFc q h) hFc (fun x_30 u9 t9 H1 locs ht hvm hw_30 hB hz1 hk1 hS => ?_)
              obtain ⟨hP1, hK1, hD1⟩ := hB
              rw [ht] at hP1
              clear hK1
              try dsimp only at hw_30
              have hpd9 : PDx (dC, dI) classes A H1 [cI aC es 5 stf, oX9 h1 po pp ps pa pe pb pv pk pu pw pq pt (nI k) (nI fw), cI aC pu 7 uf, cI aC pw 7 vf, cI aC pq 128 u_4, cI aC pt 128 u_5, oX4 pv ek ef ew ep es (nI n) sy dn, cI aC ew 8 wf] := jn_N (wr := [cI aC es 5 stf, oX9 h1 po pp ps pa pe pb pv pk pu pw pq pt (nI k) (nI fw), cI aC pu 7 uf, cI aC pw 7 vf, cI aC pq 128 u_4, cI aC pt 128 u_5, oX4 pv ek ef ew ep es (nI n) sy dn, cI aC ew 8 wf]) hFc hk1 hP1 hD1 hP hD [] [0, 1, 2, 3, 4, 5, 6, 7] rfl rfl (by decide) (by decide)
              have hP := hpd9.1
              have hD := hpd9.2
              clear hpd9
              generalize H1 = H at hP hS ⊢
              clear hPc hDc hFc hz1 hk1 hP1 hD1 ht hvm
              have hz_87 := hw_30
              refine lv_if_eq (tgt := 97) hx hb dX9_cheapestSet_90 (by decide) (fun c_31 => ?_) (fun c_31 => ?_)
              · have hEx : ¬ (fun z => nd (stf 1) (sumr W0 i (n - i)) ≤ W0 i + fw + cst uw z) x := fun q => absurd (hz_87.symm.trans c_31) (by rw [if_pos q]; decide)
                have hbn := BST_no (ct := cst up) (bl := nI b) (Or.inr ⟨b, hb1, rfl, hb3, hb4⟩) hEx
                obtain ⟨x_32, e_32⟩ : ∃ y : Int32, y = (nI x) + 1 := ⟨_, rfl⟩
                refine lv_iinc (v := x_32) (lv' := [(5, Value.int x_32), (6, Value.int 1), (0, Value.ref h1), (1, Value.int (nI i)), (2, Value.int (nI (2 ^ k))), (3, Value.int (nI (sumr W0 i (n - i)))), (4, Value.int (nI b))]) hx hb dX9_cheapestSet_97 hl (k := 6) rfl (by rw [e_32]; rfl) (by decide) rfl (fun ls hl => ?_)
                have h9 : x_32 = nI (x + 1) := by rw [e_32, nI_1]
                subst h9
                refine lv_goto (tgt := 30) hx hb dX9_cheapestSet_100 (by decide) ?_
                exact ih_30 (x + 1) (nI b) (by omega) (by omega) (hbn) _ _ _ (hP.sub [0, 1, 2, 3, 4, 5, 6, 7] rfl) (hD.sub [0, 1, 2, 3, 4, 5, 6, 7] (by decide) rfl) hS (lv_sub hl [2, 3, 4, 5, 6, 0] rfl)
              · refine lv_iload hx hb dX9_cheapestSet_93 (lv_at hl 6 rfl) ?_
                refine lv_istore (lv' := [(4, Value.int (nI x)), (6, Value.int 1), (0, Value.ref h1), (1, Value.int (nI i)), (2, Value.int (nI (2 ^ k))), (3, Value.int (nI (sumr W0 i (n - i)))), (5, Value.int (nI x))]) hx hb dX9_cheapestSet_95 hl (by decide) rfl (fun ls hl => ?_)
                have hEx : (fun z => nd (stf 1) (sumr W0 i (n - i)) ≤ W0 i + fw + cst uw z) x := by
                  by_cases q : nd (stf 1) (sumr W0 i (n - i)) ≤ W0 i + fw + cst uw x
                  · exact q
                  · exact absurd (by rw [hz_87, if_neg q]) c_31
                have hbn := BST_take hb1 hb4 hEx hcx
                obtain ⟨x_33, e_33⟩ : ∃ y : Int32, y = (nI x) + 1 := ⟨_, rfl⟩
                refine lv_iinc (v := x_33) (lv' := [(5, Value.int x_33), (4, Value.int (nI x)), (6, Value.int 1), (0, Value.ref h1), (1, Value.int (nI i)), (2, Value.int (nI (2 ^ k))), (3, Value.int (nI (sumr W0 i (n - i))))]) hx hb dX9_cheapestSet_97 hl (k := 6) rfl (by rw [e_33]; rfl) (by decide) rfl (fun ls hl => ?_)
                have h9 : x_33 = nI (x + 1) := by rw [e_33, nI_1]
                subst h9
                refine lv_goto (tgt := 30) hx hb dX9_cheapestSet_100 (by decide) ?_
                exact ih_30 (x + 1) (nI x) (by omega) (by omega) (hbn) _ _ _ (hP.sub [0, 1, 2, 3, 4, 5, 6, 7] rfl) (hD.sub [0, 1, 2, 3, 4, 5, 6, 7] (by decide) rfl) hS (lv_sub hl [3, 4, 5, 6, 1, 0] rfl)
  exact lp_30 ((2 ^ k - 0) + 1) 0 (-9) (Nat.lt_succ_self _) (Nat.zero_le _) (BST_0) _ _ _ (hP.sub [0, 1, 2, 3, 4, 5, 6, 7] rfl) (hD.sub [0, 1, 2, 3, 4, 5, 6, 7] (by decide) rfl) hS (lv_sub hl [4, 5, 3, 2, 1, 0] rfl)

set_option maxHeartbeats 1000000 in
set_option maxRecDepth 100000 in
/-- J6_bitCount_0f7a4 -/
theorem c_J6_bitCount_0f7a4 (l : Launch) (dC : Nat → ClassId) (dI : Nat → Nat → Nat) (aC : Nat → ClassId) (sz : Nat) (v : Int32)  : Met l yJ6_bitCount_0f7a4 (wW yJ6_bitCount_0f7a4 cJ6_bitCount_0f7a4 1 (some .int)) ({ frames := 0, cells := 0, slots := 0, locals := 0 } : Room) (va_Pc [Value.int v] (fun U => U.heap.size = sz ∧ va_P (dC, dI) classes [] U.heap ∧ va_K (dC, dI) classes (TY aC) U ∧ va_D (fun _ => True) [] ∧ NX U)) (va_Qi (fun (r : Int32) (_ : Unit) => ∀ x9, x9 < 256 → v = nI x9 → r = nI (LGNn x9)) (fun (_ : Unit) (t : State) => va_P (dC, dI) classes [] t.heap ∧ va_K (dC, dI) classes (TY aC) t ∧ va_D (va_A [] sz) []) (va_A [] sz)) 0 0 (va_A [] sz) := by
  refine Met.ofW (cc := cJ6_bitCount_0f7a4) (maxL := 1) (ret := (some .int)) (by decide) rfl ?_
  intro p e s m args below meth c s₁ B hml hv
  obtain ⟨rfl, hsz, hP, hK, hD0, hN⟩ := hv
  have hx := B.exec
  have hb := B.bytes
  have hr := B.returns
  have hts0 := atoms_spec (ws := (wW yJ6_bitCount_0f7a4 cJ6_bitCount_0f7a4 1 (some .int))) B.pre
  have hts : ∀ w9 ∈ lw_G, w9.before ([Value.int v] : List Value).toArray s = true := fun w9 h9 => hts0 w9 (List.mem_cons_of_mem _ h9)
  have hown : s.vm.findClass RJ6 = some m.cls := findClass_of_methodNamed (x := yJ6_bitCount_0f7a4) B.named
  have hlocks := B.notSynchronized
  subst hsz
  have hD := hD0.self (sz := s.heap.size)
  generalize hAe : va_A [] s.heap.size = A at hD ⊢
  have hA : ∀ q : Nat, s.heap.size ≤ q → A q := fun q h => by rw [← hAe]; exact Or.inr h
  obtain ⟨H, hHe⟩ : ∃ H : Heap, H = s.heap := ⟨_, rfl⟩
  have hS : va_S A s.heap H [] := by rw [hHe]; exact va_S.rf
  have hP : va_P (dC, dI) classes [] H := by rw [hHe]; exact hP
  have hl := lv_entry ([Value.int v]) (n := 1) (Nat.le_of_ble_eq_true rfl)
  rw [lg_entry_eq]
  generalize (lg_sl ([Value.int v]) ++ List.replicate (1 - (lg_sl ([Value.int v])).length) Slot.unset).toArray = ls at hl ⊢
  have hl : lv_has ls 1 [(0, Value.int v)] := hl
  rw [← hHe]
  refine lv_iload_n hx hb dJ6_bitCount_0f7a4_0 rfl (lv_at hl 0 rfl) ?_
  refine lv_iload_n hx hb dJ6_bitCount_0f7a4_1 rfl (lv_at hl 0 rfl) ?_
  refine lv_iconst (v := 1) hx hb dJ6_bitCount_0f7a4_2 (by decide) ?_
  refine lv_iushr hx hb dJ6_bitCount_0f7a4_3 rfl ?_
  refine lv_topi (fun x_1 e_1 => ?_)
  refine lv_ldcw hx hb hown (hts _ (gw kw_637 rfl)) dJ6_bitCount_0f7a4_4 ?_
  refine lv_iand hx hb dJ6_bitCount_0f7a4_7 ?_
  refine lv_topi (fun x_2 e_2 => ?_)
  refine lv_isub hx hb dJ6_bitCount_0f7a4_8 ?_
  refine lv_topi (fun x_3 e_3 => ?_)
  refine lv_istore_n (lv' := [(0, Value.int x_3)]) hx hb dJ6_bitCount_0f7a4_9 rfl hl (by decide) rfl (fun ls hl => ?_)
  refine lv_iload_n hx hb dJ6_bitCount_0f7a4_10 rfl (lv_at hl 0 rfl) ?_
  refine lv_ldcw hx hb hown (hts _ (gw kw_638 rfl)) dJ6_bitCount_0f7a4_11 ?_
  refine lv_iand hx hb dJ6_bitCount_0f7a4_14 ?_
  refine lv_topi (fun x_4 e_4 => ?_)
  refine lv_iload_n hx hb dJ6_bitCount_0f7a4_15 rfl (lv_at hl 0 rfl) ?_
  refine lv_iconst (v := 2) hx hb dJ6_bitCount_0f7a4_16 (by decide) ?_
  refine lv_iushr hx hb dJ6_bitCount_0f7a4_17 rfl ?_
  refine lv_topi (fun x_5 e_5 => ?_)
  refine lv_ldcw hx hb hown (hts _ (gw kw_638 rfl)) dJ6_bitCount_0f7a4_18 ?_
  refine lv_iand hx hb dJ6_bitCount_0f7a4_21 ?_
  refine lv_topi (fun x_6 e_6 => ?_)
  refine lv_iadd hx hb dJ6_bitCount_0f7a4_22 ?_
  refine lv_topi (fun x_7 e_7 => ?_)
  refine lv_istore_n (lv' := [(0, Value.int x_7)]) hx hb dJ6_bitCount_0f7a4_23 rfl hl (by decide) rfl (fun ls hl => ?_)
  refine lv_iload_n hx hb dJ6_bitCount_0f7a4_24 rfl (lv_at hl 0 rfl) ?_
  refine lv_iload_n hx hb dJ6_bitCount_0f7a4_25 rfl (lv_at hl 0 rfl) ?_
  refine lv_iconst (v := 4) hx hb dJ6_bitCount_0f7a4_26 (by decide) ?_
  refine lv_iushr hx hb dJ6_bitCount_0f7a4_27 rfl ?_
  refine lv_topi (fun x_8 e_8 => ?_)
  refine lv_iadd hx hb dJ6_bitCount_0f7a4_28 ?_
  refine lv_topi (fun x_9 e_9 => ?_)
  refine lv_ldcw hx hb hown (hts _ (gw kw_639 rfl)) dJ6_bitCount_0f7a4_29 ?_
  refine lv_iand hx hb dJ6_bitCount_0f7a4_32 ?_
  refine lv_topi (fun x_10 e_10 => ?_)
  refine lv_istore_n (lv' := [(0, Value.int x_10)]) hx hb dJ6_bitCount_0f7a4_33 rfl hl (by decide) rfl (fun ls hl => ?_)
  refine lv_iload_n hx hb dJ6_bitCount_0f7a4_34 rfl (lv_at hl 0 rfl) ?_
  refine lv_iload_n hx hb dJ6_bitCount_0f7a4_35 rfl (lv_at hl 0 rfl) ?_
  refine lv_bipush (v := 8) hx hb dJ6_bitCount_0f7a4_36 (by decide) ?_
  refine lv_iushr hx hb dJ6_bitCount_0f7a4_38 rfl ?_
  refine lv_topi (fun x_11 e_11 => ?_)
  refine lv_iadd hx hb dJ6_bitCount_0f7a4_39 ?_
  refine lv_topi (fun x_12 e_12 => ?_)
  refine lv_istore_n (lv' := [(0, Value.int x_12)]) hx hb dJ6_bitCount_0f7a4_40 rfl hl (by decide) rfl (fun ls hl => ?_)
  refine lv_iload_n hx hb dJ6_bitCount_0f7a4_41 rfl (lv_at hl 0 rfl) ?_
  refine lv_iload_n hx hb dJ6_bitCount_0f7a4_42 rfl (lv_at hl 0 rfl) ?_
  refine lv_bipush (v := 16) hx hb dJ6_bitCount_0f7a4_43 (by decide) ?_
  refine lv_iushr hx hb dJ6_bitCount_0f7a4_45 rfl ?_
  refine lv_topi (fun x_13 e_13 => ?_)
  refine lv_iadd hx hb dJ6_bitCount_0f7a4_46 ?_
  refine lv_topi (fun x_14 e_14 => ?_)
  refine lv_istore_n (lv' := [(0, Value.int x_14)]) hx hb dJ6_bitCount_0f7a4_47 rfl hl (by decide) rfl (fun ls hl => ?_)
  refine lv_iload_n hx hb dJ6_bitCount_0f7a4_48 rfl (lv_at hl 0 rfl) ?_
  refine lv_bipush (v := 63) hx hb dJ6_bitCount_0f7a4_49 (by decide) ?_
  refine lv_iand hx hb dJ6_bitCount_0f7a4_51 ?_
  refine lv_topi (fun x_15 e_15 => ?_)
  have hpd9 := pd_N (cx := []) hP hD [] (by decide) rfl
  have hP9 := hpd9.1
  have hD9 := hpd9.2
  refine W.widen (k := 0) (n := 0) (by omega) (by omega) ?_
  exact W.iret (v := x_15) hx hb hr (fun t ht hW => ⟨⟨x_15, (), rfl, fun x9 hx9 hv9 => by subst e_15; subst e_14; subst e_13; subst e_12; subst e_11; subst e_10; subst e_9; subst e_8; subst e_7; subst e_6; subst e_5; subst e_4; subst e_3; subst e_2; subst e_1; rw [hv9]; clear hv9; revert x9; decide +kernel, by rw [ht]; exact hP9, va_K.moved hW.alike hK, hD9⟩, hS.F ht⟩) hS.2.2 dJ6_bitCount_0f7a4_52

set_option maxHeartbeats 1000000 in
set_option maxRecDepth 100000 in
/-- X9_canBuy -/
theorem c_X9_canBuy (l : Launch) (dC : Nat → ClassId) (dI : Nat → Nat → Nat) (aC : Nat → ClassId) (sz : Nat) (h1 : Nat) (po : Nat) (pp : Nat) (ps : Nat) (pa : Nat) (pe : Nat) (pb : Nat) (pv : Nat) (pk : Nat) (pu : Nat) (pw : Nat) (pq : Nat) (pt : Nat) (un : Int32) (fw : Int32) (ek : Nat) (ef : Nat) (ew : Nat) (ep : Nat) (es : Nat) (n : Nat) (sy : Int32) (dn : Int32) (wf : Nat → Int32) (stf : Nat → Int32) (W0 : Nat → Nat) (cq : Nat) (L : List Nat) (g : Nat → Nat → Int32) (fo : Nat → Option Nat) (fp : Nat → Option Nat) (fs : Nat → Option Nat) (ro : Nat → Nat) (rp : Nat → Nat) (rs : Nat → Nat) (i : Nat) (v : Int32) (Pq : Nat → Nat) (uf : Nat → Int32) (vf : Nat → Int32) (qf : Nat → Int32) (tf : Nat → Int32) (hgr : GRD L fo fp fs ro rp rs) (hw : n ≤ 8 ∧ ∀ j, j < n → wf j = nI (W0 j) ∧ W0 j ≤ 9) (hi : i < n) (hcq : cq ≤ 99 ∧ stf 0 = nI cq) (hPq : ∀ q, i < q → q < n → g (rp i) q = nI (Pq q) ∧ Pq q ≤ 110) (hlg : ∃ b, i < b ∧ b < n ∧ bt v b = true) : Met l yX9_canBuy (wW yX9_canBuy cX9_canBuy 6 (some .boolean)) ({ frames := 3, cells := 0, slots := 0, locals := 62 } : Room) (va_Pc [Value.ref h1, Value.int (nI i), Value.int v] (fun U => U.heap.size = sz ∧ va_P (dC, dI) classes (wp [oX9 h1 po pp ps pa pe pb pv pk pu pw pq pt un fw, oX4 pv ek ef ew ep es (nI n) sy dn, cI aC ew 8 wf, cI aC es 5 stf, cA aC pp 8 fp, cI aC pu 7 uf, cI aC pw 7 vf, cI aC pq 128 qf, cI aC pt 128 tf] (va_pl L (plE aC g))) U.heap ∧ va_K (dC, dI) classes (TY aC) U ∧ va_D (fun _ => True) (wp [oX9 h1 po pp ps pa pe pb pv pk pu pw pq pt un fw, oX4 pv ek ef ew ep es (nI n) sy dn, cI aC ew 8 wf, cI aC es 5 stf, cA aC pp 8 fp, cI aC pu 7 uf, cI aC pw 7 vf, cI aC pq 128 qf, cI aC pt 128 tf] (va_pl L (plE aC g))) ∧ NX U)) (va_Qi (fun (r : Int32) (u : Int32 × Int32 × (Nat → Int32) × (Nat → Int32) × (Nat → Int32) × (Nat → Int32)) => match u with | (un2, fw2, ug, vg, qg, tg) => (r = 1 ∧ LGE n W0 (stf 1) cq i Pq v) ∨ (r = 0 ∧ ¬ LGE n W0 (stf 1) cq i Pq v)) (fun (u : Int32 × Int32 × (Nat → Int32) × (Nat → Int32) × (Nat → Int32) × (Nat → Int32)) (t : State) => match u with | (un2, fw2, ug, vg, qg, tg) => va_P (dC, dI) classes (wp [oX9 h1 po pp ps pa pe pb pv pk pu pw pq pt un2 fw2, oX4 pv ek ef ew ep es (nI n) sy dn, cI aC ew 8 wf, cI aC es 5 stf, cA aC pp 8 fp, cI aC pu 7 ug, cI aC pw 7 vg, cI aC pq 128 qg, cI aC pt 128 tg] (va_pl L (plE aC g))) t.heap ∧ va_K (dC, dI) classes (TY aC) t ∧ va_D (va_A (wp [oX9 h1 po pp ps pa pe pb pv pk pu pw pq pt un fw, oX4 pv ek ef ew ep es (nI n) sy dn, cI aC ew 8 wf, cI aC es 5 stf, cA aC pp 8 fp, cI aC pu 7 uf, cI aC pw 7 vf, cI aC pq 128 qf, cI aC pt 128 tf] (va_pl L (plE aC g))) sz) (wp [oX9 h1 po pp ps pa pe pb pv pk pu pw pq pt un2 fw2, oX4 pv ek ef ew ep es (nI n) sy dn, cI aC ew 8 wf, cI aC es 5 stf, cA aC pp 8 fp, cI aC pu 7 ug, cI aC pw 7 vg, cI aC pq 128 qg, cI aC pt 128 tg] (va_pl L (plE aC g)))) (va_A (wp [oX9 h1 po pp ps pa pe pb pv pk pu pw pq pt un fw, oX4 pv ek ef ew ep es (nI n) sy dn, cI aC ew 8 wf, cI aC es 5 stf, cA aC pp 8 fp, cI aC pu 7 uf, cI aC pw 7 vf, cI aC pq 128 qf, cI aC pt 128 tf] (va_pl L (plE aC g))) sz)) 0 0 (va_A (wp [oX9 h1 po pp ps pa pe pb pv pk pu pw pq pt un fw, oX4 pv ek ef ew ep es (nI n) sy dn, cI aC ew 8 wf, cI aC es 5 stf, cA aC pp 8 fp, cI aC pu 7 uf, cI aC pw 7 vf, cI aC pq 128 qf, cI aC pt 128 tf] (va_pl L (plE aC g))) sz) := by
  refine Met.ofW (cc := cX9_canBuy) (maxL := 6) (ret := (some .boolean)) (by decide) rfl ?_
  intro p e s m args below meth c s₁ B hml hv
  obtain ⟨rfl, hsz, hP, hK, hD0, hN⟩ := hv
  have hx := B.exec
  have hb := B.bytes
  have hr := B.returns
  have hts0 := atoms_spec (ws := (wW yX9_canBuy cX9_canBuy 6 (some .boolean))) B.pre
  have hts : ∀ w9 ∈ lw_G, w9.before ([Value.ref h1, Value.int (nI i), Value.int v] : List Value).toArray s = true := fun w9 h9 => hts0 w9 (List.mem_cons_of_mem _ h9)
  have hown : s.vm.findClass RX9 = some m.cls := findClass_of_methodNamed (x := yX9_canBuy) B.named
  have hlocks := B.notSynchronized
  subst hsz
  have hD := hD0.self (sz := s.heap.size)
  generalize hAe : va_A (wp [oX9 h1 po pp ps pa pe pb pv pk pu pw pq pt un fw, oX4 pv ek ef ew ep es (nI n) sy dn, cI aC ew 8 wf, cI aC es 5 stf, cA aC pp 8 fp, cI aC pu 7 uf, cI aC pw 7 vf, cI aC pq 128 qf, cI aC pt 128 tf] (va_pl L (plE aC g))) s.heap.size = A at hD ⊢
  have hA : ∀ q : Nat, s.heap.size ≤ q → A q := fun q h => by rw [← hAe]; exact Or.inr h
  obtain ⟨H, hHe⟩ : ∃ H : Heap, H = s.heap := ⟨_, rfl⟩
  have hS : va_S A s.heap H [] := by rw [hHe]; exact va_S.rf
  have hP : va_P (dC, dI) classes (wp [oX9 h1 po pp ps pa pe pb pv pk pu pw pq pt un fw, oX4 pv ek ef ew ep es (nI n) sy dn, cI aC ew 8 wf, cI aC es 5 stf, cA aC pp 8 fp, cI aC pu 7 uf, cI aC pw 7 vf, cI aC pq 128 qf, cI aC pt 128 tf] (va_pl L (plE aC g))) H := by rw [hHe]; exact hP
  have hl := lv_entry ([Value.ref h1, Value.int (nI i), Value.int v]) (n := 6) (Nat.le_of_ble_eq_true rfl)
  rw [lg_entry_eq]
  generalize (lg_sl ([Value.ref h1, Value.int (nI i), Value.int v]) ++ List.replicate (6 - (lg_sl ([Value.ref h1, Value.int (nI i), Value.int v])).length) Slot.unset).toArray = ls at hl ⊢
  have hl : lv_has ls 6 [(0, Value.ref h1), (1, Value.int (nI i)), (2, Value.int v)] := hl
  rw [← hHe]
  have hn8 := hw.1
  refine lv_aload_n hx hb dX9_canBuy_0 rfl (lv_at hl 0 rfl) ?_
  have hpd9 := pdf_N (cx := [oX9 h1 po pp ps pa pe pb pv pk pu pw pq pt un fw]) hP hD hS hA [0] (by decide) rfl
  have hPc := hpd9.1
  have hDc := hpd9.2.1
  have hFc := hpd9.2.2
  clear hpd9
  refine va_callv (va_runV (As := []) (rest := []) ⟨hx, hb, hml, hown, hts⟩ (c_X9_forgetUnits l dC dI aC H.size h1 po pp ps pa pe pb pv pk pu pw pq pt un fw ) ⟨(callB_of 0 hts (gG kw_445) rfl rfl rfl (hts _ (gw kw_11 rfl)) (hts _ (gw kw_442 rfl)) hd_X9_forgetUnits ⟨Nat.le_of_ble_eq_true rfl, Nat.le_of_ble_eq_true rfl⟩), (hts _ (gw kw_444 rfl)), (hts _ (gw ks_11 rfl))⟩ ⟨fb_std, va_recv (q := (RX9, TX9, 14)) hK hPc (ci := 9) (q0 := 0) rfl rfl, pre_std hPc hK hDc hN⟩ rfl rfl hl.1 rfl (lv_room (Nat.le_of_ble_eq_true rfl)) dX9_canBuy_1 ⟨Nat.le_of_ble_eq_true rfl, Nat.le_of_ble_eq_true rfl⟩) hS (fun q _ h => hFc q h) hFc (fun u9 t9 H1 locs ht hvm hw_1 hB hz1 hk1 hS => ?_)
  obtain ⟨hP1, hK1, hD1⟩ := hB
  rw [ht] at hP1
  clear hK1
  try dsimp only at hw_1
  have hpd9 : PDx (dC, dI) classes A H1 (wp [oX4 pv ek ef ew ep es (nI n) sy dn, cI aC ew 8 wf, cI aC es 5 stf, cA aC pp 8 fp, cI aC pu 7 uf, cI aC pw 7 vf, cI aC pq 128 qf, cI aC pt 128 tf, oX9 h1 po pp ps pa pe pb pv pk pu pw pq pt 0 0] (va_pl L (plE aC g))) := jn_Q (wr := [oX4 pv ek ef ew ep es (nI n) sy dn, cI aC ew 8 wf, cI aC es 5 stf, cA aC pp 8 fp, cI aC pu 7 uf, cI aC pw 7 vf, cI aC pq 128 qf, cI aC pt 128 tf]) hFc hk1 hP1 hD1 hP hD [0] [1, 2, 3, 4, 5, 6, 7, 8] rfl rfl (by decide) (by decide)
  have hP := hpd9.1
  have hD := hpd9.2
  clear hpd9
  generalize H1 = H at hP hS ⊢
  clear hPc hDc hFc hz1 hk1 hP1 hD1 ht hvm
  refine lv_iconst (v := 0) hx hb dX9_canBuy_4 (by decide) ?_
  refine lv_istore_n (lv' := [(3, Value.int 0), (0, Value.ref h1), (1, Value.int (nI i)), (2, Value.int v)]) hx hb dX9_canBuy_5 rfl hl (by decide) rfl (fun ls hl => ?_)
  refine lv_iconst (v := 0) hx hb dX9_canBuy_6 (by decide) ?_
  refine lv_istore (lv' := [(4, Value.int 0), (3, Value.int 0), (0, Value.ref h1), (1, Value.int (nI i)), (2, Value.int v)]) hx hb dX9_canBuy_7 hl (by decide) rfl (fun ls hl => ?_)
  refine lv_iload_n hx hb dX9_canBuy_9 rfl (lv_at hl 3 rfl) ?_
  refine lv_iconst (v := 1) hx hb dX9_canBuy_10 (by decide) ?_
  refine lv_iadd hx hb dX9_canBuy_11 ?_
  refine lv_topi (fun x_2 e_2 => ?_)
  refine lv_istore (lv' := [(5, Value.int x_2), (4, Value.int 0), (3, Value.int 0), (0, Value.ref h1), (1, Value.int (nI i)), (2, Value.int v)]) hx hb dX9_canBuy_12 hl (by decide) rfl (fun ls hl => ?_)
  have h9 : x_2 = nI (i + 1) := by rw [e_2, nI_1]
  subst h9
  have lp_14 : ∀ (fu : Nat) (j : Nat) (k : Nat) (f0 : Nat) (p0 : Nat) (w0 : Nat) (up : Nat → Nat) (uw : Nat → Nat) (uc : Nat → Int32) (vc : Nat → Int32) (hfu : n - j < fu) (hj : i < j ∧ j ≤ n) (hk : k ≤ j - (i + 1)) (hk2 : (∃ b, i < b ∧ b < j ∧ bt v b = true) → k + 1 ≤ j - (i + 1)) (hp0 : p0 ≤ 110 * (j - (i + 1))) (hw0 : w0 + f0 ≤ 9 * (j - (i + 1))) (hpS : p0 = lgS Pq v i (j - (i + 1))) (hwS : w0 = lgS W0 v i (j - (i + 1))) (hRC : ∀ A B, UM k f0 up uw A B ↔ RC Pq W0 v i (j - (i + 1)) A B) (hun0 : ∀ u, u < k → (uc u = nI (up u) ∧ vc u = nI (uw u)) ∧ uw u ≤ 72 ∧ up u ≤ 1000) (H : Heap) (locs : List Loc) (ls : Array Slot), va_P (dC, dI) classes (wp [oX4 pv ek ef ew ep es (nI n) sy dn, cI aC ew 8 wf, cI aC es 5 stf, cA aC pp 8 fp, cI aC pu 7 uc, cI aC pw 7 vc, cI aC pq 128 qf, cI aC pt 128 tf, oX9 h1 po pp ps pa pe pb pv pk pu pw pq pt (nI k) (nI f0)] (va_pl L (plE aC g))) H → va_D A (wp [oX4 pv ek ef ew ep es (nI n) sy dn, cI aC ew 8 wf, cI aC es 5 stf, cA aC pp 8 fp, cI aC pu 7 uc, cI aC pw 7 vc, cI aC pq 128 qf, cI aC pt 128 tf, oX9 h1 po pp ps pa pe pb pv pk pu pw pq pt (nI k) (nI f0)] (va_pl L (plE aC g))) → va_S A s.heap H locs → lv_has ls 6 [(0, Value.ref h1), (1, Value.int (nI i)), (2, Value.int v), (3, Value.int (nI p0)), (4, Value.int (nI w0)), (5, Value.int (nI j))] → W p l e (headSpec (wW yX9_canBuy cX9_canBuy 6 (some .boolean)) ({ frames := 3, cells := 0, slots := 0, locals := 62 } : Room)).room s m ([Value.ref h1, Value.int (nI i), Value.int v] : List Value).toArray below meth c H locs 0 0 (MQ below (va_Qi (fun (r : Int32) (u : Int32 × Int32 × (Nat → Int32) × (Nat → Int32) × (Nat → Int32) × (Nat → Int32)) => match u with | (un2, fw2, ug, vg, qg, tg) => (r = 1 ∧ LGE n W0 (stf 1) cq i Pq v) ∨ (r = 0 ∧ ¬ LGE n W0 (stf 1) cq i Pq v)) (fun (u : Int32 × Int32 × (Nat → Int32) × (Nat → Int32) × (Nat → Int32) × (Nat → Int32)) (t : State) => match u with | (un2, fw2, ug, vg, qg, tg) => va_P (dC, dI) classes (wp [oX9 h1 po pp ps pa pe pb pv pk pu pw pq pt un2 fw2, oX4 pv ek ef ew ep es (nI n) sy dn, cI aC ew 8 wf, cI aC es 5 stf, cA aC pp 8 fp, cI aC pu 7 ug, cI aC pw 7 vg, cI aC pq 128 qg, cI aC pt 128 tg] (va_pl L (plE aC g))) t.heap ∧ va_K (dC, dI) classes (TY aC) t ∧ va_D A (wp [oX9 h1 po pp ps pa pe pb pv pk pu pw pq pt un2 fw2, oX4 pv ek ef ew ep es (nI n) sy dn, cI aC ew 8 wf, cI aC es 5 stf, cA aC pp 8 fp, cI aC pu 7 ug, cI aC pw 7 vg, cI aC pq 128 qg, cI aC pt 128 tg] (va_pl L (plE aC g)))) A) ([Value.ref h1, Value.int (nI i), Value.int v] : List Value).toArray s 0 0 A) (F0 m 14 ls []) := by
    intro fu
    induction fu with
    | zero => intro j k f0 p0 w0 up uw uc vc hfu; exact absurd hfu (Nat.not_lt_zero _)
    | succ fu ih_14 =>
      intro j k f0 p0 w0 up uw uc vc hfu hj hk hk2 hp0 hw0 hpS hwS hRC hun0 H locs ls hP hD hS hl
      refine lv_iload hx hb dX9_canBuy_14 (lv_at hl 5 rfl) ?_
      refine lv_aload_n hx hb dX9_canBuy_16 rfl (lv_at hl 0 rfl) ?_
      refine va_get (D := (dC, dI)) (ci := 9) (v := Value.ref pv) (C := RX9) (T := TX9) (N := 14) hx hb hts inX9 hown hK hP 8 rfl rfl 6 (by decide) (hts _ (gw kw_162 rfl)) (fun _ h9 => h9) rfl dX9_canBuy_17 ?_
      refine va_get (D := (dC, dI)) (ci := 4) (v := Value.int (nI n)) (C := RX4) (T := TX4) (N := 8) hx hb hts inX4 hown hK hP 0 rfl rfl 5 (by decide) (hts _ (gw kw_47 rfl)) (fun _ h9 => h9) rfl dX9_canBuy_20 ?_
      refine lv_icmp_ge (tgt := 95) hx hb dX9_canBuy_23 (by decide) (fun c_3 => ?_) (fun c_3 => ?_)
      · have hjn : j = n := by
          rcases Nat.lt_or_ge j n with q | q
          · exact absurd c_3 (nI_ge q (by omega))
          · omega
        have hk7 : k < 7 := by
          obtain ⟨b, b1, b2, b3⟩ := hlg
          have := hk2 ⟨b, b1, by omega, b3⟩
          omega
        refine lv_aload_n hx hb dX9_canBuy_95 rfl (lv_at hl 0 rfl) ?_
        refine lv_iload_n hx hb dX9_canBuy_96 rfl (lv_at hl 3 rfl) ?_
        refine lv_iload hx hb dX9_canBuy_97 (lv_at hl 4 rfl) ?_
        have hpd9 := pdf_N (cx := [oX9 h1 po pp ps pa pe pb pv pk pu pw pq pt (nI k) (nI f0), cI aC pu 7 uc, cI aC pw 7 vc]) hP hD hS hA [8, 4, 5] (by decide) rfl
        have hPc := hpd9.1
        have hDc := hpd9.2.1
        have hFc := hpd9.2.2
        clear hpd9
        refine va_callv (va_runV (As := [Value.int (nI p0), Value.int (nI w0)]) (rest := []) ⟨hx, hb, hml, hown, hts⟩ (c_X9_addUnit l dC dI aC H.size h1 po pp ps pa pe pb pv pk pu pw pq pt k f0 p0 w0 uc vc (by omega) (by omega) (by omega)) ⟨(callB_of 2 hts (gG kw_453) rfl rfl rfl (hts _ (gw kw_11 rfl)) (hts _ (gw kw_450 rfl)) hd_X9_addUnit ⟨Nat.le_of_ble_eq_true rfl, Nat.le_of_ble_eq_true rfl⟩), (hts _ (gw kw_452 rfl)), (hts _ (gw ks_13 rfl))⟩ ⟨fb_std, va_recv (q := (RX9, TX9, 14)) hK hPc (ci := 9) (q0 := 0) rfl rfl, pre_std hPc hK hDc hN⟩ rfl rfl hl.1 rfl (lv_room (Nat.le_of_ble_eq_true rfl)) dX9_canBuy_99 ⟨Nat.le_of_ble_eq_true rfl, Nat.le_of_ble_eq_true rfl⟩) hS (fun q _ h => hFc q h) hFc (fun u9 t9 H1 locs ht hvm hw_4 hB hz1 hk1 hS => ?_)
        obtain ⟨u_5, u_6⟩ := u9
        obtain ⟨hP1, hK1, hD1⟩ := hB
        rw [ht] at hP1
        clear hK1
        try dsimp only at hw_4
        have hpd9 : PDx (dC, dI) classes A H1 (wp [oX4 pv ek ef ew ep es (nI n) sy dn, cI aC ew 8 wf, cI aC es 5 stf, cA aC pp 8 fp, cI aC pq 128 qf, cI aC pt 128 tf, oX9 h1 po pp ps pa pe pb pv pk pu pw pq pt (nI (k + 1)) (nI (f0 + (if 0 < p0 then 0 else w0))), cI aC pu 7 u_5, cI aC pw 7 u_6] (va_pl L (plE aC g))) := jn_Q (wr := [oX4 pv ek ef ew ep es (nI n) sy dn, cI aC ew 8 wf, cI aC es 5 stf, cA aC pp 8 fp, cI aC pq 128 qf, cI aC pt 128 tf]) hFc hk1 hP1 hD1 hP hD [8, 4, 5] [0, 1, 2, 3, 6, 7] rfl rfl (by decide) (by decide)
        have hP := hpd9.1
        have hD := hpd9.2
        clear hpd9
        generalize H1 = H at hP hS ⊢
        clear hPc hDc hFc hz1 hk1 hP1 hD1 ht hvm
        have hau := hw_4
        refine lv_aload_n hx hb dX9_canBuy_102 rfl (lv_at hl 0 rfl) ?_
        refine lv_iload_n hx hb dX9_canBuy_103 rfl (lv_at hl 1 rfl) ?_
        have hpd9 := pdf_N (cx := [oX9 h1 po pp ps pa pe pb pv pk pu pw pq pt (nI (k + 1)) (nI (f0 + (if 0 < p0 then 0 else w0))), oX4 pv ek ef ew ep es (nI n) sy dn, cI aC ew 8 wf, cI aC es 5 stf, cI aC pu 7 u_5, cI aC pw 7 u_6, cI aC pq 128 qf, cI aC pt 128 tf]) hP hD hS hA [6, 0, 1, 2, 7, 8, 4, 5] (by decide) rfl
        have hPc := hpd9.1
        have hDc := hpd9.2.1
        have hFc := hpd9.2.2
        clear hpd9
        refine va_calli (va_runV (As := [Value.int (nI i)]) (rest := []) ⟨hx, hb, hml, hown, hts⟩ (c_X9_cheapestSet_w l dC dI aC H.size h1 po pp ps pa pe pb pv pk pu pw pq pt ek ef ew ep es n sy dn wf stf W0 i (k + 1) (f0 + (if 0 < p0 then 0 else w0)) (upd_ up k p0) (upd_ uw k (if 0 < p0 then w0 else 0)) u_5 u_6 qf tf (hw) (hi) (by omega) (by split <;> omega) (CB_s hun0 hau (by omega) (by omega))) ⟨(callB_of 1 hts (gG kw_457) rfl rfl rfl (hts _ (gw kw_11 rfl)) (hts _ (gw kw_454 rfl)) hd_X9_cheapestSet ⟨Nat.le_of_ble_eq_true rfl, Nat.le_of_ble_eq_true rfl⟩), (hts _ (gw kw_456 rfl)), (hts _ (gw ks_14 rfl))⟩ ⟨fb_std, va_recv (q := (RX9, TX9, 14)) hK hPc (ci := 9) (q0 := 0) rfl rfl, pre_std hPc hK hDc hN⟩ rfl rfl hl.1 rfl (lv_room (Nat.le_of_ble_eq_true rfl)) dX9_canBuy_104 ⟨Nat.le_of_ble_eq_true rfl, Nat.le_of_ble_eq_true rfl⟩) hS (fun q _ h => hFc q h) hFc (fun x_7 u9 t9 H1 locs ht hvm hw_7 hB hz1 hk1 hS => ?_)
        obtain ⟨u_8, u_9⟩ := u9
        obtain ⟨hP1, hK1, hD1⟩ := hB
        rw [ht] at hP1
        clear hK1
        try dsimp only at hw_7
        have hpd9 : PDx (dC, dI) classes A H1 (wp [cA aC pp 8 fp, oX9 h1 po pp ps pa pe pb pv pk pu pw pq pt (nI (k + 1)) (nI (f0 + (if 0 < p0 then 0 else w0))), oX4 pv ek ef ew ep es (nI n) sy dn, cI aC ew 8 wf, cI aC es 5 stf, cI aC pu 7 u_5, cI aC pw 7 u_6, cI aC pq 128 u_8, cI aC pt 128 u_9] (va_pl L (plE aC g))) := jn_Q (wr := [cA aC pp 8 fp]) hFc hk1 hP1 hD1 hP hD [6, 0, 1, 2, 7, 8, 4, 5] [3] rfl rfl (by decide) (by decide)
        have hP := hpd9.1
        have hD := hpd9.2
        clear hpd9
        generalize H1 = H at hP hS ⊢
        clear hPc hDc hFc hz1 hk1 hP1 hD1 ht hvm
        obtain ⟨hbs, hqs⟩ := hw_7
        have hun9 := CB_s hun0 hau (show p0 ≤ 1000 by omega) (show w0 ≤ 72 by omega)
        have hnn : n - (i + 1) = n - 1 - i := by omega
        have hp9 : p0 = lgS Pq v i (n - 1 - i) := by rw [hpS, hjn, hnn]
        have hw9 : w0 = lgS W0 v i (n - 1 - i) := by rw [hwS, hjn, hnn]
        have hLG := LG_c2 (cq := cq) hk7 hp9 hw9 (fun A B => by rw [hRC A B, hjn, hnn]) hbs
        have hp27 := p2_le (show k + 1 ≤ 7 by omega)
        refine lv_istore (lv' := [(5, Value.int x_7), (0, Value.ref h1), (1, Value.int (nI i)), (2, Value.int v), (3, Value.int (nI p0)), (4, Value.int (nI w0))]) hx hb dX9_canBuy_107 hl (by decide) rfl (fun ls hl => ?_)
        refine lv_iload hx hb dX9_canBuy_109 (lv_at hl 0 rfl) ?_
        refine lv_if_lt (tgt := 137) hx hb dX9_canBuy_111 (by decide) (fun c_10 => ?_) (fun c_10 => ?_)
        · refine lv_iconst (v := 0) hx hb dX9_canBuy_137 (by decide) ?_
          have hpd9 := pd_P (cx := [oX9 h1 po pp ps pa pe pb pv pk pu pw pq pt (nI (k + 1)) (nI (f0 + (if 0 < p0 then 0 else w0))), oX4 pv ek ef ew ep es (nI n) sy dn, cI aC ew 8 wf, cI aC es 5 stf, cA aC pp 8 fp, cI aC pu 7 u_5, cI aC pw 7 u_6, cI aC pq 128 u_8, cI aC pt 128 u_9]) hP hD [1, 2, 3, 4, 0, 5, 6, 7, 8] (by decide) rfl
          have hP9 := hpd9.1
          have hD9 := hpd9.2
          refine W.widen (k := 0) (n := 0) (by omega) (by omega) ?_
          exact W.zret (v := 0) hx hb hr rfl (fun t ht hW => ⟨⟨0, ((nI (k + 1)), (nI (f0 + (if 0 < p0 then 0 else w0))), u_5, u_6, u_8, u_9), rfl, Or.inr ⟨rfl, fun q => by obtain ⟨b, b1, b2, -⟩ := hLG.mp q; exact nI_pos (n := b) (by omega) (by rw [← b2]; exact c_10)⟩, by rw [ht]; exact hP9, va_K.moved hW.alike hK, hD9⟩, hS.F ht⟩) hS.2.2 dX9_canBuy_138
        · obtain ⟨z9, hz9, hze⟩ : ∃ z9, z9 < 2 ^ (k + 1) ∧ x_7 = nI z9 := by
            rcases hbs with ⟨q, -⟩ | ⟨b, q1, q2, -⟩
            · exact absurd (by rw [q]; decide) c_10
            · exact ⟨b, q1, q2⟩
          have hcl9 := cst_le (f := (upd_ up k p0)) (k := k + 1) (s := z9) (b := 1000) hz9 (fun u q => (hun9 u q).2.2)
          have h9 : x_7 = nI z9 := hze
          subst h9
          refine lv_aload_n hx hb dX9_canBuy_114 rfl (lv_at hl 1 rfl) ?_
          refine va_get (D := (dC, dI)) (ci := 9) (v := Value.ref pq) (C := RX9) (T := TX9) (N := 14) hx hb hts inX9 hown hK hP 1 rfl rfl 10 (by decide) (hts _ (gw kw_167 rfl)) (fun _ h9 => h9) rfl dX9_canBuy_115 ?_
          refine lv_iload hx hb dX9_canBuy_118 (lv_at hl 0 rfl) ?_
          have h_11 : vp_in (nI z9) 128 := vp_in_nI (by omega) (by omega)
          refine va_iald hx hb hK hP 7 0 rfl rfl h_11 dX9_canBuy_120 ?_
          refine lv_topi (fun x_12 e_12 => ?_)
          have h9 : x_12 = nI (cst (upd_ up k p0) z9) := by rw [e_12, nI_clamp (by omega)]; exact hqs z9 hz9
          subst h9
          refine lv_aload_n hx hb dX9_canBuy_121 rfl (lv_at hl 1 rfl) ?_
          refine va_get (D := (dC, dI)) (ci := 9) (v := Value.ref pv) (C := RX9) (T := TX9) (N := 14) hx hb hts inX9 hown hK hP 1 rfl rfl 6 (by decide) (hts _ (gw kw_162 rfl)) (fun _ h9 => h9) rfl dX9_canBuy_122 ?_
          refine va_get (D := (dC, dI)) (ci := 4) (v := Value.ref es) (C := RX4) (T := TX4) (N := 8) hx hb hts inX4 hown hK hP 2 rfl rfl 4 (by decide) (hts _ (gw kw_44 rfl)) (fun _ h9 => h9) rfl dX9_canBuy_125 ?_
          refine lv_iconst (v := 0) hx hb dX9_canBuy_128 (by decide) ?_
          have h_13 : vp_in 0 5 := by unfold vp_in; decide
          refine va_iald hx hb hK hP 4 0 rfl rfl h_13 dX9_canBuy_129 ?_
          refine lv_topi (fun x_14 e_14 => ?_)
          have h9 : x_14 = nI cq := by rw [e_14]; exact hcq.2
          subst h9
          refine lv_icmp_gt (tgt := 137) hx hb dX9_canBuy_130 (by decide) (fun c_15 => ?_) (fun c_15 => ?_)
          · refine lv_iconst (v := 0) hx hb dX9_canBuy_137 (by decide) ?_
            have hpd9 := pd_P (cx := [oX9 h1 po pp ps pa pe pb pv pk pu pw pq pt (nI (k + 1)) (nI (f0 + (if 0 < p0 then 0 else w0))), oX4 pv ek ef ew ep es (nI n) sy dn, cI aC ew 8 wf, cI aC es 5 stf, cA aC pp 8 fp, cI aC pu 7 u_5, cI aC pw 7 u_6, cI aC pq 128 u_8, cI aC pt 128 u_9]) hP hD [1, 2, 3, 4, 0, 5, 6, 7, 8] (by decide) rfl
            have hP9 := hpd9.1
            have hD9 := hpd9.2
            refine W.widen (k := 0) (n := 0) (by omega) (by omega) ?_
            exact W.zret (v := 0) hx hb hr rfl (fun t ht hW => ⟨⟨0, ((nI (k + 1)), (nI (f0 + (if 0 < p0 then 0 else w0))), u_5, u_6, u_8, u_9), rfl, Or.inr ⟨rfl, fun q => by obtain ⟨b, b1, b2, b3⟩ := hLG.mp q; have h7 : z9 = b := (nI_eq (by omega) (by omega)).mp b2; have h8 := (nI_ltI (by omega) (by omega)).mp c_15; rw [← h7] at b3; omega⟩, by rw [ht]; exact hP9, va_K.moved hW.alike hK, hD9⟩, hS.F ht⟩) hS.2.2 dX9_canBuy_138
          · refine lv_iconst (v := 1) hx hb dX9_canBuy_133 (by decide) ?_
            refine lv_goto (tgt := 138) hx hb dX9_canBuy_134 (by decide) ?_
            have hpd9 := pd_P (cx := [oX9 h1 po pp ps pa pe pb pv pk pu pw pq pt (nI (k + 1)) (nI (f0 + (if 0 < p0 then 0 else w0))), oX4 pv ek ef ew ep es (nI n) sy dn, cI aC ew 8 wf, cI aC es 5 stf, cA aC pp 8 fp, cI aC pu 7 u_5, cI aC pw 7 u_6, cI aC pq 128 u_8, cI aC pt 128 u_9]) hP hD [1, 2, 3, 4, 0, 5, 6, 7, 8] (by decide) rfl
            have hP9 := hpd9.1
            have hD9 := hpd9.2
            refine W.widen (k := 0) (n := 0) (by omega) (by omega) ?_
            exact W.zret (v := 1) hx hb hr rfl (fun t ht hW => ⟨⟨1, ((nI (k + 1)), (nI (f0 + (if 0 < p0 then 0 else w0))), u_5, u_6, u_8, u_9), rfl, Or.inl ⟨rfl, hLG.mpr ⟨z9, hz9, rfl, Nat.le_of_not_lt fun q => c_15 (nI_lt q (by omega))⟩⟩, by rw [ht]; exact hP9, va_K.moved hW.alike hK, hD9⟩, hS.F ht⟩) hS.2.2 dX9_canBuy_138
      · have hlt : j < n := by
          rcases Nat.lt_or_ge j n with q | q
          · exact q
          · exact absurd (nI_le q (by omega)) c_3
        have hpj := hPq j (by omega) hlt
        have hwj := hw.2 j hlt
        refine lv_iload_n hx hb dX9_canBuy_26 rfl (lv_at hl 2 rfl) ?_
        refine lv_iload hx hb dX9_canBuy_27 (lv_at hl 5 rfl) ?_
        refine lv_ishr hx hb dX9_canBuy_29 ?_
        refine lv_topi (fun x_16 e_16 => ?_)
        refine lv_iconst (v := 1) hx hb dX9_canBuy_30 (by decide) ?_
        refine lv_iand hx hb dX9_canBuy_31 ?_
        refine lv_topi (fun x_17 e_17 => ?_)
        refine lv_iconst (v := 1) hx hb dX9_canBuy_32 (by decide) ?_
        refine lv_icmp_ne (tgt := 66) hx hb dX9_canBuy_33 (by decide) (fun c_18 => ?_) (fun c_18 => ?_)
        · have hye : bt v j = false := Bool.eq_false_iff.mpr fun q => c_18 (by rw [e_17, e_16, b_bit (by omega), if_pos q])
          refine lv_aload_n hx hb dX9_canBuy_66 rfl (lv_at hl 0 rfl) ?_
          refine lv_aload_n hx hb dX9_canBuy_67 rfl (lv_at hl 0 rfl) ?_
          refine va_get (D := (dC, dI)) (ci := 9) (v := Value.ref pp) (C := RX9) (T := TX9) (N := 14) hx hb hts inX9 hown hK hP 8 rfl rfl 1 (by decide) (hts _ (gw kw_152 rfl)) (fun _ h9 => h9) rfl dX9_canBuy_68 ?_
          refine lv_iload_n hx hb dX9_canBuy_71 rfl (lv_at hl 1 rfl) ?_
          have h_19 : vp_in (nI i) 8 := by first | exact vp_in_nI (by omega) (by omega) | (unfold vp_in; decide) | (subst_vars; first | (unfold vp_in; decide) | exact vp_in_nI (by omega) (by omega))
          refine va_alda (r := rp i) hx hb hK hP 3 rfl h_19 (by rw [nI_clamp (by omega)]; exact (hgr.1 i (by omega)).2.1.1) dX9_canBuy_72 ?_
          refine lv_iload hx hb dX9_canBuy_73 (lv_at hl 5 rfl) ?_
          have h_20 : vp_in (nI j) 8 := by first | exact vp_in_nI (by omega) (by omega) | (unfold vp_in; decide) | (subst_vars; first | (unfold vp_in; decide) | exact vp_in_nI (by omega) (by omega))
          refine pl_iald hx hb hK hP ((hgr.1 i (by omega)).2.1.2) h_20 dX9_canBuy_75 ?_
          refine lv_topi (fun x_21 e_21 => ?_)
          have h9 : x_21 = nI (Pq j) := by rw [e_21, nI_clamp (by omega)]; exact hpj.1
          subst h9
          refine lv_aload_n hx hb dX9_canBuy_76 rfl (lv_at hl 0 rfl) ?_
          refine va_get (D := (dC, dI)) (ci := 9) (v := Value.ref pv) (C := RX9) (T := TX9) (N := 14) hx hb hts inX9 hown hK hP 8 rfl rfl 6 (by decide) (hts _ (gw kw_162 rfl)) (fun _ h9 => h9) rfl dX9_canBuy_77 ?_
          refine va_get (D := (dC, dI)) (ci := 4) (v := Value.ref ew) (C := RX4) (T := TX4) (N := 8) hx hb hts inX4 hown hK hP 0 rfl rfl 2 (by decide) (hts _ (gw kw_40 rfl)) (fun _ h9 => h9) rfl dX9_canBuy_80 ?_
          refine lv_iload hx hb dX9_canBuy_83 (lv_at hl 5 rfl) ?_
          have h_22 : vp_in (nI j) 8 := by first | exact vp_in_nI (by omega) (by omega) | (unfold vp_in; decide) | (subst_vars; first | (unfold vp_in; decide) | exact vp_in_nI (by omega) (by omega))
          refine va_iald hx hb hK hP 1 0 rfl rfl h_22 dX9_canBuy_85 ?_
          refine lv_topi (fun x_23 e_23 => ?_)
          have h9 : x_23 = nI (W0 j) := by rw [e_23, nI_clamp (by omega)]; exact hwj.1
          subst h9
          have hpd9 := pdf_N (cx := [oX9 h1 po pp ps pa pe pb pv pk pu pw pq pt (nI k) (nI f0), cI aC pu 7 uc, cI aC pw 7 vc]) hP hD hS hA [8, 4, 5] (by decide) rfl
          have hPc := hpd9.1
          have hDc := hpd9.2.1
          have hFc := hpd9.2.2
          clear hpd9
          refine va_callv (va_runV (As := [Value.int (nI (Pq j)), Value.int (nI (W0 j))]) (rest := []) ⟨hx, hb, hml, hown, hts⟩ (c_X9_addUnit l dC dI aC H.size h1 po pp ps pa pe pb pv pk pu pw pq pt k f0 (Pq j) (W0 j) uc vc (by omega) (by omega) (by omega)) ⟨(callB_of 2 hts (gG kw_453) rfl rfl rfl (hts _ (gw kw_11 rfl)) (hts _ (gw kw_450 rfl)) hd_X9_addUnit ⟨Nat.le_of_ble_eq_true rfl, Nat.le_of_ble_eq_true rfl⟩), (hts _ (gw kw_452 rfl)), (hts _ (gw ks_13 rfl))⟩ ⟨fb_std, va_recv (q := (RX9, TX9, 14)) hK hPc (ci := 9) (q0 := 0) rfl rfl, pre_std hPc hK hDc hN⟩ rfl rfl hl.1 rfl (lv_room (Nat.le_of_ble_eq_true rfl)) dX9_canBuy_86 ⟨Nat.le_of_ble_eq_true rfl, Nat.le_of_ble_eq_true rfl⟩) hS (fun q _ h => hFc q h) hFc (fun u9 t9 H1 locs ht hvm hw_24 hB hz1 hk1 hS => ?_)
          obtain ⟨u_25, u_26⟩ := u9
          obtain ⟨hP1, hK1, hD1⟩ := hB
          rw [ht] at hP1
          clear hK1
          try dsimp only at hw_24
          have hpd9 : PDx (dC, dI) classes A H1 (wp [oX4 pv ek ef ew ep es (nI n) sy dn, cI aC ew 8 wf, cI aC es 5 stf, cA aC pp 8 fp, cI aC pq 128 qf, cI aC pt 128 tf, oX9 h1 po pp ps pa pe pb pv pk pu pw pq pt (nI (k + 1)) (nI (f0 + (if 0 < (Pq j) then 0 else (W0 j)))), cI aC pu 7 u_25, cI aC pw 7 u_26] (va_pl L (plE aC g))) := jn_Q (wr := [oX4 pv ek ef ew ep es (nI n) sy dn, cI aC ew 8 wf, cI aC es 5 stf, cA aC pp 8 fp, cI aC pq 128 qf, cI aC pt 128 tf]) hFc hk1 hP1 hD1 hP hD [8, 4, 5] [0, 1, 2, 3, 6, 7] rfl rfl (by decide) (by decide)
          have hP := hpd9.1
          have hD := hpd9.2
          clear hpd9
          generalize H1 = H at hP hS ⊢
          clear hPc hDc hFc hz1 hk1 hP1 hD1 ht hvm
          have hau := hw_24
          have hk3 : (∃ b, i < b ∧ b < j + 1 ∧ bt v b = true) → k + 1 + 1 ≤ j + 1 - (i + 1) := by
            rintro ⟨b, b1, b2, b3⟩
            have hbj : b ≠ j := fun e => by rw [e, hye] at b3; exact absurd b3 (by decide)
            have := hk2 ⟨b, b1, by omega, b3⟩
            omega
          have hRC3 := UM_RC (show k < 7 by omega) hj.1 hye hRC
          have hpS3 : p0 = lgS Pq v i (j + 1 - (i + 1)) := by rw [lgS_n hj.1 hye]; exact hpS
          have hwS3 : w0 = lgS W0 v i (j + 1 - (i + 1)) := by rw [lgS_n hj.1 hye]; exact hwS
          have hun : ∀ u, u < k + 1 → (u_25 u = nI ((upd_ up k (Pq j)) u) ∧ u_26 u = nI ((upd_ uw k (if 0 < Pq j then W0 j else 0)) u)) ∧ (upd_ uw k (if 0 < Pq j then W0 j else 0)) u ≤ 72 ∧ (upd_ up k (Pq j)) u ≤ 1000 := CB_s (u0 := uc) (v0 := vc) hun0 hau (by omega) (by omega)
          obtain ⟨x_27, e_27⟩ : ∃ y : Int32, y = (nI j) + 1 := ⟨_, rfl⟩
          refine lv_iinc (v := x_27) (lv' := [(5, Value.int x_27), (0, Value.ref h1), (1, Value.int (nI i)), (2, Value.int v), (3, Value.int (nI p0)), (4, Value.int (nI w0))]) hx hb dX9_canBuy_89 hl (k := 5) rfl (by rw [e_27]; rfl) (by decide) rfl (fun ls hl => ?_)
          have h9 : x_27 = nI (j + 1) := by rw [e_27, nI_1]
          subst h9
          refine lv_goto (tgt := 14) hx hb dX9_canBuy_92 (by decide) ?_
          exact ih_14 (j + 1) (k + 1) (f0 + (if 0 < Pq j then 0 else W0 j)) p0 w0 (upd_ up k (Pq j)) (upd_ uw k (if 0 < Pq j then W0 j else 0)) u_25 u_26 (ms_lt hlt hfu) (by omega) (by omega) (by first | exact hk3 | (intro _; omega)) (by omega) (by first | omega | (split <;> omega)) (hpS3) (hwS3) (hRC3) (by first | exact hun | exact hun0) _ _ _ (plP hP [0, 1, 2, 3, 7, 8, 4, 5, 6] rfl) (plD hD [0, 1, 2, 3, 7, 8, 4, 5, 6] (by decide) rfl) hS (lv_sub hl [1, 2, 3, 4, 5, 0] rfl)
        · have hye : bt v j = true := by
            by_cases q : bt v j = true
            · exact q
            · exact absurd (c_18.symm.trans (by rw [e_17, e_16, b_bit (by omega), if_neg q])) (by decide)
          refine lv_iload_n hx hb dX9_canBuy_36 rfl (lv_at hl 3 rfl) ?_
          refine lv_aload_n hx hb dX9_canBuy_37 rfl (lv_at hl 0 rfl) ?_
          refine va_get (D := (dC, dI)) (ci := 9) (v := Value.ref pp) (C := RX9) (T := TX9) (N := 14) hx hb hts inX9 hown hK hP 8 rfl rfl 1 (by decide) (hts _ (gw kw_152 rfl)) (fun _ h9 => h9) rfl dX9_canBuy_38 ?_
          refine lv_iload_n hx hb dX9_canBuy_41 rfl (lv_at hl 1 rfl) ?_
          have h_28 : vp_in (nI i) 8 := by first | exact vp_in_nI (by omega) (by omega) | (unfold vp_in; decide) | (subst_vars; first | (unfold vp_in; decide) | exact vp_in_nI (by omega) (by omega))
          refine va_alda (r := rp i) hx hb hK hP 3 rfl h_28 (by rw [nI_clamp (by omega)]; exact (hgr.1 i (by omega)).2.1.1) dX9_canBuy_42 ?_
          refine lv_iload hx hb dX9_canBuy_43 (lv_at hl 5 rfl) ?_
          have h_29 : vp_in (nI j) 8 := by first | exact vp_in_nI (by omega) (by omega) | (unfold vp_in; decide) | (subst_vars; first | (unfold vp_in; decide) | exact vp_in_nI (by omega) (by omega))
          refine pl_iald hx hb hK hP ((hgr.1 i (by omega)).2.1.2) h_29 dX9_canBuy_45 ?_
          refine lv_topi (fun x_30 e_30 => ?_)
          have h9 : x_30 = nI (Pq j) := by rw [e_30, nI_clamp (by omega)]; exact hpj.1
          subst h9
          refine lv_iadd hx hb dX9_canBuy_46 ?_
          refine lv_topi (fun x_31 e_31 => ?_)
          have h9 : x_31 = nI (p0 + Pq j) := by rw [e_31, nI_add]
          subst h9
          refine lv_istore_n (lv' := [(3, Value.int (nI (p0 + Pq j))), (0, Value.ref h1), (1, Value.int (nI i)), (2, Value.int v), (4, Value.int (nI w0)), (5, Value.int (nI j))]) hx hb dX9_canBuy_47 rfl hl (by decide) rfl (fun ls hl => ?_)
          refine lv_iload hx hb dX9_canBuy_48 (lv_at hl 4 rfl) ?_
          refine lv_aload_n hx hb dX9_canBuy_50 rfl (lv_at hl 1 rfl) ?_
          refine va_get (D := (dC, dI)) (ci := 9) (v := Value.ref pv) (C := RX9) (T := TX9) (N := 14) hx hb hts inX9 hown hK hP 8 rfl rfl 6 (by decide) (hts _ (gw kw_162 rfl)) (fun _ h9 => h9) rfl dX9_canBuy_51 ?_
          refine va_get (D := (dC, dI)) (ci := 4) (v := Value.ref ew) (C := RX4) (T := TX4) (N := 8) hx hb hts inX4 hown hK hP 0 rfl rfl 2 (by decide) (hts _ (gw kw_40 rfl)) (fun _ h9 => h9) rfl dX9_canBuy_54 ?_
          refine lv_iload hx hb dX9_canBuy_57 (lv_at hl 5 rfl) ?_
          have h_32 : vp_in (nI j) 8 := by first | exact vp_in_nI (by omega) (by omega) | (unfold vp_in; decide) | (subst_vars; first | (unfold vp_in; decide) | exact vp_in_nI (by omega) (by omega))
          refine va_iald hx hb hK hP 1 0 rfl rfl h_32 dX9_canBuy_59 ?_
          refine lv_topi (fun x_33 e_33 => ?_)
          have h9 : x_33 = nI (W0 j) := by rw [e_33, nI_clamp (by omega)]; exact hwj.1
          subst h9
          refine lv_iadd hx hb dX9_canBuy_60 ?_
          refine lv_topi (fun x_34 e_34 => ?_)
          have h9 : x_34 = nI (w0 + W0 j) := by rw [e_34, nI_add]
          subst h9
          refine lv_istore (lv' := [(4, Value.int (nI (w0 + W0 j))), (3, Value.int (nI (p0 + Pq j))), (0, Value.ref h1), (1, Value.int (nI i)), (2, Value.int v), (5, Value.int (nI j))]) hx hb dX9_canBuy_61 hl (by decide) rfl (fun ls hl => ?_)
          refine lv_goto (tgt := 89) hx hb dX9_canBuy_63 (by decide) ?_
          have hRC3 : ∀ A B, UM k f0 up uw A B ↔ RC Pq W0 v i (j + 1 - (i + 1)) A B := fun A B => (hRC A B).trans (RC_y hj.1 hye).symm
          have hpS3 : p0 + Pq j = lgS Pq v i (j + 1 - (i + 1)) := by rw [lgS_y hj.1 hye, ← hpS]
          have hwS3 : w0 + W0 j = lgS W0 v i (j + 1 - (i + 1)) := by rw [lgS_y hj.1 hye, ← hwS]
          obtain ⟨x_35, e_35⟩ : ∃ y : Int32, y = (nI j) + 1 := ⟨_, rfl⟩
          refine lv_iinc (v := x_35) (lv' := [(5, Value.int x_35), (4, Value.int (nI (w0 + W0 j))), (3, Value.int (nI (p0 + Pq j))), (0, Value.ref h1), (1, Value.int (nI i)), (2, Value.int v)]) hx hb dX9_canBuy_89 hl (k := 5) rfl (by rw [e_35]; rfl) (by decide) rfl (fun ls hl => ?_)
          have h9 : x_35 = nI (j + 1) := by rw [e_35, nI_1]
          subst h9
          refine lv_goto (tgt := 14) hx hb dX9_canBuy_92 (by decide) ?_
          exact ih_14 (j + 1) k f0 (p0 + Pq j) (w0 + W0 j) up uw uc vc (ms_lt hlt hfu) (by omega) (by omega) (by first | exact hk3 | (intro _; omega)) (by omega) (by first | omega | (split <;> omega)) (hpS3) (hwS3) (hRC3) (by first | exact hun | exact hun0) _ _ _ (plP hP [0, 1, 2, 3, 4, 5, 6, 7, 8] rfl) (plD hD [0, 1, 2, 3, 4, 5, 6, 7, 8] (by decide) rfl) hS (lv_sub hl [3, 4, 5, 2, 1, 0] rfl)
  exact lp_14 ((n - (i + 1)) + 1) (i + 1) 0 0 0 0 (fun _ => 0) (fun _ => 0) uf vf (Nat.lt_succ_self _) (by omega) (by omega) (fun ⟨b, b1, b2, _⟩ => by omega) (by omega) (by omega) (by rw [Nat.sub_self]; rfl) (by rw [Nat.sub_self]; rfl) (fun A B => by rw [Nat.sub_self]; exact UM_0) (fun u hu => by omega) _ _ _ (plP hP [0, 1, 2, 3, 4, 5, 6, 7, 8] rfl) (plD hD [0, 1, 2, 3, 4, 5, 6, 7, 8] (by decide) rfl) hS (lv_sub hl [3, 4, 5, 2, 1, 0] rfl)

set_option maxHeartbeats 1000000 in
set_option maxRecDepth 100000 in
/-- X11_league -/
theorem c_X11_league (l : Launch) (dC : Nat → ClassId) (dI : Nat → Nat → Nat) (aC : Nat → ClassId) (sz : Nat) (h0 : Nat) (xp : Nat) (xtp : Nat) (xn : Nat) (xt : Nat) (xk : Nat) (xl : Nat) (xc : Nat) (xo : Nat) (xto : Nat) (xr : Nat) (xch : Nat) (ts : Int32) (ik : Int32) (st : Int32) (po : Nat) (pp : Nat) (ps : Nat) (pa : Nat) (pe : Nat) (pb : Nat) (pk : Nat) (pu : Nat) (pw : Nat) (pq : Nat) (pt : Nat) (un : Int32) (fw : Int32) (ek : Nat) (ef : Nat) (ew : Nat) (ep : Nat) (es : Nat) (n : Nat) (sn : Nat) (dn : Int32) (kf : Nat → Int32) (ff : Nat → Int32) (wf : Nat → Int32) (stf : Nat → Int32) (K : Nat → Nat) (F : Nat → Nat) (W0 : Nat → Nat) (S5 : Nat → Nat) (L : List Nat) (g : Nat → Nat → Int32) (fo : Nat → Option Nat) (fp : Nat → Option Nat) (fs : Nat → Option Nat) (ro : Nat → Nat) (rp : Nat → Nat) (rs : Nat → Nat) (fk : Nat → Option Nat) (k0 : Nat) (k1 : Nat) (k2 : Nat) (k3 : Nat) (k4 : Nat) (k5 : Nat) (k6 : Nat) (uf : Nat → Int32) (vf : Nat → Int32) (qf : Nat → Int32) (tf : Nat → Int32) (bf : Nat → Int32) (yf : Nat → Int32) (ef0 : Nat → Int32) (rf : Nat → Int32) (v : Int32) (hgr : GRD L fo fp fs ro rp rs) (hev : EVS n sn dn K F W0 S5 kf ff wf stf) (hkd : KDS fk k0 k1 k2 k3 k4 k5 k6) (hst : STL st n (PO n K F W0 S5) ro rp rs g yf ef0 bf) : Met l yX11_league (wW yX11_league cX11_league 3 (some .int)) ({ frames := 7, cells := 0, slots := 0, locals := 151 } : Room) (va_Pc [Value.ref h0, Value.int v] (fun U => U.heap.size = sz ∧ va_P (dC, dI) classes (wp [oX11 h0 xp xtp xn xt xk xl xc xo xto xr xch ts ik st, oX9 xp po pp ps pa pe pb xn pk pu pw pq pt un fw, oX4 xn ek ef ew ep es (nI n) (nI sn) dn, cI aC ek 8 kf, cI aC ef 8 ff, cI aC ew 8 wf, cI aC es 5 stf, cA aC po 8 fo, cA aC pp 8 fp, cA aC ps 8 fs, cK aC pk 7 fk, cO k0 0 [], cO k1 1 [], cO k2 3 [], cO k3 5 [], cO k4 6 [], cO k5 10 [], cO k6 8 [], cI aC pa 8 yf, cI aC pe 8 ef0, cI aC pb 8 bf, cI aC pu 7 uf, cI aC pw 7 vf, cI aC pq 128 qf, cI aC pt 128 tf, cI aC xr 7 rf] (va_pl L (plE aC g))) U.heap ∧ va_K (dC, dI) classes (TY aC) U ∧ va_D (fun _ => True) (wp [oX11 h0 xp xtp xn xt xk xl xc xo xto xr xch ts ik st, oX9 xp po pp ps pa pe pb xn pk pu pw pq pt un fw, oX4 xn ek ef ew ep es (nI n) (nI sn) dn, cI aC ek 8 kf, cI aC ef 8 ff, cI aC ew 8 wf, cI aC es 5 stf, cA aC po 8 fo, cA aC pp 8 fp, cA aC ps 8 fs, cK aC pk 7 fk, cO k0 0 [], cO k1 1 [], cO k2 3 [], cO k3 5 [], cO k4 6 [], cO k5 10 [], cO k6 8 [], cI aC pa 8 yf, cI aC pe 8 ef0, cI aC pb 8 bf, cI aC pu 7 uf, cI aC pw 7 vf, cI aC pq 128 qf, cI aC pt 128 tf, cI aC xr 7 rf] (va_pl L (plE aC g))) ∧ NX U)) (va_Qi (fun (r : Int32) (u : Int32 × Int32 × (Nat → Int32) × (Nat → Int32) × (Nat → Int32) × (Nat → Int32) × (Nat → Int32) × (Nat → Int32) × (Nat → Int32) × (Nat → Nat → Int32) × Int32 × (Nat → Int32)) => match u with | (un2, fw2, ug, vg, qg, tg, bg, yg, eg, g2, st2, rf2) => STL st2 n (PO n K F W0 S5) ro rp rs g2 yg eg bg ∧ (∀ a, OFF ro rp rs a → g2 a = g a) ∧ LGR n sn dn K F W0 S5 v r) (fun (u : Int32 × Int32 × (Nat → Int32) × (Nat → Int32) × (Nat → Int32) × (Nat → Int32) × (Nat → Int32) × (Nat → Int32) × (Nat → Int32) × (Nat → Nat → Int32) × Int32 × (Nat → Int32)) (t : State) => match u with | (un2, fw2, ug, vg, qg, tg, bg, yg, eg, g2, st2, rf2) => va_P (dC, dI) classes (wp [oX11 h0 xp xtp xn xt xk xl xc xo xto xr xch ts ik st2, oX9 xp po pp ps pa pe pb xn pk pu pw pq pt un2 fw2, oX4 xn ek ef ew ep es (nI n) (nI sn) dn, cI aC ek 8 kf, cI aC ef 8 ff, cI aC ew 8 wf, cI aC es 5 stf, cA aC po 8 fo, cA aC pp 8 fp, cA aC ps 8 fs, cK aC pk 7 fk, cO k0 0 [], cO k1 1 [], cO k2 3 [], cO k3 5 [], cO k4 6 [], cO k5 10 [], cO k6 8 [], cI aC pa 8 yg, cI aC pe 8 eg, cI aC pb 8 bg, cI aC pu 7 ug, cI aC pw 7 vg, cI aC pq 128 qg, cI aC pt 128 tg, cI aC xr 7 rf2] (va_pl L (plE aC g2))) t.heap ∧ va_K (dC, dI) classes (TY aC) t ∧ va_D (va_A (wp [oX11 h0 xp xtp xn xt xk xl xc xo xto xr xch ts ik st, oX9 xp po pp ps pa pe pb xn pk pu pw pq pt un fw, oX4 xn ek ef ew ep es (nI n) (nI sn) dn, cI aC ek 8 kf, cI aC ef 8 ff, cI aC ew 8 wf, cI aC es 5 stf, cA aC po 8 fo, cA aC pp 8 fp, cA aC ps 8 fs, cK aC pk 7 fk, cO k0 0 [], cO k1 1 [], cO k2 3 [], cO k3 5 [], cO k4 6 [], cO k5 10 [], cO k6 8 [], cI aC pa 8 yf, cI aC pe 8 ef0, cI aC pb 8 bf, cI aC pu 7 uf, cI aC pw 7 vf, cI aC pq 128 qf, cI aC pt 128 tf, cI aC xr 7 rf] (va_pl L (plE aC g))) sz) (wp [oX11 h0 xp xtp xn xt xk xl xc xo xto xr xch ts ik st2, oX9 xp po pp ps pa pe pb xn pk pu pw pq pt un2 fw2, oX4 xn ek ef ew ep es (nI n) (nI sn) dn, cI aC ek 8 kf, cI aC ef 8 ff, cI aC ew 8 wf, cI aC es 5 stf, cA aC po 8 fo, cA aC pp 8 fp, cA aC ps 8 fs, cK aC pk 7 fk, cO k0 0 [], cO k1 1 [], cO k2 3 [], cO k3 5 [], cO k4 6 [], cO k5 10 [], cO k6 8 [], cI aC pa 8 yg, cI aC pe 8 eg, cI aC pb 8 bg, cI aC pu 7 ug, cI aC pw 7 vg, cI aC pq 128 qg, cI aC pt 128 tg, cI aC xr 7 rf2] (va_pl L (plE aC g2)))) (va_A (wp [oX11 h0 xp xtp xn xt xk xl xc xo xto xr xch ts ik st, oX9 xp po pp ps pa pe pb xn pk pu pw pq pt un fw, oX4 xn ek ef ew ep es (nI n) (nI sn) dn, cI aC ek 8 kf, cI aC ef 8 ff, cI aC ew 8 wf, cI aC es 5 stf, cA aC po 8 fo, cA aC pp 8 fp, cA aC ps 8 fs, cK aC pk 7 fk, cO k0 0 [], cO k1 1 [], cO k2 3 [], cO k3 5 [], cO k4 6 [], cO k5 10 [], cO k6 8 [], cI aC pa 8 yf, cI aC pe 8 ef0, cI aC pb 8 bf, cI aC pu 7 uf, cI aC pw 7 vf, cI aC pq 128 qf, cI aC pt 128 tf, cI aC xr 7 rf] (va_pl L (plE aC g))) sz)) 0 0 (va_A (wp [oX11 h0 xp xtp xn xt xk xl xc xo xto xr xch ts ik st, oX9 xp po pp ps pa pe pb xn pk pu pw pq pt un fw, oX4 xn ek ef ew ep es (nI n) (nI sn) dn, cI aC ek 8 kf, cI aC ef 8 ff, cI aC ew 8 wf, cI aC es 5 stf, cA aC po 8 fo, cA aC pp 8 fp, cA aC ps 8 fs, cK aC pk 7 fk, cO k0 0 [], cO k1 1 [], cO k2 3 [], cO k3 5 [], cO k4 6 [], cO k5 10 [], cO k6 8 [], cI aC pa 8 yf, cI aC pe 8 ef0, cI aC pb 8 bf, cI aC pu 7 uf, cI aC pw 7 vf, cI aC pq 128 qf, cI aC pt 128 tf, cI aC xr 7 rf] (va_pl L (plE aC g))) sz) := by
  refine Met.ofW (cc := cX11_league) (maxL := 3) (ret := (some .int)) (by decide) rfl ?_
  intro p e s m args below meth c s₁ B hml hv
  obtain ⟨rfl, hsz, hP, hK, hD0, hN⟩ := hv
  have hx := B.exec
  have hb := B.bytes
  have hr := B.returns
  have hts0 := atoms_spec (ws := (wW yX11_league cX11_league 3 (some .int))) B.pre
  have hts : ∀ w9 ∈ lw_G, w9.before ([Value.ref h0, Value.int v] : List Value).toArray s = true := fun w9 h9 => hts0 w9 (List.mem_cons_of_mem _ h9)
  have hown : s.vm.findClass RX11 = some m.cls := findClass_of_methodNamed (x := yX11_league) B.named
  have hlocks := B.notSynchronized
  subst hsz
  have hD := hD0.self (sz := s.heap.size)
  generalize hAe : va_A (wp [oX11 h0 xp xtp xn xt xk xl xc xo xto xr xch ts ik st, oX9 xp po pp ps pa pe pb xn pk pu pw pq pt un fw, oX4 xn ek ef ew ep es (nI n) (nI sn) dn, cI aC ek 8 kf, cI aC ef 8 ff, cI aC ew 8 wf, cI aC es 5 stf, cA aC po 8 fo, cA aC pp 8 fp, cA aC ps 8 fs, cK aC pk 7 fk, cO k0 0 [], cO k1 1 [], cO k2 3 [], cO k3 5 [], cO k4 6 [], cO k5 10 [], cO k6 8 [], cI aC pa 8 yf, cI aC pe 8 ef0, cI aC pb 8 bf, cI aC pu 7 uf, cI aC pw 7 vf, cI aC pq 128 qf, cI aC pt 128 tf, cI aC xr 7 rf] (va_pl L (plE aC g))) s.heap.size = A at hD ⊢
  have hA : ∀ q : Nat, s.heap.size ≤ q → A q := fun q h => by rw [← hAe]; exact Or.inr h
  obtain ⟨H, hHe⟩ : ∃ H : Heap, H = s.heap := ⟨_, rfl⟩
  have hS : va_S A s.heap H [] := by rw [hHe]; exact va_S.rf
  have hP : va_P (dC, dI) classes (wp [oX11 h0 xp xtp xn xt xk xl xc xo xto xr xch ts ik st, oX9 xp po pp ps pa pe pb xn pk pu pw pq pt un fw, oX4 xn ek ef ew ep es (nI n) (nI sn) dn, cI aC ek 8 kf, cI aC ef 8 ff, cI aC ew 8 wf, cI aC es 5 stf, cA aC po 8 fo, cA aC pp 8 fp, cA aC ps 8 fs, cK aC pk 7 fk, cO k0 0 [], cO k1 1 [], cO k2 3 [], cO k3 5 [], cO k4 6 [], cO k5 10 [], cO k6 8 [], cI aC pa 8 yf, cI aC pe 8 ef0, cI aC pb 8 bf, cI aC pu 7 uf, cI aC pw 7 vf, cI aC pq 128 qf, cI aC pt 128 tf, cI aC xr 7 rf] (va_pl L (plE aC g))) H := by rw [hHe]; exact hP
  have hl := lv_entry ([Value.ref h0, Value.int v]) (n := 3) (Nat.le_of_ble_eq_true rfl)
  rw [lg_entry_eq]
  generalize (lg_sl ([Value.ref h0, Value.int v]) ++ List.replicate (3 - (lg_sl ([Value.ref h0, Value.int v])).length) Slot.unset).toArray = ls at hl ⊢
  have hl : lv_has ls 3 [(0, Value.ref h0), (1, Value.int v)] := hl
  rw [← hHe]
  have hn8 := EVS_n hev
  refine lv_aload_n hx hb dX11_league_0 rfl (lv_at hl 0 rfl) ?_
  refine va_get (D := (dC, dI)) (ci := 11) (v := Value.ref xn) (C := RX11) (T := TX11) (N := 14) hx hb hts inX11 hown hK hP 0 rfl rfl 2 (by decide) (hts _ (gw kw_228 rfl)) (fun _ h9 => h9) rfl dX11_league_1 ?_
  have hpd9 := pdf_N (cx := [oX4 xn ek ef ew ep es (nI n) (nI sn) dn]) hP hD hS hA [2] (by decide) rfl
  have hPc := hpd9.1
  have hDc := hpd9.2.1
  have hFc := hpd9.2.2
  clear hpd9
  refine va_calli (va_runV (As := []) (rest := []) ⟨hx, hb, hml, hown, hts⟩ (c_X4_isOver l dC dI aC H.size xn ek ef ew ep es (nI n) (nI sn) dn ) ⟨(callB_of 0 hts (gG kw_523) rfl rfl rfl (hts _ (gw kw_2 rfl)) (hts _ (gw kw_520 rfl)) hd_X4_isOver ⟨Nat.le_of_ble_eq_true rfl, Nat.le_of_ble_eq_true rfl⟩), (hts _ (gw kw_521 rfl)), (hts _ (gw kw_522 rfl))⟩ ⟨fb_std, va_recv (q := (RX4, TX4, 8)) hK hPc (ci := 4) (q0 := 0) rfl rfl, pre_std hPc hK hDc hN⟩ rfl rfl hl.1 rfl (lv_room (Nat.le_of_ble_eq_true rfl)) dX11_league_4 ⟨Nat.le_of_ble_eq_true rfl, Nat.le_of_ble_eq_true rfl⟩) hS (fun q _ h => hFc q h) hFc (fun x_1 u9 t9 H1 locs ht hvm hw_1 hB hz1 hk1 hS => ?_)
  obtain ⟨hP1, hK1, hD1⟩ := hB
  rw [ht] at hP1
  clear hK1
  try dsimp only at hw_1
  have hpd9 : PDx (dC, dI) classes A H1 (wp [oX11 h0 xp xtp xn xt xk xl xc xo xto xr xch ts ik st, oX9 xp po pp ps pa pe pb xn pk pu pw pq pt un fw, cI aC ek 8 kf, cI aC ef 8 ff, cI aC ew 8 wf, cI aC es 5 stf, cA aC po 8 fo, cA aC pp 8 fp, cA aC ps 8 fs, cK aC pk 7 fk, cO k0 0 [], cO k1 1 [], cO k2 3 [], cO k3 5 [], cO k4 6 [], cO k5 10 [], cO k6 8 [], cI aC pa 8 yf, cI aC pe 8 ef0, cI aC pb 8 bf, cI aC pu 7 uf, cI aC pw 7 vf, cI aC pq 128 qf, cI aC pt 128 tf, cI aC xr 7 rf, oX4 xn ek ef ew ep es (nI n) (nI sn) dn] (va_pl L (plE aC g))) := jn_Q (wr := [oX11 h0 xp xtp xn xt xk xl xc xo xto xr xch ts ik st, oX9 xp po pp ps pa pe pb xn pk pu pw pq pt un fw, cI aC ek 8 kf, cI aC ef 8 ff, cI aC ew 8 wf, cI aC es 5 stf, cA aC po 8 fo, cA aC pp 8 fp, cA aC ps 8 fs, cK aC pk 7 fk, cO k0 0 [], cO k1 1 [], cO k2 3 [], cO k3 5 [], cO k4 6 [], cO k5 10 [], cO k6 8 [], cI aC pa 8 yf, cI aC pe 8 ef0, cI aC pb 8 bf, cI aC pu 7 uf, cI aC pw 7 vf, cI aC pq 128 qf, cI aC pt 128 tf, cI aC xr 7 rf]) hFc hk1 hP1 hD1 hP hD [2] [0, 1, 3, 4, 5, 6, 7, 8, 9, 10, 11, 12, 13, 14, 15, 16, 17, 18, 19, 20, 21, 22, 23, 24, 25] rfl rfl (by decide) (by decide)
  have hP := hpd9.1
  have hD := hpd9.2
  clear hpd9
  generalize H1 = H at hP hS ⊢
  clear hPc hDc hFc hz1 hk1 hP1 hD1 ht hvm
  have hz_4 := hw_1
  refine lv_if_eq (tgt := 17) hx hb dX11_league_7 (by decide) (fun c_2 => ?_) (fun c_2 => ?_)
  · have hov := ovx_n hz_4 c_2
    have hsn := sn_lt hev hov
    refine lv_iconst (v := 1) hx hb dX11_league_17 (by decide) ?_
    refine lv_aload_n hx hb dX11_league_18 rfl (lv_at hl 0 rfl) ?_
    refine va_get (D := (dC, dI)) (ci := 11) (v := Value.ref xn) (C := RX11) (T := TX11) (N := 14) hx hb hts inX11 hown hK hP 0 rfl rfl 2 (by decide) (hts _ (gw kw_228 rfl)) (fun _ h9 => h9) rfl dX11_league_19 ?_
    refine va_get (D := (dC, dI)) (ci := 4) (v := Value.int (nI n)) (C := RX4) (T := TX4) (N := 8) hx hb hts inX4 hown hK hP 25 rfl rfl 5 (by decide) (hts _ (gw kw_50 rfl)) (fun _ h9 => h9) rfl dX11_league_22 ?_
    refine lv_ishl hx hb dX11_league_25 ?_
    refine lv_topi (fun x_3 e_3 => ?_)
    refine lv_iconst (v := 2) hx hb dX11_league_26 (by decide) ?_
    refine lv_aload_n hx hb dX11_league_27 rfl (lv_at hl 0 rfl) ?_
    refine va_get (D := (dC, dI)) (ci := 11) (v := Value.ref xn) (C := RX11) (T := TX11) (N := 14) hx hb hts inX11 hown hK hP 0 rfl rfl 2 (by decide) (hts _ (gw kw_228 rfl)) (fun _ h9 => h9) rfl dX11_league_28 ?_
    refine va_get (D := (dC, dI)) (ci := 4) (v := Value.int (nI sn)) (C := RX4) (T := TX4) (N := 8) hx hb hts inX4 hown hK hP 25 rfl rfl 6 (by decide) (hts _ (gw kw_52 rfl)) (fun _ h9 => h9) rfl dX11_league_31 ?_
    refine lv_ishl hx hb dX11_league_34 ?_
    refine lv_topi (fun x_4 e_4 => ?_)
    refine lv_isub hx hb dX11_league_35 ?_
    refine lv_topi (fun x_5 e_5 => ?_)
    refine lv_istore_n (lv' := [(2, Value.int x_5), (0, Value.ref h0), (1, Value.int v)]) hx hb dX11_league_36 rfl hl (by decide) rfl (fun ls hl => ?_)
    refine lv_iload_n hx hb dX11_league_37 rfl (lv_at hl 2 rfl) ?_
    refine lv_iload_n hx hb dX11_league_38 rfl (lv_at hl 0 rfl) ?_
    refine lv_iconst (v := -1) hx hb dX11_league_39 (by decide) ?_
    refine lv_ixor hx hb dX11_league_40 ?_
    refine lv_topi (fun x_6 e_6 => ?_)
    refine lv_iand hx hb dX11_league_41 ?_
    refine lv_topi (fun x_7 e_7 => ?_)
    have hyb : ∀ b, b < 32 → bt x_5 b = decide (sn < b ∧ b < n) := fun b hb => by rw [e_5, e_3, e_4, two_sh sn (by omega)]; exact left_bits n (by omega) (sn + 1) (by omega) b hb
    refine lv_if_ne (tgt := 53) hx hb dX11_league_42 (by decide) (fun c_8 => ?_) (fun c_8 => ?_)
    · refine lv_aload_n hx hb dX11_league_53 rfl (lv_at hl 1 rfl) ?_
      refine lv_iconst (v := -1) hx hb dX11_league_54 (by decide) ?_
      have hpd9 := pdf_N (cx := [oX11 h0 xp xtp xn xt xk xl xc xo xto xr xch ts ik st, cI aC xr 7 rf]) hP hD hS hA [0, 24] (by decide) rfl
      have hPc := hpd9.1
      have hDc := hpd9.2.1
      have hFc := hpd9.2.2
      clear hpd9
      refine va_calli (va_runV (As := [Value.int (-1)]) (rest := []) ⟨hx, hb, hml, hown, hts⟩ (c_X11_refuse l dC dI aC H.size h0 xp xtp xn xt xk xl xc xo xto xr xch ts ik st (-1) 1 rf (by decide) (by decide) (by decide) (by unfold vp_in; decide)) ⟨(callB_of 1 hts (gG kw_276) rfl rfl rfl (hts _ (gw kw_1 rfl)) (hts _ (gw kw_273 rfl)) hd_X11_refuse ⟨Nat.le_of_ble_eq_true rfl, Nat.le_of_ble_eq_true rfl⟩), (hts _ (gw kw_275 rfl)), (hts _ (gw ks_0 rfl))⟩ ⟨fb_std, va_recv (q := (RX11, TX11, 14)) hK hPc (ci := 11) (q0 := 0) rfl rfl, pre_std hPc hK hDc hN⟩ rfl rfl hl.1 rfl (lv_room (Nat.le_of_ble_eq_true rfl)) dX11_league_55 ⟨Nat.le_of_ble_eq_true rfl, Nat.le_of_ble_eq_true rfl⟩) hS (fun q _ h => hFc q h) hFc (fun x_9 u9 t9 H1 locs ht hvm hw_9 hB hz1 hk1 hS => ?_)
      obtain ⟨u_10, rfl⟩ : ∃ z, z = u9 := ⟨_, rfl⟩
      obtain ⟨hP1, hK1, hD1⟩ := hB
      rw [ht] at hP1
      clear hK1
      try dsimp only at hw_9
      have hpd9 : PDx (dC, dI) classes A H1 (wp [oX9 xp po pp ps pa pe pb xn pk pu pw pq pt un fw, cI aC ek 8 kf, cI aC ef 8 ff, cI aC ew 8 wf, cI aC es 5 stf, cA aC po 8 fo, cA aC pp 8 fp, cA aC ps 8 fs, cK aC pk 7 fk, cO k0 0 [], cO k1 1 [], cO k2 3 [], cO k3 5 [], cO k4 6 [], cO k5 10 [], cO k6 8 [], cI aC pa 8 yf, cI aC pe 8 ef0, cI aC pb 8 bf, cI aC pu 7 uf, cI aC pw 7 vf, cI aC pq 128 qf, cI aC pt 128 tf, oX4 xn ek ef ew ep es (nI n) (nI sn) dn, oX11 h0 xp xtp xn xt xk xl xc xo xto xr xch ts ik st, cI aC xr 7 u_10] (va_pl L (plE aC g))) := jn_Q (wr := [oX9 xp po pp ps pa pe pb xn pk pu pw pq pt un fw, cI aC ek 8 kf, cI aC ef 8 ff, cI aC ew 8 wf, cI aC es 5 stf, cA aC po 8 fo, cA aC pp 8 fp, cA aC ps 8 fs, cK aC pk 7 fk, cO k0 0 [], cO k1 1 [], cO k2 3 [], cO k3 5 [], cO k4 6 [], cO k5 10 [], cO k6 8 [], cI aC pa 8 yf, cI aC pe 8 ef0, cI aC pb 8 bf, cI aC pu 7 uf, cI aC pw 7 vf, cI aC pq 128 qf, cI aC pt 128 tf, oX4 xn ek ef ew ep es (nI n) (nI sn) dn]) hFc hk1 hP1 hD1 hP hD [0, 24] [1, 2, 3, 4, 5, 6, 7, 8, 9, 10, 11, 12, 13, 14, 15, 16, 17, 18, 19, 20, 21, 22, 23, 25] rfl rfl (by decide) (by decide)
      have hP := hpd9.1
      have hD := hpd9.2
      clear hpd9
      generalize H1 = H at hP hS ⊢
      clear hPc hDc hFc hz1 hk1 hP1 hD1 ht hvm
      obtain ⟨hv9, -⟩ := hw_9
      have hpd9 := pd_P (cx := [oX11 h0 xp xtp xn xt xk xl xc xo xto xr xch ts ik st, oX9 xp po pp ps pa pe pb xn pk pu pw pq pt un fw, oX4 xn ek ef ew ep es (nI n) (nI sn) dn, cI aC ek 8 kf, cI aC ef 8 ff, cI aC ew 8 wf, cI aC es 5 stf, cA aC po 8 fo, cA aC pp 8 fp, cA aC ps 8 fs, cK aC pk 7 fk, cO k0 0 [], cO k1 1 [], cO k2 3 [], cO k3 5 [], cO k4 6 [], cO k5 10 [], cO k6 8 [], cI aC pa 8 yf, cI aC pe 8 ef0, cI aC pb 8 bf, cI aC pu 7 uf, cI aC pw 7 vf, cI aC pq 128 qf, cI aC pt 128 tf, cI aC xr 7 u_10]) hP hD [24, 0, 23, 1, 2, 3, 4, 5, 6, 7, 8, 9, 10, 11, 12, 13, 14, 15, 16, 17, 18, 19, 20, 21, 22, 25] (by decide) rfl
      have hP9 := hpd9.1
      have hD9 := hpd9.2
      refine W.widen (k := 0) (n := 0) (by omega) (by omega) ?_
      exact W.iret (v := x_9) hx hb hr (fun t ht hW => ⟨⟨x_9, (un, fw, uf, vf, qf, tf, bf, yf, ef0, g, st, u_10), rfl, ⟨hst, fun a _ => rfl, by rw [hv9]; exact LGR_m hov (fun q => c_8 (by rw [e_7, e_6]; exact (lg_mask hyb).mpr q.1))⟩, by rw [ht]; exact hP9, va_K.moved hW.alike hK, hD9⟩, hS.F ht⟩) hS.2.2 dX11_league_58
    · have hM1 : ∀ q, bt v q = true → sn < q ∧ q < n := (lg_mask hyb).mp (by rw [← e_6, ← e_7]; exact c_8)
      obtain ⟨x9, hx9, hxe9⟩ := lg_nat (fun q hq => by have := hM1 q hq; omega)
      have hnl := LGNn_le (x := x9)
      refine lv_iload_n hx hb dX11_league_45 rfl (lv_at hl 2 rfl) ?_
      have hpd9 := pdf_N (cx := []) hP hD hS hA [] (by decide) rfl
      have hPc := hpd9.1
      have hDc := hpd9.2.1
      have hFc := hpd9.2.2
      clear hpd9
      refine va_calli (va_runS (As := [Value.int v]) (rest := []) ⟨hx, hb, hml, hown, hts⟩ (c_J6_bitCount_0f7a4 l dC dI aC H.size v ) ⟨(callB_of 1 hts (gG kw_636) rfl rfl rfl (hts _ (gw kw_17 rfl)) (hts _ (gw kw_634 rfl)) hd_J6_bitCount_0f7a4 ⟨Nat.le_of_ble_eq_true rfl, Nat.le_of_ble_eq_true rfl⟩), (hts _ (gw kw_635 rfl))⟩ ⟨fb_std, pre_std hPc hK hDc hN⟩ rfl rfl hl.1 rfl (lv_room (Nat.le_of_ble_eq_true rfl)) dX11_league_46 ⟨Nat.le_of_ble_eq_true rfl, Nat.le_of_ble_eq_true rfl⟩) hS (fun q _ h => hFc q h) hFc (fun x_11 u9 t9 H1 locs ht hvm hw_11 hB hz1 hk1 hS => ?_)
      obtain ⟨hP1, hK1, hD1⟩ := hB
      rw [ht] at hP1
      clear hK1
      try dsimp only at hw_11
      have hpd9 : PDx (dC, dI) classes A H1 (wp [oX11 h0 xp xtp xn xt xk xl xc xo xto xr xch ts ik st, oX9 xp po pp ps pa pe pb xn pk pu pw pq pt un fw, cI aC ek 8 kf, cI aC ef 8 ff, cI aC ew 8 wf, cI aC es 5 stf, cA aC po 8 fo, cA aC pp 8 fp, cA aC ps 8 fs, cK aC pk 7 fk, cO k0 0 [], cO k1 1 [], cO k2 3 [], cO k3 5 [], cO k4 6 [], cO k5 10 [], cO k6 8 [], cI aC pa 8 yf, cI aC pe 8 ef0, cI aC pb 8 bf, cI aC pu 7 uf, cI aC pw 7 vf, cI aC pq 128 qf, cI aC pt 128 tf, cI aC xr 7 rf, oX4 xn ek ef ew ep es (nI n) (nI sn) dn] (va_pl L (plE aC g))) := jn_Q (wr := [oX11 h0 xp xtp xn xt xk xl xc xo xto xr xch ts ik st, oX9 xp po pp ps pa pe pb xn pk pu pw pq pt un fw, cI aC ek 8 kf, cI aC ef 8 ff, cI aC ew 8 wf, cI aC es 5 stf, cA aC po 8 fo, cA aC pp 8 fp, cA aC ps 8 fs, cK aC pk 7 fk, cO k0 0 [], cO k1 1 [], cO k2 3 [], cO k3 5 [], cO k4 6 [], cO k5 10 [], cO k6 8 [], cI aC pa 8 yf, cI aC pe 8 ef0, cI aC pb 8 bf, cI aC pu 7 uf, cI aC pw 7 vf, cI aC pq 128 qf, cI aC pt 128 tf, cI aC xr 7 rf, oX4 xn ek ef ew ep es (nI n) (nI sn) dn]) hFc hk1 hP1 hD1 hP hD [] [0, 1, 2, 3, 4, 5, 6, 7, 8, 9, 10, 11, 12, 13, 14, 15, 16, 17, 18, 19, 20, 21, 22, 23, 24, 25] rfl rfl (by decide) (by decide)
      have hP := hpd9.1
      have hD := hpd9.2
      clear hpd9
      generalize H1 = H at hP hS ⊢
      clear hPc hDc hFc hz1 hk1 hP1 hD1 ht hvm
      have hbc := hw_11
      refine lv_iconst (v := 2) hx hb dX11_league_49 (by decide) ?_
      refine lv_icmp_ge (tgt := 59) hx hb dX11_league_50 (by decide) (fun c_12 => ?_) (fun c_12 => ?_)
      · have hM : LGM n sn v := ⟨hM1, by
          have h9 := c_12
          rw [hbc x9 hx9 hxe9] at h9
          rw [hxe9, LGN_n hx9]
          exact (nI_leI (a := 2) (by omega) (by omega)).mp h9⟩
        have hlg : ∃ b, sn < b ∧ b < n ∧ bt v b = true := LG_ex hsn hn8 (fun q => by
          have h9 := hM.2
          rw [q] at h9
          exact absurd h9 (by decide +kernel)) (e_7.symm.trans c_8) e_3 e_4 e_5 e_6
        refine lv_aload_n hx hb dX11_league_59 rfl (lv_at hl 1 rfl) ?_
        have hpd9 := pdf_P (cx := [oX11 h0 xp xtp xn xt xk xl xc xo xto xr xch ts ik st, oX9 xp po pp ps pa pe pb xn pk pu pw pq pt un fw, oX4 xn ek ef ew ep es (nI n) (nI sn) dn, cI aC ek 8 kf, cI aC ef 8 ff, cI aC ew 8 wf, cI aC es 5 stf, cA aC po 8 fo, cA aC pp 8 fp, cA aC ps 8 fs, cK aC pk 7 fk, cO k0 0 [], cO k1 1 [], cO k2 3 [], cO k3 5 [], cO k4 6 [], cO k5 10 [], cO k6 8 [], cI aC pa 8 yf, cI aC pe 8 ef0, cI aC pb 8 bf, cI aC pu 7 uf, cI aC pw 7 vf, cI aC pq 128 qf, cI aC pt 128 tf]) hP hD hS hA [0, 1, 25, 2, 3, 4, 5, 6, 7, 8, 9, 10, 11, 12, 13, 14, 15, 16, 17, 18, 19, 20, 21, 22, 23] (by decide) rfl
        have hPc := hpd9.1
        have hDc := hpd9.2.1
        have hFc := hpd9.2.2
        clear hpd9
        refine va_callr (va_runV (As := []) (rest := []) ⟨hx, hb, hml, hown, hts⟩ (c_X11_solved l dC dI aC H.size h0 xp xtp xn xt xk xl xc xo xto xr xch ts ik st po pp ps pa pe pb pk pu pw pq pt un fw ek ef ew ep es n sn dn kf ff wf stf K F W0 S5 L g fo fp fs ro rp rs fk k0 k1 k2 k3 k4 k5 k6 uf vf qf tf bf yf ef0 (hgr) (hev) (hkd) (hst)) ⟨(callB_of 0 hts (gG kw_353) rfl rfl rfl (hts _ (gw kw_1 rfl)) (hts _ (gw kw_350 rfl)) hd_X11_solved ⟨Nat.le_of_ble_eq_true rfl, Nat.le_of_ble_eq_true rfl⟩), (hts _ (gw kw_352 rfl)), (hts _ (gw ks_6 rfl))⟩ ⟨fb_std, va_recv (q := (RX11, TX11, 14)) hK hPc (ci := 11) (q0 := 0) rfl rfl, pre_std hPc hK hDc hN⟩ rfl rfl hl.1 rfl (lv_room (Nat.le_of_ble_eq_true rfl)) dX11_league_60 ⟨Nat.le_of_ble_eq_true rfl, Nat.le_of_ble_eq_true rfl⟩) hS (fun q _ h => hFc q h) hFc (fun u9 q_13 t9 H1 locs ht hvm hw_13 hB hz1 hk1 hS => ?_)
        obtain ⟨u_14, u_15, u_16, u_17, u_18, u_19, u_20, u_21, u_22, u_23⟩ := u9
        obtain ⟨q_13_e, hP1, hK1, hD1⟩ := hB
        rw [ht] at hP1
        clear hK1
        try dsimp only at hw_13
        have hpd9 : PDx (dC, dI) classes A H1 (wp [cI aC xr 7 rf, oX11 h0 xp xtp xn xt xk xl xc xo xto xr xch ts ik 0, oX9 xp po pp ps pa pe pb xn pk pu pw pq pt u_14 u_15, oX4 xn ek ef ew ep es (nI n) (nI sn) dn, cI aC ek 8 kf, cI aC ef 8 ff, cI aC ew 8 wf, cI aC es 5 stf, cA aC po 8 fo, cA aC pp 8 fp, cA aC ps 8 fs, cK aC pk 7 fk, cO k0 0 [], cO k1 1 [], cO k2 3 [], cO k3 5 [], cO k4 6 [], cO k5 10 [], cO k6 8 [], cI aC pa 8 u_21, cI aC pe 8 u_22, cI aC pb 8 u_20, cI aC pu 7 u_16, cI aC pw 7 u_17, cI aC pq 128 u_18, cI aC pt 128 u_19] (va_pl L (plE aC u_23))) := jn_P (wr := [cI aC xr 7 rf]) hFc hk1 hP1 hD1 hP hD [0, 1, 25, 2, 3, 4, 5, 6, 7, 8, 9, 10, 11, 12, 13, 14, 15, 16, 17, 18, 19, 20, 21, 22, 23] [24] rfl rfl (by decide) (by decide)
        have hP := hpd9.1
        have hD := hpd9.2
        clear hpd9
        generalize H1 = H at hP hS ⊢
        clear hPc hDc hFc hz1 hk1 hP1 hD1 ht hvm
        have h9 := q_13_e.symm
        subst h9
        obtain ⟨hm1, hm2⟩ := hw_13
        refine lv_aload_n hx hb dX11_league_63 rfl (lv_at hl 1 rfl) ?_
        refine va_get (D := (dC, dI)) (ci := 11) (v := Value.ref xn) (C := RX11) (T := TX11) (N := 14) hx hb hts inX11 hown hK hP 1 rfl rfl 2 (by decide) (hts _ (gw kw_228 rfl)) (fun _ h9 => h9) rfl dX11_league_64 ?_
        refine va_get (D := (dC, dI)) (ci := 4) (v := Value.int (nI sn)) (C := RX4) (T := TX4) (N := 8) hx hb hts inX4 hown hK hP 3 rfl rfl 6 (by decide) (hts _ (gw kw_52 rfl)) (fun _ h9 => h9) rfl dX11_league_67 ?_
        refine lv_iload_n hx hb dX11_league_70 rfl (lv_at hl 2 rfl) ?_
        have hpd9 := pdf_P (cx := [oX9 xp po pp ps pa pe pb xn pk pu pw pq pt u_14 u_15, oX4 xn ek ef ew ep es (nI n) (nI sn) dn, cI aC ew 8 wf, cI aC es 5 stf, cA aC pp 8 fp, cI aC pu 7 u_16, cI aC pw 7 u_17, cI aC pq 128 u_18, cI aC pt 128 u_19]) hP hD hS hA [2, 3, 6, 7, 9, 22, 23, 24, 25] (by decide) rfl
        have hPc := hpd9.1
        have hDc := hpd9.2.1
        have hFc := hpd9.2.2
        clear hpd9
        refine va_calli (va_runV (As := [Value.int (nI sn), Value.int v]) (rest := []) ⟨hx, hb, hml, hown, hts⟩ (c_X9_canBuy l dC dI aC H.size xp po pp ps pa pe pb xn pk pu pw pq pt u_14 u_15 ek ef ew ep es n (nI sn) dn wf stf W0 (S5 0) L u_23 fo fp fs ro rp rs sn v (zP (PO n K F W0 S5) sn) u_16 u_17 u_18 u_19 (hgr) (HW_of hev.1) (hsn) (⟨hev.1.2.1, hev.2.1 0 (by omega)⟩) (fun q h1 h2 => ⟨(hm1 sn hsn).1 q h1 h2, zP_le (PO_cl hev) (HF_of hev.1) h1 h2⟩) (hlg)) ⟨(callB_of 2 hts (gG kw_643) rfl rfl rfl (hts _ (gw kw_11 rfl)) (hts _ (gw kw_640 rfl)) hd_X9_canBuy ⟨Nat.le_of_ble_eq_true rfl, Nat.le_of_ble_eq_true rfl⟩), (hts _ (gw kw_641 rfl)), (hts _ (gw kw_642 rfl))⟩ ⟨fb_std, va_recv (q := (RX9, TX9, 14)) hK hPc (ci := 9) (q0 := 0) rfl rfl, pre_std hPc hK hDc hN⟩ rfl rfl hl.1 rfl (lv_room (Nat.le_of_ble_eq_true rfl)) dX11_league_71 ⟨Nat.le_of_ble_eq_true rfl, Nat.le_of_ble_eq_true rfl⟩) hS (fun q _ h => hFc q h) hFc (fun x_24 u9 t9 H1 locs ht hvm hw_24 hB hz1 hk1 hS => ?_)
        obtain ⟨u_25, u_26, u_27, u_28, u_29, u_30⟩ := u9
        obtain ⟨hP1, hK1, hD1⟩ := hB
        rw [ht] at hP1
        clear hK1
        try dsimp only at hw_24
        have hpd9 : PDx (dC, dI) classes A H1 (wp [cI aC xr 7 rf, oX11 h0 xp xtp xn xt xk xl xc xo xto xr xch ts ik 0, cI aC ek 8 kf, cI aC ef 8 ff, cA aC po 8 fo, cA aC ps 8 fs, cK aC pk 7 fk, cO k0 0 [], cO k1 1 [], cO k2 3 [], cO k3 5 [], cO k4 6 [], cO k5 10 [], cO k6 8 [], cI aC pa 8 u_21, cI aC pe 8 u_22, cI aC pb 8 u_20, oX9 xp po pp ps pa pe pb xn pk pu pw pq pt u_25 u_26, oX4 xn ek ef ew ep es (nI n) (nI sn) dn, cI aC ew 8 wf, cI aC es 5 stf, cA aC pp 8 fp, cI aC pu 7 u_27, cI aC pw 7 u_28, cI aC pq 128 u_29, cI aC pt 128 u_30] (va_pl L (plE aC u_23))) := jn_P (wr := [cI aC xr 7 rf, oX11 h0 xp xtp xn xt xk xl xc xo xto xr xch ts ik 0, cI aC ek 8 kf, cI aC ef 8 ff, cA aC po 8 fo, cA aC ps 8 fs, cK aC pk 7 fk, cO k0 0 [], cO k1 1 [], cO k2 3 [], cO k3 5 [], cO k4 6 [], cO k5 10 [], cO k6 8 [], cI aC pa 8 u_21, cI aC pe 8 u_22, cI aC pb 8 u_20]) hFc hk1 hP1 hD1 hP hD [2, 3, 6, 7, 9, 22, 23, 24, 25] [0, 1, 4, 5, 8, 10, 11, 12, 13, 14, 15, 16, 17, 18, 19, 20, 21] rfl rfl (by decide) (by decide)
        have hP := hpd9.1
        have hD := hpd9.2
        clear hpd9
        generalize H1 = H at hP hS ⊢
        clear hPc hDc hFc hz1 hk1 hP1 hD1 ht hvm
        have hcb := hw_24
        rw [hev.2.1 1 (by omega)] at hcb
        refine lv_if_eq (tgt := 81) hx hb dX11_league_74 (by decide) (fun c_31 => ?_) (fun c_31 => ?_)
        · refine lv_iconst (v := 0) hx hb dX11_league_81 (by decide) ?_
          have hpd9 := pd_P (cx := [oX11 h0 xp xtp xn xt xk xl xc xo xto xr xch ts ik 0, oX9 xp po pp ps pa pe pb xn pk pu pw pq pt u_25 u_26, oX4 xn ek ef ew ep es (nI n) (nI sn) dn, cI aC ek 8 kf, cI aC ef 8 ff, cI aC ew 8 wf, cI aC es 5 stf, cA aC po 8 fo, cA aC pp 8 fp, cA aC ps 8 fs, cK aC pk 7 fk, cO k0 0 [], cO k1 1 [], cO k2 3 [], cO k3 5 [], cO k4 6 [], cO k5 10 [], cO k6 8 [], cI aC pa 8 u_21, cI aC pe 8 u_22, cI aC pb 8 u_20, cI aC pu 7 u_27, cI aC pw 7 u_28, cI aC pq 128 u_29, cI aC pt 128 u_30, cI aC xr 7 rf]) hP hD [1, 17, 18, 2, 3, 19, 20, 4, 21, 5, 6, 7, 8, 9, 10, 11, 12, 13, 14, 15, 16, 22, 23, 24, 25, 0] (by decide) rfl
          have hP9 := hpd9.1
          have hD9 := hpd9.2
          refine W.widen (k := 0) (n := 0) (by omega) (by omega) ?_
          exact W.iret (v := 0) hx hb hr (fun t ht hW => ⟨⟨0, (u_25, u_26, u_27, u_28, u_29, u_30, u_20, u_21, u_22, u_23, 0, rf), rfl, ⟨Or.inr ⟨rfl, hm1⟩, hm2, LGR_0 hov hM (hcb.resolve_left (fun q => absurd (q.1.symm.trans c_31) (by decide))).2⟩, by rw [ht]; exact hP9, va_K.moved hW.alike hK, hD9⟩, hS.F ht⟩) hS.2.2 dX11_league_82
        · refine lv_iconst (v := 1) hx hb dX11_league_77 (by decide) ?_
          refine lv_goto (tgt := 82) hx hb dX11_league_78 (by decide) ?_
          have hpd9 := pd_P (cx := [oX11 h0 xp xtp xn xt xk xl xc xo xto xr xch ts ik 0, oX9 xp po pp ps pa pe pb xn pk pu pw pq pt u_25 u_26, oX4 xn ek ef ew ep es (nI n) (nI sn) dn, cI aC ek 8 kf, cI aC ef 8 ff, cI aC ew 8 wf, cI aC es 5 stf, cA aC po 8 fo, cA aC pp 8 fp, cA aC ps 8 fs, cK aC pk 7 fk, cO k0 0 [], cO k1 1 [], cO k2 3 [], cO k3 5 [], cO k4 6 [], cO k5 10 [], cO k6 8 [], cI aC pa 8 u_21, cI aC pe 8 u_22, cI aC pb 8 u_20, cI aC pu 7 u_27, cI aC pw 7 u_28, cI aC pq 128 u_29, cI aC pt 128 u_30, cI aC xr 7 rf]) hP hD [1, 17, 18, 2, 3, 19, 20, 4, 21, 5, 6, 7, 8, 9, 10, 11, 12, 13, 14, 15, 16, 22, 23, 24, 25, 0] (by decide) rfl
          have hP9 := hpd9.1
          have hD9 := hpd9.2
          refine W.widen (k := 0) (n := 0) (by omega) (by omega) ?_
          exact W.iret (v := 1) hx hb hr (fun t ht hW => ⟨⟨1, (u_25, u_26, u_27, u_28, u_29, u_30, u_20, u_21, u_22, u_23, 0, rf), rfl, ⟨Or.inr ⟨rfl, hm1⟩, hm2, LGR_1 hov hM (hcb.resolve_right (fun q => c_31 q.1)).2⟩, by rw [ht]; exact hP9, va_K.moved hW.alike hK, hD9⟩, hS.F ht⟩) hS.2.2 dX11_league_82
      · refine lv_aload_n hx hb dX11_league_53 rfl (lv_at hl 1 rfl) ?_
        refine lv_iconst (v := -1) hx hb dX11_league_54 (by decide) ?_
        have hpd9 := pdf_N (cx := [oX11 h0 xp xtp xn xt xk xl xc xo xto xr xch ts ik st, cI aC xr 7 rf]) hP hD hS hA [0, 24] (by decide) rfl
        have hPc := hpd9.1
        have hDc := hpd9.2.1
        have hFc := hpd9.2.2
        clear hpd9
        refine va_calli (va_runV (As := [Value.int (-1)]) (rest := []) ⟨hx, hb, hml, hown, hts⟩ (c_X11_refuse l dC dI aC H.size h0 xp xtp xn xt xk xl xc xo xto xr xch ts ik st (-1) 1 rf (by decide) (by decide) (by decide) (by unfold vp_in; decide)) ⟨(callB_of 1 hts (gG kw_276) rfl rfl rfl (hts _ (gw kw_1 rfl)) (hts _ (gw kw_273 rfl)) hd_X11_refuse ⟨Nat.le_of_ble_eq_true rfl, Nat.le_of_ble_eq_true rfl⟩), (hts _ (gw kw_275 rfl)), (hts _ (gw ks_0 rfl))⟩ ⟨fb_std, va_recv (q := (RX11, TX11, 14)) hK hPc (ci := 11) (q0 := 0) rfl rfl, pre_std hPc hK hDc hN⟩ rfl rfl hl.1 rfl (lv_room (Nat.le_of_ble_eq_true rfl)) dX11_league_55 ⟨Nat.le_of_ble_eq_true rfl, Nat.le_of_ble_eq_true rfl⟩) hS (fun q _ h => hFc q h) hFc (fun x_32 u9 t9 H1 locs ht hvm hw_32 hB hz1 hk1 hS => ?_)
        obtain ⟨u_33, rfl⟩ : ∃ z, z = u9 := ⟨_, rfl⟩
        obtain ⟨hP1, hK1, hD1⟩ := hB
        rw [ht] at hP1
        clear hK1
        try dsimp only at hw_32
        have hpd9 : PDx (dC, dI) classes A H1 (wp [oX9 xp po pp ps pa pe pb xn pk pu pw pq pt un fw, cI aC ek 8 kf, cI aC ef 8 ff, cI aC ew 8 wf, cI aC es 5 stf, cA aC po 8 fo, cA aC pp 8 fp, cA aC ps 8 fs, cK aC pk 7 fk, cO k0 0 [], cO k1 1 [], cO k2 3 [], cO k3 5 [], cO k4 6 [], cO k5 10 [], cO k6 8 [], cI aC pa 8 yf, cI aC pe 8 ef0, cI aC pb 8 bf, cI aC pu 7 uf, cI aC pw 7 vf, cI aC pq 128 qf, cI aC pt 128 tf, oX4 xn ek ef ew ep es (nI n) (nI sn) dn, oX11 h0 xp xtp xn xt xk xl xc xo xto xr xch ts ik st, cI aC xr 7 u_33] (va_pl L (plE aC g))) := jn_Q (wr := [oX9 xp po pp ps pa pe pb xn pk pu pw pq pt un fw, cI aC ek 8 kf, cI aC ef 8 ff, cI aC ew 8 wf, cI aC es 5 stf, cA aC po 8 fo, cA aC pp 8 fp, cA aC ps 8 fs, cK aC pk 7 fk, cO k0 0 [], cO k1 1 [], cO k2 3 [], cO k3 5 [], cO k4 6 [], cO k5 10 [], cO k6 8 [], cI aC pa 8 yf, cI aC pe 8 ef0, cI aC pb 8 bf, cI aC pu 7 uf, cI aC pw 7 vf, cI aC pq 128 qf, cI aC pt 128 tf, oX4 xn ek ef ew ep es (nI n) (nI sn) dn]) hFc hk1 hP1 hD1 hP hD [0, 24] [1, 2, 3, 4, 5, 6, 7, 8, 9, 10, 11, 12, 13, 14, 15, 16, 17, 18, 19, 20, 21, 22, 23, 25] rfl rfl (by decide) (by decide)
        have hP := hpd9.1
        have hD := hpd9.2
        clear hpd9
        generalize H1 = H at hP hS ⊢
        clear hPc hDc hFc hz1 hk1 hP1 hD1 ht hvm
        obtain ⟨hv9, -⟩ := hw_32
        have hpd9 := pd_P (cx := [oX11 h0 xp xtp xn xt xk xl xc xo xto xr xch ts ik st, oX9 xp po pp ps pa pe pb xn pk pu pw pq pt un fw, oX4 xn ek ef ew ep es (nI n) (nI sn) dn, cI aC ek 8 kf, cI aC ef 8 ff, cI aC ew 8 wf, cI aC es 5 stf, cA aC po 8 fo, cA aC pp 8 fp, cA aC ps 8 fs, cK aC pk 7 fk, cO k0 0 [], cO k1 1 [], cO k2 3 [], cO k3 5 [], cO k4 6 [], cO k5 10 [], cO k6 8 [], cI aC pa 8 yf, cI aC pe 8 ef0, cI aC pb 8 bf, cI aC pu 7 uf, cI aC pw 7 vf, cI aC pq 128 qf, cI aC pt 128 tf, cI aC xr 7 u_33]) hP hD [24, 0, 23, 1, 2, 3, 4, 5, 6, 7, 8, 9, 10, 11, 12, 13, 14, 15, 16, 17, 18, 19, 20, 21, 22, 25] (by decide) rfl
        have hP9 := hpd9.1
        have hD9 := hpd9.2
        refine W.widen (k := 0) (n := 0) (by omega) (by omega) ?_
        exact W.iret (v := x_32) hx hb hr (fun t ht hW => ⟨⟨x_32, (un, fw, uf, vf, qf, tf, bf, yf, ef0, g, st, u_33), rfl, ⟨hst, fun a _ => rfl, by rw [hv9]; exact LGR_m hov (fun q => c_12 (by rw [hbc x9 hx9 hxe9]; exact nI_le (a := 2) (by have h9 := q.2; rw [hxe9, LGN_n hx9] at h9; exact h9) (by omega)))⟩, by rw [ht]; exact hP9, va_K.moved hW.alike hK, hD9⟩, hS.F ht⟩) hS.2.2 dX11_league_58
  · refine lv_aload_n hx hb dX11_league_10 rfl (lv_at hl 0 rfl) ?_
    refine lv_bipush (v := -3) hx hb dX11_league_11 (by decide) ?_
    have hpd9 := pdf_N (cx := [oX11 h0 xp xtp xn xt xk xl xc xo xto xr xch ts ik st, cI aC xr 7 rf]) hP hD hS hA [0, 24] (by decide) rfl
    have hPc := hpd9.1
    have hDc := hpd9.2.1
    have hFc := hpd9.2.2
    clear hpd9
    refine va_calli (va_runV (As := [Value.int (-3)]) (rest := []) ⟨hx, hb, hml, hown, hts⟩ (c_X11_refuse l dC dI aC H.size h0 xp xtp xn xt xk xl xc xo xto xr xch ts ik st (-3) 3 rf (by decide) (by decide) (by decide) (by unfold vp_in; decide)) ⟨(callB_of 1 hts (gG kw_276) rfl rfl rfl (hts _ (gw kw_1 rfl)) (hts _ (gw kw_273 rfl)) hd_X11_refuse ⟨Nat.le_of_ble_eq_true rfl, Nat.le_of_ble_eq_true rfl⟩), (hts _ (gw kw_275 rfl)), (hts _ (gw ks_0 rfl))⟩ ⟨fb_std, va_recv (q := (RX11, TX11, 14)) hK hPc (ci := 11) (q0 := 0) rfl rfl, pre_std hPc hK hDc hN⟩ rfl rfl hl.1 rfl (lv_room (Nat.le_of_ble_eq_true rfl)) dX11_league_13 ⟨Nat.le_of_ble_eq_true rfl, Nat.le_of_ble_eq_true rfl⟩) hS (fun q _ h => hFc q h) hFc (fun x_34 u9 t9 H1 locs ht hvm hw_34 hB hz1 hk1 hS => ?_)
    obtain ⟨u_35, rfl⟩ : ∃ z, z = u9 := ⟨_, rfl⟩
    obtain ⟨hP1, hK1, hD1⟩ := hB
    rw [ht] at hP1
    clear hK1
    try dsimp only at hw_34
    have hpd9 : PDx (dC, dI) classes A H1 (wp [oX9 xp po pp ps pa pe pb xn pk pu pw pq pt un fw, cI aC ek 8 kf, cI aC ef 8 ff, cI aC ew 8 wf, cI aC es 5 stf, cA aC po 8 fo, cA aC pp 8 fp, cA aC ps 8 fs, cK aC pk 7 fk, cO k0 0 [], cO k1 1 [], cO k2 3 [], cO k3 5 [], cO k4 6 [], cO k5 10 [], cO k6 8 [], cI aC pa 8 yf, cI aC pe 8 ef0, cI aC pb 8 bf, cI aC pu 7 uf, cI aC pw 7 vf, cI aC pq 128 qf, cI aC pt 128 tf, oX4 xn ek ef ew ep es (nI n) (nI sn) dn, oX11 h0 xp xtp xn xt xk xl xc xo xto xr xch ts ik st, cI aC xr 7 u_35] (va_pl L (plE aC g))) := jn_Q (wr := [oX9 xp po pp ps pa pe pb xn pk pu pw pq pt un fw, cI aC ek 8 kf, cI aC ef 8 ff, cI aC ew 8 wf, cI aC es 5 stf, cA aC po 8 fo, cA aC pp 8 fp, cA aC ps 8 fs, cK aC pk 7 fk, cO k0 0 [], cO k1 1 [], cO k2 3 [], cO k3 5 [], cO k4 6 [], cO k5 10 [], cO k6 8 [], cI aC pa 8 yf, cI aC pe 8 ef0, cI aC pb 8 bf, cI aC pu 7 uf, cI aC pw 7 vf, cI aC pq 128 qf, cI aC pt 128 tf, oX4 xn ek ef ew ep es (nI n) (nI sn) dn]) hFc hk1 hP1 hD1 hP hD [0, 24] [1, 2, 3, 4, 5, 6, 7, 8, 9, 10, 11, 12, 13, 14, 15, 16, 17, 18, 19, 20, 21, 22, 23, 25] rfl rfl (by decide) (by decide)
    have hP := hpd9.1
    have hD := hpd9.2
    clear hpd9
    generalize H1 = H at hP hS ⊢
    clear hPc hDc hFc hz1 hk1 hP1 hD1 ht hvm
    obtain ⟨hv9, -⟩ := hw_34
    have hpd9 := pd_P (cx := [oX11 h0 xp xtp xn xt xk xl xc xo xto xr xch ts ik st, oX9 xp po pp ps pa pe pb xn pk pu pw pq pt un fw, oX4 xn ek ef ew ep es (nI n) (nI sn) dn, cI aC ek 8 kf, cI aC ef 8 ff, cI aC ew 8 wf, cI aC es 5 stf, cA aC po 8 fo, cA aC pp 8 fp, cA aC ps 8 fs, cK aC pk 7 fk, cO k0 0 [], cO k1 1 [], cO k2 3 [], cO k3 5 [], cO k4 6 [], cO k5 10 [], cO k6 8 [], cI aC pa 8 yf, cI aC pe 8 ef0, cI aC pb 8 bf, cI aC pu 7 uf, cI aC pw 7 vf, cI aC pq 128 qf, cI aC pt 128 tf, cI aC xr 7 u_35]) hP hD [24, 0, 23, 1, 2, 3, 4, 5, 6, 7, 8, 9, 10, 11, 12, 13, 14, 15, 16, 17, 18, 19, 20, 21, 22, 25] (by decide) rfl
    have hP9 := hpd9.1
    have hD9 := hpd9.2
    refine W.widen (k := 0) (n := 0) (by omega) (by omega) ?_
    exact W.iret (v := x_34) hx hb hr (fun t ht hW => ⟨⟨x_34, (un, fw, uf, vf, qf, tf, bf, yf, ef0, g, st, u_35), rfl, ⟨hst, fun a _ => rfl, by rw [hv9]; exact LGR_o (ovx_y hn8 hev.2.2.2.2 hz_4 c_2)⟩, by rw [ht]; exact hP9, va_K.moved hW.alike hK, hD9⟩, hS.F ht⟩) hS.2.2 dX11_league_16

end

section
/-! 70.shm -/
/-! shaky hands: chances by weight -/
def lI (a : Nat) : Int64 := Int64.ofNat a
theorem lI_add (a b : Nat) : lI a + lI b = lI (a + b) := (Int64.ofNat_add a b).symm
theorem lI_mul (a b : Nat) : lI a * lI b = lI (a * b) := (Int64.ofNat_mul a b).symm
theorem lI_toInt {a : Nat} (h : a < 2 ^ 63) : (lI a).toInt = a := Int64.toInt_ofNat_of_lt h
theorem lI_eq {a b : Nat} (ha : a < 2 ^ 63) (hb : b < 2 ^ 63) : lI a = lI b ↔ a = b := by
  rw [← Int64.toInt_inj, lI_toInt ha, lI_toInt hb]
  exact Int.ofNat_inj
theorem lI_sub {a b : Nat} (h : b ≤ a) : lI a - lI b = lI (a - b) := by
  have : lI a = lI (a - b) + lI b := by rw [lI_add, Nat.sub_add_cancel h]
  rw [this, Int64.add_sub_cancel]
theorem lI_div {a d : Nat} (ha : a < 2 ^ 63) (h0 : 0 < d) (hd : d < 2 ^ 63) : lI a / lI d = lI (a / d) := by
  have h1 : a / d < 2 ^ 63 := Nat.lt_of_le_of_lt (Nat.div_le_self _ _) ha
  have hne : lI a ≠ Int64.minValue := by
    intro q
    have h3 := congrArg Int64.toInt q
    rw [lI_toInt ha] at h3
    have h2 : (Int64.minValue).toInt = -9223372036854775808 := by decide
    omega
  apply Int64.toInt_inj.mp
  have h4 := Int64.toInt_div_of_ne_left (a := lI a) (b := lI d) hne
  rw [h4, lI_toInt ha, lI_toInt hd, lI_toInt h1]
  exact Int.ofNat_tdiv a d
theorem lI_rem {a d : Nat} (ha : a < 2 ^ 63) (h0 : 0 < d) (hd : d < 2 ^ 63) : lI a - lI a / lI d * lI d = lI (a % d) := by
  rw [lI_div ha h0 hd, lI_mul, lI_sub (Nat.div_mul_le_self a d)]
  congr 1
  have := Nat.div_add_mod a d
  rw [Nat.mul_comm] at this
  omega
theorem lI_i {a : Nat} (h : a < 2 ^ 31) : (nI a).toInt64 = lI a := by
  apply Int64.toInt_inj.mp
  rw [Int32.toInt_toInt64, nI_toInt h, lI_toInt (by omega)]
theorem lc_0 {x y : Int64} (h : lg_cmp x y = 0) : x = y := by
  unfold lg_cmp at h
  by_cases q : x > y
  · rw [if_pos q] at h; exact absurd h (by decide)
  · rw [if_neg q] at h
    by_cases q2 : x = y
    · exact q2
    · rw [if_neg q2] at h; exact absurd h (by decide)
theorem lI_lt {a b : Nat} (ha : a < 2 ^ 63) (hb : b < 2 ^ 63) : lI a < lI b ↔ a < b := by
  rw [Int64.lt_iff_toInt_lt, lI_toInt ha, lI_toInt hb]
  exact Int.ofNat_lt
theorem lc_pos {a : Nat} (h0 : 0 < a) (ha : a < 2 ^ 63) : 0 < lg_cmp (lI a) 0 := by
  have h1 : lI a > (0 : Int64) := (lI_lt (a := 0) (b := a) (by omega) ha).mpr h0
  unfold lg_cmp
  rw [if_pos h1]
  decide
def yj (Y : Int32) (t j : Nat) : Nat := if bt Y j = true then 100 - t else t
theorem yj_le {Y : Int32} {t j : Nat} (ht : t ≤ 100) : yj Y t j ≤ 100 := by
  unfold yj
  split <;> omega
/-- one voter more: chances by weight -/
def AV (D : Nat → Nat) (w0 y w : Nat) : Nat := D w * (100 - y) + (if w0 ≤ w then D (w - w0) else 0) * y
def DC (W : Nat → Nat) (Y : Int32) (t i : Nat) : Nat → Nat → Nat
  | 0 => fun w => if w = W i then 1 else 0
  | k + 1 => AV (DC W Y t i k) (W (i + 1 + k)) (yj Y t (i + 1 + k))
def GC (W : Nat → Nat) (Y : Int32) (t i : Nat) : Nat → (Nat → Nat) → Nat
  | 0, F => F (W i)
  | k + 1, F => GC W Y t i k (fun w => (100 - yj Y t (i + 1 + k)) * F w + yj Y t (i + 1 + k) * F (w + W (i + 1 + k)))
theorem sumr_single {f : Nat → Nat} {a N : Nat} (ha : a < N) (h : ∀ w, w < N → w ≠ a → f w = 0) : sumr f 0 N = f a := by
  have h1 := sumr_one (f := f) (g := fun _ => 0) (a := 0) (t := a) (k := N) (by omega) (by omega) (fun j _ h2 h3 => h j (by omega) h3)
  have h2 : sumr (fun _ => 0) 0 N = 0 := sumr_zero (fun _ _ _ => rfl)
  rw [h2] at h1
  omega
theorem sumr_up {f : Nat → Nat} {a k : Nat} : sumr f (0 + a) k = sumr (fun u => f (a + u)) 0 k := (congrArg (fun z => sumr f z k) (show 0 + a = a + 0 by omega)).trans (sumr_sh (f := f) (a := a) (b := 0) (k := k)).symm
theorem sumr_shift {f : Nat → Nat} {d N : Nat} (hd : d ≤ N) (h : ∀ w, N ≤ w + d → w < N → f w = 0) : sumr (fun w => if d ≤ w then f (w - d) else 0) 0 N = sumr f 0 N := by
  have e1 : N = d + (N - d) := by omega
  have e2 : N = (N - d) + d := by omega
  have h1 : sumr (fun w => if d ≤ w then f (w - d) else 0) 0 N = sumr (fun w => if d ≤ w then f (w - d) else 0) 0 (d + (N - d)) := congrArg _ e1
  have h2 : sumr f 0 N = sumr f 0 ((N - d) + d) := congrArg _ e2
  have g1 : sumr (fun w => if d ≤ w then f (w - d) else 0) 0 d = 0 := sumr_zero (fun j _ q2 => by
    show (if d ≤ j then f (j - d) else 0) = 0
    rw [if_neg (by omega)])
  have g2 : sumr (fun w => if d ≤ w then f (w - d) else 0) (0 + d) (N - d) = sumr f 0 (N - d) := by
    rw [sumr_up (a := d)]
    exact sumr_congr (fun j _ _ => by
      show (if d ≤ d + j then f (d + j - d) else 0) = f j
      rw [if_pos (by omega), show d + j - d = j by omega])
  have g3 : sumr f (0 + (N - d)) d = 0 := sumr_zero (fun j q1 q2 => h j (by omega) (by omega))
  rw [h1, h2, sumr_split, sumr_split, g1, g2, g3]
  omega
theorem DC_0 {W : Nat → Nat} {Y : Int32} {t i : Nat} : ∀ k, (∀ j, j ≤ i + k → W j ≤ 9) → ∀ w, 9 * (k + 1) < w → DC W Y t i k w = 0
  | 0, h, w, hw => by
    have := h i (by omega)
    show (if w = W i then 1 else 0) = 0
    rw [if_neg (by omega)]
  | k + 1, h, w, hw => by
    have h9 := h (i + 1 + k) (by omega)
    have ih := DC_0 (W := W) (Y := Y) (t := t) (i := i) k (fun j hj => h j (by omega))
    show DC W Y t i k w * _ + (if W (i + 1 + k) ≤ w then DC W Y t i k (w - W (i + 1 + k)) else 0) * _ = 0
    rw [ih w (by omega), ih (w - W (i + 1 + k)) (by omega), Nat.zero_mul, ite_self, Nat.zero_mul]
theorem DC_GC {W : Nat → Nat} {Y : Int32} {t i : Nat} : ∀ k, k ≤ 7 → (∀ j, j ≤ i + k → W j ≤ 9) → ∀ F, sumr (fun w => DC W Y t i k w * F w) 0 73 = GC W Y t i k F
  | 0, _, h, F => by
    have h9 := h i (by omega)
    rw [sumr_single (a := W i) (by omega) (fun w _ hw => by
      show (if w = W i then 1 else 0) * F w = 0
      rw [if_neg hw, Nat.zero_mul])]
    show (if W i = W i then 1 else 0) * F (W i) = F (W i)
    rw [if_pos rfl, Nat.one_mul]
  | k + 1, hk, h, F => by
    have h9 := h (i + 1 + k) (by omega)
    have ih := DC_GC (W := W) (Y := Y) (t := t) (i := i) k (by omega) (fun j hj => h j (by omega))
    show _ = GC W Y t i k _
    rw [← ih]
    have e1 : sumr (fun w => DC W Y t i (k + 1) w * F w) 0 73 = sumr (fun w => DC W Y t i k w * ((100 - yj Y t (i + 1 + k)) * F w) + (if W (i + 1 + k) ≤ w then DC W Y t i k (w - W (i + 1 + k)) * (yj Y t (i + 1 + k) * F (w - W (i + 1 + k) + W (i + 1 + k))) else 0)) 0 73 := sumr_congr (fun w _ _ => by
      show (DC W Y t i k w * (100 - yj Y t (i + 1 + k)) + (if W (i + 1 + k) ≤ w then DC W Y t i k (w - W (i + 1 + k)) else 0) * yj Y t (i + 1 + k)) * F w = _
      by_cases q : W (i + 1 + k) ≤ w
      · rw [if_pos q, if_pos q, Nat.add_mul, Nat.mul_assoc, Nat.mul_assoc, Nat.sub_add_cancel q]
      · rw [if_neg q, if_neg q]
        simp only [Nat.zero_mul, Nat.add_zero, Nat.mul_assoc])
    rw [e1, ← sumr_add, sumr_shift (f := fun w => DC W Y t i k w * (yj Y t (i + 1 + k) * F (w + W (i + 1 + k)))) (by omega) (fun w q1 _ => by rw [DC_0 k (fun j hj => h j (by omega)) w (by omega), Nat.zero_mul]), sumr_add]
    exact sumr_congr (fun w _ _ => (Nat.mul_add _ _ _).symm)
theorem GC_le {W : Nat → Nat} {Y : Int32} {t i : Nat} (ht : t ≤ 100) : ∀ k F c, (∀ w, F w ≤ c) → GC W Y t i k F ≤ c * 100 ^ k
  | 0, F, c, h => by
    show F (W i) ≤ c * 1
    rw [Nat.mul_one]
    exact h _
  | k + 1, F, c, h => by
    have hy := yj_le (Y := Y) (t := t) (j := i + 1 + k) ht
    have ih := GC_le (W := W) (Y := Y) (t := t) (i := i) ht k (fun w => (100 - yj Y t (i + 1 + k)) * F w + yj Y t (i + 1 + k) * F (w + W (i + 1 + k))) (c * 100) (fun w => by
      have h1 := Nat.mul_le_mul_left (100 - yj Y t (i + 1 + k)) (h w)
      have h2 := Nat.mul_le_mul_left (yj Y t (i + 1 + k)) (h (w + W (i + 1 + k)))
      have h3 : (100 - yj Y t (i + 1 + k)) * c + yj Y t (i + 1 + k) * c = c * 100 := by rw [← Nat.add_mul, show 100 - yj Y t (i + 1 + k) + yj Y t (i + 1 + k) = 100 by omega, Nat.mul_comm]
      show (100 - yj Y t (i + 1 + k)) * F w + yj Y t (i + 1 + k) * F (w + W (i + 1 + k)) ≤ c * 100
      omega)
    show GC W Y t i k _ ≤ c * 100 ^ (k + 1)
    rw [Nat.pow_succ, Nat.mul_comm (100 ^ k) 100, ← Nat.mul_assoc]
    exact ih
/-- the reference: a set of those whose vote is turned -/
def PI_ (S : Nat → Bool) (t i : Nat) : Nat → Nat
  | 0 => 1
  | k + 1 => PI_ S t i k * (if S (i + 1 + k) = true then t else 100 - t)
def WX (W : Nat → Nat) (Y : Int32) (S : Nat → Bool) (i k : Nat) : Nat := W i + sumr (fun j => if (bt Y j ^^ S j) = true then W j else 0) (i + 1) k
theorem WX_s {W : Nat → Nat} {Y : Int32} {S : Nat → Bool} {i k : Nat} : WX W Y S i (k + 1) = WX W Y S i k + (if (bt Y (i + 1 + k) ^^ S (i + 1 + k)) = true then W (i + 1 + k) else 0) := (Nat.add_assoc _ _ _).symm
theorem PI_c {S T : Nat → Bool} {t i : Nat} : ∀ k, (∀ j, j < i + 1 + k → S j = T j) → PI_ S t i k = PI_ T t i k
  | 0, _ => rfl
  | k + 1, h => by
    show PI_ S t i k * (if S (i + 1 + k) = true then t else 100 - t) = PI_ T t i k * (if T (i + 1 + k) = true then t else 100 - t)
    rw [PI_c k (fun j hj => h j (by omega)), h (i + 1 + k) (by omega)]
theorem WX_c {W : Nat → Nat} {Y : Int32} {S T : Nat → Bool} {i k : Nat} (h : ∀ j, j < i + 1 + k → S j = T j) : WX W Y S i k = WX W Y T i k := by
  unfold WX
  congr 1
  exact sumr_congr (fun j _ h2 => by rw [h j h2])
theorem SC_GC {W : Nat → Nat} {Y : Int32} {t i : Nat} (ht : t ≤ 100) : ∀ k F, sumr (fun s => if s % 2 ^ (i + 1) = 0 then PI_ s.testBit t i k * F (WX W Y s.testBit i k) else 0) 0 (2 ^ (i + 1 + k)) = GC W Y t i k F
  | 0, F => by
    have hp : 0 < 2 ^ (i + 1) := Nat.two_pow_pos (i + 1)
    rw [Nat.add_zero, sumr_single (a := 0) hp (fun s hs h0 => by rw [Nat.mod_eq_of_lt hs, if_neg h0])]
    rw [Nat.zero_mod, if_pos rfl]
    show 1 * F (W i + 0) = F (W i)
    rw [Nat.one_mul, Nat.add_zero]
  | k + 1, F => by
    have ih := SC_GC (W := W) (Y := Y) (t := t) (i := i) ht k
    show _ = GC W Y t i k _
    have hp : 2 ^ (i + 1 + (k + 1)) = 2 ^ (i + 1 + k) + 2 ^ (i + 1 + k) := by rw [show i + 1 + (k + 1) = (i + 1 + k) + 1 by omega, Nat.pow_succ, Nat.mul_two]
    rw [← ih, hp, sumr_split, sumr_up (a := 2 ^ (i + 1 + k)), sumr_add]
    refine sumr_congr (fun s _ hs => ?_)
    rw [Nat.zero_add] at hs
    have hm : (2 ^ (i + 1 + k) + s) % 2 ^ (i + 1) = s % 2 ^ (i + 1) := by
      rw [show 2 ^ (i + 1 + k) = 2 ^ (i + 1) * 2 ^ k from Nat.pow_add 2 (i + 1) k, Nat.add_comm, Nat.add_mul_mod_self_left]
    have b0 : s.testBit (i + 1 + k) = false := Nat.testBit_lt_two_pow hs
    have b1 : (2 ^ (i + 1 + k) + s).testBit (i + 1 + k) = true := by rw [Nat.testBit_two_pow_add_eq, b0]; rfl
    have bl : ∀ j, j < i + 1 + k → (2 ^ (i + 1 + k) + s).testBit j = s.testBit j := fun j hj => Nat.testBit_two_pow_add_gt hj s
    rw [hm]
    by_cases e : s % 2 ^ (i + 1) = 0
    · rw [if_pos e, if_pos e, if_pos e]
      show PI_ s.testBit t i k * (if s.testBit (i + 1 + k) = true then t else 100 - t) * F (WX W Y s.testBit i (k + 1)) + PI_ (2 ^ (i + 1 + k) + s).testBit t i k * (if (2 ^ (i + 1 + k) + s).testBit (i + 1 + k) = true then t else 100 - t) * F (WX W Y (2 ^ (i + 1 + k) + s).testBit i (k + 1)) = PI_ s.testBit t i k * ((100 - yj Y t (i + 1 + k)) * F (WX W Y s.testBit i k) + yj Y t (i + 1 + k) * F (WX W Y s.testBit i k + W (i + 1 + k)))
      rw [WX_s, WX_s, WX_c bl, PI_c k bl, b0, b1, if_neg (by decide : ¬ false = true), if_pos (rfl : true = true), Nat.mul_assoc, Nat.mul_assoc, ← Nat.mul_add]
      congr 1
      unfold yj
      by_cases hy : bt Y (i + 1 + k) = true
      · rw [hy, if_pos (rfl : true = true), if_pos (by decide : (true ^^ false) = true), if_neg (by decide : ¬ (true ^^ true) = true), Nat.add_zero (WX W Y s.testBit i k), show 100 - (100 - t) = t by omega, Nat.add_comm]
      · rw [Bool.eq_false_iff.mpr hy, if_neg (by decide : ¬ false = true), if_neg (by decide : ¬ (false ^^ false) = true), if_pos (by decide : (false ^^ true) = true), Nat.add_zero (WX W Y s.testBit i k)]
    · rw [if_neg e, if_neg e, if_neg e]
theorem bnd_mod {n i s : Nat} (hs : s < 2 ^ n) : BND n i s ↔ s % 2 ^ (i + 1) = 0 := by
  constructor
  · intro h
    apply Nat.eq_of_testBit_eq
    intro q
    rw [Nat.testBit_mod_two_pow, Nat.zero_testBit]
    cases hb : s.testBit q with
    | false => exact Bool.and_false _
    | true =>
      have := h q hb
      rw [decide_eq_false (by omega)]
      rfl
  · intro h q hq
    refine ⟨Nat.lt_of_not_le fun z => ?_, Nat.lt_of_not_le fun z => ?_⟩
    · have h1 : (s % 2 ^ (i + 1)).testBit q = true := by
        rw [Nat.testBit_mod_two_pow, hq, decide_eq_true (by omega)]
        rfl
      rw [h, Nat.zero_testBit] at h1
      exact absurd h1 (by decide)
    · rw [Nat.testBit_lt_two_pow (Nat.lt_of_lt_of_le hs (Nat.pow_le_pow_right (by omega) z))] at hq
      exact absurd hq (by decide)
/-- above the line -/
def UPN (n : Nat) (W : Nat → Nat) (law : Int32) (Y : Int32) (t i : Nat) : Nat := GC W Y t i (n - 1 - i) (fun w => if nd law (sumr W i (n - i)) ≤ w then 1 else 0)
theorem UPN_x {n : Nat} {W : Nat → Nat} {law Y : Int32} {t i : Nat} (hi : i < n) (hn : n ≤ 8) (hW : ∀ j, j < n → W j ≤ 9) : sumr (fun w => if nd law (sumr W i (n - i)) ≤ w then DC W Y t i (n - 1 - i) w else 0) 0 73 = UPN n W law Y t i := by
  unfold UPN
  rw [← DC_GC (n - 1 - i) (by omega) (fun j hj => hW j (by omega))]
  exact sumr_congr (fun w _ _ => by
    by_cases q : nd law (sumr W i (n - i)) ≤ w
    · rw [if_pos q, if_pos q, Nat.mul_one]
    · rw [if_neg q, if_neg q, Nat.mul_zero])
def FSH (n : Nat) (W : Nat → Nat) (law Y : Int32) (t i s : Nat) : Nat := if s % 2 ^ (i + 1) = 0 ∧ nd law (sumr W i (n - i)) ≤ WX W Y s.testBit i (n - 1 - i) then PI_ s.testBit t i (n - 1 - i) else 0
theorem UPN_m {n : Nat} {W : Nat → Nat} {law Y : Int32} {t i : Nat} (hi : i < n) (ht : t ≤ 100) : sumr (FSH n W law Y t i) 0 (2 ^ n) = UPN n W law Y t i := by
  unfold UPN
  rw [← SC_GC ht (n - 1 - i), show i + 1 + (n - 1 - i) = n by omega]
  exact sumr_congr (fun s _ _ => by
    unfold FSH
    by_cases q1 : s % 2 ^ (i + 1) = 0
    · by_cases q2 : nd law (sumr W i (n - i)) ≤ WX W Y s.testBit i (n - 1 - i)
      · rw [if_pos ⟨q1, q2⟩, if_pos q1, if_pos q2, Nat.mul_one]
      · rw [if_neg (fun z => q2 z.2), if_pos q1, if_neg q2, Nat.mul_zero]
    · rw [if_neg (fun z => q1 z.1), if_neg q1])
theorem UPN_le {n : Nat} {W : Nat → Nat} {law Y : Int32} {t i : Nat} (ht : t ≤ 100) : UPN n W law Y t i ≤ 100 ^ (n - 1 - i) := by
  have := GC_le (W := W) (Y := Y) (i := i) ht (n - 1 - i) (fun w => if nd law (sumr W i (n - i)) ≤ w then 1 else 0) 1 (fun w => by
    show (if nd law (sumr W i (n - i)) ≤ w then 1 else 0) ≤ 1
    split <;> omega)
  unfold UPN
  omega
theorem sh_yw {n i s : Nat} {W : Nat → Nat} {Y x : Int32} (hi : i < n) (hn : n ≤ 8) (hs : s < 2 ^ n) (hB : BND n i s) (hY : ∀ q, q < n → q ≤ i → bt Y q = decide (q = i)) (hx : x = Y ^^^ nI s) : yw W x 0 n = WX W Y s.testBit i (n - 1 - i) := by
  have h8 := p28 hn
  have hb : ∀ q, q < n → bt x q = (bt Y q ^^ s.testBit q) := fun q hq => by rw [hx, b_xor, b_get (by omega) (by omega)]
  have h0 : ∀ q, q ≤ i → s.testBit q = false := fun q hq => Bool.eq_false_iff.mpr (fun z => by have := hB q z; omega)
  rw [yw_from (Nat.le_of_lt hi) (fun q hq => by rw [hb q (by omega), hY q (by omega) (by omega), h0 q (by omega), decide_eq_false (by omega)]; rfl)]
  unfold yw WX
  rw [show n - i = (n - 1 - i) + 1 by omega, sumr_cons, hb i hi, hY i hi (Nat.le_refl i), h0 i (Nat.le_refl i), decide_eq_true (rfl : i = i), if_pos (by decide : (true ^^ false) = true)]
  congr 1
  exact sumr_congr (fun q h1 h2 => by rw [hb q (by omega)])
/-- Euclid's steps -/
theorem eu_s {a b x y k : Nat} (hy : 0 < y) (hk : k = 0 ∨ y ≤ x) (h : x * y * 2 ^ k ≤ 2 * (a * b)) (h0 : k = 0 → x * y = a * b) : y * (x % y) * 2 ^ (k + 1) ≤ 2 * (a * b) := by
  have hm := Nat.mod_lt x hy
  by_cases e : y ≤ x
  · have h1 : 2 * (x % y) ≤ x := by
      have h2 := Nat.div_add_mod x y
      have h3 : y ≤ y * (x / y) := Nat.le_mul_of_pos_right y (Nat.div_pos e hy)
      omega
    have h4 : y * (x % y) * 2 ≤ x * y := by
      rw [Nat.mul_assoc, Nat.mul_comm (x % y) 2, Nat.mul_comm x y]
      exact Nat.mul_le_mul_left y h1
    rw [Nat.pow_succ, Nat.mul_comm (2 ^ k) 2, ← Nat.mul_assoc]
    exact Nat.le_trans (Nat.mul_le_mul_right (2 ^ k) h4) h
  · have hk0 : k = 0 := hk.resolve_right e
    subst hk0
    rw [Nat.mod_eq_of_lt (by omega), Nat.mul_comm y x, h0 rfl, Nat.mul_comm]
    exact Nat.le_refl _
theorem eu_e {a b x y : Nat} (hx : 0 < x) (hy : 0 < y) (hab : a * b < 2 ^ 99) (h : x * y * 2 ^ 100 ≤ 2 * (a * b)) : False := by
  have h1 : 1 ≤ x * y := Nat.mul_pos hx hy
  have h2 := Nat.mul_le_mul_right (2 ^ 100) h1
  omega
/-- shaken: the answer -/
def SHV (a1 : Int32) (u d : Nat) : Int64 := lI ((if a1 = 0 then u else d) / Nat.gcd u d)
noncomputable def rShk (n sn : Nat) (dn : Int32) (K F W S5 : Nat → Nat) (a1 : Int32) : Int64 := if a1 < 0 ∨ 1 < a1 then 4000000000000000002 else if OVR n dn then 4000000000000000003 else SHV a1 (UPN n W (nI (S5 1)) (zY (PO n K F W S5) sn) (S5 4) sn) (100 ^ (n - 1 - sn))
theorem PI_le {S : Nat → Bool} {t i : Nat} (ht : t ≤ 100) : ∀ k, PI_ S t i k ≤ 100 ^ k
  | 0 => Nat.le_refl 1
  | k + 1 => by
    show PI_ S t i k * (if S (i + 1 + k) = true then t else 100 - t) ≤ 100 ^ (k + 1)
    rw [Nat.pow_succ]
    exact Nat.mul_le_mul (PI_le ht k) (by split <;> omega)
theorem isq_y {v r : Int32} (h : r = if v < 0 then 0 else if 1 < v then 0 else 1) (hr : ¬ r = 0) : ¬ (v < 0 ∨ 1 < v) := by
  rintro (q | q)
  · rw [if_pos q] at h; exact hr h
  · by_cases q2 : v < 0
    · rw [if_pos q2] at h; exact hr h
    · rw [if_neg q2, if_pos q] at h; exact hr h
theorem isq_n {v r : Int32} (h : r = if v < 0 then 0 else if 1 < v then 0 else 1) (hr : r = 0) : v < 0 ∨ 1 < v := by
  by_cases q : v < 0
  · exact Or.inl q
  · by_cases q2 : 1 < v
    · exact Or.inr q2
    · rw [if_neg q, if_neg q2, hr] at h
      exact absurd h (by decide)

end

