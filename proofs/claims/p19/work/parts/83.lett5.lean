theorem ch_n {q : Nat} (h : q < 65536) : ((nI q).toUInt32 % 65536).toInt32 = nI q := Value.int.inj (pk_charN h).1

set_option maxHeartbeats 1000000 in
set_option maxRecDepth 100000 in
/-- X7_tellOne -/
theorem c_X7_tellOne (l : Launch) (dC : Nat → ClassId) (dI : Nat → Nat → Nat) (aC : Nat → ClassId) (sz : Nat) (xl : Nat) (lsg : Nat) (lz : Nat) (Lt : Nat → Nat) (sg : Nat → Int32) (h1 : Nat) (ek : Nat) (ef : Nat) (ew : Nat) (ep : Nat) (es : Nat) (n : Nat) (sn : Nat) (dn : Int32) (K : Nat → Nat) (F : Nat → Nat) (W0 : Nat → Nat) (S5 : Nat → Nat) (kf : Nat → Int32) (ff : Nat → Int32) (wf : Nat → Int32) (stf : Nat → Int32) (ee : Nat) (hlt0 : LTR lz Lt sg) (hst : STM Lt (lst Lt ee) ee) (hee : ee < lz) (hsem : Lt ee = 59) (hrg : RGS Lt n dn ee) (hev : EVT Lt ee n sn dn K F W0 S5 kf ff wf stf) : Met l yX7_tellOne (wW yX7_tellOne cX7_tellOne 7 (none : Option FieldType)) ({ frames := 1, cells := 0, slots := 0, locals := 23 } : Room) (va_Pc [Value.ref xl, Value.ref h1, Value.int (nI (lst Lt ee)), Value.int (nI ee)] (fun U => U.heap.size = sz ∧ va_P (dC, dI) classes [oX7 xl (nI lz) lsg, cC aC lsg 64 sg, oX4 h1 ek ef ew ep es (nI (n + cm Lt ee)) (nI sn) dn, cI aC ek 8 kf, cI aC ef 8 ff, cI aC ew 8 wf, cI aC es 5 stf] U.heap ∧ va_K (dC, dI) classes (TY aC) U ∧ va_D (fun _ => True) [oX7 xl (nI lz) lsg, cC aC lsg 64 sg, oX4 h1 ek ef ew ep es (nI (n + cm Lt ee)) (nI sn) dn, cI aC ek 8 kf, cI aC ef 8 ff, cI aC ew 8 wf, cI aC es 5 stf] ∧ NX U)) (va_Qv (fun (u : (Nat → Int32) × (Nat → Int32) × (Nat → Int32) × (Nat → Int32)) => match u with | (kf2, ff2, wf2, stf2) => EVT Lt (ee + 1) n sn dn K F W0 S5 kf2 ff2 wf2 stf2) (fun (u : (Nat → Int32) × (Nat → Int32) × (Nat → Int32) × (Nat → Int32)) (t : State) => match u with | (kf2, ff2, wf2, stf2) => va_P (dC, dI) classes [oX7 xl (nI lz) lsg, cC aC lsg 64 sg, oX4 h1 ek ef ew ep es (nI (n + cm Lt (ee + 1))) (nI sn) dn, cI aC ek 8 kf2, cI aC ef 8 ff2, cI aC ew 8 wf2, cI aC es 5 stf2] t.heap ∧ va_K (dC, dI) classes (TY aC) t ∧ va_D (va_A [oX7 xl (nI lz) lsg, cC aC lsg 64 sg, oX4 h1 ek ef ew ep es (nI (n + cm Lt ee)) (nI sn) dn, cI aC ek 8 kf, cI aC ef 8 ff, cI aC ew 8 wf, cI aC es 5 stf] sz) [oX7 xl (nI lz) lsg, cC aC lsg 64 sg, oX4 h1 ek ef ew ep es (nI (n + cm Lt (ee + 1))) (nI sn) dn, cI aC ek 8 kf2, cI aC ef 8 ff2, cI aC ew 8 wf2, cI aC es 5 stf2]) (va_A [oX7 xl (nI lz) lsg, cC aC lsg 64 sg, oX4 h1 ek ef ew ep es (nI (n + cm Lt ee)) (nI sn) dn, cI aC ek 8 kf, cI aC ef 8 ff, cI aC ew 8 wf, cI aC es 5 stf] sz)) 0 0 (va_A [oX7 xl (nI lz) lsg, cC aC lsg 64 sg, oX4 h1 ek ef ew ep es (nI (n + cm Lt ee)) (nI sn) dn, cI aC ek 8 kf, cI aC ef 8 ff, cI aC ew 8 wf, cI aC es 5 stf] sz) := by
  refine Met.ofW (cc := cX7_tellOne) (maxL := 7) (ret := (none : Option FieldType)) (by decide) rfl ?_
  intro p e s m args below meth c s₁ B hml hv
  obtain ⟨rfl, hsz, hP, hK, hD0, hN⟩ := hv
  have hx := B.exec
  have hb := B.bytes
  have hr := B.returns
  have hts0 := atoms_spec (ws := (wW yX7_tellOne cX7_tellOne 7 (none : Option FieldType))) B.pre
  have hts : ∀ w9 ∈ lw_G, w9.before ([Value.ref xl, Value.ref h1, Value.int (nI (lst Lt ee)), Value.int (nI ee)] : List Value).toArray s = true := fun w9 h9 => hts0 w9 (List.mem_cons_of_mem _ h9)
  have hown : s.vm.findClass RX7 = some m.cls := findClass_of_methodNamed (x := yX7_tellOne) B.named
  have hlocks := B.notSynchronized
  subst hsz
  have hD := hD0.self (sz := s.heap.size)
  generalize hAe : va_A [oX7 xl (nI lz) lsg, cC aC lsg 64 sg, oX4 h1 ek ef ew ep es (nI (n + cm Lt ee)) (nI sn) dn, cI aC ek 8 kf, cI aC ef 8 ff, cI aC ew 8 wf, cI aC es 5 stf] s.heap.size = A at hD ⊢
  have hA : ∀ q : Nat, s.heap.size ≤ q → A q := fun q h => by rw [← hAe]; exact Or.inr h
  obtain ⟨H, hHe⟩ : ∃ H : Heap, H = s.heap := ⟨_, rfl⟩
  have hS : va_S A s.heap H [] := by rw [hHe]; exact va_S.rf
  have hP : va_P (dC, dI) classes [oX7 xl (nI lz) lsg, cC aC lsg 64 sg, oX4 h1 ek ef ew ep es (nI (n + cm Lt ee)) (nI sn) dn, cI aC ek 8 kf, cI aC ef 8 ff, cI aC ew 8 wf, cI aC es 5 stf] H := by rw [hHe]; exact hP
  have hl := lv_entry ([Value.ref xl, Value.ref h1, Value.int (nI (lst Lt ee)), Value.int (nI ee)]) (n := 7) (Nat.le_of_ble_eq_true rfl)
  rw [lg_entry_eq]
  generalize (lg_sl ([Value.ref xl, Value.ref h1, Value.int (nI (lst Lt ee)), Value.int (nI ee)]) ++ List.replicate (7 - (lg_sl ([Value.ref xl, Value.ref h1, Value.int (nI (lst Lt ee)), Value.int (nI ee)])).length) Slot.unset).toArray = ls at hl ⊢
  have hl : lv_has ls 7 [(0, Value.ref xl), (1, Value.ref h1), (2, Value.int (nI (lst Lt ee))), (3, Value.int (nI ee))] := hl
  rw [← hHe]
  have hz6 := hlt0.1
  have hL := hlt0.2
  have hse := (STM_k hst).2
  refine lv_aload_n hx hb dX7_tellOne_0 rfl (lv_at hl 0 rfl) ?_
  refine lv_iload_n hx hb dX7_tellOne_1 rfl (lv_at hl 2 rfl) ?_
  refine lv_iconst (v := 1) hx hb dX7_tellOne_2 (by decide) ?_
  refine lv_iadd hx hb dX7_tellOne_3 ?_
  refine lv_topi (fun x_1 e_1 => ?_)
  have h9 : x_1 = nI (lst Lt ee + 1) := by rw [e_1, nI_1]
  subst h9
  have hpd9 := pdf_N (cx := [oX7 xl (nI lz) lsg, cC aC lsg 64 sg]) hP hD hS hA [0, 1] (by decide) rfl
  have hPc := hpd9.1
  have hDc := hpd9.2.1
  have hFc := hpd9.2.2
  clear hpd9
  refine va_calli (va_runV (As := [Value.int (nI (lst Lt ee + 1))]) (rest := []) ⟨hx, hb, hml, hown, hts⟩ (c_X7_digit l dC dI aC H.size xl lsg lz Lt sg (lst Lt ee + 1) (hlt0) (by omega)) ⟨(callB_of 1 hts (gG kw_314) rfl rfl rfl (hts _ (gw kw_3 rfl)) (hts _ (gw kw_311 rfl)) hd_X7_digit ⟨Nat.le_of_ble_eq_true rfl, Nat.le_of_ble_eq_true rfl⟩), (hts _ (gw kw_313 rfl)), (hts _ (gw ks_4 rfl))⟩ ⟨fb_std, va_recv (q := (RX7, TX7, 2)) hK hPc (ci := 7) (q0 := 0) rfl rfl, pre_std hPc hK hDc hN⟩ rfl rfl hl.1 rfl (lv_room (Nat.le_of_ble_eq_true rfl)) dX7_tellOne_4 ⟨Nat.le_of_ble_eq_true rfl, Nat.le_of_ble_eq_true rfl⟩) hS (fun q _ h => hFc q h) hFc (fun x_2 u9 t9 H1 locs ht hvm hw_2 hB hz1 hk1 hS => ?_)
  obtain ⟨hP1, hK1, hD1⟩ := hB
  rw [ht] at hP1
  clear hK1
  try dsimp only at hw_2
  have hpd9 : PDx (dC, dI) classes A H1 [oX4 h1 ek ef ew ep es (nI (n + cm Lt ee)) (nI sn) dn, cI aC ek 8 kf, cI aC ef 8 ff, cI aC ew 8 wf, cI aC es 5 stf, oX7 xl (nI lz) lsg, cC aC lsg 64 sg] := jn_N (wr := [oX4 h1 ek ef ew ep es (nI (n + cm Lt ee)) (nI sn) dn, cI aC ek 8 kf, cI aC ef 8 ff, cI aC ew 8 wf, cI aC es 5 stf]) hFc hk1 hP1 hD1 hP hD [0, 1] [2, 3, 4, 5, 6] rfl rfl (by decide) (by decide)
  have hP := hpd9.1
  have hD := hpd9.2
  clear hpd9
  generalize H1 = H at hP hS ⊢
  clear hPc hDc hFc hz1 hk1 hP1 hD1 ht hvm
  have hz_4 := hw_2
  refine lv_istore (lv' := [(4, Value.int x_2), (0, Value.ref xl), (1, Value.ref h1), (2, Value.int (nI (lst Lt ee))), (3, Value.int (nI ee))]) hx hb dX7_tellOne_7 hl (by decide) rfl (fun ls hl => ?_)
  refine lv_aload_n hx hb dX7_tellOne_9 rfl (lv_at hl 1 rfl) ?_
  refine lv_iload_n hx hb dX7_tellOne_10 rfl (lv_at hl 3 rfl) ?_
  refine lv_iconst (v := 2) hx hb dX7_tellOne_11 (by decide) ?_
  refine lv_iadd hx hb dX7_tellOne_12 ?_
  refine lv_topi (fun x_3 e_3 => ?_)
  have h9 : x_3 = nI (lst Lt ee + 2) := by rw [e_3]; exact nI_add (lst Lt ee) 2
  subst h9
  have hpd9 := pdf_N (cx := [oX7 xl (nI lz) lsg, cC aC lsg 64 sg]) hP hD hS hA [5, 6] (by decide) rfl
  have hPc := hpd9.1
  have hDc := hpd9.2.1
  have hFc := hpd9.2.2
  clear hpd9
  refine va_calli (va_runV (As := [Value.int (nI (lst Lt ee + 2))]) (rest := []) ⟨hx, hb, hml, hown, hts⟩ (c_X7_digit l dC dI aC H.size xl lsg lz Lt sg (lst Lt ee + 2) (hlt0) (by omega)) ⟨(callB_of 1 hts (gG kw_314) rfl rfl rfl (hts _ (gw kw_3 rfl)) (hts _ (gw kw_311 rfl)) hd_X7_digit ⟨Nat.le_of_ble_eq_true rfl, Nat.le_of_ble_eq_true rfl⟩), (hts _ (gw kw_313 rfl)), (hts _ (gw ks_4 rfl))⟩ ⟨fb_std, va_recv (q := (RX7, TX7, 2)) hK hPc (ci := 7) (q0 := 0) rfl rfl, pre_std hPc hK hDc hN⟩ rfl rfl hl.1 rfl (lv_room (Nat.le_of_ble_eq_true rfl)) dX7_tellOne_13 ⟨Nat.le_of_ble_eq_true rfl, Nat.le_of_ble_eq_true rfl⟩) hS (fun q _ h => hFc q h) hFc (fun x_4 u9 t9 H1 locs ht hvm hw_4 hB hz1 hk1 hS => ?_)
  obtain ⟨hP1, hK1, hD1⟩ := hB
  rw [ht] at hP1
  clear hK1
  try dsimp only at hw_4
  have hpd9 : PDx (dC, dI) classes A H1 [oX4 h1 ek ef ew ep es (nI (n + cm Lt ee)) (nI sn) dn, cI aC ek 8 kf, cI aC ef 8 ff, cI aC ew 8 wf, cI aC es 5 stf, oX7 xl (nI lz) lsg, cC aC lsg 64 sg] := jn_N (wr := [oX4 h1 ek ef ew ep es (nI (n + cm Lt ee)) (nI sn) dn, cI aC ek 8 kf, cI aC ef 8 ff, cI aC ew 8 wf, cI aC es 5 stf]) hFc hk1 hP1 hD1 hP hD [5, 6] [0, 1, 2, 3, 4] rfl rfl (by decide) (by decide)
  have hP := hpd9.1
  have hD := hpd9.2
  clear hpd9
  generalize H1 = H at hP hS ⊢
  clear hPc hDc hFc hz1 hk1 hP1 hD1 ht hvm
  have hz_13 := hw_4
  refine lv_istore (lv' := [(5, Value.int x_4), (4, Value.int x_2), (0, Value.ref xl), (1, Value.ref h1), (2, Value.int (nI (lst Lt ee))), (3, Value.int (nI ee))]) hx hb dX7_tellOne_16 hl (by decide) rfl (fun ls hl => ?_)
  refine lv_aload_n hx hb dX7_tellOne_18 rfl (lv_at hl 2 rfl) ?_
  refine lv_iload_n hx hb dX7_tellOne_19 rfl (lv_at hl 4 rfl) ?_
  refine lv_iconst (v := 3) hx hb dX7_tellOne_20 (by decide) ?_
  refine lv_iadd hx hb dX7_tellOne_21 ?_
  refine lv_topi (fun x_5 e_5 => ?_)
  have h9 : x_5 = nI (lst Lt ee + 3) := by rw [e_5]; exact nI_add (lst Lt ee) 3
  subst h9
  have hpd9 := pdf_N (cx := [oX7 xl (nI lz) lsg, cC aC lsg 64 sg]) hP hD hS hA [5, 6] (by decide) rfl
  have hPc := hpd9.1
  have hDc := hpd9.2.1
  have hFc := hpd9.2.2
  clear hpd9
  refine va_calli (va_runV (As := [Value.int (nI (lst Lt ee + 3))]) (rest := []) ⟨hx, hb, hml, hown, hts⟩ (c_X7_digit l dC dI aC H.size xl lsg lz Lt sg (lst Lt ee + 3) (hlt0) (by omega)) ⟨(callB_of 1 hts (gG kw_314) rfl rfl rfl (hts _ (gw kw_3 rfl)) (hts _ (gw kw_311 rfl)) hd_X7_digit ⟨Nat.le_of_ble_eq_true rfl, Nat.le_of_ble_eq_true rfl⟩), (hts _ (gw kw_313 rfl)), (hts _ (gw ks_4 rfl))⟩ ⟨fb_std, va_recv (q := (RX7, TX7, 2)) hK hPc (ci := 7) (q0 := 0) rfl rfl, pre_std hPc hK hDc hN⟩ rfl rfl hl.1 rfl (lv_room (Nat.le_of_ble_eq_true rfl)) dX7_tellOne_22 ⟨Nat.le_of_ble_eq_true rfl, Nat.le_of_ble_eq_true rfl⟩) hS (fun q _ h => hFc q h) hFc (fun x_6 u9 t9 H1 locs ht hvm hw_6 hB hz1 hk1 hS => ?_)
  obtain ⟨hP1, hK1, hD1⟩ := hB
  rw [ht] at hP1
  clear hK1
  try dsimp only at hw_6
  have hpd9 : PDx (dC, dI) classes A H1 [oX4 h1 ek ef ew ep es (nI (n + cm Lt ee)) (nI sn) dn, cI aC ek 8 kf, cI aC ef 8 ff, cI aC ew 8 wf, cI aC es 5 stf, oX7 xl (nI lz) lsg, cC aC lsg 64 sg] := jn_N (wr := [oX4 h1 ek ef ew ep es (nI (n + cm Lt ee)) (nI sn) dn, cI aC ek 8 kf, cI aC ef 8 ff, cI aC ew 8 wf, cI aC es 5 stf]) hFc hk1 hP1 hD1 hP hD [5, 6] [0, 1, 2, 3, 4] rfl rfl (by decide) (by decide)
  have hP := hpd9.1
  have hD := hpd9.2
  clear hpd9
  generalize H1 = H at hP hS ⊢
  clear hPc hDc hFc hz1 hk1 hP1 hD1 ht hvm
  have hz_22 := hw_6
  refine lv_istore (lv' := [(6, Value.int x_6), (5, Value.int x_4), (4, Value.int x_2), (0, Value.ref xl), (1, Value.ref h1), (2, Value.int (nI (lst Lt ee))), (3, Value.int (nI ee))]) hx hb dX7_tellOne_25 hl (by decide) rfl (fun ls hl => ?_)
  refine lv_aload_n hx hb dX7_tellOne_27 rfl (lv_at hl 3 rfl) ?_
  refine va_get (D := (dC, dI)) (ci := 7) (v := Value.ref lsg) (C := RX7) (T := TX7) (N := 2) hx hb hts inX7 hown hK hP 5 rfl rfl 1 (by decide) (hts _ (gw kw_82 rfl)) (fun _ h9 => h9) rfl dX7_tellOne_28 ?_
  refine lv_iload_n hx hb dX7_tellOne_31 rfl (lv_at hl 5 rfl) ?_
  have h_7 : vp_in (nI (lst Lt ee)) 64 := vp_in_nI (by omega) (by omega)
  refine va_cald hx hb hK hP 6 1 rfl rfl h_7 dX7_tellOne_32 ?_
  refine lv_topi (fun x_8 e_8 => ?_)
  have h9 : x_8 = nI (Lt (lst Lt ee)) := by rw [e_8, nI_clamp (by omega)]; exact (hL (lst Lt ee) (by omega)).1
  subst h9
  refine lv_bipush (v := 109) hx hb dX7_tellOne_33 (by decide) ?_
  refine lv_icmp_ne (tgt := 51) hx hb dX7_tellOne_35 (by decide) (fun c_9 => ?_) (fun c_9 => ?_)
  · refine lv_aload_n hx hb dX7_tellOne_51 rfl (lv_at hl 3 rfl) ?_
    refine va_get (D := (dC, dI)) (ci := 7) (v := Value.ref lsg) (C := RX7) (T := TX7) (N := 2) hx hb hts inX7 hown hK hP 5 rfl rfl 1 (by decide) (hts _ (gw kw_82 rfl)) (fun _ h9 => h9) rfl dX7_tellOne_52 ?_
    refine lv_iload_n hx hb dX7_tellOne_55 rfl (lv_at hl 5 rfl) ?_
    have h_10 : vp_in (nI (lst Lt ee)) 64 := vp_in_nI (by omega) (by omega)
    refine va_cald hx hb hK hP 6 1 rfl rfl h_10 dX7_tellOne_56 ?_
    refine lv_topi (fun x_11 e_11 => ?_)
    have h9 : x_11 = nI (Lt (lst Lt ee)) := by rw [e_11, nI_clamp (by omega)]; exact (hL (lst Lt ee) (by omega)).1
    subst h9
    refine lv_bipush (v := 108) hx hb dX7_tellOne_57 (by decide) ?_
    refine lv_icmp_ne (tgt := 89) hx hb dX7_tellOne_59 (by decide) (fun c_12 => ?_) (fun c_12 => ?_)
    · have hmc : Lt (lst Lt ee) = 99 := by
        rcases (STM_k hst).1 with q | q | q
        · exact absurd (by rw [q]; rfl) c_9
        · exact absurd (by rw [q]; rfl) c_12
        · exact q
      have hdc := STM_c hst hmc
      refine lv_aload_n hx hb dX7_tellOne_89 rfl (lv_at hl 4 rfl) ?_
      refine va_get (D := (dC, dI)) (ci := 4) (v := Value.ref es) (C := RX4) (T := TX4) (N := 8) hx hb hts inX4 hown hK hP 0 rfl rfl 4 (by decide) (hts _ (gw kw_46 rfl)) (fun _ h9 => h9) rfl dX7_tellOne_90 ?_
      refine lv_iconst (v := 0) hx hb dX7_tellOne_93 (by decide) ?_
      refine lv_iload_n hx hb dX7_tellOne_94 rfl (lv_at hl 6 rfl) ?_
      refine lv_iload_n hx hb dX7_tellOne_95 rfl (lv_at hl 5 rfl) ?_
      refine lv_isub hx hb dX7_tellOne_96 ?_
      refine lv_topi (fun x_13 e_13 => ?_)
      have h9 : x_13 = nI (ee - lst Lt ee) := by rw [e_13]; exact pk_sub (by omega)
      subst h9
      refine lv_iconst (v := 3) hx hb dX7_tellOne_97 (by decide) ?_
      refine lv_icmp_ne (tgt := 112) hx hb dX7_tellOne_98 (by decide) (fun c_14 => ?_) (fun c_14 => ?_)
      · refine lv_iload hx hb dX7_tellOne_112 (lv_at hl 2 rfl) ?_
        have h_15 : vp_in 0 5 := by unfold vp_in; decide
        refine va_iast hx hb hK hP hD hS 4 0 rfl rfl h_15 dX7_tellOne_114 (fun H locs hP hD hS => ?_)
        obtain ⟨f_16, e_f_16⟩ : ∃ y : Nat → Int32, y = upd stf (0 : Int32).toNatClampNeg x_2 := ⟨_, rfl⟩
        have hpd9 : PDx (dC, dI) classes A H [oX4 h1 ek ef ew ep es (nI (n + cm Lt ee)) (nI sn) dn, cI aC ek 8 kf, cI aC ef 8 ff, cI aC ew 8 wf, cI aC es 5 f_16, oX7 xl (nI lz) lsg, cC aC lsg 64 sg] := by rw [e_f_16]; exact ⟨hP, hD⟩
        have hP := hpd9.1
        have hD := hpd9.2
        clear hpd9
        have hsz : nI (n + cm Lt ee) = nI (n + cm Lt (ee + 1)) := by rw [cm_no (fun z => c_9 (by rw [z.2]; rfl))]
        have hP : va_P (dC, dI) classes [oX4 h1 ek ef ew ep es (nI (n + cm Lt (ee + 1))) (nI sn) dn, cI aC ek 8 kf, cI aC ef 8 ff, cI aC ew 8 wf, cI aC es 5 f_16, oX7 xl (nI lz) lsg, cC aC lsg 64 sg] H := by rw [← hsz]; exact hP
        have hD : va_D A [oX4 h1 ek ef ew ep es (nI (n + cm Lt (ee + 1))) (nI sn) dn, cI aC ek 8 kf, cI aC ef 8 ff, cI aC ew 8 wf, cI aC es 5 f_16, oX7 xl (nI lz) lsg, cC aC lsg 64 sg] := by rw [← hsz]; exact hD
        have hpd9 := pd_N (cx := [oX7 xl (nI lz) lsg, cC aC lsg 64 sg, oX4 h1 ek ef ew ep es (nI (n + cm Lt (ee + 1))) (nI sn) dn, cI aC ek 8 kf, cI aC ef 8 ff, cI aC ew 8 wf, cI aC es 5 f_16]) hP hD [5, 6, 0, 1, 2, 3, 4] (by decide) rfl
        have hP9 := hpd9.1
        have hD9 := hpd9.2
        refine W.widen (k := 0) (n := 0) (by omega) (by omega) ?_
        exact W.vret hx hb hr (fun t ht hW => ⟨⟨(kf, ff, wf, f_16), rfl, EVT_c hev hsem hmc hst (by rw [e_f_16, hz_4]; rcases hdc with ⟨q1, q2⟩ | ⟨q1, q2, q3⟩ <;> first | (rw [if_pos (by omega), dgv q2]; unfold lC; rw [if_neg (by omega)]; rfl) | (exfalso; exact c_14 (by rw [show ee - lst Lt ee = 3 by omega]; rfl))), by rw [ht]; exact hP9, va_K.moved hW.alike hK, hD9⟩, hS.F ht⟩) hS.2.2 dX7_tellOne_115
      · refine lv_iload hx hb dX7_tellOne_101 (lv_at hl 2 rfl) ?_
        refine lv_bipush (v := 10) hx hb dX7_tellOne_103 (by decide) ?_
        refine lv_imul hx hb dX7_tellOne_105 ?_
        refine lv_topi (fun x_17 e_17 => ?_)
        refine lv_iload hx hb dX7_tellOne_106 (lv_at hl 1 rfl) ?_
        refine lv_iadd hx hb dX7_tellOne_108 ?_
        refine lv_topi (fun x_18 e_18 => ?_)
        refine lv_goto (tgt := 114) hx hb dX7_tellOne_109 (by decide) ?_
        have h_19 : vp_in 0 5 := by unfold vp_in; decide
        refine va_iast hx hb hK hP hD hS 4 0 rfl rfl h_19 dX7_tellOne_114 (fun H locs hP hD hS => ?_)
        obtain ⟨f_20, e_f_20⟩ : ∃ y : Nat → Int32, y = upd stf (0 : Int32).toNatClampNeg x_18 := ⟨_, rfl⟩
        have hpd9 : PDx (dC, dI) classes A H [oX4 h1 ek ef ew ep es (nI (n + cm Lt ee)) (nI sn) dn, cI aC ek 8 kf, cI aC ef 8 ff, cI aC ew 8 wf, cI aC es 5 f_20, oX7 xl (nI lz) lsg, cC aC lsg 64 sg] := by rw [e_f_20]; exact ⟨hP, hD⟩
        have hP := hpd9.1
        have hD := hpd9.2
        clear hpd9
        have hsz : nI (n + cm Lt ee) = nI (n + cm Lt (ee + 1)) := by rw [cm_no (fun z => c_9 (by rw [z.2]; rfl))]
        have hP : va_P (dC, dI) classes [oX4 h1 ek ef ew ep es (nI (n + cm Lt (ee + 1))) (nI sn) dn, cI aC ek 8 kf, cI aC ef 8 ff, cI aC ew 8 wf, cI aC es 5 f_20, oX7 xl (nI lz) lsg, cC aC lsg 64 sg] H := by rw [← hsz]; exact hP
        have hD : va_D A [oX4 h1 ek ef ew ep es (nI (n + cm Lt (ee + 1))) (nI sn) dn, cI aC ek 8 kf, cI aC ef 8 ff, cI aC ew 8 wf, cI aC es 5 f_20, oX7 xl (nI lz) lsg, cC aC lsg 64 sg] := by rw [← hsz]; exact hD
        have hpd9 := pd_N (cx := [oX7 xl (nI lz) lsg, cC aC lsg 64 sg, oX4 h1 ek ef ew ep es (nI (n + cm Lt (ee + 1))) (nI sn) dn, cI aC ek 8 kf, cI aC ef 8 ff, cI aC ew 8 wf, cI aC es 5 f_20]) hP hD [5, 6, 0, 1, 2, 3, 4] (by decide) rfl
        have hP9 := hpd9.1
        have hD9 := hpd9.2
        refine W.widen (k := 0) (n := 0) (by omega) (by omega) ?_
        exact W.vret hx hb hr (fun t ht hW => ⟨⟨(kf, ff, wf, f_20), rfl, EVT_c hev hsem hmc hst (by rw [e_f_20, e_18, e_17, hz_4, hz_13]; rcases hdc with ⟨q1, q2⟩ | ⟨q1, q2, q3⟩ <;> first | (exfalso; have h7 := (nI_b0 (x := ee - lst Lt ee) (k := 3) (by omega) (by omega)).mp c_14; omega) | (rw [if_pos (by omega), if_pos (by omega), lc_v q2 q3]; unfold lC; rw [if_pos q1]; rfl)), by rw [ht]; exact hP9, va_K.moved hW.alike hK, hD9⟩, hS.F ht⟩) hS.2.2 dX7_tellOne_115
    · have hm8 : Lt (lst Lt ee) = 108 := (nI_b0 (k := 108) (hL _ (by omega)).2 (by omega)).mp c_12
      obtain ⟨he4, hd1, hd2, hd3⟩ := STM_d hst (Or.inr hm8)
      have hv1 := dg_v hz_4 (by omega) hd1
      have hv2 := dg_v hz_13 (by omega) hd2
      have hv3 := dg_v hz_22 (by omega) hd3
      refine lv_aload_n hx hb dX7_tellOne_62 rfl (lv_at hl 4 rfl) ?_
      refine va_get (D := (dC, dI)) (ci := 4) (v := Value.ref es) (C := RX4) (T := TX4) (N := 8) hx hb hts inX4 hown hK hP 0 rfl rfl 4 (by decide) (hts _ (gw kw_46 rfl)) (fun _ h9 => h9) rfl dX7_tellOne_63 ?_
      refine lv_iconst (v := 1) hx hb dX7_tellOne_66 (by decide) ?_
      refine lv_iload hx hb dX7_tellOne_67 (lv_at hl 2 rfl) ?_
      have h_21 : vp_in 1 5 := by unfold vp_in; decide
      refine va_iast hx hb hK hP hD hS 4 0 rfl rfl h_21 dX7_tellOne_69 (fun H locs hP hD hS => ?_)
      obtain ⟨f_22, e_f_22⟩ : ∃ y : Nat → Int32, y = upd stf (1 : Int32).toNatClampNeg x_2 := ⟨_, rfl⟩
      have hpd9 : PDx (dC, dI) classes A H [oX4 h1 ek ef ew ep es (nI (n + cm Lt ee)) (nI sn) dn, cI aC ek 8 kf, cI aC ef 8 ff, cI aC ew 8 wf, cI aC es 5 f_22, oX7 xl (nI lz) lsg, cC aC lsg 64 sg] := by rw [e_f_22]; exact ⟨hP, hD⟩
      have hP := hpd9.1
      have hD := hpd9.2
      clear hpd9
      refine lv_aload_n hx hb dX7_tellOne_70 rfl (lv_at hl 4 rfl) ?_
      refine va_get (D := (dC, dI)) (ci := 4) (v := Value.ref es) (C := RX4) (T := TX4) (N := 8) hx hb hts inX4 hown hK hP 0 rfl rfl 4 (by decide) (hts _ (gw kw_46 rfl)) (fun _ h9 => h9) rfl dX7_tellOne_71 ?_
      refine lv_iconst (v := 2) hx hb dX7_tellOne_74 (by decide) ?_
      refine lv_iload hx hb dX7_tellOne_75 (lv_at hl 1 rfl) ?_
      have h_23 : vp_in 2 5 := by unfold vp_in; decide
      refine va_iast hx hb hK hP hD hS 4 0 rfl rfl h_23 dX7_tellOne_77 (fun H locs hP hD hS => ?_)
      obtain ⟨f_24, e_f_24⟩ : ∃ y : Nat → Int32, y = upd f_22 (2 : Int32).toNatClampNeg x_4 := ⟨_, rfl⟩
      have hpd9 : PDx (dC, dI) classes A H [oX4 h1 ek ef ew ep es (nI (n + cm Lt ee)) (nI sn) dn, cI aC ek 8 kf, cI aC ef 8 ff, cI aC ew 8 wf, cI aC es 5 f_24, oX7 xl (nI lz) lsg, cC aC lsg 64 sg] := by rw [e_f_24]; exact ⟨hP, hD⟩
      have hP := hpd9.1
      have hD := hpd9.2
      clear hpd9
      refine lv_aload_n hx hb dX7_tellOne_78 rfl (lv_at hl 4 rfl) ?_
      refine va_get (D := (dC, dI)) (ci := 4) (v := Value.ref es) (C := RX4) (T := TX4) (N := 8) hx hb hts inX4 hown hK hP 0 rfl rfl 4 (by decide) (hts _ (gw kw_46 rfl)) (fun _ h9 => h9) rfl dX7_tellOne_79 ?_
      refine lv_iconst (v := 3) hx hb dX7_tellOne_82 (by decide) ?_
      refine lv_iload hx hb dX7_tellOne_83 (lv_at hl 0 rfl) ?_
      have h_25 : vp_in 3 5 := by unfold vp_in; decide
      refine va_iast hx hb hK hP hD hS 4 0 rfl rfl h_25 dX7_tellOne_85 (fun H locs hP hD hS => ?_)
      obtain ⟨f_26, e_f_26⟩ : ∃ y : Nat → Int32, y = upd f_24 (3 : Int32).toNatClampNeg x_6 := ⟨_, rfl⟩
      have hpd9 : PDx (dC, dI) classes A H [oX4 h1 ek ef ew ep es (nI (n + cm Lt ee)) (nI sn) dn, cI aC ek 8 kf, cI aC ef 8 ff, cI aC ew 8 wf, cI aC es 5 f_26, oX7 xl (nI lz) lsg, cC aC lsg 64 sg] := by rw [e_f_26]; exact ⟨hP, hD⟩
      have hP := hpd9.1
      have hD := hpd9.2
      clear hpd9
      refine lv_goto (tgt := 115) hx hb dX7_tellOne_86 (by decide) ?_
      have hsz : nI (n + cm Lt ee) = nI (n + cm Lt (ee + 1)) := by rw [cm_no (fun z => c_9 (by rw [z.2]; rfl))]
      have hP : va_P (dC, dI) classes [oX4 h1 ek ef ew ep es (nI (n + cm Lt (ee + 1))) (nI sn) dn, cI aC ek 8 kf, cI aC ef 8 ff, cI aC ew 8 wf, cI aC es 5 f_26, oX7 xl (nI lz) lsg, cC aC lsg 64 sg] H := by rw [← hsz]; exact hP
      have hD : va_D A [oX4 h1 ek ef ew ep es (nI (n + cm Lt (ee + 1))) (nI sn) dn, cI aC ek 8 kf, cI aC ef 8 ff, cI aC ew 8 wf, cI aC es 5 f_26, oX7 xl (nI lz) lsg, cC aC lsg 64 sg] := by rw [← hsz]; exact hD
      have hpd9 := pd_N (cx := [oX7 xl (nI lz) lsg, cC aC lsg 64 sg, oX4 h1 ek ef ew ep es (nI (n + cm Lt (ee + 1))) (nI sn) dn, cI aC ek 8 kf, cI aC ef 8 ff, cI aC ew 8 wf, cI aC es 5 f_26]) hP hD [5, 6, 0, 1, 2, 3, 4] (by decide) rfl
      have hP9 := hpd9.1
      have hD9 := hpd9.2
      refine W.widen (k := 0) (n := 0) (by omega) (by omega) ?_
      exact W.vret hx hb hr (fun t ht hW => ⟨⟨(kf, ff, wf, f_26), rfl, EVT_l hev hsem hm8 hrg (by rw [e_f_26, e_f_24, e_f_22, hv1, hv2, hv3]; rfl), by rw [ht]; exact hP9, va_K.moved hW.alike hK, hD9⟩, hS.F ht⟩) hS.2.2 dX7_tellOne_115
  · have hm9 : Lt (lst Lt ee) = 109 := (nI_b0 (k := 109) (hL _ (by omega)).2 (by omega)).mp c_9
    obtain ⟨he4, hd1, hd2, hd3⟩ := STM_d hst (Or.inl hm9)
    have hv1 := dg_v hz_4 (by omega) hd1
    have hv2 := dg_v hz_13 (by omega) hd2
    have hv3 := dg_v hz_22 (by omega) hd3
    have hr9 := (hrg.1 hm9).2.2.1
    have hc9 := cm_y hsem hm9
    refine lv_aload_n hx hb dX7_tellOne_38 rfl (lv_at hl 4 rfl) ?_
    refine lv_iload hx hb dX7_tellOne_39 (lv_at hl 2 rfl) ?_
    refine lv_iload hx hb dX7_tellOne_41 (lv_at hl 1 rfl) ?_
    refine lv_iload hx hb dX7_tellOne_43 (lv_at hl 0 rfl) ?_
    have hpd9 := pdf_N (cx := [oX4 h1 ek ef ew ep es (nI (n + cm Lt ee)) (nI sn) dn, cI aC ek 8 kf, cI aC ef 8 ff, cI aC ew 8 wf]) hP hD hS hA [0, 1, 2, 3] (by decide) rfl
    have hPc := hpd9.1
    have hDc := hpd9.2.1
    have hFc := hpd9.2.2
    clear hpd9
    refine va_callv (va_runV (As := [Value.int x_2, Value.int x_4, Value.int x_6]) (rest := []) ⟨hx, hb, hml, hown, hts⟩ (c_X4_add l dC dI aC H.size h1 ek ef ew ep es (n + cm Lt ee) (nI sn) dn kf ff wf x_2 x_4 x_6 (by omega)) ⟨(callB_of 3 hts (gG kw_328) rfl rfl rfl (hts _ (gw kw_2 rfl)) (hts _ (gw kw_325 rfl)) hd_X4_add ⟨Nat.le_of_ble_eq_true rfl, Nat.le_of_ble_eq_true rfl⟩), (hts _ (gw kw_326 rfl)), (hts _ (gw kw_327 rfl))⟩ ⟨fb_std, va_recv (q := (RX4, TX4, 8)) hK hPc (ci := 4) (q0 := 0) rfl rfl, pre_std hPc hK hDc hN⟩ rfl rfl hl.1 rfl (lv_room (Nat.le_of_ble_eq_true rfl)) dX7_tellOne_45 ⟨Nat.le_of_ble_eq_true rfl, Nat.le_of_ble_eq_true rfl⟩) hS (fun q _ h => hFc q h) hFc (fun u9 t9 H1 locs ht hvm hw_27 hB hz1 hk1 hS => ?_)
    obtain ⟨u_28, u_29, u_30⟩ := u9
    obtain ⟨hP1, hK1, hD1⟩ := hB
    rw [ht] at hP1
    clear hK1
    try dsimp only at hw_27
    have hpd9 : PDx (dC, dI) classes A H1 [cI aC es 5 stf, oX7 xl (nI lz) lsg, cC aC lsg 64 sg, oX4 h1 ek ef ew ep es (nI ((n + cm Lt ee) + 1)) (nI sn) dn, cI aC ek 8 u_28, cI aC ef 8 u_29, cI aC ew 8 u_30] := jn_N (wr := [cI aC es 5 stf, oX7 xl (nI lz) lsg, cC aC lsg 64 sg]) hFc hk1 hP1 hD1 hP hD [0, 1, 2, 3] [4, 5, 6] rfl rfl (by decide) (by decide)
    have hP := hpd9.1
    have hD := hpd9.2
    clear hpd9
    generalize H1 = H at hP hS ⊢
    clear hPc hDc hFc hz1 hk1 hP1 hD1 ht hvm
    have hz_45 := hw_27
    refine lv_goto (tgt := 115) hx hb dX7_tellOne_48 (by decide) ?_
    have hsz : nI ((n + cm Lt ee) + 1) = nI (n + cm Lt (ee + 1)) := by rw [hc9]; rfl
    have hP : va_P (dC, dI) classes [cI aC es 5 stf, oX7 xl (nI lz) lsg, cC aC lsg 64 sg, oX4 h1 ek ef ew ep es (nI (n + cm Lt (ee + 1))) (nI sn) dn, cI aC ek 8 u_28, cI aC ef 8 u_29, cI aC ew 8 u_30] H := by rw [← hsz]; exact hP
    have hD : va_D A [cI aC es 5 stf, oX7 xl (nI lz) lsg, cC aC lsg 64 sg, oX4 h1 ek ef ew ep es (nI (n + cm Lt (ee + 1))) (nI sn) dn, cI aC ek 8 u_28, cI aC ef 8 u_29, cI aC ew 8 u_30] := by rw [← hsz]; exact hD
    have hpd9 := pd_N (cx := [oX7 xl (nI lz) lsg, cC aC lsg 64 sg, oX4 h1 ek ef ew ep es (nI (n + cm Lt (ee + 1))) (nI sn) dn, cI aC ek 8 u_28, cI aC ef 8 u_29, cI aC ew 8 u_30, cI aC es 5 stf]) hP hD [1, 2, 3, 4, 5, 6, 0] (by decide) rfl
    have hP9 := hpd9.1
    have hD9 := hpd9.2
    refine W.widen (k := 0) (n := 0) (by omega) (by omega) ?_
    exact W.vret hx hb hr (fun t ht hW => ⟨⟨(u_28, u_29, u_30, stf), rfl, EVT_m hev hsem hm9 hst hrg (by rw [hz_45.1, hv1]) (by rw [hz_45.2.1, hv2]) (by rw [hz_45.2.2, hv3]), by rw [ht]; exact hP9, va_K.moved hW.alike hK, hD9⟩, hS.F ht⟩) hS.2.2 dX7_tellOne_115

set_option maxHeartbeats 1000000 in
set_option maxRecDepth 100000 in
/-- X7_tell -/
theorem c_X7_tell (l : Launch) (dC : Nat → ClassId) (dI : Nat → Nat → Nat) (aC : Nat → ClassId) (sz : Nat) (xl : Nat) (lsg : Nat) (lz : Nat) (Lt : Nat → Nat) (sg : Nat → Int32) (h1 : Nat) (ek : Nat) (ef : Nat) (ew : Nat) (ep : Nat) (es : Nat) (n : Nat) (sn : Nat) (dn : Int32) (K : Nat → Nat) (F : Nat → Nat) (W0 : Nat → Nat) (S5 : Nat → Nat) (kf : Nat → Int32) (ff : Nat → Int32) (wf : Nat → Int32) (stf : Nat → Int32) (hlt0 : LTR lz Lt sg) (hnb : lrn Lt lz ≠ 9) (hrt : fwr Lt n dn 0 lz = -9) (hev0 : EVS n sn dn K F W0 S5 kf ff wf stf) : Met l yX7_tell (wW yX7_tell cX7_tell 5 (some .int)) ({ frames := 2, cells := 0, slots := 0, locals := 49 } : Room) (va_Pc [Value.ref xl, Value.ref h1] (fun U => U.heap.size = sz ∧ va_P (dC, dI) classes [oX7 xl (nI lz) lsg, cC aC lsg 64 sg, oX4 h1 ek ef ew ep es (nI n) (nI sn) dn, cI aC ek 8 kf, cI aC ef 8 ff, cI aC ew 8 wf, cI aC es 5 stf] U.heap ∧ va_K (dC, dI) classes (TY aC) U ∧ va_D (fun _ => True) [oX7 xl (nI lz) lsg, cC aC lsg 64 sg, oX4 h1 ek ef ew ep es (nI n) (nI sn) dn, cI aC ek 8 kf, cI aC ef 8 ff, cI aC ew 8 wf, cI aC es 5 stf] ∧ NX U)) (va_Qi (fun (r : Int32) (u : (Nat → Int32) × (Nat → Int32) × (Nat → Int32) × (Nat → Int32)) => match u with | (kf2, ff2, wf2, stf2) => r = nI (scn Lt lz) ∧ EVT Lt lz n sn dn K F W0 S5 kf2 ff2 wf2 stf2) (fun (u : (Nat → Int32) × (Nat → Int32) × (Nat → Int32) × (Nat → Int32)) (t : State) => match u with | (kf2, ff2, wf2, stf2) => va_P (dC, dI) classes [oX7 xl (nI lz) lsg, cC aC lsg 64 sg, oX4 h1 ek ef ew ep es (nI (n + cm Lt lz)) (nI sn) dn, cI aC ek 8 kf2, cI aC ef 8 ff2, cI aC ew 8 wf2, cI aC es 5 stf2] t.heap ∧ va_K (dC, dI) classes (TY aC) t ∧ va_D (va_A [oX7 xl (nI lz) lsg, cC aC lsg 64 sg, oX4 h1 ek ef ew ep es (nI n) (nI sn) dn, cI aC ek 8 kf, cI aC ef 8 ff, cI aC ew 8 wf, cI aC es 5 stf] sz) [oX7 xl (nI lz) lsg, cC aC lsg 64 sg, oX4 h1 ek ef ew ep es (nI (n + cm Lt lz)) (nI sn) dn, cI aC ek 8 kf2, cI aC ef 8 ff2, cI aC ew 8 wf2, cI aC es 5 stf2]) (va_A [oX7 xl (nI lz) lsg, cC aC lsg 64 sg, oX4 h1 ek ef ew ep es (nI n) (nI sn) dn, cI aC ek 8 kf, cI aC ef 8 ff, cI aC ew 8 wf, cI aC es 5 stf] sz)) 0 0 (va_A [oX7 xl (nI lz) lsg, cC aC lsg 64 sg, oX4 h1 ek ef ew ep es (nI n) (nI sn) dn, cI aC ek 8 kf, cI aC ef 8 ff, cI aC ew 8 wf, cI aC es 5 stf] sz) := by
  refine Met.ofW (cc := cX7_tell) (maxL := 5) (ret := (some .int)) (by decide) rfl ?_
  intro p e s m args below meth c s₁ B hml hv
  obtain ⟨rfl, hsz, hP, hK, hD0, hN⟩ := hv
  have hx := B.exec
  have hb := B.bytes
  have hr := B.returns
  have hts0 := atoms_spec (ws := (wW yX7_tell cX7_tell 5 (some .int))) B.pre
  have hts : ∀ w9 ∈ lw_G, w9.before ([Value.ref xl, Value.ref h1] : List Value).toArray s = true := fun w9 h9 => hts0 w9 (List.mem_cons_of_mem _ h9)
  have hown : s.vm.findClass RX7 = some m.cls := findClass_of_methodNamed (x := yX7_tell) B.named
  have hlocks := B.notSynchronized
  subst hsz
  have hD := hD0.self (sz := s.heap.size)
  generalize hAe : va_A [oX7 xl (nI lz) lsg, cC aC lsg 64 sg, oX4 h1 ek ef ew ep es (nI n) (nI sn) dn, cI aC ek 8 kf, cI aC ef 8 ff, cI aC ew 8 wf, cI aC es 5 stf] s.heap.size = A at hD ⊢
  have hA : ∀ q : Nat, s.heap.size ≤ q → A q := fun q h => by rw [← hAe]; exact Or.inr h
  obtain ⟨H, hHe⟩ : ∃ H : Heap, H = s.heap := ⟨_, rfl⟩
  have hS : va_S A s.heap H [] := by rw [hHe]; exact va_S.rf
  have hP : va_P (dC, dI) classes [oX7 xl (nI lz) lsg, cC aC lsg 64 sg, oX4 h1 ek ef ew ep es (nI n) (nI sn) dn, cI aC ek 8 kf, cI aC ef 8 ff, cI aC ew 8 wf, cI aC es 5 stf] H := by rw [hHe]; exact hP
  have hl := lv_entry ([Value.ref xl, Value.ref h1]) (n := 5) (Nat.le_of_ble_eq_true rfl)
  rw [lg_entry_eq]
  generalize (lg_sl ([Value.ref xl, Value.ref h1]) ++ List.replicate (5 - (lg_sl ([Value.ref xl, Value.ref h1])).length) Slot.unset).toArray = ls at hl ⊢
  have hl : lv_has ls 5 [(0, Value.ref xl), (1, Value.ref h1)] := hl
  rw [← hHe]
  have hz6 := hlt0.1
  have hL := hlt0.2
  refine lv_iconst (v := 0) hx hb dX7_tell_0 (by decide) ?_
  refine lv_istore_n (lv' := [(2, Value.int 0), (0, Value.ref xl), (1, Value.ref h1)]) hx hb dX7_tell_1 rfl hl (by decide) rfl (fun ls hl => ?_)
  refine lv_iconst (v := 0) hx hb dX7_tell_2 (by decide) ?_
  refine lv_istore_n (lv' := [(3, Value.int 0), (2, Value.int 0), (0, Value.ref xl), (1, Value.ref h1)]) hx hb dX7_tell_3 rfl hl (by decide) rfl (fun ls hl => ?_)
  refine lv_iconst (v := 0) hx hb dX7_tell_4 (by decide) ?_
  refine lv_istore (lv' := [(4, Value.int 0), (3, Value.int 0), (2, Value.int 0), (0, Value.ref xl), (1, Value.ref h1)]) hx hb dX7_tell_5 hl (by decide) rfl (fun ls hl => ?_)
  have lp_7 : ∀ (fu : Nat) (pp : Nat) (kc : Nat → Int32) (fc : Nat → Int32) (wc : Nat → Int32) (sc9 : Nat → Int32) (hfu : lz - pp < fu) (hp : pp ≤ lz) (hev : EVT Lt pp n sn dn K F W0 S5 kc fc wc sc9) (H : Heap) (locs : List Loc) (ls : Array Slot), va_P (dC, dI) classes [oX7 xl (nI lz) lsg, cC aC lsg 64 sg, oX4 h1 ek ef ew ep es (nI (n + cm Lt pp)) (nI sn) dn, cI aC ek 8 kc, cI aC ef 8 fc, cI aC ew 8 wc, cI aC es 5 sc9] H → va_D A [oX7 xl (nI lz) lsg, cC aC lsg 64 sg, oX4 h1 ek ef ew ep es (nI (n + cm Lt pp)) (nI sn) dn, cI aC ek 8 kc, cI aC ef 8 fc, cI aC ew 8 wc, cI aC es 5 sc9] → va_S A s.heap H locs → lv_has ls 5 [(0, Value.ref xl), (1, Value.ref h1), (2, Value.int (nI (scn Lt pp))), (3, Value.int (nI (lst Lt pp))), (4, Value.int (nI pp))] → W p l e (headSpec (wW yX7_tell cX7_tell 5 (some .int)) ({ frames := 2, cells := 0, slots := 0, locals := 49 } : Room)).room s m ([Value.ref xl, Value.ref h1] : List Value).toArray below meth c H locs 0 0 (MQ below (va_Qi (fun (r : Int32) (u : (Nat → Int32) × (Nat → Int32) × (Nat → Int32) × (Nat → Int32)) => match u with | (kf2, ff2, wf2, stf2) => r = nI (scn Lt lz) ∧ EVT Lt lz n sn dn K F W0 S5 kf2 ff2 wf2 stf2) (fun (u : (Nat → Int32) × (Nat → Int32) × (Nat → Int32) × (Nat → Int32)) (t : State) => match u with | (kf2, ff2, wf2, stf2) => va_P (dC, dI) classes [oX7 xl (nI lz) lsg, cC aC lsg 64 sg, oX4 h1 ek ef ew ep es (nI (n + cm Lt lz)) (nI sn) dn, cI aC ek 8 kf2, cI aC ef 8 ff2, cI aC ew 8 wf2, cI aC es 5 stf2] t.heap ∧ va_K (dC, dI) classes (TY aC) t ∧ va_D A [oX7 xl (nI lz) lsg, cC aC lsg 64 sg, oX4 h1 ek ef ew ep es (nI (n + cm Lt lz)) (nI sn) dn, cI aC ek 8 kf2, cI aC ef 8 ff2, cI aC ew 8 wf2, cI aC es 5 stf2]) A) ([Value.ref xl, Value.ref h1] : List Value).toArray s 0 0 A) (F0 m 7 ls []) := by
    intro fu
    induction fu with
    | zero => intro pp kc fc wc sc9 hfu; exact absurd hfu (Nat.not_lt_zero _)
    | succ fu ih_7 =>
      intro pp kc fc wc sc9 hfu hp hev H locs ls hP hD hS hl
      refine lv_iload hx hb dX7_tell_7 (lv_at hl 4 rfl) ?_
      refine lv_aload_n hx hb dX7_tell_9 rfl (lv_at hl 0 rfl) ?_
      refine va_get (D := (dC, dI)) (ci := 7) (v := Value.int (nI lz)) (C := RX7) (T := TX7) (N := 2) hx hb hts inX7 hown hK hP 0 rfl rfl 0 (by decide) (hts _ (gw kw_80 rfl)) (fun _ h9 => h9) rfl dX7_tell_10 ?_
      refine lv_icmp_ge (tgt := 50) hx hb dX7_tell_13 (by decide) (fun c_1 => ?_) (fun c_1 => ?_)
      · have hpz : pp = lz := by
          rcases Nat.lt_or_ge pp lz with q | q
          · exact absurd c_1 (nI_ge q (by omega))
          · omega
        subst hpz
        refine lv_iload_n hx hb dX7_tell_50 rfl (lv_at hl 2 rfl) ?_
        have hpd9 := pd_N (cx := [oX7 xl (nI pp) lsg, cC aC lsg 64 sg, oX4 h1 ek ef ew ep es (nI (n + cm Lt pp)) (nI sn) dn, cI aC ek 8 kc, cI aC ef 8 fc, cI aC ew 8 wc, cI aC es 5 sc9]) hP hD [0, 1, 2, 3, 4, 5, 6] (by decide) rfl
        have hP9 := hpd9.1
        have hD9 := hpd9.2
        refine W.widen (k := 0) (n := 0) (by omega) (by omega) ?_
        exact W.iret (v := nI (scn Lt pp)) hx hb hr (fun t ht hW => ⟨⟨(nI (scn Lt pp)), (kc, fc, wc, sc9), rfl, ⟨rfl, hev⟩, by rw [ht]; exact hP9, va_K.moved hW.alike hK, hD9⟩, hS.F ht⟩) hS.2.2 dX7_tell_51
      · have hlt : pp < lz := by
          rcases Nat.lt_or_ge pp lz with q | q
          · exact q
          · exact absurd (nI_le q (by omega)) c_1
        refine lv_aload_n hx hb dX7_tell_16 rfl (lv_at hl 0 rfl) ?_
        refine va_get (D := (dC, dI)) (ci := 7) (v := Value.ref lsg) (C := RX7) (T := TX7) (N := 2) hx hb hts inX7 hown hK hP 0 rfl rfl 1 (by decide) (hts _ (gw kw_82 rfl)) (fun _ h9 => h9) rfl dX7_tell_17 ?_
        refine lv_iload hx hb dX7_tell_20 (lv_at hl 4 rfl) ?_
        have h_2 : vp_in (nI pp) 64 := vp_in_nI (by omega) (by omega)
        refine va_cald hx hb hK hP 1 1 rfl rfl h_2 dX7_tell_22 ?_
        refine lv_topi (fun x_3 e_3 => ?_)
        have h9 : x_3 = nI (Lt pp) := by rw [e_3, nI_clamp (by omega)]; exact (hL pp (by omega)).1
        subst h9
        refine lv_bipush (v := 59) hx hb dX7_tell_23 (by decide) ?_
        refine lv_icmp_ne (tgt := 44) hx hb dX7_tell_25 (by decide) (fun c_4 => ?_) (fun c_4 => ?_)
        · have hne : ¬ Lt pp = 59 := fun z => c_4 (by rw [z]; rfl)
          have hl : lv_has ls 5 [(0, Value.ref xl), (1, Value.ref h1), (2, Value.int (nI (scn Lt (pp + 1)))), (3, Value.int (nI (lst Lt pp))), (4, Value.int (nI pp))] := by rw [← (show nI (scn Lt pp) = nI (scn Lt (pp + 1)) by rw [scn_no hne])]; exact hl
          have hl : lv_has ls 5 [(0, Value.ref xl), (1, Value.ref h1), (2, Value.int (nI (scn Lt (pp + 1)))), (3, Value.int (nI (lst Lt (pp + 1)))), (4, Value.int (nI pp))] := by rw [← (show nI (lst Lt pp) = nI (lst Lt (pp + 1)) by rw [lst_no hne])]; exact hl
          have hev2 := EVT_no hev hne
          have hsz : nI (n + cm Lt pp) = nI (n + cm Lt (pp + 1)) := by rw [cm_no (fun z => hne z.1)]
          have hP : va_P (dC, dI) classes [oX7 xl (nI lz) lsg, cC aC lsg 64 sg, oX4 h1 ek ef ew ep es (nI (n + cm Lt (pp + 1))) (nI sn) dn, cI aC ek 8 kc, cI aC ef 8 fc, cI aC ew 8 wc, cI aC es 5 sc9] H := by rw [← hsz]; exact hP
          have hD : va_D A [oX7 xl (nI lz) lsg, cC aC lsg 64 sg, oX4 h1 ek ef ew ep es (nI (n + cm Lt (pp + 1))) (nI sn) dn, cI aC ek 8 kc, cI aC ef 8 fc, cI aC ew 8 wc, cI aC es 5 sc9] := by rw [← hsz]; exact hD
          obtain ⟨x_5, e_5⟩ : ∃ y : Int32, y = (nI pp) + 1 := ⟨_, rfl⟩
          refine lv_iinc (v := x_5) (lv' := [(4, Value.int x_5), (0, Value.ref xl), (1, Value.ref h1), (2, Value.int (nI (scn Lt (pp + 1)))), (3, Value.int (nI (lst Lt (pp + 1))))]) hx hb dX7_tell_44 hl (k := 4) rfl (by rw [e_5]; rfl) (by decide) rfl (fun ls hl => ?_)
          have h9 : x_5 = nI (pp + 1) := by rw [e_5, nI_1]
          subst h9
          refine lv_goto (tgt := 7) hx hb dX7_tell_47 (by decide) ?_
          exact ih_7 (pp + 1) kc fc wc sc9 (by omega) (by omega) (hev2) _ _ _ (hP.sub [0, 1, 2, 3, 4, 5, 6] rfl) (hD.sub [0, 1, 2, 3, 4, 5, 6] (by decide) rfl) hS (lv_sub hl [1, 2, 3, 4, 0] rfl)
        · have hsem : Lt pp = 59 := (nI_b0 (k := 59) (hL pp hlt).2 (by omega)).mp c_4
          have hst := STM_r hnb hlt hsem
          have hrg := fwr_9 lz 0 (by omega) hrt pp (by omega) (by omega) hsem
          refine lv_aload_n hx hb dX7_tell_28 rfl (lv_at hl 0 rfl) ?_
          refine lv_aload_n hx hb dX7_tell_29 rfl (lv_at hl 1 rfl) ?_
          refine lv_iload_n hx hb dX7_tell_30 rfl (lv_at hl 3 rfl) ?_
          refine lv_iload hx hb dX7_tell_31 (lv_at hl 4 rfl) ?_
          have hpd9 := pdf_N (cx := [oX7 xl (nI lz) lsg, cC aC lsg 64 sg, oX4 h1 ek ef ew ep es (nI (n + cm Lt pp)) (nI sn) dn, cI aC ek 8 kc, cI aC ef 8 fc, cI aC ew 8 wc, cI aC es 5 sc9]) hP hD hS hA [0, 1, 2, 3, 4, 5, 6] (by decide) rfl
          have hPc := hpd9.1
          have hDc := hpd9.2.1
          have hFc := hpd9.2.2
          clear hpd9
          refine va_callv (va_runV (As := [Value.ref h1, Value.int (nI (lst Lt pp)), Value.int (nI pp)]) (rest := []) ⟨hx, hb, hml, hown, hts⟩ (c_X7_tellOne l dC dI aC H.size xl lsg lz Lt sg h1 ek ef ew ep es n sn dn K F W0 S5 kc fc wc sc9 pp (hlt0) (hst) (hlt) (hsem) (hrg) (hev)) ⟨(callB_of 3 hts (gG kw_324) rfl rfl rfl (hts _ (gw kw_3 rfl)) (hts _ (gw kw_321 rfl)) hd_X7_tellOne ⟨Nat.le_of_ble_eq_true rfl, Nat.le_of_ble_eq_true rfl⟩), (hts _ (gw kw_323 rfl)), (hts _ (gw ks_5 rfl))⟩ ⟨fb_std, va_recv (q := (RX7, TX7, 2)) hK hPc (ci := 7) (q0 := 0) rfl rfl, pre_std hPc hK hDc hN⟩ rfl rfl hl.1 rfl (lv_room (Nat.le_of_ble_eq_true rfl)) dX7_tell_33 ⟨Nat.le_of_ble_eq_true rfl, Nat.le_of_ble_eq_true rfl⟩) hS (fun q _ h => hFc q h) hFc (fun u9 t9 H1 locs ht hvm hw_6 hB hz1 hk1 hS => ?_)
          obtain ⟨u_7, u_8, u_9, u_10⟩ := u9
          obtain ⟨hP1, hK1, hD1⟩ := hB
          rw [ht] at hP1
          clear hK1
          try dsimp only at hw_6
          have hpd9 : PDx (dC, dI) classes A H1 [oX7 xl (nI lz) lsg, cC aC lsg 64 sg, oX4 h1 ek ef ew ep es (nI (n + cm Lt (pp + 1))) (nI sn) dn, cI aC ek 8 u_7, cI aC ef 8 u_8, cI aC ew 8 u_9, cI aC es 5 u_10] := jn_N (wr := []) hFc hk1 hP1 hD1 hP hD [0, 1, 2, 3, 4, 5, 6] [] rfl rfl (by decide) (by decide)
          have hP := hpd9.1
          have hD := hpd9.2
          clear hpd9
          generalize H1 = H at hP hS ⊢
          clear hPc hDc hFc hz1 hk1 hP1 hD1 ht hvm
          have hev2 := hw_6
          obtain ⟨x_11, e_11⟩ : ∃ y : Int32, y = (nI (scn Lt pp)) + 1 := ⟨_, rfl⟩
          refine lv_iinc (v := x_11) (lv' := [(2, Value.int x_11), (0, Value.ref xl), (1, Value.ref h1), (3, Value.int (nI (lst Lt pp))), (4, Value.int (nI pp))]) hx hb dX7_tell_36 hl (k := 2) rfl (by rw [e_11]; rfl) (by decide) rfl (fun ls hl => ?_)
          refine lv_iload hx hb dX7_tell_39 (lv_at hl 4 rfl) ?_
          refine lv_iconst (v := 1) hx hb dX7_tell_41 (by decide) ?_
          refine lv_iadd hx hb dX7_tell_42 ?_
          refine lv_topi (fun x_12 e_12 => ?_)
          refine lv_istore_n (lv' := [(3, Value.int x_12), (2, Value.int x_11), (0, Value.ref xl), (1, Value.ref h1), (4, Value.int (nI pp))]) hx hb dX7_tell_43 rfl hl (by decide) rfl (fun ls hl => ?_)
          have h9 : x_11 = nI (scn Lt (pp + 1)) := by rw [e_11, nI_1, scn_y hsem]
          subst h9
          have h9 : x_12 = nI (lst Lt (pp + 1)) := by rw [e_12, nI_1, lst_y hsem]
          subst h9
          obtain ⟨x_13, e_13⟩ : ∃ y : Int32, y = (nI pp) + 1 := ⟨_, rfl⟩
          refine lv_iinc (v := x_13) (lv' := [(4, Value.int x_13), (3, Value.int (nI (lst Lt (pp + 1)))), (2, Value.int (nI (scn Lt (pp + 1)))), (0, Value.ref xl), (1, Value.ref h1)]) hx hb dX7_tell_44 hl (k := 4) rfl (by rw [e_13]; rfl) (by decide) rfl (fun ls hl => ?_)
          have h9 : x_13 = nI (pp + 1) := by rw [e_13, nI_1]
          subst h9
          refine lv_goto (tgt := 7) hx hb dX7_tell_47 (by decide) ?_
          exact ih_7 (pp + 1) u_7 u_8 u_9 u_10 (by omega) (by omega) (hev2) _ _ _ (hP.sub [0, 1, 2, 3, 4, 5, 6] rfl) (hD.sub [0, 1, 2, 3, 4, 5, 6] (by decide) rfl) hS (lv_sub hl [3, 4, 2, 1, 0] rfl)
  exact lp_7 ((lz - 0) + 1) 0 kf ff wf stf (Nat.lt_succ_self _) (by omega) (hev0) _ _ _ (hP.sub [0, 1, 2, 3, 4, 5, 6] rfl) (hD.sub [0, 1, 2, 3, 4, 5, 6] (by decide) rfl) hS (lv_sub hl [3, 4, 2, 1, 0] rfl)

set_option maxHeartbeats 1000000 in
set_option maxRecDepth 100000 in
/-- X11_feed -/
theorem c_X11_feed (l : Launch) (dC : Nat → ClassId) (dI : Nat → Nat → Nat) (aC : Nat → ClassId) (sz : Nat) (h0 : Nat) (xp : Nat) (xtp : Nat) (xn : Nat) (xt : Nat) (xk : Nat) (xl : Nat) (xc : Nat) (xo : Nat) (xto : Nat) (xr : Nat) (xch : Nat) (ts : Int32) (ik : Int32) (st : Int32) (lsg : Nat) (lz : Nat) (Lt : Nat → Nat) (sg : Nat → Int32) (rf : Nat → Int32) (v : Int32) (hlt0 : LTR lz Lt sg) : Met l yX11_feed (wW yX11_feed cX11_feed 2 (some .int)) ({ frames := 1, cells := 0, slots := 0, locals := 21 } : Room) (va_Pc [Value.ref h0, Value.int v] (fun U => U.heap.size = sz ∧ va_P (dC, dI) classes [oX11 h0 xp xtp xn xt xk xl xc xo xto xr xch ts ik st, oX7 xl (nI lz) lsg, cC aC lsg 64 sg, cI aC xr 7 rf] U.heap ∧ va_K (dC, dI) classes (TY aC) U ∧ va_D (fun _ => True) [oX11 h0 xp xtp xn xt xk xl xc xo xto xr xch ts ik st, oX7 xl (nI lz) lsg, cC aC lsg 64 sg, cI aC xr 7 rf] ∧ NX U)) (va_Qi (fun (r : Int32) (u : (Nat → Int32) × (Nat → Int32) × Int32) => match u with | (sg2, rf2, sz2) => r = feR lz v ∧ sz2 = nI (feZ lz v) ∧ LTR (feZ lz v) (feL Lt lz v) sg2) (fun (u : (Nat → Int32) × (Nat → Int32) × Int32) (t : State) => match u with | (sg2, rf2, sz2) => va_P (dC, dI) classes [oX11 h0 xp xtp xn xt xk xl xc xo xto xr xch ts ik st, oX7 xl sz2 lsg, cC aC lsg 64 sg2, cI aC xr 7 rf2] t.heap ∧ va_K (dC, dI) classes (TY aC) t ∧ va_D (va_A [oX11 h0 xp xtp xn xt xk xl xc xo xto xr xch ts ik st, oX7 xl (nI lz) lsg, cC aC lsg 64 sg, cI aC xr 7 rf] sz) [oX11 h0 xp xtp xn xt xk xl xc xo xto xr xch ts ik st, oX7 xl sz2 lsg, cC aC lsg 64 sg2, cI aC xr 7 rf2]) (va_A [oX11 h0 xp xtp xn xt xk xl xc xo xto xr xch ts ik st, oX7 xl (nI lz) lsg, cC aC lsg 64 sg, cI aC xr 7 rf] sz)) 0 0 (va_A [oX11 h0 xp xtp xn xt xk xl xc xo xto xr xch ts ik st, oX7 xl (nI lz) lsg, cC aC lsg 64 sg, cI aC xr 7 rf] sz) := by
  refine Met.ofW (cc := cX11_feed) (maxL := 2) (ret := (some .int)) (by decide) rfl ?_
  intro p e s m args below meth c s₁ B hml hv
  obtain ⟨rfl, hsz, hP, hK, hD0, hN⟩ := hv
  have hx := B.exec
  have hb := B.bytes
  have hr := B.returns
  have hts0 := atoms_spec (ws := (wW yX11_feed cX11_feed 2 (some .int))) B.pre
  have hts : ∀ w9 ∈ lw_G, w9.before ([Value.ref h0, Value.int v] : List Value).toArray s = true := fun w9 h9 => hts0 w9 (List.mem_cons_of_mem _ h9)
  have hown : s.vm.findClass RX11 = some m.cls := findClass_of_methodNamed (x := yX11_feed) B.named
  have hlocks := B.notSynchronized
  subst hsz
  have hD := hD0.self (sz := s.heap.size)
  generalize hAe : va_A [oX11 h0 xp xtp xn xt xk xl xc xo xto xr xch ts ik st, oX7 xl (nI lz) lsg, cC aC lsg 64 sg, cI aC xr 7 rf] s.heap.size = A at hD ⊢
  have hA : ∀ q : Nat, s.heap.size ≤ q → A q := fun q h => by rw [← hAe]; exact Or.inr h
  obtain ⟨H, hHe⟩ : ∃ H : Heap, H = s.heap := ⟨_, rfl⟩
  have hS : va_S A s.heap H [] := by rw [hHe]; exact va_S.rf
  have hP : va_P (dC, dI) classes [oX11 h0 xp xtp xn xt xk xl xc xo xto xr xch ts ik st, oX7 xl (nI lz) lsg, cC aC lsg 64 sg, cI aC xr 7 rf] H := by rw [hHe]; exact hP
  have hl := lv_entry ([Value.ref h0, Value.int v]) (n := 2) (Nat.le_of_ble_eq_true rfl)
  rw [lg_entry_eq]
  generalize (lg_sl ([Value.ref h0, Value.int v]) ++ List.replicate (2 - (lg_sl ([Value.ref h0, Value.int v])).length) Slot.unset).toArray = ls at hl ⊢
  have hl : lv_has ls 2 [(0, Value.ref h0), (1, Value.int v)] := hl
  rw [← hHe]
  refine lv_iload_n hx hb dX11_feed_0 rfl (lv_at hl 1 rfl) ?_
  refine lv_if_ge (tgt := 11) hx hb dX11_feed_1 (by decide) (fun c_1 => ?_) (fun c_1 => ?_)
  · refine lv_iload_n hx hb dX11_feed_11 rfl (lv_at hl 1 rfl) ?_
    refine lv_sipush (v := 255) hx hb dX11_feed_12 (by decide) ?_
    refine lv_icmp_gt (tgt := 28) hx hb dX11_feed_15 (by decide) (fun c_2 => ?_) (fun c_2 => ?_)
    · refine lv_aload_n hx hb dX11_feed_28 rfl (lv_at hl 0 rfl) ?_
      refine lv_bipush (v := -6) hx hb dX11_feed_29 (by decide) ?_
      have hpd9 := pdf_N (cx := [oX11 h0 xp xtp xn xt xk xl xc xo xto xr xch ts ik st, cI aC xr 7 rf]) hP hD hS hA [0, 3] (by decide) rfl
      have hPc := hpd9.1
      have hDc := hpd9.2.1
      have hFc := hpd9.2.2
      clear hpd9
      refine va_calli (va_runV (As := [Value.int (-6)]) (rest := []) ⟨hx, hb, hml, hown, hts⟩ (c_X11_refuse l dC dI aC H.size h0 xp xtp xn xt xk xl xc xo xto xr xch ts ik st (-6) 6 rf (by decide) (by decide) (by decide) (by unfold vp_in; decide)) ⟨(callB_of 1 hts (gG kw_276) rfl rfl rfl (hts _ (gw kw_1 rfl)) (hts _ (gw kw_273 rfl)) hd_X11_refuse ⟨Nat.le_of_ble_eq_true rfl, Nat.le_of_ble_eq_true rfl⟩), (hts _ (gw kw_275 rfl)), (hts _ (gw ks_0 rfl))⟩ ⟨fb_std, va_recv (q := (RX11, TX11, 14)) hK hPc (ci := 11) (q0 := 0) rfl rfl, pre_std hPc hK hDc hN⟩ rfl rfl hl.1 rfl (lv_room (Nat.le_of_ble_eq_true rfl)) dX11_feed_31 ⟨Nat.le_of_ble_eq_true rfl, Nat.le_of_ble_eq_true rfl⟩) hS (fun q _ h => hFc q h) hFc (fun x_3 u9 t9 H1 locs ht hvm hw_3 hB hz1 hk1 hS => ?_)
      obtain ⟨u_4, rfl⟩ : ∃ z, z = u9 := ⟨_, rfl⟩
      obtain ⟨hP1, hK1, hD1⟩ := hB
      rw [ht] at hP1
      clear hK1
      try dsimp only at hw_3
      have hpd9 : PDx (dC, dI) classes A H1 [oX7 xl (nI lz) lsg, cC aC lsg 64 sg, oX11 h0 xp xtp xn xt xk xl xc xo xto xr xch ts ik st, cI aC xr 7 u_4] := jn_N (wr := [oX7 xl (nI lz) lsg, cC aC lsg 64 sg]) hFc hk1 hP1 hD1 hP hD [0, 3] [1, 2] rfl rfl (by decide) (by decide)
      have hP := hpd9.1
      have hD := hpd9.2
      clear hpd9
      generalize H1 = H at hP hS ⊢
      clear hPc hDc hFc hz1 hk1 hP1 hD1 ht hvm
      obtain ⟨hv9, -⟩ := hw_3
      have hpd9 := pd_N (cx := [oX11 h0 xp xtp xn xt xk xl xc xo xto xr xch ts ik st, oX7 xl (nI lz) lsg, cC aC lsg 64 sg, cI aC xr 7 u_4]) hP hD [2, 0, 1, 3] (by decide) rfl
      have hP9 := hpd9.1
      have hD9 := hpd9.2
      refine W.widen (k := 0) (n := 0) (by omega) (by omega) ?_
      exact W.iret (v := x_3) hx hb hr (fun t ht hW => ⟨⟨x_3, (sg, u_4, (nI lz)), rfl, ⟨by rw [hv9]; unfold feR; rw [if_neg (Int32.not_lt.mpr c_1), if_pos c_2], by rw [(LTR_no (v := v) hlt0 (fun q => q.2.1 c_2)).1], (LTR_no hlt0 (fun q => q.2.1 c_2)).2⟩, by rw [ht]; exact hP9, va_K.moved hW.alike hK, hD9⟩, hS.F ht⟩) hS.2.2 dX11_feed_34
    · refine lv_aload_n hx hb dX11_feed_18 rfl (lv_at hl 0 rfl) ?_
      refine va_get (D := (dC, dI)) (ci := 11) (v := Value.ref xl) (C := RX11) (T := TX11) (N := 14) hx hb hts inX11 hown hK hP 0 rfl rfl 5 (by decide) (hts _ (gw kw_231 rfl)) (fun _ h9 => h9) rfl dX11_feed_19 ?_
      have hpd9 := pdf_N (cx := [oX7 xl (nI lz) lsg]) hP hD hS hA [1] (by decide) rfl
      have hPc := hpd9.1
      have hDc := hpd9.2.1
      have hFc := hpd9.2.2
      clear hpd9
      refine va_calli (va_runV (As := []) (rest := []) ⟨hx, hb, hml, hown, hts⟩ (c_X7_isFull l dC dI aC H.size xl lsg lz Lt sg (hlt0)) ⟨(callB_of 0 hts (gG kw_280) rfl rfl rfl (hts _ (gw kw_3 rfl)) (hts _ (gw kw_277 rfl)) hd_X7_isFull ⟨Nat.le_of_ble_eq_true rfl, Nat.le_of_ble_eq_true rfl⟩), (hts _ (gw kw_278 rfl)), (hts _ (gw kw_279 rfl))⟩ ⟨fb_std, va_recv (q := (RX7, TX7, 2)) hK hPc (ci := 7) (q0 := 0) rfl rfl, pre_std hPc hK hDc hN⟩ rfl rfl hl.1 rfl (lv_room (Nat.le_of_ble_eq_true rfl)) dX11_feed_22 ⟨Nat.le_of_ble_eq_true rfl, Nat.le_of_ble_eq_true rfl⟩) hS (fun q _ h => hFc q h) hFc (fun x_5 u9 t9 H1 locs ht hvm hw_5 hB hz1 hk1 hS => ?_)
      obtain ⟨hP1, hK1, hD1⟩ := hB
      rw [ht] at hP1
      clear hK1
      try dsimp only at hw_5
      have hpd9 : PDx (dC, dI) classes A H1 [oX11 h0 xp xtp xn xt xk xl xc xo xto xr xch ts ik st, cC aC lsg 64 sg, cI aC xr 7 rf, oX7 xl (nI lz) lsg] := jn_N (wr := [oX11 h0 xp xtp xn xt xk xl xc xo xto xr xch ts ik st, cC aC lsg 64 sg, cI aC xr 7 rf]) hFc hk1 hP1 hD1 hP hD [1] [0, 2, 3] rfl rfl (by decide) (by decide)
      have hP := hpd9.1
      have hD := hpd9.2
      clear hpd9
      generalize H1 = H at hP hS ⊢
      clear hPc hDc hFc hz1 hk1 hP1 hD1 ht hvm
      have hz_22 := hw_5
      refine lv_if_eq (tgt := 35) hx hb dX11_feed_25 (by decide) (fun c_6 => ?_) (fun c_6 => ?_)
      · have hfa : feA lz v := ⟨Int32.not_lt.mpr c_1, c_2, hz_22.1 c_6⟩
        obtain ⟨x, hx1, hx2⟩ := fe_v hfa.1 hfa.2.1
        refine lv_aload_n hx hb dX11_feed_35 rfl (lv_at hl 0 rfl) ?_
        refine va_get (D := (dC, dI)) (ci := 11) (v := Value.ref xl) (C := RX11) (T := TX11) (N := 14) hx hb hts inX11 hown hK hP 0 rfl rfl 5 (by decide) (hts _ (gw kw_231 rfl)) (fun _ h9 => h9) rfl dX11_feed_36 ?_
        refine lv_iload_n hx hb dX11_feed_39 rfl (lv_at hl 1 rfl) ?_
        refine lv_i2c hx hb dX11_feed_40 rfl ?_
        refine lv_topi (fun x_7 e_7 => ?_)
        have h9 : x_7 = nI x := by rw [e_7, hx2]; exact ch_n (by omega)
        subst h9
        have hpd9 := pdf_N (cx := [oX7 xl (nI lz) lsg, cC aC lsg 64 sg]) hP hD hS hA [3, 1] (by decide) rfl
        have hPc := hpd9.1
        have hDc := hpd9.2.1
        have hFc := hpd9.2.2
        clear hpd9
        refine va_calli (va_runV (As := [Value.int (nI x)]) (rest := []) ⟨hx, hb, hml, hown, hts⟩ (c_X7_add l dC dI aC H.size xl lsg lz Lt sg (nI x) (hfa.2.2)) ⟨(callB_of 1 hts (gG kw_284) rfl rfl rfl (hts _ (gw kw_3 rfl)) (hts _ (gw kw_281 rfl)) hd_X7_add ⟨Nat.le_of_ble_eq_true rfl, Nat.le_of_ble_eq_true rfl⟩), (hts _ (gw kw_282 rfl)), (hts _ (gw kw_283 rfl))⟩ ⟨fb_std, va_recv (q := (RX7, TX7, 2)) hK hPc (ci := 7) (q0 := 0) rfl rfl, pre_std hPc hK hDc hN⟩ rfl rfl hl.1 rfl (lv_room (Nat.le_of_ble_eq_true rfl)) dX11_feed_41 ⟨Nat.le_of_ble_eq_true rfl, Nat.le_of_ble_eq_true rfl⟩) hS (fun q _ h => hFc q h) hFc (fun x_8 u9 t9 H1 locs ht hvm hw_8 hB hz1 hk1 hS => ?_)
        obtain ⟨u_9, rfl⟩ : ∃ z, z = u9 := ⟨_, rfl⟩
        obtain ⟨hP1, hK1, hD1⟩ := hB
        rw [ht] at hP1
        clear hK1
        try dsimp only at hw_8
        have hpd9 : PDx (dC, dI) classes A H1 [oX11 h0 xp xtp xn xt xk xl xc xo xto xr xch ts ik st, cI aC xr 7 rf, oX7 xl (nI (lz + 1)) lsg, cC aC lsg 64 u_9] := jn_N (wr := [oX11 h0 xp xtp xn xt xk xl xc xo xto xr xch ts ik st, cI aC xr 7 rf]) hFc hk1 hP1 hD1 hP hD [3, 1] [0, 2] rfl rfl (by decide) (by decide)
        have hP := hpd9.1
        have hD := hpd9.2
        clear hpd9
        generalize H1 = H at hP hS ⊢
        clear hPc hDc hFc hz1 hk1 hP1 hD1 ht hvm
        have hz_41 := hw_8
        have hpd9 := pd_N (cx := [oX11 h0 xp xtp xn xt xk xl xc xo xto xr xch ts ik st, oX7 xl (nI (lz + 1)) lsg, cC aC lsg 64 u_9, cI aC xr 7 rf]) hP hD [0, 2, 3, 1] (by decide) rfl
        have hP9 := hpd9.1
        have hD9 := hpd9.2
        refine W.widen (k := 0) (n := 0) (by omega) (by omega) ?_
        exact W.iret (v := x_8) hx hb hr (fun t ht hW => ⟨⟨x_8, (u_9, rf, (nI (lz + 1))), rfl, ⟨by rw [hz_41.1, (LTR_y (L := Lt) hlt0 hfa rfl).2.2], by rw [(LTR_y (L := Lt) hlt0 hfa rfl).1], (LTR_y hlt0 hfa (by rw [hz_41.2, vc_n (by omega), hx2])).2.1⟩, by rw [ht]; exact hP9, va_K.moved hW.alike hK, hD9⟩, hS.F ht⟩) hS.2.2 dX11_feed_44
      · refine lv_aload_n hx hb dX11_feed_28 rfl (lv_at hl 0 rfl) ?_
        refine lv_bipush (v := -6) hx hb dX11_feed_29 (by decide) ?_
        have hpd9 := pdf_N (cx := [oX11 h0 xp xtp xn xt xk xl xc xo xto xr xch ts ik st, cI aC xr 7 rf]) hP hD hS hA [0, 2] (by decide) rfl
        have hPc := hpd9.1
        have hDc := hpd9.2.1
        have hFc := hpd9.2.2
        clear hpd9
        refine va_calli (va_runV (As := [Value.int (-6)]) (rest := []) ⟨hx, hb, hml, hown, hts⟩ (c_X11_refuse l dC dI aC H.size h0 xp xtp xn xt xk xl xc xo xto xr xch ts ik st (-6) 6 rf (by decide) (by decide) (by decide) (by unfold vp_in; decide)) ⟨(callB_of 1 hts (gG kw_276) rfl rfl rfl (hts _ (gw kw_1 rfl)) (hts _ (gw kw_273 rfl)) hd_X11_refuse ⟨Nat.le_of_ble_eq_true rfl, Nat.le_of_ble_eq_true rfl⟩), (hts _ (gw kw_275 rfl)), (hts _ (gw ks_0 rfl))⟩ ⟨fb_std, va_recv (q := (RX11, TX11, 14)) hK hPc (ci := 11) (q0 := 0) rfl rfl, pre_std hPc hK hDc hN⟩ rfl rfl hl.1 rfl (lv_room (Nat.le_of_ble_eq_true rfl)) dX11_feed_31 ⟨Nat.le_of_ble_eq_true rfl, Nat.le_of_ble_eq_true rfl⟩) hS (fun q _ h => hFc q h) hFc (fun x_10 u9 t9 H1 locs ht hvm hw_10 hB hz1 hk1 hS => ?_)
        obtain ⟨u_11, rfl⟩ : ∃ z, z = u9 := ⟨_, rfl⟩
        obtain ⟨hP1, hK1, hD1⟩ := hB
        rw [ht] at hP1
        clear hK1
        try dsimp only at hw_10
        have hpd9 : PDx (dC, dI) classes A H1 [cC aC lsg 64 sg, oX7 xl (nI lz) lsg, oX11 h0 xp xtp xn xt xk xl xc xo xto xr xch ts ik st, cI aC xr 7 u_11] := jn_N (wr := [cC aC lsg 64 sg, oX7 xl (nI lz) lsg]) hFc hk1 hP1 hD1 hP hD [0, 2] [1, 3] rfl rfl (by decide) (by decide)
        have hP := hpd9.1
        have hD := hpd9.2
        clear hpd9
        generalize H1 = H at hP hS ⊢
        clear hPc hDc hFc hz1 hk1 hP1 hD1 ht hvm
        obtain ⟨hv9, -⟩ := hw_10
        have hpd9 := pd_N (cx := [oX11 h0 xp xtp xn xt xk xl xc xo xto xr xch ts ik st, oX7 xl (nI lz) lsg, cC aC lsg 64 sg, cI aC xr 7 u_11]) hP hD [2, 1, 0, 3] (by decide) rfl
        have hP9 := hpd9.1
        have hD9 := hpd9.2
        refine W.widen (k := 0) (n := 0) (by omega) (by omega) ?_
        exact W.iret (v := x_10) hx hb hr (fun t ht hW => ⟨⟨x_10, (sg, u_11, (nI lz)), rfl, ⟨by rw [hv9]; unfold feR; rw [if_neg (Int32.not_lt.mpr c_1), if_neg c_2, if_pos (hz_22.2 c_6)], by rw [(LTR_no (v := v) hlt0 (fun q => absurd q.2.2 (by have := hz_22.2 c_6; omega))).1], (LTR_no hlt0 (fun q => absurd q.2.2 (by have := hz_22.2 c_6; omega))).2⟩, by rw [ht]; exact hP9, va_K.moved hW.alike hK, hD9⟩, hS.F ht⟩) hS.2.2 dX11_feed_34
  · refine lv_aload_n hx hb dX11_feed_4 rfl (lv_at hl 0 rfl) ?_
    refine lv_bipush (v := -4) hx hb dX11_feed_5 (by decide) ?_
    have hpd9 := pdf_N (cx := [oX11 h0 xp xtp xn xt xk xl xc xo xto xr xch ts ik st, cI aC xr 7 rf]) hP hD hS hA [0, 3] (by decide) rfl
    have hPc := hpd9.1
    have hDc := hpd9.2.1
    have hFc := hpd9.2.2
    clear hpd9
    refine va_calli (va_runV (As := [Value.int (-4)]) (rest := []) ⟨hx, hb, hml, hown, hts⟩ (c_X11_refuse l dC dI aC H.size h0 xp xtp xn xt xk xl xc xo xto xr xch ts ik st (-4) 4 rf (by decide) (by decide) (by decide) (by unfold vp_in; decide)) ⟨(callB_of 1 hts (gG kw_276) rfl rfl rfl (hts _ (gw kw_1 rfl)) (hts _ (gw kw_273 rfl)) hd_X11_refuse ⟨Nat.le_of_ble_eq_true rfl, Nat.le_of_ble_eq_true rfl⟩), (hts _ (gw kw_275 rfl)), (hts _ (gw ks_0 rfl))⟩ ⟨fb_std, va_recv (q := (RX11, TX11, 14)) hK hPc (ci := 11) (q0 := 0) rfl rfl, pre_std hPc hK hDc hN⟩ rfl rfl hl.1 rfl (lv_room (Nat.le_of_ble_eq_true rfl)) dX11_feed_7 ⟨Nat.le_of_ble_eq_true rfl, Nat.le_of_ble_eq_true rfl⟩) hS (fun q _ h => hFc q h) hFc (fun x_12 u9 t9 H1 locs ht hvm hw_12 hB hz1 hk1 hS => ?_)
    obtain ⟨u_13, rfl⟩ : ∃ z, z = u9 := ⟨_, rfl⟩
    obtain ⟨hP1, hK1, hD1⟩ := hB
    rw [ht] at hP1
    clear hK1
    try dsimp only at hw_12
    have hpd9 : PDx (dC, dI) classes A H1 [oX7 xl (nI lz) lsg, cC aC lsg 64 sg, oX11 h0 xp xtp xn xt xk xl xc xo xto xr xch ts ik st, cI aC xr 7 u_13] := jn_N (wr := [oX7 xl (nI lz) lsg, cC aC lsg 64 sg]) hFc hk1 hP1 hD1 hP hD [0, 3] [1, 2] rfl rfl (by decide) (by decide)
    have hP := hpd9.1
    have hD := hpd9.2
    clear hpd9
    generalize H1 = H at hP hS ⊢
    clear hPc hDc hFc hz1 hk1 hP1 hD1 ht hvm
    obtain ⟨hv9, -⟩ := hw_12
    have hpd9 := pd_N (cx := [oX11 h0 xp xtp xn xt xk xl xc xo xto xr xch ts ik st, oX7 xl (nI lz) lsg, cC aC lsg 64 sg, cI aC xr 7 u_13]) hP hD [2, 0, 1, 3] (by decide) rfl
    have hP9 := hpd9.1
    have hD9 := hpd9.2
    refine W.widen (k := 0) (n := 0) (by omega) (by omega) ?_
    exact W.iret (v := x_12) hx hb hr (fun t ht hW => ⟨⟨x_12, (sg, u_13, (nI lz)), rfl, ⟨by rw [hv9]; unfold feR; rw [if_pos (Int32.not_le.mp c_1)], by rw [(LTR_no (v := v) hlt0 (fun q => q.1 (Int32.not_le.mp c_1))).1], (LTR_no hlt0 (fun q => q.1 (Int32.not_le.mp c_1))).2⟩, by rw [ht]; exact hP9, va_K.moved hW.alike hK, hD9⟩, hS.F ht⟩) hS.2.2 dX11_feed_10

set_option maxHeartbeats 1000000 in
set_option maxRecDepth 100000 in
/-- X11_beach -/
theorem c_X11_beach (l : Launch) (dC : Nat → ClassId) (dI : Nat → Nat → Nat) (aC : Nat → ClassId) (sz : Nat) (h0 : Nat) (xp : Nat) (xtp : Nat) (xn : Nat) (xt : Nat) (xk : Nat) (xl : Nat) (xc : Nat) (xo : Nat) (xto : Nat) (xr : Nat) (xch : Nat) (ts : Int32) (ik : Int32) (st : Int32) (lsg : Nat) (lz : Nat) (Lt : Nat → Nat) (sg : Nat → Int32) (ek : Nat) (ef : Nat) (ew : Nat) (ep : Nat) (es : Nat) (n : Nat) (sn : Nat) (dn : Int32) (K : Nat → Nat) (F : Nat → Nat) (W0 : Nat → Nat) (S5 : Nat → Nat) (kf : Nat → Int32) (ff : Nat → Int32) (wf : Nat → Int32) (stf : Nat → Int32) (tG : Nat) (hlt0 : LTR lz Lt sg) (hev : EVS n sn dn K F W0 S5 kf ff wf stf) : Met l yX11_beach (wW yX11_beach cX11_beach 2 (some .int)) ({ frames := 4, cells := 0, slots := 0, locals := 94 } : Room) (va_Pc [Value.ref h0] (fun U => U.heap.size = sz ∧ va_P (dC, dI) classes [oX11 h0 xp xtp xn xt xk xl xc xo xto xr xch ts ik st, oX7 xl (nI lz) lsg, cC aC lsg 64 sg, oX4 xn ek ef ew ep es (nI n) (nI sn) dn, cI aC ek 8 kf, cI aC ef 8 ff, cI aC ew 8 wf, cI aC es 5 stf] U.heap ∧ va_K (dC, dI) classes (TY aC) U ∧ va_D (fun _ => True) [oX11 h0 xp xtp xn xt xk xl xc xo xto xr xch ts ik st, oX7 xl (nI lz) lsg, cC aC lsg 64 sg, oX4 xn ek ef ew ep es (nI n) (nI sn) dn, cI aC ek 8 kf, cI aC ef 8 ff, cI aC ew 8 wf, cI aC es 5 stf] ∧ NX U ∧ va_Z "EldestSays" "GREATEST" "[I" (.ref tG) (va_A [oX11 h0 xp xtp xn xt xk xl xc xo xto xr xch ts ik st, oX7 xl (nI lz) lsg, cC aC lsg 64 sg, oX4 xn ek ef ew ep es (nI n) (nI sn) dn, cI aC ek 8 kf, cI aC ef 8 ff, cI aC ew 8 wf, cI aC es 5 stf] sz) U U.heap ∧ va_T .int tG 5 (fun j => .int (GV j)) (va_A [oX11 h0 xp xtp xn xt xk xl xc xo xto xr xch ts ik st, oX7 xl (nI lz) lsg, cC aC lsg 64 sg, oX4 xn ek ef ew ep es (nI n) (nI sn) dn, cI aC ek 8 kf, cI aC ef 8 ff, cI aC ew 8 wf, cI aC es 5 stf] sz) U U.heap)) (va_Qi (fun (r : Int32) (u : Int32 × Int32 × (Nat → Int32) × (Nat → Int32) × (Nat → Int32) × (Nat → Int32)) => match u with | (st2, n2, kf2, ff2, wf2, stf2) => r = bcR Lt lz n dn ∧ n2 = nI (bcN Lt lz n dn) ∧ (BOK Lt lz n dn → st2 = 1) ∧ (¬ BOK Lt lz n dn → st2 = st ∧ kf2 = kf ∧ ff2 = ff ∧ wf2 = wf ∧ stf2 = stf) ∧ EVS (bcN Lt lz n dn) sn dn (bcM Lt lz n dn 1 K) (bcM Lt lz n dn 2 F) (bcM Lt lz n dn 3 W0) (bcS Lt lz n dn S5) kf2 ff2 wf2 stf2) (fun (u : Int32 × Int32 × (Nat → Int32) × (Nat → Int32) × (Nat → Int32) × (Nat → Int32)) (t : State) => match u with | (st2, n2, kf2, ff2, wf2, stf2) => va_P (dC, dI) classes [oX11 h0 xp xtp xn xt xk xl xc xo xto xr xch ts ik st2, oX7 xl 0 lsg, cC aC lsg 64 sg, oX4 xn ek ef ew ep es n2 (nI sn) dn, cI aC ek 8 kf2, cI aC ef 8 ff2, cI aC ew 8 wf2, cI aC es 5 stf2] t.heap ∧ va_K (dC, dI) classes (TY aC) t ∧ va_D (va_A [oX11 h0 xp xtp xn xt xk xl xc xo xto xr xch ts ik st, oX7 xl (nI lz) lsg, cC aC lsg 64 sg, oX4 xn ek ef ew ep es (nI n) (nI sn) dn, cI aC ek 8 kf, cI aC ef 8 ff, cI aC ew 8 wf, cI aC es 5 stf] sz) [oX11 h0 xp xtp xn xt xk xl xc xo xto xr xch ts ik st2, oX7 xl 0 lsg, cC aC lsg 64 sg, oX4 xn ek ef ew ep es n2 (nI sn) dn, cI aC ek 8 kf2, cI aC ef 8 ff2, cI aC ew 8 wf2, cI aC es 5 stf2]) (va_A [oX11 h0 xp xtp xn xt xk xl xc xo xto xr xch ts ik st, oX7 xl (nI lz) lsg, cC aC lsg 64 sg, oX4 xn ek ef ew ep es (nI n) (nI sn) dn, cI aC ek 8 kf, cI aC ef 8 ff, cI aC ew 8 wf, cI aC es 5 stf] sz)) 0 0 (va_A [oX11 h0 xp xtp xn xt xk xl xc xo xto xr xch ts ik st, oX7 xl (nI lz) lsg, cC aC lsg 64 sg, oX4 xn ek ef ew ep es (nI n) (nI sn) dn, cI aC ek 8 kf, cI aC ef 8 ff, cI aC ew 8 wf, cI aC es 5 stf] sz) := by
  refine Met.ofW (cc := cX11_beach) (maxL := 2) (ret := (some .int)) (by decide) rfl ?_
  intro p e s m args below meth c s₁ B hml hv
  obtain ⟨rfl, hsz, hP, hK, hD0, hN, hZG, hTG⟩ := hv
  have hx := B.exec
  have hb := B.bytes
  have hr := B.returns
  have hts0 := atoms_spec (ws := (wW yX11_beach cX11_beach 2 (some .int))) B.pre
  have hts : ∀ w9 ∈ lw_G, w9.before ([Value.ref h0] : List Value).toArray s = true := fun w9 h9 => hts0 w9 (List.mem_cons_of_mem _ h9)
  have hown : s.vm.findClass RX11 = some m.cls := findClass_of_methodNamed (x := yX11_beach) B.named
  have hlocks := B.notSynchronized
  subst hsz
  have hD := hD0.self (sz := s.heap.size)
  generalize hAe : va_A [oX11 h0 xp xtp xn xt xk xl xc xo xto xr xch ts ik st, oX7 xl (nI lz) lsg, cC aC lsg 64 sg, oX4 xn ek ef ew ep es (nI n) (nI sn) dn, cI aC ek 8 kf, cI aC ef 8 ff, cI aC ew 8 wf, cI aC es 5 stf] s.heap.size = A at hZG hTG hD ⊢
  have hA : ∀ q : Nat, s.heap.size ≤ q → A q := fun q h => by rw [← hAe]; exact Or.inr h
  obtain ⟨H, hHe⟩ : ∃ H : Heap, H = s.heap := ⟨_, rfl⟩
  have hS : va_S A s.heap H [] := by rw [hHe]; exact va_S.rf
  have hP : va_P (dC, dI) classes [oX11 h0 xp xtp xn xt xk xl xc xo xto xr xch ts ik st, oX7 xl (nI lz) lsg, cC aC lsg 64 sg, oX4 xn ek ef ew ep es (nI n) (nI sn) dn, cI aC ek 8 kf, cI aC ef 8 ff, cI aC ew 8 wf, cI aC es 5 stf] H := by rw [hHe]; exact hP
  have hl := lv_entry ([Value.ref h0]) (n := 2) (Nat.le_of_ble_eq_true rfl)
  rw [lg_entry_eq]
  generalize (lg_sl ([Value.ref h0]) ++ List.replicate (2 - (lg_sl ([Value.ref h0])).length) Slot.unset).toArray = ls at hl ⊢
  have hl : lv_has ls 2 [(0, Value.ref h0)] := hl
  rw [← hHe]
  have hn8 := EVS_n hev
  refine lv_aload_n hx hb dX11_beach_0 rfl (lv_at hl 0 rfl) ?_
  refine va_get (D := (dC, dI)) (ci := 11) (v := Value.ref xl) (C := RX11) (T := TX11) (N := 14) hx hb hts inX11 hown hK hP 0 rfl rfl 5 (by decide) (hts _ (gw kw_231 rfl)) (fun _ h9 => h9) rfl dX11_beach_1 ?_
  refine lv_aload_n hx hb dX11_beach_4 rfl (lv_at hl 0 rfl) ?_
  refine va_get (D := (dC, dI)) (ci := 11) (v := Value.ref xn) (C := RX11) (T := TX11) (N := 14) hx hb hts inX11 hown hK hP 0 rfl rfl 2 (by decide) (hts _ (gw kw_228 rfl)) (fun _ h9 => h9) rfl dX11_beach_5 ?_
  have hpd9 := pdf_N (cx := [oX7 xl (nI lz) lsg, cC aC lsg 64 sg, oX4 xn ek ef ew ep es (nI n) (nI sn) dn]) hP hD hS hA [1, 2, 3] (by decide) rfl
  have hPc := hpd9.1
  have hDc := hpd9.2.1
  have hFc := hpd9.2.2
  clear hpd9
  refine va_calli (va_runV (As := [Value.ref xn]) (rest := []) ⟨hx, hb, hml, hown, hts⟩ (c_X7_fault l dC dI aC H.size xl lsg lz Lt sg xn ek ef ew ep es n (nI sn) dn tG (hlt0) (hn8)) ⟨(callB_of 1 hts (gG kw_292) rfl rfl rfl (hts _ (gw kw_3 rfl)) (hts _ (gw kw_289 rfl)) hd_X7_fault ⟨Nat.le_of_ble_eq_true rfl, Nat.le_of_ble_eq_true rfl⟩), (hts _ (gw kw_290 rfl)), (hts _ (gw kw_291 rfl))⟩ ⟨fun a U g mk q => by obtain ⟨q0, q1, qP, qK, qD, qN, z0, z1⟩ := q; exact ⟨q0, q1, qP, va_K.moved (u := U) (U := U.calling g mk a) (Vm.Alike.refl U.vm) qK, qD, NX.same (u := U) (U := U.calling g mk a) rfl qN, va_Z.moved (u := U) (U := U.calling g mk a) (Vm.Alike.refl U.vm) z0, va_T.moved (u := U) (U := U.calling g mk a) (Vm.Alike.refl U.vm) z1⟩, va_recv (q := (RX7, TX7, 2)) hK hPc (ci := 7) (q0 := 0) rfl rfl, fun U hU hW => ⟨rfl, by rw [hU], by rw [hU]; exact hPc, va_K.moved hW.alike hK, hDc.weaken (fun _ _ _ _ => trivial), NX.warm hW hN, by rw [hU]; exact va_Z.moved hW.alike (va_Z.narrow (va_Z.kept hZG hS.2.1) hFc), by rw [hU]; exact va_T.moved hW.alike (va_T.narrow (va_T.kept hTG hS.2.1) hFc)⟩⟩ rfl rfl hl.1 rfl (lv_room (Nat.le_of_ble_eq_true rfl)) dX11_beach_8 ⟨Nat.le_of_ble_eq_true rfl, Nat.le_of_ble_eq_true rfl⟩) hS (fun q _ h => hFc q h) hFc (fun x_1 u9 t9 H1 locs ht hvm hw_1 hB hz1 hk1 hS => ?_)
  obtain ⟨hP1, hK1, hD1⟩ := hB
  rw [ht] at hP1
  clear hK1
  try dsimp only at hw_1
  have hpd9 : PDx (dC, dI) classes A H1 [oX11 h0 xp xtp xn xt xk xl xc xo xto xr xch ts ik st, cI aC ek 8 kf, cI aC ef 8 ff, cI aC ew 8 wf, cI aC es 5 stf, oX7 xl (nI lz) lsg, cC aC lsg 64 sg, oX4 xn ek ef ew ep es (nI n) (nI sn) dn] := jn_N (wr := [oX11 h0 xp xtp xn xt xk xl xc xo xto xr xch ts ik st, cI aC ek 8 kf, cI aC ef 8 ff, cI aC ew 8 wf, cI aC es 5 stf]) hFc hk1 hP1 hD1 hP hD [1, 2, 3] [0, 4, 5, 6, 7] rfl rfl (by decide) (by decide)
  have hP := hpd9.1
  have hD := hpd9.2
  clear hpd9
  generalize H1 = H at hP hS ⊢
  clear hPc hDc hFc hz1 hk1 hP1 hD1 ht hvm
  have hz_8 := hw_1
  refine lv_istore_n (lv' := [(1, Value.int x_1), (0, Value.ref h0)]) hx hb dX11_beach_11 rfl hl (by decide) rfl (fun ls hl => ?_)
  refine lv_iload_n hx hb dX11_beach_12 rfl (lv_at hl 0 rfl) ?_
  refine lv_if_ne (tgt := 33) hx hb dX11_beach_13 (by decide) (fun c_2 => ?_) (fun c_2 => ?_)
  · have hbo : ¬ BOK Lt lz n dn := fun q => c_2 (hz_8.trans ((flR_0 hlt0.1).mpr q))
    refine lv_aload_n hx hb dX11_beach_33 rfl (lv_at hl 1 rfl) ?_
    refine va_get (D := (dC, dI)) (ci := 11) (v := Value.ref xl) (C := RX11) (T := TX11) (N := 14) hx hb hts inX11 hown hK hP 0 rfl rfl 5 (by decide) (hts _ (gw kw_231 rfl)) (fun _ h9 => h9) rfl dX11_beach_34 ?_
    have hpd9 := pdf_N (cx := [oX7 xl (nI lz) lsg]) hP hD hS hA [5] (by decide) rfl
    have hPc := hpd9.1
    have hDc := hpd9.2.1
    have hFc := hpd9.2.2
    clear hpd9
    refine va_callv (va_runV (As := []) (rest := []) ⟨hx, hb, hml, hown, hts⟩ (c_X7_forget l dC dI aC H.size xl lsg lz Lt sg ) ⟨(callB_of 0 hts (gG kw_332) rfl rfl rfl (hts _ (gw kw_3 rfl)) (hts _ (gw kw_329 rfl)) hd_X7_forget ⟨Nat.le_of_ble_eq_true rfl, Nat.le_of_ble_eq_true rfl⟩), (hts _ (gw kw_330 rfl)), (hts _ (gw kw_331 rfl))⟩ ⟨fb_std, va_recv (q := (RX7, TX7, 2)) hK hPc (ci := 7) (q0 := 0) rfl rfl, pre_std hPc hK hDc hN⟩ rfl rfl hl.1 rfl (lv_room (Nat.le_of_ble_eq_true rfl)) dX11_beach_37 ⟨Nat.le_of_ble_eq_true rfl, Nat.le_of_ble_eq_true rfl⟩) hS (fun q _ h => hFc q h) hFc (fun u9 t9 H1 locs ht hvm hw_3 hB hz1 hk1 hS => ?_)
    obtain ⟨hP1, hK1, hD1⟩ := hB
    rw [ht] at hP1
    clear hK1
    try dsimp only at hw_3
    have hpd9 : PDx (dC, dI) classes A H1 [oX11 h0 xp xtp xn xt xk xl xc xo xto xr xch ts ik st, cI aC ek 8 kf, cI aC ef 8 ff, cI aC ew 8 wf, cI aC es 5 stf, cC aC lsg 64 sg, oX4 xn ek ef ew ep es (nI n) (nI sn) dn, oX7 xl 0 lsg] := jn_N (wr := [oX11 h0 xp xtp xn xt xk xl xc xo xto xr xch ts ik st, cI aC ek 8 kf, cI aC ef 8 ff, cI aC ew 8 wf, cI aC es 5 stf, cC aC lsg 64 sg, oX4 xn ek ef ew ep es (nI n) (nI sn) dn]) hFc hk1 hP1 hD1 hP hD [5] [0, 1, 2, 3, 4, 6, 7] rfl rfl (by decide) (by decide)
    have hP := hpd9.1
    have hD := hpd9.2
    clear hpd9
    generalize H1 = H at hP hS ⊢
    clear hPc hDc hFc hz1 hk1 hP1 hD1 ht hvm
    refine lv_iload_n hx hb dX11_beach_40 rfl (lv_at hl 0 rfl) ?_
    have hpd9 := pd_N (cx := [oX11 h0 xp xtp xn xt xk xl xc xo xto xr xch ts ik st, oX7 xl 0 lsg, cC aC lsg 64 sg, oX4 xn ek ef ew ep es (nI n) (nI sn) dn, cI aC ek 8 kf, cI aC ef 8 ff, cI aC ew 8 wf, cI aC es 5 stf]) hP hD [0, 7, 5, 6, 1, 2, 3, 4] (by decide) rfl
    have hP9 := hpd9.1
    have hD9 := hpd9.2
    refine W.widen (k := 0) (n := 0) (by omega) (by omega) ?_
    exact W.iret (v := x_1) hx hb hr (fun t ht hW => ⟨⟨x_1, (st, (nI n), kf, ff, wf, stf), rfl, ⟨by unfold bcR; rw [if_neg hbo]; exact hz_8, by unfold bcN; rw [if_neg hbo], fun q => absurd q hbo, fun _ => ⟨rfl, rfl, rfl, rfl, rfl⟩, by unfold bcN bcM bcS; rw [if_neg hbo, if_neg hbo, if_neg hbo, if_neg hbo, if_neg hbo]; exact hev⟩, by rw [ht]; exact hP9, va_K.moved hW.alike hK, hD9⟩, hS.F ht⟩) hS.2.2 dX11_beach_41
  · have hbo : BOK Lt lz n dn := (flR_0 hlt0.1).mp (hz_8.symm.trans c_2)
    refine lv_aload_n hx hb dX11_beach_16 rfl (lv_at hl 1 rfl) ?_
    refine va_get (D := (dC, dI)) (ci := 11) (v := Value.ref xl) (C := RX11) (T := TX11) (N := 14) hx hb hts inX11 hown hK hP 0 rfl rfl 5 (by decide) (hts _ (gw kw_231 rfl)) (fun _ h9 => h9) rfl dX11_beach_17 ?_
    refine lv_aload_n hx hb dX11_beach_20 rfl (lv_at hl 1 rfl) ?_
    refine va_get (D := (dC, dI)) (ci := 11) (v := Value.ref xn) (C := RX11) (T := TX11) (N := 14) hx hb hts inX11 hown hK hP 0 rfl rfl 2 (by decide) (hts _ (gw kw_228 rfl)) (fun _ h9 => h9) rfl dX11_beach_21 ?_
    have hpd9 := pdf_N (cx := [oX7 xl (nI lz) lsg, cC aC lsg 64 sg, oX4 xn ek ef ew ep es (nI n) (nI sn) dn, cI aC ek 8 kf, cI aC ef 8 ff, cI aC ew 8 wf, cI aC es 5 stf]) hP hD hS hA [5, 6, 7, 1, 2, 3, 4] (by decide) rfl
    have hPc := hpd9.1
    have hDc := hpd9.2.1
    have hFc := hpd9.2.2
    clear hpd9
    refine va_calli (va_runV (As := [Value.ref xn]) (rest := []) ⟨hx, hb, hml, hown, hts⟩ (c_X7_tell l dC dI aC H.size xl lsg lz Lt sg xn ek ef ew ep es n sn dn K F W0 S5 kf ff wf stf (hlt0) (by rw [hbo.1.1]; decide) (hbo.2) (hev)) ⟨(callB_of 1 hts (gG kw_320) rfl rfl rfl (hts _ (gw kw_3 rfl)) (hts _ (gw kw_317 rfl)) hd_X7_tell ⟨Nat.le_of_ble_eq_true rfl, Nat.le_of_ble_eq_true rfl⟩), (hts _ (gw kw_318 rfl)), (hts _ (gw kw_319 rfl))⟩ ⟨fb_std, va_recv (q := (RX7, TX7, 2)) hK hPc (ci := 7) (q0 := 0) rfl rfl, pre_std hPc hK hDc hN⟩ rfl rfl hl.1 rfl (lv_room (Nat.le_of_ble_eq_true rfl)) dX11_beach_24 ⟨Nat.le_of_ble_eq_true rfl, Nat.le_of_ble_eq_true rfl⟩) hS (fun q _ h => hFc q h) hFc (fun x_4 u9 t9 H1 locs ht hvm hw_4 hB hz1 hk1 hS => ?_)
    obtain ⟨u_5, u_6, u_7, u_8⟩ := u9
    obtain ⟨hP1, hK1, hD1⟩ := hB
    rw [ht] at hP1
    clear hK1
    try dsimp only at hw_4
    have hpd9 : PDx (dC, dI) classes A H1 [oX11 h0 xp xtp xn xt xk xl xc xo xto xr xch ts ik st, oX7 xl (nI lz) lsg, cC aC lsg 64 sg, oX4 xn ek ef ew ep es (nI (n + cm Lt lz)) (nI sn) dn, cI aC ek 8 u_5, cI aC ef 8 u_6, cI aC ew 8 u_7, cI aC es 5 u_8] := jn_N (wr := [oX11 h0 xp xtp xn xt xk xl xc xo xto xr xch ts ik st]) hFc hk1 hP1 hD1 hP hD [5, 6, 7, 1, 2, 3, 4] [0] rfl rfl (by decide) (by decide)
    have hP := hpd9.1
    have hD := hpd9.2
    clear hpd9
    generalize H1 = H at hP hS ⊢
    clear hPc hDc hFc hz1 hk1 hP1 hD1 ht hvm
    have hz_24 := hw_4
    refine lv_istore_n (lv' := [(1, Value.int x_4), (0, Value.ref h0)]) hx hb dX11_beach_27 rfl hl (by decide) rfl (fun ls hl => ?_)
    refine lv_aload_n hx hb dX11_beach_28 rfl (lv_at hl 1 rfl) ?_
    refine lv_iconst (v := 1) hx hb dX11_beach_29 (by decide) ?_
    refine va_put (D := (dC, dI)) (ci := 11) (v := Value.int 1) (ty := .boolean) (C := RX11) (T := TX11) (N := 14) hx hb hts inX11 tyX11 tyX11_ok nmX11 hown hK hP hD hS 0 rfl rfl 13 (by decide) (hts _ (gw kw_239 rfl)) (fun _ h9 => h9) rfl (by decide +kernel) rfl rfl (Nat.le_of_ble_eq_true rfl) dX11_beach_30 (fun H locs hP hD hS => ?_)
    have hpd9 : PDx (dC, dI) classes A H [oX11 h0 xp xtp xn xt xk xl xc xo xto xr xch ts ik 1, oX7 xl (nI lz) lsg, cC aC lsg 64 sg, oX4 xn ek ef ew ep es (nI (n + cm Lt lz)) (nI sn) dn, cI aC ek 8 u_5, cI aC ef 8 u_6, cI aC ew 8 u_7, cI aC es 5 u_8] := ⟨hP, hD⟩
    have hP := hpd9.1
    have hD := hpd9.2
    clear hpd9
    refine lv_aload_n hx hb dX11_beach_33 rfl (lv_at hl 1 rfl) ?_
    refine va_get (D := (dC, dI)) (ci := 11) (v := Value.ref xl) (C := RX11) (T := TX11) (N := 14) hx hb hts inX11 hown hK hP 0 rfl rfl 5 (by decide) (hts _ (gw kw_231 rfl)) (fun _ h9 => h9) rfl dX11_beach_34 ?_
    have hpd9 := pdf_N (cx := [oX7 xl (nI lz) lsg]) hP hD hS hA [1] (by decide) rfl
    have hPc := hpd9.1
    have hDc := hpd9.2.1
    have hFc := hpd9.2.2
    clear hpd9
    refine va_callv (va_runV (As := []) (rest := []) ⟨hx, hb, hml, hown, hts⟩ (c_X7_forget l dC dI aC H.size xl lsg lz Lt sg ) ⟨(callB_of 0 hts (gG kw_332) rfl rfl rfl (hts _ (gw kw_3 rfl)) (hts _ (gw kw_329 rfl)) hd_X7_forget ⟨Nat.le_of_ble_eq_true rfl, Nat.le_of_ble_eq_true rfl⟩), (hts _ (gw kw_330 rfl)), (hts _ (gw kw_331 rfl))⟩ ⟨fb_std, va_recv (q := (RX7, TX7, 2)) hK hPc (ci := 7) (q0 := 0) rfl rfl, pre_std hPc hK hDc hN⟩ rfl rfl hl.1 rfl (lv_room (Nat.le_of_ble_eq_true rfl)) dX11_beach_37 ⟨Nat.le_of_ble_eq_true rfl, Nat.le_of_ble_eq_true rfl⟩) hS (fun q _ h => hFc q h) hFc (fun u9 t9 H1 locs ht hvm hw_9 hB hz1 hk1 hS => ?_)
    obtain ⟨hP1, hK1, hD1⟩ := hB
    rw [ht] at hP1
    clear hK1
    try dsimp only at hw_9
    have hpd9 : PDx (dC, dI) classes A H1 [oX11 h0 xp xtp xn xt xk xl xc xo xto xr xch ts ik 1, cC aC lsg 64 sg, oX4 xn ek ef ew ep es (nI (n + cm Lt lz)) (nI sn) dn, cI aC ek 8 u_5, cI aC ef 8 u_6, cI aC ew 8 u_7, cI aC es 5 u_8, oX7 xl 0 lsg] := jn_N (wr := [oX11 h0 xp xtp xn xt xk xl xc xo xto xr xch ts ik 1, cC aC lsg 64 sg, oX4 xn ek ef ew ep es (nI (n + cm Lt lz)) (nI sn) dn, cI aC ek 8 u_5, cI aC ef 8 u_6, cI aC ew 8 u_7, cI aC es 5 u_8]) hFc hk1 hP1 hD1 hP hD [1] [0, 2, 3, 4, 5, 6, 7] rfl rfl (by decide) (by decide)
    have hP := hpd9.1
    have hD := hpd9.2
    clear hpd9
    generalize H1 = H at hP hS ⊢
    clear hPc hDc hFc hz1 hk1 hP1 hD1 ht hvm
    refine lv_iload_n hx hb dX11_beach_40 rfl (lv_at hl 0 rfl) ?_
    have hpd9 := pd_N (cx := [oX11 h0 xp xtp xn xt xk xl xc xo xto xr xch ts ik 1, oX7 xl 0 lsg, cC aC lsg 64 sg, oX4 xn ek ef ew ep es (nI (n + cm Lt lz)) (nI sn) dn, cI aC ek 8 u_5, cI aC ef 8 u_6, cI aC ew 8 u_7, cI aC es 5 u_8]) hP hD [0, 7, 1, 2, 3, 4, 5, 6] (by decide) rfl
    have hP9 := hpd9.1
    have hD9 := hpd9.2
    refine W.widen (k := 0) (n := 0) (by omega) (by omega) ?_
    exact W.iret (v := x_4) hx hb hr (fun t ht hW => ⟨⟨x_4, (1, (nI (n + cm Lt lz)), u_5, u_6, u_7, u_8), rfl, ⟨by unfold bcR; rw [if_pos hbo]; exact hz_24.1, by unfold bcN; rw [if_pos hbo], fun _ => rfl, fun q => absurd hbo q, by unfold bcN bcM bcS; rw [if_pos hbo, if_pos hbo, if_pos hbo, if_pos hbo, if_pos hbo]; exact hz_24.2⟩, by rw [ht]; exact hP9, va_K.moved hW.alike hK, hD9⟩, hS.F ht⟩) hS.2.2 dX11_beach_41
