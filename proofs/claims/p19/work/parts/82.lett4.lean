theorem rg_n1 {L : Nat → Nat} {s m : Nat} {dn : Int32} (h : L s = 109) (h2 : ¬ (L (s + 1) - 48 ≤ 6 ∧ 1 ≤ L (s + 3) - 48 ∧ m ≤ 8 ∧ dn = 0)) : ¬ RGQ L s m dn := fun q => h2 (q.1 h)
theorem rg_n2 {L : Nat → Nat} {s m : Nat} {dn : Int32} (h : L s = 108) (h2 : ¬ (L (s + 1) - 48 ≤ 2 ∧ L (s + 2) - 48 ≤ 1 ∧ L (s + 3) - 48 ≤ 1)) : ¬ RGQ L s m dn := fun q => h2 (q.2 h)
theorem rg_y1 {L : Nat → Nat} {s m : Nat} {dn : Int32} (h : L s = 109) (h2 : L (s + 1) - 48 ≤ 6 ∧ 1 ≤ L (s + 3) - 48 ∧ m ≤ 8 ∧ dn = 0) : RGQ L s m dn := ⟨fun _ => h2, fun q => by omega⟩
theorem rg_y2 {L : Nat → Nat} {s m : Nat} {dn : Int32} (h : L s = 108) (h2 : L (s + 1) - 48 ≤ 2 ∧ L (s + 2) - 48 ≤ 1 ∧ L (s + 3) - 48 ≤ 1) : RGQ L s m dn := ⟨fun q => by omega, fun _ => h2⟩
theorem rg_y3 {L : Nat → Nat} {s m : Nat} {dn : Int32} (h : ¬ L s = 109) (h2 : ¬ L s = 108) : RGQ L s m dn := ⟨fun q => absurd q h, fun q => absurd q h2⟩
theorem dg_v {L : Nat → Nat} {z q : Nat} {r : Int32} (h : r = if q < z then nI (L q) - 48 else 0) (hq : q < z) (hd : dig (L q)) : r = nI (L q - 48) := by rw [h, if_pos hq, dgv hd]
theorem le_of {a b : Nat} {x : Int32} (hx : x = nI a) (ha : a ≤ 255) (hb : b ≤ 255) : (nI b < x → ¬ a ≤ b) ∧ (¬ nI b < x → a ≤ b) := by
  subst hx
  exact ⟨fun q => by have := (nI_ltI (a := b) (b := a) (by omega) (by omega)).mp q; omega, fun q => Nat.le_of_not_lt fun z => q (nI_lt z (by omega))⟩
theorem ge_of {a : Nat} {x : Int32} (hx : x = nI a) (ha : a ≤ 255) : (x < 1 → ¬ 1 ≤ a) ∧ (¬ x < 1 → 1 ≤ a) := by
  subst hx
  exact ⟨fun q => by have := (nI_ltI (a := a) (b := 1) (by omega) (by omega)).mp q; omega, fun q => Nat.le_of_not_lt fun z => q (nI_lt (b := 1) z (by omega))⟩
theorem dig255 {x : Nat} (h : dig x) : x - 48 ≤ 255 := by unfold dig at h; omega

set_option maxHeartbeats 1000000 in
set_option maxRecDepth 100000 in
/-- X7_isRight -/
theorem c_X7_isRight (l : Launch) (dC : Nat → ClassId) (dI : Nat → Nat → Nat) (aC : Nat → ClassId) (sz : Nat) (xl : Nat) (lsg : Nat) (lz : Nat) (Lt : Nat → Nat) (sg : Nat → Int32) (s9 : Nat) (ee : Nat) (mm : Nat) (dn : Int32) (tG : Nat) (hlt0 : LTR lz Lt sg) (hst : STM Lt s9 ee) (hee : ee < lz) (hmm : mm ≤ 100) : Met l yX7_isRight (wW yX7_isRight cX7_isRight 7 (some .boolean)) ({ frames := 1, cells := 0, slots := 0, locals := 21 } : Room) (va_Pc [Value.ref xl, Value.int (nI s9), Value.int (nI mm), Value.int dn] (fun U => U.heap.size = sz ∧ va_P (dC, dI) classes [oX7 xl (nI lz) lsg, cC aC lsg 64 sg] U.heap ∧ va_K (dC, dI) classes (TY aC) U ∧ va_D (fun _ => True) [oX7 xl (nI lz) lsg, cC aC lsg 64 sg] ∧ NX U ∧ va_Z "EldestSays" "GREATEST" "[I" (.ref tG) (va_A [oX7 xl (nI lz) lsg, cC aC lsg 64 sg] sz) U U.heap ∧ va_T .int tG 5 (fun j => .int (GV j)) (va_A [oX7 xl (nI lz) lsg, cC aC lsg 64 sg] sz) U U.heap)) (va_Qi (fun (r : Int32) (_ : Unit) => (r = 0 → ¬ RGQ Lt s9 mm dn) ∧ (¬ r = 0 → RGQ Lt s9 mm dn)) (fun (_ : Unit) (t : State) => va_P (dC, dI) classes [oX7 xl (nI lz) lsg, cC aC lsg 64 sg] t.heap ∧ va_K (dC, dI) classes (TY aC) t ∧ va_D (va_A [oX7 xl (nI lz) lsg, cC aC lsg 64 sg] sz) [oX7 xl (nI lz) lsg, cC aC lsg 64 sg]) (va_A [oX7 xl (nI lz) lsg, cC aC lsg 64 sg] sz)) 0 0 (va_A [oX7 xl (nI lz) lsg, cC aC lsg 64 sg] sz) := by
  refine Met.ofW (cc := cX7_isRight) (maxL := 7) (ret := (some .boolean)) (by decide) rfl ?_
  intro p e s m args below meth c s₁ B hml hv
  obtain ⟨rfl, hsz, hP, hK, hD0, hN, hZG, hTG⟩ := hv
  have hx := B.exec
  have hb := B.bytes
  have hr := B.returns
  have hts0 := atoms_spec (ws := (wW yX7_isRight cX7_isRight 7 (some .boolean))) B.pre
  have hts : ∀ w9 ∈ lw_G, w9.before ([Value.ref xl, Value.int (nI s9), Value.int (nI mm), Value.int dn] : List Value).toArray s = true := fun w9 h9 => hts0 w9 (List.mem_cons_of_mem _ h9)
  have hown : s.vm.findClass RX7 = some m.cls := findClass_of_methodNamed (x := yX7_isRight) B.named
  have hlocks := B.notSynchronized
  subst hsz
  have hD := hD0.self (sz := s.heap.size)
  generalize hAe : va_A [oX7 xl (nI lz) lsg, cC aC lsg 64 sg] s.heap.size = A at hZG hTG hD ⊢
  have hA : ∀ q : Nat, s.heap.size ≤ q → A q := fun q h => by rw [← hAe]; exact Or.inr h
  obtain ⟨H, hHe⟩ : ∃ H : Heap, H = s.heap := ⟨_, rfl⟩
  have hS : va_S A s.heap H [] := by rw [hHe]; exact va_S.rf
  have hP : va_P (dC, dI) classes [oX7 xl (nI lz) lsg, cC aC lsg 64 sg] H := by rw [hHe]; exact hP
  have hl := lv_entry ([Value.ref xl, Value.int (nI s9), Value.int (nI mm), Value.int dn]) (n := 7) (Nat.le_of_ble_eq_true rfl)
  rw [lg_entry_eq]
  generalize (lg_sl ([Value.ref xl, Value.int (nI s9), Value.int (nI mm), Value.int dn]) ++ List.replicate (7 - (lg_sl ([Value.ref xl, Value.int (nI s9), Value.int (nI mm), Value.int dn])).length) Slot.unset).toArray = ls at hl ⊢
  have hl : lv_has ls 7 [(0, Value.ref xl), (1, Value.int (nI s9)), (2, Value.int (nI mm)), (3, Value.int dn)] := hl
  rw [← hHe]
  have hz6 := hlt0.1
  have hL := hlt0.2
  have hse := (STM_k hst).2
  refine lv_aload_n hx hb dX7_isRight_0 rfl (lv_at hl 0 rfl) ?_
  refine lv_iload_n hx hb dX7_isRight_1 rfl (lv_at hl 1 rfl) ?_
  refine lv_iconst (v := 1) hx hb dX7_isRight_2 (by decide) ?_
  refine lv_iadd hx hb dX7_isRight_3 ?_
  refine lv_topi (fun x_1 e_1 => ?_)
  have h9 : x_1 = nI (s9 + 1) := by rw [e_1, nI_1]
  subst h9
  have hpd9 := pdf_N (cx := [oX7 xl (nI lz) lsg, cC aC lsg 64 sg]) hP hD hS hA [0, 1] (by decide) rfl
  have hPc := hpd9.1
  have hDc := hpd9.2.1
  have hFc := hpd9.2.2
  clear hpd9
  refine va_calli (va_runV (As := [Value.int (nI (s9 + 1))]) (rest := []) ⟨hx, hb, hml, hown, hts⟩ (c_X7_digit l dC dI aC H.size xl lsg lz Lt sg (s9 + 1) (hlt0) (by omega)) ⟨(callB_of 1 hts (gG kw_314) rfl rfl rfl (hts _ (gw kw_3 rfl)) (hts _ (gw kw_311 rfl)) hd_X7_digit ⟨Nat.le_of_ble_eq_true rfl, Nat.le_of_ble_eq_true rfl⟩), (hts _ (gw kw_313 rfl)), (hts _ (gw ks_4 rfl))⟩ ⟨fb_std, va_recv (q := (RX7, TX7, 2)) hK hPc (ci := 7) (q0 := 0) rfl rfl, pre_std hPc hK hDc hN⟩ rfl rfl hl.1 rfl (lv_room (Nat.le_of_ble_eq_true rfl)) dX7_isRight_4 ⟨Nat.le_of_ble_eq_true rfl, Nat.le_of_ble_eq_true rfl⟩) hS (fun q _ h => hFc q h) hFc (fun x_2 u9 t9 H1 locs ht hvm hw_2 hB hz1 hk1 hS => ?_)
  obtain ⟨hP1, hK1, hD1⟩ := hB
  rw [ht] at hP1
  clear hK1
  try dsimp only at hw_2
  have hpd9 : PDx (dC, dI) classes A H1 [oX7 xl (nI lz) lsg, cC aC lsg 64 sg] := jn_N (wr := []) hFc hk1 hP1 hD1 hP hD [0, 1] [] rfl rfl (by decide) (by decide)
  have hP := hpd9.1
  have hD := hpd9.2
  clear hpd9
  generalize H1 = H at hP hS ⊢
  clear hPc hDc hFc hz1 hk1 hP1 hD1 ht hvm
  have hz_4 := hw_2
  refine lv_istore (lv' := [(4, Value.int x_2), (0, Value.ref xl), (1, Value.int (nI s9)), (2, Value.int (nI mm)), (3, Value.int dn)]) hx hb dX7_isRight_7 hl (by decide) rfl (fun ls hl => ?_)
  refine lv_aload_n hx hb dX7_isRight_9 rfl (lv_at hl 1 rfl) ?_
  refine lv_iload_n hx hb dX7_isRight_10 rfl (lv_at hl 2 rfl) ?_
  refine lv_iconst (v := 2) hx hb dX7_isRight_11 (by decide) ?_
  refine lv_iadd hx hb dX7_isRight_12 ?_
  refine lv_topi (fun x_3 e_3 => ?_)
  have h9 : x_3 = nI (s9 + 2) := by rw [e_3]; exact nI_add (s9) 2
  subst h9
  have hpd9 := pdf_N (cx := [oX7 xl (nI lz) lsg, cC aC lsg 64 sg]) hP hD hS hA [0, 1] (by decide) rfl
  have hPc := hpd9.1
  have hDc := hpd9.2.1
  have hFc := hpd9.2.2
  clear hpd9
  refine va_calli (va_runV (As := [Value.int (nI (s9 + 2))]) (rest := []) ⟨hx, hb, hml, hown, hts⟩ (c_X7_digit l dC dI aC H.size xl lsg lz Lt sg (s9 + 2) (hlt0) (by omega)) ⟨(callB_of 1 hts (gG kw_314) rfl rfl rfl (hts _ (gw kw_3 rfl)) (hts _ (gw kw_311 rfl)) hd_X7_digit ⟨Nat.le_of_ble_eq_true rfl, Nat.le_of_ble_eq_true rfl⟩), (hts _ (gw kw_313 rfl)), (hts _ (gw ks_4 rfl))⟩ ⟨fb_std, va_recv (q := (RX7, TX7, 2)) hK hPc (ci := 7) (q0 := 0) rfl rfl, pre_std hPc hK hDc hN⟩ rfl rfl hl.1 rfl (lv_room (Nat.le_of_ble_eq_true rfl)) dX7_isRight_13 ⟨Nat.le_of_ble_eq_true rfl, Nat.le_of_ble_eq_true rfl⟩) hS (fun q _ h => hFc q h) hFc (fun x_4 u9 t9 H1 locs ht hvm hw_4 hB hz1 hk1 hS => ?_)
  obtain ⟨hP1, hK1, hD1⟩ := hB
  rw [ht] at hP1
  clear hK1
  try dsimp only at hw_4
  have hpd9 : PDx (dC, dI) classes A H1 [oX7 xl (nI lz) lsg, cC aC lsg 64 sg] := jn_N (wr := []) hFc hk1 hP1 hD1 hP hD [0, 1] [] rfl rfl (by decide) (by decide)
  have hP := hpd9.1
  have hD := hpd9.2
  clear hpd9
  generalize H1 = H at hP hS ⊢
  clear hPc hDc hFc hz1 hk1 hP1 hD1 ht hvm
  have hz_13 := hw_4
  refine lv_istore (lv' := [(5, Value.int x_4), (4, Value.int x_2), (0, Value.ref xl), (1, Value.int (nI s9)), (2, Value.int (nI mm)), (3, Value.int dn)]) hx hb dX7_isRight_16 hl (by decide) rfl (fun ls hl => ?_)
  refine lv_aload_n hx hb dX7_isRight_18 rfl (lv_at hl 2 rfl) ?_
  refine lv_iload_n hx hb dX7_isRight_19 rfl (lv_at hl 3 rfl) ?_
  refine lv_iconst (v := 3) hx hb dX7_isRight_20 (by decide) ?_
  refine lv_iadd hx hb dX7_isRight_21 ?_
  refine lv_topi (fun x_5 e_5 => ?_)
  have h9 : x_5 = nI (s9 + 3) := by rw [e_5]; exact nI_add (s9) 3
  subst h9
  have hpd9 := pdf_N (cx := [oX7 xl (nI lz) lsg, cC aC lsg 64 sg]) hP hD hS hA [0, 1] (by decide) rfl
  have hPc := hpd9.1
  have hDc := hpd9.2.1
  have hFc := hpd9.2.2
  clear hpd9
  refine va_calli (va_runV (As := [Value.int (nI (s9 + 3))]) (rest := []) ⟨hx, hb, hml, hown, hts⟩ (c_X7_digit l dC dI aC H.size xl lsg lz Lt sg (s9 + 3) (hlt0) (by omega)) ⟨(callB_of 1 hts (gG kw_314) rfl rfl rfl (hts _ (gw kw_3 rfl)) (hts _ (gw kw_311 rfl)) hd_X7_digit ⟨Nat.le_of_ble_eq_true rfl, Nat.le_of_ble_eq_true rfl⟩), (hts _ (gw kw_313 rfl)), (hts _ (gw ks_4 rfl))⟩ ⟨fb_std, va_recv (q := (RX7, TX7, 2)) hK hPc (ci := 7) (q0 := 0) rfl rfl, pre_std hPc hK hDc hN⟩ rfl rfl hl.1 rfl (lv_room (Nat.le_of_ble_eq_true rfl)) dX7_isRight_22 ⟨Nat.le_of_ble_eq_true rfl, Nat.le_of_ble_eq_true rfl⟩) hS (fun q _ h => hFc q h) hFc (fun x_6 u9 t9 H1 locs ht hvm hw_6 hB hz1 hk1 hS => ?_)
  obtain ⟨hP1, hK1, hD1⟩ := hB
  rw [ht] at hP1
  clear hK1
  try dsimp only at hw_6
  have hpd9 : PDx (dC, dI) classes A H1 [oX7 xl (nI lz) lsg, cC aC lsg 64 sg] := jn_N (wr := []) hFc hk1 hP1 hD1 hP hD [0, 1] [] rfl rfl (by decide) (by decide)
  have hP := hpd9.1
  have hD := hpd9.2
  clear hpd9
  generalize H1 = H at hP hS ⊢
  clear hPc hDc hFc hz1 hk1 hP1 hD1 ht hvm
  have hz_22 := hw_6
  refine lv_istore (lv' := [(6, Value.int x_6), (5, Value.int x_4), (4, Value.int x_2), (0, Value.ref xl), (1, Value.int (nI s9)), (2, Value.int (nI mm)), (3, Value.int dn)]) hx hb dX7_isRight_25 hl (by decide) rfl (fun ls hl => ?_)
  refine lv_aload_n hx hb dX7_isRight_27 rfl (lv_at hl 3 rfl) ?_
  refine va_get (D := (dC, dI)) (ci := 7) (v := Value.ref lsg) (C := RX7) (T := TX7) (N := 2) hx hb hts inX7 hown hK hP 0 rfl rfl 1 (by decide) (hts _ (gw kw_82 rfl)) (fun _ h9 => h9) rfl dX7_isRight_28 ?_
  refine lv_iload_n hx hb dX7_isRight_31 rfl (lv_at hl 4 rfl) ?_
  have h_7 : vp_in (nI s9) 64 := vp_in_nI (by omega) (by omega)
  refine va_cald hx hb hK hP 1 1 rfl rfl h_7 dX7_isRight_32 ?_
  refine lv_topi (fun x_8 e_8 => ?_)
  have h9 : x_8 = nI (Lt s9) := by rw [e_8, nI_clamp (by omega)]; exact (hL s9 (by omega)).1
  subst h9
  refine lv_bipush (v := 109) hx hb dX7_isRight_33 (by decide) ?_
  refine lv_icmp_ne (tgt := 67) hx hb dX7_isRight_35 (by decide) (fun c_9 => ?_) (fun c_9 => ?_)
  · refine lv_aload_n hx hb dX7_isRight_67 rfl (lv_at hl 3 rfl) ?_
    refine va_get (D := (dC, dI)) (ci := 7) (v := Value.ref lsg) (C := RX7) (T := TX7) (N := 2) hx hb hts inX7 hown hK hP 0 rfl rfl 1 (by decide) (hts _ (gw kw_82 rfl)) (fun _ h9 => h9) rfl dX7_isRight_68 ?_
    refine lv_iload_n hx hb dX7_isRight_71 rfl (lv_at hl 4 rfl) ?_
    have h_10 : vp_in (nI s9) 64 := vp_in_nI (by omega) (by omega)
    refine va_cald hx hb hK hP 1 1 rfl rfl h_10 dX7_isRight_72 ?_
    refine lv_topi (fun x_11 e_11 => ?_)
    have h9 : x_11 = nI (Lt s9) := by rw [e_11, nI_clamp (by omega)]; exact (hL s9 (by omega)).1
    subst h9
    refine lv_bipush (v := 108) hx hb dX7_isRight_73 (by decide) ?_
    refine lv_icmp_ne (tgt := 114) hx hb dX7_isRight_75 (by decide) (fun c_12 => ?_) (fun c_12 => ?_)
    · refine lv_iconst (v := 1) hx hb dX7_isRight_114 (by decide) ?_
      have hpd9 := pd_N (cx := [oX7 xl (nI lz) lsg, cC aC lsg 64 sg]) hP hD [0, 1] (by decide) rfl
      have hP9 := hpd9.1
      have hD9 := hpd9.2
      refine W.widen (k := 0) (n := 0) (by omega) (by omega) ?_
      exact W.zret (v := 1) hx hb hr rfl (fun t ht hW => ⟨⟨1, (), rfl, ⟨fun q => absurd q (by decide), fun _ => rg_y3 (fun z => c_9 (by rw [z]; rfl)) (fun z => c_12 (by rw [z]; rfl))⟩, by rw [ht]; exact hP9, va_K.moved hW.alike hK, hD9⟩, hS.F ht⟩) hS.2.2 dX7_isRight_115
    · have hm8 : Lt s9 = 108 := (nI_b0 (k := 108) (hL s9 (by omega)).2 (by omega)).mp c_12
      obtain ⟨he4, hd1, hd2, hd3⟩ := STM_d hst (Or.inr hm8)
      have hv1 := dg_v hz_4 (by omega) hd1
      have hv2 := dg_v hz_13 (by omega) hd2
      have hv3 := dg_v hz_22 (by omega) hd3
      refine lv_iload hx hb dX7_isRight_78 (lv_at hl 2 rfl) ?_
      refine va_getsN (v := .ref tG) hx hb hZG hS hown (va_Nw.use rfl (hN.1 _ kw_315 rfl)) (fun _ h9 => h9) dX7_isRight_80 ?_
      refine lv_iconst (v := 1) hx hb dX7_isRight_83 (by decide) ?_
      have h_13 : vp_in 1 5 := by unfold vp_in; decide
      refine va_ti hx hb hTG hS h_13 rfl dX7_isRight_84 ?_
      refine lv_topi (fun x_14 e_14 => ?_)
      have h9 : x_14 = 2 := by rw [e_14]; rfl
      subst h9
      refine lv_icmp_gt (tgt := 112) hx hb dX7_isRight_85 (by decide) (fun c_15 => ?_) (fun c_15 => ?_)
      · refine lv_iconst (v := 0) hx hb dX7_isRight_112 (by decide) ?_
        have hpd9 := pd_N (cx := [oX7 xl (nI lz) lsg, cC aC lsg 64 sg]) hP hD [0, 1] (by decide) rfl
        have hP9 := hpd9.1
        have hD9 := hpd9.2
        refine W.widen (k := 0) (n := 0) (by omega) (by omega) ?_
        exact W.zret (v := 0) hx hb hr rfl (fun t ht hW => ⟨⟨0, (), rfl, ⟨fun _ => rg_n2 hm8 (fun z => (le_of (b := 2) hv1 (dig255 hd1) (by omega)).1 c_15 z.1), fun q => absurd rfl q⟩, by rw [ht]; exact hP9, va_K.moved hW.alike hK, hD9⟩, hS.F ht⟩) hS.2.2 dX7_isRight_113
      · refine lv_iload hx hb dX7_isRight_88 (lv_at hl 1 rfl) ?_
        refine va_getsN (v := .ref tG) hx hb hZG hS hown (va_Nw.use rfl (hN.1 _ kw_315 rfl)) (fun _ h9 => h9) dX7_isRight_90 ?_
        refine lv_iconst (v := 2) hx hb dX7_isRight_93 (by decide) ?_
        have h_16 : vp_in 2 5 := by unfold vp_in; decide
        refine va_ti hx hb hTG hS h_16 rfl dX7_isRight_94 ?_
        refine lv_topi (fun x_17 e_17 => ?_)
        have h9 : x_17 = 1 := by rw [e_17]; rfl
        subst h9
        refine lv_icmp_gt (tgt := 112) hx hb dX7_isRight_95 (by decide) (fun c_18 => ?_) (fun c_18 => ?_)
        · refine lv_iconst (v := 0) hx hb dX7_isRight_112 (by decide) ?_
          have hpd9 := pd_N (cx := [oX7 xl (nI lz) lsg, cC aC lsg 64 sg]) hP hD [0, 1] (by decide) rfl
          have hP9 := hpd9.1
          have hD9 := hpd9.2
          refine W.widen (k := 0) (n := 0) (by omega) (by omega) ?_
          exact W.zret (v := 0) hx hb hr rfl (fun t ht hW => ⟨⟨0, (), rfl, ⟨fun _ => rg_n2 hm8 (fun z => (le_of (b := 1) hv2 (dig255 hd2) (by omega)).1 c_18 z.2.1), fun q => absurd rfl q⟩, by rw [ht]; exact hP9, va_K.moved hW.alike hK, hD9⟩, hS.F ht⟩) hS.2.2 dX7_isRight_113
        · refine lv_iload hx hb dX7_isRight_98 (lv_at hl 0 rfl) ?_
          refine va_getsN (v := .ref tG) hx hb hZG hS hown (va_Nw.use rfl (hN.1 _ kw_315 rfl)) (fun _ h9 => h9) dX7_isRight_100 ?_
          refine lv_iconst (v := 3) hx hb dX7_isRight_103 (by decide) ?_
          have h_19 : vp_in 3 5 := by unfold vp_in; decide
          refine va_ti hx hb hTG hS h_19 rfl dX7_isRight_104 ?_
          refine lv_topi (fun x_20 e_20 => ?_)
          have h9 : x_20 = 1 := by rw [e_20]; rfl
          subst h9
          refine lv_icmp_gt (tgt := 112) hx hb dX7_isRight_105 (by decide) (fun c_21 => ?_) (fun c_21 => ?_)
          · refine lv_iconst (v := 0) hx hb dX7_isRight_112 (by decide) ?_
            have hpd9 := pd_N (cx := [oX7 xl (nI lz) lsg, cC aC lsg 64 sg]) hP hD [0, 1] (by decide) rfl
            have hP9 := hpd9.1
            have hD9 := hpd9.2
            refine W.widen (k := 0) (n := 0) (by omega) (by omega) ?_
            exact W.zret (v := 0) hx hb hr rfl (fun t ht hW => ⟨⟨0, (), rfl, ⟨fun _ => rg_n2 hm8 (fun z => (le_of (b := 1) hv3 (dig255 hd3) (by omega)).1 c_21 z.2.2), fun q => absurd rfl q⟩, by rw [ht]; exact hP9, va_K.moved hW.alike hK, hD9⟩, hS.F ht⟩) hS.2.2 dX7_isRight_113
          · refine lv_iconst (v := 1) hx hb dX7_isRight_108 (by decide) ?_
            refine lv_goto (tgt := 113) hx hb dX7_isRight_109 (by decide) ?_
            have hpd9 := pd_N (cx := [oX7 xl (nI lz) lsg, cC aC lsg 64 sg]) hP hD [0, 1] (by decide) rfl
            have hP9 := hpd9.1
            have hD9 := hpd9.2
            refine W.widen (k := 0) (n := 0) (by omega) (by omega) ?_
            exact W.zret (v := 1) hx hb hr rfl (fun t ht hW => ⟨⟨1, (), rfl, ⟨fun q => absurd q (by decide), fun _ => rg_y2 hm8 ⟨(le_of (b := 2) hv1 (dig255 hd1) (by omega)).2 c_15, (le_of (b := 1) hv2 (dig255 hd2) (by omega)).2 c_18, (le_of (b := 1) hv3 (dig255 hd3) (by omega)).2 c_21⟩⟩, by rw [ht]; exact hP9, va_K.moved hW.alike hK, hD9⟩, hS.F ht⟩) hS.2.2 dX7_isRight_113
  · have hm9 : Lt s9 = 109 := (nI_b0 (k := 109) (hL s9 (by omega)).2 (by omega)).mp c_9
    obtain ⟨he4, hd1, hd2, hd3⟩ := STM_d hst (Or.inl hm9)
    have hv1 := dg_v hz_4 (by omega) hd1
    have hv3 := dg_v hz_22 (by omega) hd3
    refine lv_iload hx hb dX7_isRight_38 (lv_at hl 2 rfl) ?_
    refine lv_bipush (v := 6) hx hb dX7_isRight_40 (by decide) ?_
    refine lv_icmp_gt (tgt := 65) hx hb dX7_isRight_42 (by decide) (fun c_22 => ?_) (fun c_22 => ?_)
    · refine lv_iconst (v := 0) hx hb dX7_isRight_65 (by decide) ?_
      have hpd9 := pd_N (cx := [oX7 xl (nI lz) lsg, cC aC lsg 64 sg]) hP hD [0, 1] (by decide) rfl
      have hP9 := hpd9.1
      have hD9 := hpd9.2
      refine W.widen (k := 0) (n := 0) (by omega) (by omega) ?_
      exact W.zret (v := 0) hx hb hr rfl (fun t ht hW => ⟨⟨0, (), rfl, ⟨fun _ => rg_n1 hm9 (fun z => (le_of (b := 6) hv1 (dig255 hd1) (by omega)).1 c_22 z.1), fun q => absurd rfl q⟩, by rw [ht]; exact hP9, va_K.moved hW.alike hK, hD9⟩, hS.F ht⟩) hS.2.2 dX7_isRight_66
    · refine lv_iload hx hb dX7_isRight_45 (lv_at hl 0 rfl) ?_
      refine lv_iconst (v := 1) hx hb dX7_isRight_47 (by decide) ?_
      refine lv_icmp_lt (tgt := 65) hx hb dX7_isRight_48 (by decide) (fun c_23 => ?_) (fun c_23 => ?_)
      · refine lv_iconst (v := 0) hx hb dX7_isRight_65 (by decide) ?_
        have hpd9 := pd_N (cx := [oX7 xl (nI lz) lsg, cC aC lsg 64 sg]) hP hD [0, 1] (by decide) rfl
        have hP9 := hpd9.1
        have hD9 := hpd9.2
        refine W.widen (k := 0) (n := 0) (by omega) (by omega) ?_
        exact W.zret (v := 0) hx hb hr rfl (fun t ht hW => ⟨⟨0, (), rfl, ⟨fun _ => rg_n1 hm9 (fun z => (ge_of hv3 (dig255 hd3)).1 c_23 z.2.1), fun q => absurd rfl q⟩, by rw [ht]; exact hP9, va_K.moved hW.alike hK, hD9⟩, hS.F ht⟩) hS.2.2 dX7_isRight_66
      · refine lv_iload_n hx hb dX7_isRight_51 rfl (lv_at hl 5 rfl) ?_
        refine lv_bipush (v := 8) hx hb dX7_isRight_52 (by decide) ?_
        refine lv_icmp_gt (tgt := 65) hx hb dX7_isRight_54 (by decide) (fun c_24 => ?_) (fun c_24 => ?_)
        · refine lv_iconst (v := 0) hx hb dX7_isRight_65 (by decide) ?_
          have hpd9 := pd_N (cx := [oX7 xl (nI lz) lsg, cC aC lsg 64 sg]) hP hD [0, 1] (by decide) rfl
          have hP9 := hpd9.1
          have hD9 := hpd9.2
          refine W.widen (k := 0) (n := 0) (by omega) (by omega) ?_
          exact W.zret (v := 0) hx hb hr rfl (fun t ht hW => ⟨⟨0, (), rfl, ⟨fun _ => rg_n1 hm9 (fun z => (le_of (a := mm) (b := 8) rfl (by omega) (by omega)).1 c_24 z.2.2.1), fun q => absurd rfl q⟩, by rw [ht]; exact hP9, va_K.moved hW.alike hK, hD9⟩, hS.F ht⟩) hS.2.2 dX7_isRight_66
        · refine lv_iload_n hx hb dX7_isRight_57 rfl (lv_at hl 6 rfl) ?_
          refine lv_if_ne (tgt := 65) hx hb dX7_isRight_58 (by decide) (fun c_25 => ?_) (fun c_25 => ?_)
          · refine lv_iconst (v := 0) hx hb dX7_isRight_65 (by decide) ?_
            have hpd9 := pd_N (cx := [oX7 xl (nI lz) lsg, cC aC lsg 64 sg]) hP hD [0, 1] (by decide) rfl
            have hP9 := hpd9.1
            have hD9 := hpd9.2
            refine W.widen (k := 0) (n := 0) (by omega) (by omega) ?_
            exact W.zret (v := 0) hx hb hr rfl (fun t ht hW => ⟨⟨0, (), rfl, ⟨fun _ => rg_n1 hm9 (fun z => c_25 z.2.2.2), fun q => absurd rfl q⟩, by rw [ht]; exact hP9, va_K.moved hW.alike hK, hD9⟩, hS.F ht⟩) hS.2.2 dX7_isRight_66
          · refine lv_iconst (v := 1) hx hb dX7_isRight_61 (by decide) ?_
            refine lv_goto (tgt := 66) hx hb dX7_isRight_62 (by decide) ?_
            have hpd9 := pd_N (cx := [oX7 xl (nI lz) lsg, cC aC lsg 64 sg]) hP hD [0, 1] (by decide) rfl
            have hP9 := hpd9.1
            have hD9 := hpd9.2
            refine W.widen (k := 0) (n := 0) (by omega) (by omega) ?_
            exact W.zret (v := 1) hx hb hr rfl (fun t ht hW => ⟨⟨1, (), rfl, ⟨fun q => absurd q (by decide), fun _ => rg_y1 hm9 ⟨(le_of (b := 6) hv1 (dig255 hd1) (by omega)).2 c_22, (ge_of hv3 (dig255 hd3)).2 c_23, (le_of (a := mm) (b := 8) rfl (by omega) (by omega)).2 c_24, c_25⟩⟩, by rw [ht]; exact hP9, va_K.moved hW.alike hK, hD9⟩, hS.F ht⟩) hS.2.2 dX7_isRight_66

set_option maxHeartbeats 1000000 in
set_option maxRecDepth 100000 in
/-- X7_wrongAt -/
theorem c_X7_wrongAt (l : Launch) (dC : Nat → ClassId) (dI : Nat → Nat → Nat) (aC : Nat → ClassId) (sz : Nat) (xl : Nat) (lsg : Nat) (lz : Nat) (Lt : Nat → Nat) (sg : Nat → Int32) (h1 : Nat) (ek : Nat) (ef : Nat) (ew : Nat) (ep : Nat) (es : Nat) (n : Nat) (sy : Int32) (dn : Int32) (tG : Nat) (hlt0 : LTR lz Lt sg) (hnb : lrn Lt lz ≠ 9) (hn : n ≤ 8) : Met l yX7_wrongAt (wW yX7_wrongAt cX7_wrongAt 5 (some .int)) ({ frames := 2, cells := 0, slots := 0, locals := 47 } : Room) (va_Pc [Value.ref xl, Value.ref h1] (fun U => U.heap.size = sz ∧ va_P (dC, dI) classes [oX7 xl (nI lz) lsg, cC aC lsg 64 sg, oX4 h1 ek ef ew ep es (nI n) sy dn] U.heap ∧ va_K (dC, dI) classes (TY aC) U ∧ va_D (fun _ => True) [oX7 xl (nI lz) lsg, cC aC lsg 64 sg, oX4 h1 ek ef ew ep es (nI n) sy dn] ∧ NX U ∧ va_Z "EldestSays" "GREATEST" "[I" (.ref tG) (va_A [oX7 xl (nI lz) lsg, cC aC lsg 64 sg, oX4 h1 ek ef ew ep es (nI n) sy dn] sz) U U.heap ∧ va_T .int tG 5 (fun j => .int (GV j)) (va_A [oX7 xl (nI lz) lsg, cC aC lsg 64 sg, oX4 h1 ek ef ew ep es (nI n) sy dn] sz) U U.heap)) (va_Qi (fun (r : Int32) (_ : Unit) => r = fwr Lt n dn 0 lz) (fun (_ : Unit) (t : State) => va_P (dC, dI) classes [oX7 xl (nI lz) lsg, cC aC lsg 64 sg, oX4 h1 ek ef ew ep es (nI n) sy dn] t.heap ∧ va_K (dC, dI) classes (TY aC) t ∧ va_D (va_A [oX7 xl (nI lz) lsg, cC aC lsg 64 sg, oX4 h1 ek ef ew ep es (nI n) sy dn] sz) [oX7 xl (nI lz) lsg, cC aC lsg 64 sg, oX4 h1 ek ef ew ep es (nI n) sy dn]) (va_A [oX7 xl (nI lz) lsg, cC aC lsg 64 sg, oX4 h1 ek ef ew ep es (nI n) sy dn] sz)) 0 0 (va_A [oX7 xl (nI lz) lsg, cC aC lsg 64 sg, oX4 h1 ek ef ew ep es (nI n) sy dn] sz) := by
  refine Met.ofW (cc := cX7_wrongAt) (maxL := 5) (ret := (some .int)) (by decide) rfl ?_
  intro p e s m args below meth c s₁ B hml hv
  obtain ⟨rfl, hsz, hP, hK, hD0, hN, hZG, hTG⟩ := hv
  have hx := B.exec
  have hb := B.bytes
  have hr := B.returns
  have hts0 := atoms_spec (ws := (wW yX7_wrongAt cX7_wrongAt 5 (some .int))) B.pre
  have hts : ∀ w9 ∈ lw_G, w9.before ([Value.ref xl, Value.ref h1] : List Value).toArray s = true := fun w9 h9 => hts0 w9 (List.mem_cons_of_mem _ h9)
  have hown : s.vm.findClass RX7 = some m.cls := findClass_of_methodNamed (x := yX7_wrongAt) B.named
  have hlocks := B.notSynchronized
  subst hsz
  have hD := hD0.self (sz := s.heap.size)
  generalize hAe : va_A [oX7 xl (nI lz) lsg, cC aC lsg 64 sg, oX4 h1 ek ef ew ep es (nI n) sy dn] s.heap.size = A at hZG hTG hD ⊢
  have hA : ∀ q : Nat, s.heap.size ≤ q → A q := fun q h => by rw [← hAe]; exact Or.inr h
  obtain ⟨H, hHe⟩ : ∃ H : Heap, H = s.heap := ⟨_, rfl⟩
  have hS : va_S A s.heap H [] := by rw [hHe]; exact va_S.rf
  have hP : va_P (dC, dI) classes [oX7 xl (nI lz) lsg, cC aC lsg 64 sg, oX4 h1 ek ef ew ep es (nI n) sy dn] H := by rw [hHe]; exact hP
  have hl := lv_entry ([Value.ref xl, Value.ref h1]) (n := 5) (Nat.le_of_ble_eq_true rfl)
  rw [lg_entry_eq]
  generalize (lg_sl ([Value.ref xl, Value.ref h1]) ++ List.replicate (5 - (lg_sl ([Value.ref xl, Value.ref h1])).length) Slot.unset).toArray = ls at hl ⊢
  have hl : lv_has ls 5 [(0, Value.ref xl), (1, Value.ref h1)] := hl
  rw [← hHe]
  have hz6 := hlt0.1
  have hL := hlt0.2
  refine lv_aload_n hx hb dX7_wrongAt_0 rfl (lv_at hl 1 rfl) ?_
  refine va_get (D := (dC, dI)) (ci := 4) (v := Value.int (nI n)) (C := RX4) (T := TX4) (N := 8) hx hb hts inX4 hown hK hP 2 rfl rfl 5 (by decide) (hts _ (gw kw_49 rfl)) (fun _ h9 => h9) rfl dX7_wrongAt_1 ?_
  refine lv_istore_n (lv' := [(2, Value.int (nI n)), (0, Value.ref xl), (1, Value.ref h1)]) hx hb dX7_wrongAt_4 rfl hl (by decide) rfl (fun ls hl => ?_)
  refine lv_iconst (v := 0) hx hb dX7_wrongAt_5 (by decide) ?_
  refine lv_istore_n (lv' := [(3, Value.int 0), (2, Value.int (nI n)), (0, Value.ref xl), (1, Value.ref h1)]) hx hb dX7_wrongAt_6 rfl hl (by decide) rfl (fun ls hl => ?_)
  refine lv_iconst (v := 0) hx hb dX7_wrongAt_7 (by decide) ?_
  refine lv_istore (lv' := [(4, Value.int 0), (3, Value.int 0), (2, Value.int (nI n)), (0, Value.ref xl), (1, Value.ref h1)]) hx hb dX7_wrongAt_8 hl (by decide) rfl (fun ls hl => ?_)
  have lp_10 : ∀ (fu : Nat) (pp : Nat) (hfu : lz - pp < fu) (hp : pp ≤ lz) (hf : fwr Lt n dn 0 lz = fwr Lt n dn pp (lz - pp)) (H : Heap) (locs : List Loc) (ls : Array Slot), va_P (dC, dI) classes [oX7 xl (nI lz) lsg, cC aC lsg 64 sg, oX4 h1 ek ef ew ep es (nI n) sy dn] H → va_D A [oX7 xl (nI lz) lsg, cC aC lsg 64 sg, oX4 h1 ek ef ew ep es (nI n) sy dn] → va_S A s.heap H locs → lv_has ls 5 [(0, Value.ref xl), (1, Value.ref h1), (2, Value.int (nI (n + cm Lt pp))), (3, Value.int (nI (lst Lt pp))), (4, Value.int (nI pp))] → W p l e (headSpec (wW yX7_wrongAt cX7_wrongAt 5 (some .int)) ({ frames := 2, cells := 0, slots := 0, locals := 47 } : Room)).room s m ([Value.ref xl, Value.ref h1] : List Value).toArray below meth c H locs 0 0 (MQ below (va_Qi (fun (r : Int32) (_ : Unit) => r = fwr Lt n dn 0 lz) (fun (_ : Unit) (t : State) => va_P (dC, dI) classes [oX7 xl (nI lz) lsg, cC aC lsg 64 sg, oX4 h1 ek ef ew ep es (nI n) sy dn] t.heap ∧ va_K (dC, dI) classes (TY aC) t ∧ va_D A [oX7 xl (nI lz) lsg, cC aC lsg 64 sg, oX4 h1 ek ef ew ep es (nI n) sy dn]) A) ([Value.ref xl, Value.ref h1] : List Value).toArray s 0 0 A) (F0 m 10 ls []) := by
    intro fu
    induction fu with
    | zero => intro pp hfu; exact absurd hfu (Nat.not_lt_zero _)
    | succ fu ih_10 =>
      intro pp hfu hp hf H locs ls hP hD hS hl
      refine lv_iload hx hb dX7_wrongAt_10 (lv_at hl 4 rfl) ?_
      refine lv_aload_n hx hb dX7_wrongAt_12 rfl (lv_at hl 0 rfl) ?_
      refine va_get (D := (dC, dI)) (ci := 7) (v := Value.int (nI lz)) (C := RX7) (T := TX7) (N := 2) hx hb hts inX7 hown hK hP 0 rfl rfl 0 (by decide) (hts _ (gw kw_80 rfl)) (fun _ h9 => h9) rfl dX7_wrongAt_13 ?_
      refine lv_icmp_ge (tgt := 71) hx hb dX7_wrongAt_16 (by decide) (fun c_1 => ?_) (fun c_1 => ?_)
      · have hpz : pp = lz := by
          rcases Nat.lt_or_ge pp lz with q | q
          · exact absurd c_1 (nI_ge q (by omega))
          · omega
        refine lv_bipush (v := -9) hx hb dX7_wrongAt_71 (by decide) ?_
        have hpd9 := pd_N (cx := [oX7 xl (nI lz) lsg, cC aC lsg 64 sg, oX4 h1 ek ef ew ep es (nI n) sy dn]) hP hD [0, 1, 2] (by decide) rfl
        have hP9 := hpd9.1
        have hD9 := hpd9.2
        refine W.widen (k := 0) (n := 0) (by omega) (by omega) ?_
        exact W.iret (v := -9) hx hb hr (fun t ht hW => ⟨⟨(-9), (), rfl, by rw [hf]; subst hpz; rw [Nat.sub_self]; rfl, by rw [ht]; exact hP9, va_K.moved hW.alike hK, hD9⟩, hS.F ht⟩) hS.2.2 dX7_wrongAt_73
      · have hlt : pp < lz := by
          rcases Nat.lt_or_ge pp lz with q | q
          · exact q
          · exact absurd (nI_le q (by omega)) c_1
        refine lv_aload_n hx hb dX7_wrongAt_19 rfl (lv_at hl 0 rfl) ?_
        refine va_get (D := (dC, dI)) (ci := 7) (v := Value.ref lsg) (C := RX7) (T := TX7) (N := 2) hx hb hts inX7 hown hK hP 0 rfl rfl 1 (by decide) (hts _ (gw kw_82 rfl)) (fun _ h9 => h9) rfl dX7_wrongAt_20 ?_
        refine lv_iload hx hb dX7_wrongAt_23 (lv_at hl 4 rfl) ?_
        have h_2 : vp_in (nI pp) 64 := vp_in_nI (by omega) (by omega)
        refine va_cald hx hb hK hP 1 1 rfl rfl h_2 dX7_wrongAt_25 ?_
        refine lv_topi (fun x_3 e_3 => ?_)
        have h9 : x_3 = nI (Lt pp) := by rw [e_3, nI_clamp (by omega)]; exact (hL pp (by omega)).1
        subst h9
        refine lv_bipush (v := 59) hx hb dX7_wrongAt_26 (by decide) ?_
        refine lv_icmp_ne (tgt := 65) hx hb dX7_wrongAt_28 (by decide) (fun c_4 => ?_) (fun c_4 => ?_)
        · have hne : ¬ Lt pp = 59 := fun z => c_4 (by rw [z]; rfl)
          have hf2 : fwr Lt n dn 0 lz = fwr Lt n dn (pp + 1) (lz - (pp + 1)) := by rw [hf, fwr_s hlt, if_neg (fun z => hne z.1)]
          have hl : lv_has ls 5 [(0, Value.ref xl), (1, Value.ref h1), (2, Value.int (nI (n + cm Lt (pp + 1)))), (3, Value.int (nI (lst Lt pp))), (4, Value.int (nI pp))] := by rw [← (show nI (n + cm Lt pp) = nI (n + cm Lt (pp + 1)) by rw [cm_no (fun z => hne z.1)])]; exact hl
          have hl : lv_has ls 5 [(0, Value.ref xl), (1, Value.ref h1), (2, Value.int (nI (n + cm Lt (pp + 1)))), (3, Value.int (nI (lst Lt (pp + 1)))), (4, Value.int (nI pp))] := by rw [← (show nI (lst Lt pp) = nI (lst Lt (pp + 1)) by rw [lst_no hne])]; exact hl
          obtain ⟨x_5, e_5⟩ : ∃ y : Int32, y = (nI pp) + 1 := ⟨_, rfl⟩
          refine lv_iinc (v := x_5) (lv' := [(4, Value.int x_5), (0, Value.ref xl), (1, Value.ref h1), (2, Value.int (nI (n + cm Lt (pp + 1)))), (3, Value.int (nI (lst Lt (pp + 1))))]) hx hb dX7_wrongAt_65 hl (k := 4) rfl (by rw [e_5]; rfl) (by decide) rfl (fun ls hl => ?_)
          have h9 : x_5 = nI (pp + 1) := by rw [e_5, nI_1]
          subst h9
          refine lv_goto (tgt := 10) hx hb dX7_wrongAt_68 (by decide) ?_
          exact ih_10 (pp + 1) (by omega) (by omega) (hf2) _ _ _ (hP.sub [0, 1, 2] rfl) (hD.sub [0, 1, 2] (by decide) rfl) hS (lv_sub hl [1, 2, 3, 4, 0] rfl)
        · have hsem : Lt pp = 59 := (nI_b0 (k := 59) (hL pp hlt).2 (by omega)).mp c_4
          have hst := STM_r hnb hlt hsem
          have hse := (STM_k hst).2
          refine lv_aload_n hx hb dX7_wrongAt_31 rfl (lv_at hl 0 rfl) ?_
          refine va_get (D := (dC, dI)) (ci := 7) (v := Value.ref lsg) (C := RX7) (T := TX7) (N := 2) hx hb hts inX7 hown hK hP 0 rfl rfl 1 (by decide) (hts _ (gw kw_82 rfl)) (fun _ h9 => h9) rfl dX7_wrongAt_32 ?_
          refine lv_iload_n hx hb dX7_wrongAt_35 rfl (lv_at hl 3 rfl) ?_
          have h_6 : vp_in (nI (lst Lt pp)) 64 := vp_in_nI (by omega) (by omega)
          refine va_cald hx hb hK hP 1 1 rfl rfl h_6 dX7_wrongAt_36 ?_
          refine lv_topi (fun x_7 e_7 => ?_)
          have h9 : x_7 = nI (Lt (lst Lt pp)) := by rw [e_7, nI_clamp (by omega)]; exact (hL (lst Lt pp) (by omega)).1
          subst h9
          refine lv_bipush (v := 109) hx hb dX7_wrongAt_37 (by decide) ?_
          refine lv_icmp_ne (tgt := 45) hx hb dX7_wrongAt_39 (by decide) (fun c_8 => ?_) (fun c_8 => ?_)
          · have hl : lv_has ls 5 [(0, Value.ref xl), (1, Value.ref h1), (2, Value.int (nI (n + cm Lt (pp + 1)))), (3, Value.int (nI (lst Lt pp))), (4, Value.int (nI pp))] := by rw [← (show nI (n + cm Lt pp) = nI (n + cm Lt (pp + 1)) by rw [cm_no (fun z => c_8 (by rw [z.2]; rfl))])]; exact hl
            refine lv_aload_n hx hb dX7_wrongAt_45 rfl (lv_at hl 0 rfl) ?_
            refine lv_iload_n hx hb dX7_wrongAt_46 rfl (lv_at hl 3 rfl) ?_
            refine lv_iload_n hx hb dX7_wrongAt_47 rfl (lv_at hl 2 rfl) ?_
            refine lv_aload_n hx hb dX7_wrongAt_48 rfl (lv_at hl 1 rfl) ?_
            refine va_get (D := (dC, dI)) (ci := 4) (v := Value.int dn) (C := RX4) (T := TX4) (N := 8) hx hb hts inX4 hown hK hP 2 rfl rfl 7 (by decide) (hts _ (gw kw_54 rfl)) (fun _ h9 => h9) rfl dX7_wrongAt_49 ?_
            have hpd9 := pdf_N (cx := [oX7 xl (nI lz) lsg, cC aC lsg 64 sg]) hP hD hS hA [0, 1] (by decide) rfl
            have hPc := hpd9.1
            have hDc := hpd9.2.1
            have hFc := hpd9.2.2
            clear hpd9
            refine va_calli (va_runV (As := [Value.int (nI (lst Lt pp)), Value.int (nI (n + cm Lt (pp + 1))), Value.int dn]) (rest := []) ⟨hx, hb, hml, hown, hts⟩ (c_X7_isRight l dC dI aC H.size xl lsg lz Lt sg (lst Lt pp) pp (n + cm Lt (pp + 1)) dn tG (hlt0) (hst) (hlt) (by have := cm_le Lt (pp + 1); omega)) ⟨(callB_of 3 hts (gG kw_310) rfl rfl rfl (hts _ (gw kw_3 rfl)) (hts _ (gw kw_307 rfl)) hd_X7_isRight ⟨Nat.le_of_ble_eq_true rfl, Nat.le_of_ble_eq_true rfl⟩), (hts _ (gw kw_309 rfl)), (hts _ (gw ks_3 rfl))⟩ ⟨fun a U g mk q => by obtain ⟨q0, q1, qP, qK, qD, qN, z0, z1⟩ := q; exact ⟨q0, q1, qP, va_K.moved (u := U) (U := U.calling g mk a) (Vm.Alike.refl U.vm) qK, qD, NX.same (u := U) (U := U.calling g mk a) rfl qN, va_Z.moved (u := U) (U := U.calling g mk a) (Vm.Alike.refl U.vm) z0, va_T.moved (u := U) (U := U.calling g mk a) (Vm.Alike.refl U.vm) z1⟩, va_recv (q := (RX7, TX7, 2)) hK hPc (ci := 7) (q0 := 0) rfl rfl, fun U hU hW => ⟨rfl, by rw [hU], by rw [hU]; exact hPc, va_K.moved hW.alike hK, hDc.weaken (fun _ _ _ _ => trivial), NX.warm hW hN, by rw [hU]; exact va_Z.moved hW.alike (va_Z.narrow (va_Z.kept hZG hS.2.1) hFc), by rw [hU]; exact va_T.moved hW.alike (va_T.narrow (va_T.kept hTG hS.2.1) hFc)⟩⟩ rfl rfl hl.1 rfl (lv_room (Nat.le_of_ble_eq_true rfl)) dX7_wrongAt_52 ⟨Nat.le_of_ble_eq_true rfl, Nat.le_of_ble_eq_true rfl⟩) hS (fun q _ h => hFc q h) hFc (fun x_9 u9 t9 H1 locs ht hvm hw_9 hB hz1 hk1 hS => ?_)
            obtain ⟨hP1, hK1, hD1⟩ := hB
            rw [ht] at hP1
            clear hK1
            try dsimp only at hw_9
            have hpd9 : PDx (dC, dI) classes A H1 [oX4 h1 ek ef ew ep es (nI n) sy dn, oX7 xl (nI lz) lsg, cC aC lsg 64 sg] := jn_N (wr := [oX4 h1 ek ef ew ep es (nI n) sy dn]) hFc hk1 hP1 hD1 hP hD [0, 1] [2] rfl rfl (by decide) (by decide)
            have hP := hpd9.1
            have hD := hpd9.2
            clear hpd9
            generalize H1 = H at hP hS ⊢
            clear hPc hDc hFc hz1 hk1 hP1 hD1 ht hvm
            have hz_52 := hw_9
            refine lv_if_ne (tgt := 60) hx hb dX7_wrongAt_55 (by decide) (fun c_10 => ?_) (fun c_10 => ?_)
            · refine lv_iload hx hb dX7_wrongAt_60 (lv_at hl 4 rfl) ?_
              refine lv_iconst (v := 1) hx hb dX7_wrongAt_62 (by decide) ?_
              refine lv_iadd hx hb dX7_wrongAt_63 ?_
              refine lv_topi (fun x_11 e_11 => ?_)
              refine lv_istore_n (lv' := [(3, Value.int x_11), (0, Value.ref xl), (1, Value.ref h1), (2, Value.int (nI (n + cm Lt (pp + 1)))), (4, Value.int (nI pp))]) hx hb dX7_wrongAt_64 rfl hl (by decide) rfl (fun ls hl => ?_)
              have hf2 : fwr Lt n dn 0 lz = fwr Lt n dn (pp + 1) (lz - (pp + 1)) := by rw [hf, fwr_s hlt, if_neg (fun z => z.2 (hz_52.2 c_10))]
              have h9 : x_11 = nI (lst Lt (pp + 1)) := by rw [e_11, nI_1, lst_y hsem]
              subst h9
              obtain ⟨x_12, e_12⟩ : ∃ y : Int32, y = (nI pp) + 1 := ⟨_, rfl⟩
              refine lv_iinc (v := x_12) (lv' := [(4, Value.int x_12), (3, Value.int (nI (lst Lt (pp + 1)))), (0, Value.ref xl), (1, Value.ref h1), (2, Value.int (nI (n + cm Lt (pp + 1))))]) hx hb dX7_wrongAt_65 hl (k := 4) rfl (by rw [e_12]; rfl) (by decide) rfl (fun ls hl => ?_)
              have h9 : x_12 = nI (pp + 1) := by rw [e_12, nI_1]
              subst h9
              refine lv_goto (tgt := 10) hx hb dX7_wrongAt_68 (by decide) ?_
              exact ih_10 (pp + 1) (by omega) (by omega) (hf2) _ _ _ (hP.sub [1, 2, 0] rfl) (hD.sub [1, 2, 0] (by decide) rfl) hS (lv_sub hl [2, 3, 4, 1, 0] rfl)
            · refine lv_iload_n hx hb dX7_wrongAt_58 rfl (lv_at hl 3 rfl) ?_
              have hpd9 := pd_N (cx := [oX7 xl (nI lz) lsg, cC aC lsg 64 sg, oX4 h1 ek ef ew ep es (nI n) sy dn]) hP hD [1, 2, 0] (by decide) rfl
              have hP9 := hpd9.1
              have hD9 := hpd9.2
              refine W.widen (k := 0) (n := 0) (by omega) (by omega) ?_
              exact W.iret (v := nI (lst Lt pp)) hx hb hr (fun t ht hW => ⟨⟨(nI (lst Lt pp)), (), rfl, by rw [hf, fwr_s hlt, if_pos ⟨hsem, hz_52.1 c_10⟩], by rw [ht]; exact hP9, va_K.moved hW.alike hK, hD9⟩, hS.F ht⟩) hS.2.2 dX7_wrongAt_59
          · obtain ⟨x_13, e_13⟩ : ∃ y : Int32, y = (nI (n + cm Lt pp)) + 1 := ⟨_, rfl⟩
            refine lv_iinc (v := x_13) (lv' := [(2, Value.int x_13), (0, Value.ref xl), (1, Value.ref h1), (3, Value.int (nI (lst Lt pp))), (4, Value.int (nI pp))]) hx hb dX7_wrongAt_42 hl (k := 2) rfl (by rw [e_13]; rfl) (by decide) rfl (fun ls hl => ?_)
            have h9 : x_13 = nI (n + cm Lt (pp + 1)) := by rw [e_13, cm_y hsem ((nI_b0 (k := 109) (hL _ (by omega)).2 (by omega)).mp c_8), nI_1]; rfl
            subst h9
            refine lv_aload_n hx hb dX7_wrongAt_45 rfl (lv_at hl 1 rfl) ?_
            refine lv_iload_n hx hb dX7_wrongAt_46 rfl (lv_at hl 3 rfl) ?_
            refine lv_iload_n hx hb dX7_wrongAt_47 rfl (lv_at hl 0 rfl) ?_
            refine lv_aload_n hx hb dX7_wrongAt_48 rfl (lv_at hl 2 rfl) ?_
            refine va_get (D := (dC, dI)) (ci := 4) (v := Value.int dn) (C := RX4) (T := TX4) (N := 8) hx hb hts inX4 hown hK hP 2 rfl rfl 7 (by decide) (hts _ (gw kw_54 rfl)) (fun _ h9 => h9) rfl dX7_wrongAt_49 ?_
            have hpd9 := pdf_N (cx := [oX7 xl (nI lz) lsg, cC aC lsg 64 sg]) hP hD hS hA [0, 1] (by decide) rfl
            have hPc := hpd9.1
            have hDc := hpd9.2.1
            have hFc := hpd9.2.2
            clear hpd9
            refine va_calli (va_runV (As := [Value.int (nI (lst Lt pp)), Value.int (nI (n + cm Lt (pp + 1))), Value.int dn]) (rest := []) ⟨hx, hb, hml, hown, hts⟩ (c_X7_isRight l dC dI aC H.size xl lsg lz Lt sg (lst Lt pp) pp (n + cm Lt (pp + 1)) dn tG (hlt0) (hst) (hlt) (by have := cm_le Lt (pp + 1); omega)) ⟨(callB_of 3 hts (gG kw_310) rfl rfl rfl (hts _ (gw kw_3 rfl)) (hts _ (gw kw_307 rfl)) hd_X7_isRight ⟨Nat.le_of_ble_eq_true rfl, Nat.le_of_ble_eq_true rfl⟩), (hts _ (gw kw_309 rfl)), (hts _ (gw ks_3 rfl))⟩ ⟨fun a U g mk q => by obtain ⟨q0, q1, qP, qK, qD, qN, z0, z1⟩ := q; exact ⟨q0, q1, qP, va_K.moved (u := U) (U := U.calling g mk a) (Vm.Alike.refl U.vm) qK, qD, NX.same (u := U) (U := U.calling g mk a) rfl qN, va_Z.moved (u := U) (U := U.calling g mk a) (Vm.Alike.refl U.vm) z0, va_T.moved (u := U) (U := U.calling g mk a) (Vm.Alike.refl U.vm) z1⟩, va_recv (q := (RX7, TX7, 2)) hK hPc (ci := 7) (q0 := 0) rfl rfl, fun U hU hW => ⟨rfl, by rw [hU], by rw [hU]; exact hPc, va_K.moved hW.alike hK, hDc.weaken (fun _ _ _ _ => trivial), NX.warm hW hN, by rw [hU]; exact va_Z.moved hW.alike (va_Z.narrow (va_Z.kept hZG hS.2.1) hFc), by rw [hU]; exact va_T.moved hW.alike (va_T.narrow (va_T.kept hTG hS.2.1) hFc)⟩⟩ rfl rfl hl.1 rfl (lv_room (Nat.le_of_ble_eq_true rfl)) dX7_wrongAt_52 ⟨Nat.le_of_ble_eq_true rfl, Nat.le_of_ble_eq_true rfl⟩) hS (fun q _ h => hFc q h) hFc (fun x_14 u9 t9 H1 locs ht hvm hw_14 hB hz1 hk1 hS => ?_)
            obtain ⟨hP1, hK1, hD1⟩ := hB
            rw [ht] at hP1
            clear hK1
            try dsimp only at hw_14
            have hpd9 : PDx (dC, dI) classes A H1 [oX4 h1 ek ef ew ep es (nI n) sy dn, oX7 xl (nI lz) lsg, cC aC lsg 64 sg] := jn_N (wr := [oX4 h1 ek ef ew ep es (nI n) sy dn]) hFc hk1 hP1 hD1 hP hD [0, 1] [2] rfl rfl (by decide) (by decide)
            have hP := hpd9.1
            have hD := hpd9.2
            clear hpd9
            generalize H1 = H at hP hS ⊢
            clear hPc hDc hFc hz1 hk1 hP1 hD1 ht hvm
            have hz_52 := hw_14
            refine lv_if_ne (tgt := 60) hx hb dX7_wrongAt_55 (by decide) (fun c_15 => ?_) (fun c_15 => ?_)
            · refine lv_iload hx hb dX7_wrongAt_60 (lv_at hl 4 rfl) ?_
              refine lv_iconst (v := 1) hx hb dX7_wrongAt_62 (by decide) ?_
              refine lv_iadd hx hb dX7_wrongAt_63 ?_
              refine lv_topi (fun x_16 e_16 => ?_)
              refine lv_istore_n (lv' := [(3, Value.int x_16), (2, Value.int (nI (n + cm Lt (pp + 1)))), (0, Value.ref xl), (1, Value.ref h1), (4, Value.int (nI pp))]) hx hb dX7_wrongAt_64 rfl hl (by decide) rfl (fun ls hl => ?_)
              have hf2 : fwr Lt n dn 0 lz = fwr Lt n dn (pp + 1) (lz - (pp + 1)) := by rw [hf, fwr_s hlt, if_neg (fun z => z.2 (hz_52.2 c_15))]
              have h9 : x_16 = nI (lst Lt (pp + 1)) := by rw [e_16, nI_1, lst_y hsem]
              subst h9
              obtain ⟨x_17, e_17⟩ : ∃ y : Int32, y = (nI pp) + 1 := ⟨_, rfl⟩
              refine lv_iinc (v := x_17) (lv' := [(4, Value.int x_17), (3, Value.int (nI (lst Lt (pp + 1)))), (2, Value.int (nI (n + cm Lt (pp + 1)))), (0, Value.ref xl), (1, Value.ref h1)]) hx hb dX7_wrongAt_65 hl (k := 4) rfl (by rw [e_17]; rfl) (by decide) rfl (fun ls hl => ?_)
              have h9 : x_17 = nI (pp + 1) := by rw [e_17, nI_1]
              subst h9
              refine lv_goto (tgt := 10) hx hb dX7_wrongAt_68 (by decide) ?_
              exact ih_10 (pp + 1) (by omega) (by omega) (hf2) _ _ _ (hP.sub [1, 2, 0] rfl) (hD.sub [1, 2, 0] (by decide) rfl) hS (lv_sub hl [3, 4, 2, 1, 0] rfl)
            · refine lv_iload_n hx hb dX7_wrongAt_58 rfl (lv_at hl 3 rfl) ?_
              have hpd9 := pd_N (cx := [oX7 xl (nI lz) lsg, cC aC lsg 64 sg, oX4 h1 ek ef ew ep es (nI n) sy dn]) hP hD [1, 2, 0] (by decide) rfl
              have hP9 := hpd9.1
              have hD9 := hpd9.2
              refine W.widen (k := 0) (n := 0) (by omega) (by omega) ?_
              exact W.iret (v := nI (lst Lt pp)) hx hb hr (fun t ht hW => ⟨⟨(nI (lst Lt pp)), (), rfl, by rw [hf, fwr_s hlt, if_pos ⟨hsem, hz_52.1 c_15⟩], by rw [ht]; exact hP9, va_K.moved hW.alike hK, hD9⟩, hS.F ht⟩) hS.2.2 dX7_wrongAt_59
  exact lp_10 ((lz - 0) + 1) 0 (Nat.lt_succ_self _) (by omega) (rfl) _ _ _ (hP.sub [0, 1, 2] rfl) (hD.sub [0, 1, 2] (by decide) rfl) hS (lv_sub hl [3, 4, 2, 1, 0] rfl)

set_option maxHeartbeats 1000000 in
set_option maxRecDepth 100000 in
/-- X7_fault -/
theorem c_X7_fault (l : Launch) (dC : Nat → ClassId) (dI : Nat → Nat → Nat) (aC : Nat → ClassId) (sz : Nat) (xl : Nat) (lsg : Nat) (lz : Nat) (Lt : Nat → Nat) (sg : Nat → Int32) (h1 : Nat) (ek : Nat) (ef : Nat) (ew : Nat) (ep : Nat) (es : Nat) (n : Nat) (sy : Int32) (dn : Int32) (tG : Nat) (hlt0 : LTR lz Lt sg) (hn : n ≤ 8) : Met l yX7_fault (wW yX7_fault cX7_fault 4 (some .int)) ({ frames := 3, cells := 0, slots := 0, locals := 71 } : Room) (va_Pc [Value.ref xl, Value.ref h1] (fun U => U.heap.size = sz ∧ va_P (dC, dI) classes [oX7 xl (nI lz) lsg, cC aC lsg 64 sg, oX4 h1 ek ef ew ep es (nI n) sy dn] U.heap ∧ va_K (dC, dI) classes (TY aC) U ∧ va_D (fun _ => True) [oX7 xl (nI lz) lsg, cC aC lsg 64 sg, oX4 h1 ek ef ew ep es (nI n) sy dn] ∧ NX U ∧ va_Z "EldestSays" "GREATEST" "[I" (.ref tG) (va_A [oX7 xl (nI lz) lsg, cC aC lsg 64 sg, oX4 h1 ek ef ew ep es (nI n) sy dn] sz) U U.heap ∧ va_T .int tG 5 (fun j => .int (GV j)) (va_A [oX7 xl (nI lz) lsg, cC aC lsg 64 sg, oX4 h1 ek ef ew ep es (nI n) sy dn] sz) U U.heap)) (va_Qi (fun (r : Int32) (_ : Unit) => r = flR Lt lz n dn) (fun (_ : Unit) (t : State) => va_P (dC, dI) classes [oX7 xl (nI lz) lsg, cC aC lsg 64 sg, oX4 h1 ek ef ew ep es (nI n) sy dn] t.heap ∧ va_K (dC, dI) classes (TY aC) t ∧ va_D (va_A [oX7 xl (nI lz) lsg, cC aC lsg 64 sg, oX4 h1 ek ef ew ep es (nI n) sy dn] sz) [oX7 xl (nI lz) lsg, cC aC lsg 64 sg, oX4 h1 ek ef ew ep es (nI n) sy dn]) (va_A [oX7 xl (nI lz) lsg, cC aC lsg 64 sg, oX4 h1 ek ef ew ep es (nI n) sy dn] sz)) 0 0 (va_A [oX7 xl (nI lz) lsg, cC aC lsg 64 sg, oX4 h1 ek ef ew ep es (nI n) sy dn] sz) := by
  refine Met.ofW (cc := cX7_fault) (maxL := 4) (ret := (some .int)) (by decide) rfl ?_
  intro p e s m args below meth c s₁ B hml hv
  obtain ⟨rfl, hsz, hP, hK, hD0, hN, hZG, hTG⟩ := hv
  have hx := B.exec
  have hb := B.bytes
  have hr := B.returns
  have hts0 := atoms_spec (ws := (wW yX7_fault cX7_fault 4 (some .int))) B.pre
  have hts : ∀ w9 ∈ lw_G, w9.before ([Value.ref xl, Value.ref h1] : List Value).toArray s = true := fun w9 h9 => hts0 w9 (List.mem_cons_of_mem _ h9)
  have hown : s.vm.findClass RX7 = some m.cls := findClass_of_methodNamed (x := yX7_fault) B.named
  have hlocks := B.notSynchronized
  subst hsz
  have hD := hD0.self (sz := s.heap.size)
  generalize hAe : va_A [oX7 xl (nI lz) lsg, cC aC lsg 64 sg, oX4 h1 ek ef ew ep es (nI n) sy dn] s.heap.size = A at hZG hTG hD ⊢
  have hA : ∀ q : Nat, s.heap.size ≤ q → A q := fun q h => by rw [← hAe]; exact Or.inr h
  obtain ⟨H, hHe⟩ : ∃ H : Heap, H = s.heap := ⟨_, rfl⟩
  have hS : va_S A s.heap H [] := by rw [hHe]; exact va_S.rf
  have hP : va_P (dC, dI) classes [oX7 xl (nI lz) lsg, cC aC lsg 64 sg, oX4 h1 ek ef ew ep es (nI n) sy dn] H := by rw [hHe]; exact hP
  have hl := lv_entry ([Value.ref xl, Value.ref h1]) (n := 4) (Nat.le_of_ble_eq_true rfl)
  rw [lg_entry_eq]
  generalize (lg_sl ([Value.ref xl, Value.ref h1]) ++ List.replicate (4 - (lg_sl ([Value.ref xl, Value.ref h1])).length) Slot.unset).toArray = ls at hl ⊢
  have hl : lv_has ls 4 [(0, Value.ref xl), (1, Value.ref h1)] := hl
  rw [← hHe]
  have hz6 := hlt0.1
  have hL := hlt0.2
  refine lv_aload_n hx hb dX7_fault_0 rfl (lv_at hl 0 rfl) ?_
  have hpd9 := pdf_N (cx := [oX7 xl (nI lz) lsg, cC aC lsg 64 sg]) hP hD hS hA [0, 1] (by decide) rfl
  have hPc := hpd9.1
  have hDc := hpd9.2.1
  have hFc := hpd9.2.2
  clear hpd9
  refine va_calli (va_runV (As := []) (rest := []) ⟨hx, hb, hml, hown, hts⟩ (c_X7_brokenAt l dC dI aC H.size xl lsg lz Lt sg (hlt0)) ⟨(callB_of 0 hts (gG kw_296) rfl rfl rfl (hts _ (gw kw_3 rfl)) (hts _ (gw kw_293 rfl)) hd_X7_brokenAt ⟨Nat.le_of_ble_eq_true rfl, Nat.le_of_ble_eq_true rfl⟩), (hts _ (gw kw_295 rfl)), (hts _ (gw ks_1 rfl))⟩ ⟨fb_std, va_recv (q := (RX7, TX7, 2)) hK hPc (ci := 7) (q0 := 0) rfl rfl, pre_std hPc hK hDc hN⟩ rfl rfl hl.1 rfl (lv_room (Nat.le_of_ble_eq_true rfl)) dX7_fault_1 ⟨Nat.le_of_ble_eq_true rfl, Nat.le_of_ble_eq_true rfl⟩) hS (fun q _ h => hFc q h) hFc (fun x_1 u9 t9 H1 locs ht hvm hw_1 hB hz1 hk1 hS => ?_)
  obtain ⟨hP1, hK1, hD1⟩ := hB
  rw [ht] at hP1
  clear hK1
  try dsimp only at hw_1
  have hpd9 : PDx (dC, dI) classes A H1 [oX4 h1 ek ef ew ep es (nI n) sy dn, oX7 xl (nI lz) lsg, cC aC lsg 64 sg] := jn_N (wr := [oX4 h1 ek ef ew ep es (nI n) sy dn]) hFc hk1 hP1 hD1 hP hD [0, 1] [2] rfl rfl (by decide) (by decide)
  have hP := hpd9.1
  have hD := hpd9.2
  clear hpd9
  generalize H1 = H at hP hS ⊢
  clear hPc hDc hFc hz1 hk1 hP1 hD1 ht hvm
  have hz_1 := hw_1
  refine lv_istore_n (lv' := [(2, Value.int x_1), (0, Value.ref xl), (1, Value.ref h1)]) hx hb dX7_fault_4 rfl hl (by decide) rfl (fun ls hl => ?_)
  refine lv_iload_n hx hb dX7_fault_5 rfl (lv_at hl 0 rfl) ?_
  refine lv_if_lt (tgt := 15) hx hb dX7_fault_6 (by decide) (fun c_2 => ?_) (fun c_2 => ?_)
  · have hb9 : lrn Lt lz = 0 ∧ 0 < lz := Classical.byContradiction fun q => absurd c_2 (by rw [hz_1]; unfold brR; rw [if_neg q]; exact nI_n9' (by have := fps_b Lt lz 0; omega))
    refine lv_aload_n hx hb dX7_fault_15 rfl (lv_at hl 1 rfl) ?_
    refine lv_aload_n hx hb dX7_fault_16 rfl (lv_at hl 2 rfl) ?_
    have hpd9 := pdf_N (cx := [oX7 xl (nI lz) lsg, cC aC lsg 64 sg, oX4 h1 ek ef ew ep es (nI n) sy dn]) hP hD hS hA [1, 2, 0] (by decide) rfl
    have hPc := hpd9.1
    have hDc := hpd9.2.1
    have hFc := hpd9.2.2
    clear hpd9
    refine va_calli (va_runV (As := [Value.ref h1]) (rest := []) ⟨hx, hb, hml, hown, hts⟩ (c_X7_wrongAt l dC dI aC H.size xl lsg lz Lt sg h1 ek ef ew ep es n sy dn tG (hlt0) (by rw [hb9.1]; decide) (hn)) ⟨(callB_of 1 hts (gG kw_306) rfl rfl rfl (hts _ (gw kw_3 rfl)) (hts _ (gw kw_303 rfl)) hd_X7_wrongAt ⟨Nat.le_of_ble_eq_true rfl, Nat.le_of_ble_eq_true rfl⟩), (hts _ (gw kw_305 rfl)), (hts _ (gw ks_2 rfl))⟩ ⟨fun a U g mk q => by obtain ⟨q0, q1, qP, qK, qD, qN, z0, z1⟩ := q; exact ⟨q0, q1, qP, va_K.moved (u := U) (U := U.calling g mk a) (Vm.Alike.refl U.vm) qK, qD, NX.same (u := U) (U := U.calling g mk a) rfl qN, va_Z.moved (u := U) (U := U.calling g mk a) (Vm.Alike.refl U.vm) z0, va_T.moved (u := U) (U := U.calling g mk a) (Vm.Alike.refl U.vm) z1⟩, va_recv (q := (RX7, TX7, 2)) hK hPc (ci := 7) (q0 := 0) rfl rfl, fun U hU hW => ⟨rfl, by rw [hU], by rw [hU]; exact hPc, va_K.moved hW.alike hK, hDc.weaken (fun _ _ _ _ => trivial), NX.warm hW hN, by rw [hU]; exact va_Z.moved hW.alike (va_Z.narrow (va_Z.kept hZG hS.2.1) hFc), by rw [hU]; exact va_T.moved hW.alike (va_T.narrow (va_T.kept hTG hS.2.1) hFc)⟩⟩ rfl rfl hl.1 rfl (lv_room (Nat.le_of_ble_eq_true rfl)) dX7_fault_17 ⟨Nat.le_of_ble_eq_true rfl, Nat.le_of_ble_eq_true rfl⟩) hS (fun q _ h => hFc q h) hFc (fun x_3 u9 t9 H1 locs ht hvm hw_3 hB hz1 hk1 hS => ?_)
    obtain ⟨hP1, hK1, hD1⟩ := hB
    rw [ht] at hP1
    clear hK1
    try dsimp only at hw_3
    have hpd9 : PDx (dC, dI) classes A H1 [oX7 xl (nI lz) lsg, cC aC lsg 64 sg, oX4 h1 ek ef ew ep es (nI n) sy dn] := jn_N (wr := []) hFc hk1 hP1 hD1 hP hD [1, 2, 0] [] rfl rfl (by decide) (by decide)
    have hP := hpd9.1
    have hD := hpd9.2
    clear hpd9
    generalize H1 = H at hP hS ⊢
    clear hPc hDc hFc hz1 hk1 hP1 hD1 ht hvm
    have hz_17 := hw_3
    refine lv_istore_n (lv' := [(3, Value.int x_3), (2, Value.int x_1), (0, Value.ref xl), (1, Value.ref h1)]) hx hb dX7_fault_20 rfl hl (by decide) rfl (fun ls hl => ?_)
    refine lv_iload_n hx hb dX7_fault_21 rfl (lv_at hl 0 rfl) ?_
    refine lv_if_lt (tgt := 33) hx hb dX7_fault_22 (by decide) (fun c_4 => ?_) (fun c_4 => ?_)
    · refine lv_iconst (v := 0) hx hb dX7_fault_33 (by decide) ?_
      have hpd9 := pd_N (cx := [oX7 xl (nI lz) lsg, cC aC lsg 64 sg, oX4 h1 ek ef ew ep es (nI n) sy dn]) hP hD [0, 1, 2] (by decide) rfl
      have hP9 := hpd9.1
      have hD9 := hpd9.2
      refine W.widen (k := 0) (n := 0) (by omega) (by omega) ?_
      exact W.iret (v := 0) hx hb hr (fun t ht hW => ⟨⟨0, (), rfl, by unfold flR; rw [if_pos hb9, if_pos (hz_17.symm.trans (by rcases fwr_b (L := Lt) (n := n) (dn := dn) lz 0 (by omega) with q | ⟨j, j1, j2⟩ <;> first | exact hz_17.trans q | exact absurd (by rw [← j2, ← hz_17]; exact c_4) (nI_n9' (k := j) (by omega))))], by rw [ht]; exact hP9, va_K.moved hW.alike hK, hD9⟩, hS.F ht⟩) hS.2.2 dX7_fault_34
    · refine lv_sipush (v := -2000) hx hb dX7_fault_25 (by decide) ?_
      refine lv_iload_n hx hb dX7_fault_28 rfl (lv_at hl 0 rfl) ?_
      refine lv_isub hx hb dX7_fault_29 ?_
      refine lv_topi (fun x_5 e_5 => ?_)
      refine lv_goto (tgt := 34) hx hb dX7_fault_30 (by decide) ?_
      have hpd9 := pd_N (cx := [oX7 xl (nI lz) lsg, cC aC lsg 64 sg, oX4 h1 ek ef ew ep es (nI n) sy dn]) hP hD [0, 1, 2] (by decide) rfl
      have hP9 := hpd9.1
      have hD9 := hpd9.2
      refine W.widen (k := 0) (n := 0) (by omega) (by omega) ?_
      exact W.iret (v := x_5) hx hb hr (fun t ht hW => ⟨⟨x_5, (), rfl, by rw [e_5]; unfold flR; rw [if_pos hb9, if_neg (fun q => c_4 (by rw [hz_17, q]; decide)), hz_17], by rw [ht]; exact hP9, va_K.moved hW.alike hK, hD9⟩, hS.F ht⟩) hS.2.2 dX7_fault_34
  · have hnb9 : ¬ (lrn Lt lz = 0 ∧ 0 < lz) := fun q => c_2 (by rw [hz_1]; unfold brR; rw [if_pos q]; decide)
    refine lv_sipush (v := -1000) hx hb dX7_fault_9 (by decide) ?_
    refine lv_iload_n hx hb dX7_fault_12 rfl (lv_at hl 0 rfl) ?_
    refine lv_isub hx hb dX7_fault_13 ?_
    refine lv_topi (fun x_6 e_6 => ?_)
    have hpd9 := pd_N (cx := [oX7 xl (nI lz) lsg, cC aC lsg 64 sg, oX4 h1 ek ef ew ep es (nI n) sy dn]) hP hD [1, 2, 0] (by decide) rfl
    have hP9 := hpd9.1
    have hD9 := hpd9.2
    refine W.widen (k := 0) (n := 0) (by omega) (by omega) ?_
    exact W.iret (v := x_6) hx hb hr (fun t ht hW => ⟨⟨x_6, (), rfl, by rw [e_6, hz_1]; unfold flR; rw [if_neg hnb9]; unfold brR; rw [if_neg hnb9], by rw [ht]; exact hP9, va_K.moved hW.alike hK, hD9⟩, hS.F ht⟩) hS.2.2 dX7_fault_14
