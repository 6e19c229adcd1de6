set_option maxHeartbeats 1000000 in
set_option maxRecDepth 100000 in
/-- X11_solved -/
theorem c_X11_solved (l : Launch) (dC : Nat → ClassId) (dI : Nat → Nat → Nat) (aC : Nat → ClassId) (sz : Nat) (h0 : Nat) (xp : Nat) (xtp : Nat) (xn : Nat) (xt : Nat) (xk : Nat) (xl : Nat) (xc : Nat) (xo : Nat) (xto : Nat) (xr : Nat) (xch : Nat) (ts : Int32) (ik : Int32) (st : Int32) (po : Nat) (pp : Nat) (ps : Nat) (pa : Nat) (pe : Nat) (pb : Nat) (pk : Nat) (pu : Nat) (pw : Nat) (pq : Nat) (pt : Nat) (un : Int32) (fw : Int32) (ek : Nat) (ef : Nat) (ew : Nat) (ep : Nat) (es : Nat) (n : Nat) (sn : Nat) (dn : Int32) (kf : Nat → Int32) (ff : Nat → Int32) (wf : Nat → Int32) (stf : Nat → Int32) (K : Nat → Nat) (F : Nat → Nat) (W0 : Nat → Nat) (S5 : Nat → Nat) (L : List Nat) (g : Nat → Nat → Int32) (fo : Nat → Option Nat) (fp : Nat → Option Nat) (fs : Nat → Option Nat) (ro : Nat → Nat) (rp : Nat → Nat) (rs : Nat → Nat) (fk : Nat → Option Nat) (k0 : Nat) (k1 : Nat) (k2 : Nat) (k3 : Nat) (k4 : Nat) (k5 : Nat) (k6 : Nat) (uf : Nat → Int32) (vf : Nat → Int32) (qf : Nat → Int32) (tf : Nat → Int32) (bf : Nat → Int32) (yf : Nat → Int32) (ef0 : Nat → Int32) (hgr : GRD L fo fp fs ro rp rs) (hev : EVS n sn dn K F W0 S5 kf ff wf stf) (hkd : KDS fk k0 k1 k2 k3 k4 k5 k6) (hst : STL st n (PO n K F W0 S5) ro rp rs g yf ef0 bf) : Met l yX11_solved (wW yX11_solved cX11_solved 1 (some (.object "EldestSays$Plans"))) ({ frames := 6, cells := 0, slots := 0, locals := 131 } : Room) (va_Pc [Value.ref h0] (fun U => U.heap.size = sz ∧ va_P (dC, dI) classes (wp [oX11 h0 xp xtp xn xt xk xl xc xo xto xr xch ts ik st, oX9 xp po pp ps pa pe pb xn pk pu pw pq pt un fw, oX4 xn ek ef ew ep es (nI n) (nI sn) dn, cI aC ek 8 kf, cI aC ef 8 ff, cI aC ew 8 wf, cI aC es 5 stf, cA aC po 8 fo, cA aC pp 8 fp, cA aC ps 8 fs, cK aC pk 7 fk, cO k0 0 [], cO k1 1 [], cO k2 3 [], cO k3 5 [], cO k4 6 [], cO k5 10 [], cO k6 8 [], cI aC pa 8 yf, cI aC pe 8 ef0, cI aC pb 8 bf, cI aC pu 7 uf, cI aC pw 7 vf, cI aC pq 128 qf, cI aC pt 128 tf] (va_pl L (plE aC g))) U.heap ∧ va_K (dC, dI) classes (TY aC) U ∧ va_D (fun _ => True) (wp [oX11 h0 xp xtp xn xt xk xl xc xo xto xr xch ts ik st, oX9 xp po pp ps pa pe pb xn pk pu pw pq pt un fw, oX4 xn ek ef ew ep es (nI n) (nI sn) dn, cI aC ek 8 kf, cI aC ef 8 ff, cI aC ew 8 wf, cI aC es 5 stf, cA aC po 8 fo, cA aC pp 8 fp, cA aC ps 8 fs, cK aC pk 7 fk, cO k0 0 [], cO k1 1 [], cO k2 3 [], cO k3 5 [], cO k4 6 [], cO k5 10 [], cO k6 8 [], cI aC pa 8 yf, cI aC pe 8 ef0, cI aC pb 8 bf, cI aC pu 7 uf, cI aC pw 7 vf, cI aC pq 128 qf, cI aC pt 128 tf] (va_pl L (plE aC g))) ∧ NX U)) (va_Qr (fun (u : Int32 × Int32 × (Nat → Int32) × (Nat → Int32) × (Nat → Int32) × (Nat → Int32) × (Nat → Int32) × (Nat → Int32) × (Nat → Int32) × (Nat → Nat → Int32)) => match u with | (un2, fw2, ug, vg, qg, tg, bg, yg, eg, g2) => (∀ i, i < n → MAT n (PO n K F W0 S5) ro rp rs g2 yg eg bg i) ∧ (∀ a, OFF ro rp rs a → g2 a = g a)) (fun (u : Int32 × Int32 × (Nat → Int32) × (Nat → Int32) × (Nat → Int32) × (Nat → Int32) × (Nat → Int32) × (Nat → Int32) × (Nat → Int32) × (Nat → Nat → Int32)) (ra : Nat) (t : State) => match u with | (un2, fw2, ug, vg, qg, tg, bg, yg, eg, g2) => ra = xp ∧ va_P (dC, dI) classes (wp [oX11 h0 xp xtp xn xt xk xl xc xo xto xr xch ts ik 0, oX9 xp po pp ps pa pe pb xn pk pu pw pq pt un2 fw2, oX4 xn ek ef ew ep es (nI n) (nI sn) dn, cI aC ek 8 kf, cI aC ef 8 ff, cI aC ew 8 wf, cI aC es 5 stf, cA aC po 8 fo, cA aC pp 8 fp, cA aC ps 8 fs, cK aC pk 7 fk, cO k0 0 [], cO k1 1 [], cO k2 3 [], cO k3 5 [], cO k4 6 [], cO k5 10 [], cO k6 8 [], cI aC pa 8 yg, cI aC pe 8 eg, cI aC pb 8 bg, cI aC pu 7 ug, cI aC pw 7 vg, cI aC pq 128 qg, cI aC pt 128 tg] (va_pl L (plE aC g2))) t.heap ∧ va_K (dC, dI) classes (TY aC) t ∧ va_D (va_A (wp [oX11 h0 xp xtp xn xt xk xl xc xo xto xr xch ts ik st, oX9 xp po pp ps pa pe pb xn pk pu pw pq pt un fw, oX4 xn ek ef ew ep es (nI n) (nI sn) dn, cI aC ek 8 kf, cI aC ef 8 ff, cI aC ew 8 wf, cI aC es 5 stf, cA aC po 8 fo, cA aC pp 8 fp, cA aC ps 8 fs, cK aC pk 7 fk, cO k0 0 [], cO k1 1 [], cO k2 3 [], cO k3 5 [], cO k4 6 [], cO k5 10 [], cO k6 8 [], cI aC pa 8 yf, cI aC pe 8 ef0, cI aC pb 8 bf, cI aC pu 7 uf, cI aC pw 7 vf, cI aC pq 128 qf, cI aC pt 128 tf] (va_pl L (plE aC g))) sz) (wp [oX11 h0 xp xtp xn xt xk xl xc xo xto xr xch ts ik 0, oX9 xp po pp ps pa pe pb xn pk pu pw pq pt un2 fw2, oX4 xn ek ef ew ep es (nI n) (nI sn) dn, cI aC ek 8 kf, cI aC ef 8 ff, cI aC ew 8 wf, cI aC es 5 stf, cA aC po 8 fo, cA aC pp 8 fp, cA aC ps 8 fs, cK aC pk 7 fk, cO k0 0 [], cO k1 1 [], cO k2 3 [], cO k3 5 [], cO k4 6 [], cO k5 10 [], cO k6 8 [], cI aC pa 8 yg, cI aC pe 8 eg, cI aC pb 8 bg, cI aC pu 7 ug, cI aC pw 7 vg, cI aC pq 128 qg, cI aC pt 128 tg] (va_pl L (plE aC g2)))) (va_A (wp [oX11 h0 xp xtp xn xt xk xl xc xo xto xr xch ts ik st, oX9 xp po pp ps pa pe pb xn pk pu pw pq pt un fw, oX4 xn ek ef ew ep es (nI n) (nI sn) dn, cI aC ek 8 kf, cI aC ef 8 ff, cI aC ew 8 wf, cI aC es 5 stf, cA aC po 8 fo, cA aC pp 8 fp, cA aC ps 8 fs, cK aC pk 7 fk, cO k0 0 [], cO k1 1 [], cO k2 3 [], cO k3 5 [], cO k4 6 [], cO k5 10 [], cO k6 8 [], cI aC pa 8 yf, cI aC pe 8 ef0, cI aC pb 8 bf, cI aC pu 7 uf, cI aC pw 7 vf, cI aC pq 128 qf, cI aC pt 128 tf] (va_pl L (plE aC g))) sz)) 0 0 (va_A (wp [oX11 h0 xp xtp xn xt xk xl xc xo xto xr xch ts ik st, oX9 xp po pp ps pa pe pb xn pk pu pw pq pt un fw, oX4 xn ek ef ew ep es (nI n) (nI sn) dn, cI aC ek 8 kf, cI aC ef 8 ff, cI aC ew 8 wf, cI aC es 5 stf, cA aC po 8 fo, cA aC pp 8 fp, cA aC ps 8 fs, cK aC pk 7 fk, cO k0 0 [], cO k1 1 [], cO k2 3 [], cO k3 5 [], cO k4 6 [], cO k5 10 [], cO k6 8 [], cI aC pa 8 yf, cI aC pe 8 ef0, cI aC pb 8 bf, cI aC pu 7 uf, cI aC pw 7 vf, cI aC pq 128 qf, cI aC pt 128 tf] (va_pl L (plE aC g))) sz) := by
  refine Met.ofW (cc := cX11_solved) (maxL := 1) (ret := (some (.object "EldestSays$Plans"))) (by decide) rfl ?_
  intro p e s m args below meth c s₁ B hml hv
  obtain ⟨rfl, hsz, hP, hK, hD0, hN⟩ := hv
  have hx := B.exec
  have hb := B.bytes
  have hr := B.returns
  have hts0 := atoms_spec (ws := (wW yX11_solved cX11_solved 1 (some (.object "EldestSays$Plans")))) B.pre
  have hts : ∀ w9 ∈ lw_G, w9.before ([Value.ref h0] : List Value).toArray s = true := fun w9 h9 => hts0 w9 (List.mem_cons_of_mem _ h9)
  have hown : s.vm.findClass RX11 = some m.cls := findClass_of_methodNamed (x := yX11_solved) B.named
  have hlocks := B.notSynchronized
  subst hsz
  have hD := hD0.self (sz := s.heap.size)
  generalize hAe : va_A (wp [oX11 h0 xp xtp xn xt xk xl xc xo xto xr xch ts ik st, oX9 xp po pp ps pa pe pb xn pk pu pw pq pt un fw, oX4 xn ek ef ew ep es (nI n) (nI sn) dn, cI aC ek 8 kf, cI aC ef 8 ff, cI aC ew 8 wf, cI aC es 5 stf, cA aC po 8 fo, cA aC pp 8 fp, cA aC ps 8 fs, cK aC pk 7 fk, cO k0 0 [], cO k1 1 [], cO k2 3 [], cO k3 5 [], cO k4 6 [], cO k5 10 [], cO k6 8 [], cI aC pa 8 yf, cI aC pe 8 ef0, cI aC pb 8 bf, cI aC pu 7 uf, cI aC pw 7 vf, cI aC pq 128 qf, cI aC pt 128 tf] (va_pl L (plE aC g))) s.heap.size = A at hD ⊢
  have hA : ∀ q : Nat, s.heap.size ≤ q → A q := fun q h => by rw [← hAe]; exact Or.inr h
  obtain ⟨H, hHe⟩ : ∃ H : Heap, H = s.heap := ⟨_, rfl⟩
  have hS : va_S A s.heap H [] := by rw [hHe]; exact va_S.rf
  have hP : va_P (dC, dI) classes (wp [oX11 h0 xp xtp xn xt xk xl xc xo xto xr xch ts ik st, oX9 xp po pp ps pa pe pb xn pk pu pw pq pt un fw, oX4 xn ek ef ew ep es (nI n) (nI sn) dn, cI aC ek 8 kf, cI aC ef 8 ff, cI aC ew 8 wf, cI aC es 5 stf, cA aC po 8 fo, cA aC pp 8 fp, cA aC ps 8 fs, cK aC pk 7 fk, cO k0 0 [], cO k1 1 [], cO k2 3 [], cO k3 5 [], cO k4 6 [], cO k5 10 [], cO k6 8 [], cI aC pa 8 yf, cI aC pe 8 ef0, cI aC pb 8 bf, cI aC pu 7 uf, cI aC pw 7 vf, cI aC pq 128 qf, cI aC pt 128 tf] (va_pl L (plE aC g))) H := by rw [hHe]; exact hP
  have hl := lv_entry ([Value.ref h0]) (n := 1) (Nat.le_of_ble_eq_true rfl)
  rw [lg_entry_eq]
  generalize (lg_sl ([Value.ref h0]) ++ List.replicate (1 - (lg_sl ([Value.ref h0])).length) Slot.unset).toArray = ls at hl ⊢
  have hl : lv_has ls 1 [(0, Value.ref h0)] := hl
  rw [← hHe]
  have hn8 := EVS_n hev
  refine lv_aload_n hx hb dX11_solved_0 rfl (lv_at hl 0 rfl) ?_
  refine va_get (D := (dC, dI)) (ci := 11) (v := Value.int st) (C := RX11) (T := TX11) (N := 14) hx hb hts inX11 hown hK hP 0 rfl rfl 13 (by decide) (hts _ (gw kw_239 rfl)) (fun _ h9 => h9) rfl dX11_solved_1 ?_
  refine lv_if_eq (tgt := 20) hx hb dX11_solved_4 (by decide) (fun c_1 => ?_) (fun c_1 => ?_)
  · have h9 : st = 0 := c_1
    subst h9
    refine lv_aload_n hx hb dX11_solved_20 rfl (lv_at hl 0 rfl) ?_
    refine va_get (D := (dC, dI)) (ci := 11) (v := Value.ref xp) (C := RX11) (T := TX11) (N := 14) hx hb hts inX11 hown hK hP 0 rfl rfl 0 (by decide) (hts _ (gw kw_226 rfl)) (fun _ h9 => h9) rfl dX11_solved_21 ?_
    have hpd9 := pd_P (cx := [oX11 h0 xp xtp xn xt xk xl xc xo xto xr xch ts ik 0, oX9 xp po pp ps pa pe pb xn pk pu pw pq pt un fw, oX4 xn ek ef ew ep es (nI n) (nI sn) dn, cI aC ek 8 kf, cI aC ef 8 ff, cI aC ew 8 wf, cI aC es 5 stf, cA aC po 8 fo, cA aC pp 8 fp, cA aC ps 8 fs, cK aC pk 7 fk, cO k0 0 [], cO k1 1 [], cO k2 3 [], cO k3 5 [], cO k4 6 [], cO k5 10 [], cO k6 8 [], cI aC pa 8 yf, cI aC pe 8 ef0, cI aC pb 8 bf, cI aC pu 7 uf, cI aC pw 7 vf, cI aC pq 128 qf, cI aC pt 128 tf]) hP hD [0, 1, 2, 3, 4, 5, 6, 7, 8, 9, 10, 11, 12, 13, 14, 15, 16, 17, 18, 19, 20, 21, 22, 23, 24] (by decide) rfl
    have hP9 := hpd9.1
    have hD9 := hpd9.2
    refine W.widen (k := 0) (n := 0) (by omega) (by omega) ?_
    exact W.aret (v := Value.ref xp) hx hb hr (Or.inl ⟨_, rfl⟩) (Or.inr ⟨_, rfl⟩) (fun t ht hW => ⟨⟨(un, fw, uf, vf, qf, tf, bf, yf, ef0, g), xp, rfl, ⟨fun i hi => (hst.resolve_left (by decide)).2 i hi, fun a _ => rfl⟩, rfl, by rw [ht]; exact hP9, va_K.moved hW.alike hK, hD9⟩, hS.F ht⟩) hS.2.2 dX11_solved_24
  · refine lv_aload_n hx hb dX11_solved_7 rfl (lv_at hl 0 rfl) ?_
    refine va_get (D := (dC, dI)) (ci := 11) (v := Value.ref xp) (C := RX11) (T := TX11) (N := 14) hx hb hts inX11 hown hK hP 0 rfl rfl 0 (by decide) (hts _ (gw kw_226 rfl)) (fun _ h9 => h9) rfl dX11_solved_8 ?_
    refine lv_iconst (v := 0) hx hb dX11_solved_11 (by decide) ?_
    refine lv_topi (fun x_2 e_2 => ?_)
    have h9 : x_2 = nI 0 := by rw [e_2]; rfl
    subst h9
    have hpd9 := pdf_P (cx := [oX9 xp po pp ps pa pe pb xn pk pu pw pq pt un fw, oX4 xn ek ef ew ep es (nI n) (nI sn) dn, cI aC ek 8 kf, cI aC ef 8 ff, cI aC ew 8 wf, cI aC es 5 stf, cA aC po 8 fo, cA aC pp 8 fp, cA aC ps 8 fs, cK aC pk 7 fk, cO k0 0 [], cO k1 1 [], cO k2 3 [], cO k3 5 [], cO k4 6 [], cO k5 10 [], cO k6 8 [], cI aC pa 8 yf, cI aC pe 8 ef0, cI aC pb 8 bf, cI aC pu 7 uf, cI aC pw 7 vf, cI aC pq 128 qf, cI aC pt 128 tf]) hP hD hS hA [1, 2, 3, 4, 5, 6, 7, 8, 9, 10, 11, 12, 13, 14, 15, 16, 17, 18, 19, 20, 21, 22, 23, 24] (by decide) rfl
    have hPc := hpd9.1
    have hDc := hpd9.2.1
    have hFc := hpd9.2.2
    clear hpd9
    refine va_callv (va_runV (As := [Value.int (nI 0)]) (rest := []) ⟨hx, hb, hml, hown, hts⟩ (c_X9_solve l dC dI aC H.size xp po pp ps pa pe pb xn pk pu pw pq pt un fw ek ef ew ep es n (nI sn) dn kf ff wf stf K F W0 (S5 0) L g fo fp fs ro rp rs fk k0 k1 k2 k3 k4 k5 k6 (PO n K F W0 S5) 0 uf vf qf tf bf yf ef0 (hgr) (hev.1) (hkd) (PO_cl hev) (by omega)) ⟨(callB_of 1 hts (gG kw_357) rfl rfl rfl (hts _ (gw kw_11 rfl)) (hts _ (gw kw_354 rfl)) hd_X9_solve ⟨Nat.le_of_ble_eq_true rfl, Nat.le_of_ble_eq_true rfl⟩), (hts _ (gw kw_355 rfl)), (hts _ (gw kw_356 rfl))⟩ ⟨fb_std, va_recv (q := (RX9, TX9, 14)) hK hPc (ci := 9) (q0 := 0) rfl rfl, pre_std hPc hK hDc hN⟩ rfl rfl hl.1 rfl (lv_room (Nat.le_of_ble_eq_true rfl)) dX11_solved_12 ⟨Nat.le_of_ble_eq_true rfl, Nat.le_of_ble_eq_true rfl⟩) hS (fun q _ h => hFc q h) hFc (fun u9 t9 H1 locs ht hvm hw_3 hB hz1 hk1 hS => ?_)
    obtain ⟨u_4, u_5, u_6, u_7, u_8, u_9, u_10, u_11, u_12, u_13⟩ := u9
    obtain ⟨hP1, hK1, hD1⟩ := hB
    rw [ht] at hP1
    clear hK1
    try dsimp only at hw_3
    have hpd9 : PDx (dC, dI) classes A H1 (wp [oX11 h0 xp xtp xn xt xk xl xc xo xto xr xch ts ik st, oX9 xp po pp ps pa pe pb xn pk pu pw pq pt u_4 u_5, oX4 xn ek ef ew ep es (nI n) (nI sn) dn, cI aC ek 8 kf, cI aC ef 8 ff, cI aC ew 8 wf, cI aC es 5 stf, cA aC po 8 fo, cA aC pp 8 fp, cA aC ps 8 fs, cK aC pk 7 fk, cO k0 0 [], cO k1 1 [], cO k2 3 [], cO k3 5 [], cO k4 6 [], cO k5 10 [], cO k6 8 [], cI aC pa 8 u_11, cI aC pe 8 u_12, cI aC pb 8 u_10, cI aC pu 7 u_6, cI aC pw 7 u_7, cI aC pq 128 u_8, cI aC pt 128 u_9] (va_pl L (plE aC u_13))) := jn_P (wr := [oX11 h0 xp xtp xn xt xk xl xc xo xto xr xch ts ik st]) hFc hk1 hP1 hD1 hP hD [1, 2, 3, 4, 5, 6, 7, 8, 9, 10, 11, 12, 13, 14, 15, 16, 17, 18, 19, 20, 21, 22, 23, 24] [0] rfl rfl (by decide) (by decide)
    have hP := hpd9.1
    have hD := hpd9.2
    clear hpd9
    generalize H1 = H at hP hS ⊢
    clear hPc hDc hFc hz1 hk1 hP1 hD1 ht hvm
    obtain ⟨hm1, hm2⟩ := hw_3
    refine lv_aload_n hx hb dX11_solved_15 rfl (lv_at hl 0 rfl) ?_
    refine lv_iconst (v := 0) hx hb dX11_solved_16 (by decide) ?_
    refine va_put (D := (dC, dI)) (ci := 11) (v := Value.int 0) (ty := .boolean) (C := RX11) (T := TX11) (N := 14) hx hb hts inX11 tyX11 tyX11_ok nmX11 hown hK hP hD hS 0 rfl rfl 13 (by decide) (hts _ (gw kw_239 rfl)) (fun _ h9 => h9) rfl (by decide +kernel) rfl rfl (Nat.le_of_ble_eq_true rfl) dX11_solved_17 (fun H locs hP hD hS => ?_)
    have hpd9 : PDx (dC, dI) classes A H (wp [oX11 h0 xp xtp xn xt xk xl xc xo xto xr xch ts ik 0, oX9 xp po pp ps pa pe pb xn pk pu pw pq pt u_4 u_5, oX4 xn ek ef ew ep es (nI n) (nI sn) dn, cI aC ek 8 kf, cI aC ef 8 ff, cI aC ew 8 wf, cI aC es 5 stf, cA aC po 8 fo, cA aC pp 8 fp, cA aC ps 8 fs, cK aC pk 7 fk, cO k0 0 [], cO k1 1 [], cO k2 3 [], cO k3 5 [], cO k4 6 [], cO k5 10 [], cO k6 8 [], cI aC pa 8 u_11, cI aC pe 8 u_12, cI aC pb 8 u_10, cI aC pu 7 u_6, cI aC pw 7 u_7, cI aC pq 128 u_8, cI aC pt 128 u_9] (va_pl L (plE aC u_13))) := ⟨hP, hD⟩
    have hP := hpd9.1
    have hD := hpd9.2
    clear hpd9
    refine lv_aload_n hx hb dX11_solved_20 rfl (lv_at hl 0 rfl) ?_
    refine va_get (D := (dC, dI)) (ci := 11) (v := Value.ref xp) (C := RX11) (T := TX11) (N := 14) hx hb hts inX11 hown hK hP 0 rfl rfl 0 (by decide) (hts _ (gw kw_226 rfl)) (fun _ h9 => h9) rfl dX11_solved_21 ?_
    have hpd9 := pd_P (cx := [oX11 h0 xp xtp xn xt xk xl xc xo xto xr xch ts ik 0, oX9 xp po pp ps pa pe pb xn pk pu pw pq pt u_4 u_5, oX4 xn ek ef ew ep es (nI n) (nI sn) dn, cI aC ek 8 kf, cI aC ef 8 ff, cI aC ew 8 wf, cI aC es 5 stf, cA aC po 8 fo, cA aC pp 8 fp, cA aC ps 8 fs, cK aC pk 7 fk, cO k0 0 [], cO k1 1 [], cO k2 3 [], cO k3 5 [], cO k4 6 [], cO k5 10 [], cO k6 8 [], cI aC pa 8 u_11, cI aC pe 8 u_12, cI aC pb 8 u_10, cI aC pu 7 u_6, cI aC pw 7 u_7, cI aC pq 128 u_8, cI aC pt 128 u_9]) hP hD [0, 1, 2, 3, 4, 5, 6, 7, 8, 9, 10, 11, 12, 13, 14, 15, 16, 17, 18, 19, 20, 21, 22, 23, 24] (by decide) rfl
    have hP9 := hpd9.1
    have hD9 := hpd9.2
    refine W.widen (k := 0) (n := 0) (by omega) (by omega) ?_
    exact W.aret (v := Value.ref xp) hx hb hr (Or.inl ⟨_, rfl⟩) (Or.inr ⟨_, rfl⟩) (fun t ht hW => ⟨⟨(u_4, u_5, u_6, u_7, u_8, u_9, u_10, u_11, u_12, u_13), xp, rfl, ⟨fun i hi => hm1 i (Nat.zero_le _) hi, hm2⟩, rfl, by rw [ht]; exact hP9, va_K.moved hW.alike hK, hD9⟩, hS.F ht⟩) hS.2.2 dX11_solved_24

set_option maxHeartbeats 1000000 in
set_option maxRecDepth 100000 in
/-- X11_votes -/
theorem c_X11_votes (l : Launch) (dC : Nat → ClassId) (dI : Nat → Nat → Nat) (aC : Nat → ClassId) (sz : Nat) (h0 : Nat) (xp : Nat) (xtp : Nat) (xn : Nat) (xt : Nat) (xk : Nat) (xl : Nat) (xc : Nat) (xo : Nat) (xto : Nat) (xr : Nat) (xch : Nat) (ts : Int32) (ik : Int32) (st : Int32) (po : Nat) (pp : Nat) (ps : Nat) (pa : Nat) (pe : Nat) (pb : Nat) (pk : Nat) (pu : Nat) (pw : Nat) (pq : Nat) (pt : Nat) (un : Int32) (fw : Int32) (ek : Nat) (ef : Nat) (ew : Nat) (ep : Nat) (es : Nat) (n : Nat) (sn : Nat) (dn : Int32) (kf : Nat → Int32) (ff : Nat → Int32) (wf : Nat → Int32) (stf : Nat → Int32) (K : Nat → Nat) (F : Nat → Nat) (W0 : Nat → Nat) (S5 : Nat → Nat) (L : List Nat) (g : Nat → Nat → Int32) (fo : Nat → Option Nat) (fp : Nat → Option Nat) (fs : Nat → Option Nat) (ro : Nat → Nat) (rp : Nat → Nat) (rs : Nat → Nat) (fk : Nat → Option Nat) (k0 : Nat) (k1 : Nat) (k2 : Nat) (k3 : Nat) (k4 : Nat) (k5 : Nat) (k6 : Nat) (uf : Nat → Int32) (vf : Nat → Int32) (qf : Nat → Int32) (tf : Nat → Int32) (bf : Nat → Int32) (yf : Nat → Int32) (ef0 : Nat → Int32) (rf : Nat → Int32) (i : Int32) (hgr : GRD L fo fp fs ro rp rs) (hev : EVS n sn dn K F W0 S5 kf ff wf stf) (hkd : KDS fk k0 k1 k2 k3 k4 k5 k6) (hst : STL st n (PO n K F W0 S5) ro rp rs g yf ef0 bf) : Met l yX11_votes (wW yX11_votes cX11_votes 2 (some .int)) ({ frames := 7, cells := 0, slots := 0, locals := 151 } : Room) (va_Pc [Value.ref h0, Value.int i] (fun U => U.heap.size = sz ∧ va_P (dC, dI) classes (wp [oX11 h0 xp xtp xn xt xk xl xc xo xto xr xch ts ik st, oX9 xp po pp ps pa pe pb xn pk pu pw pq pt un fw, oX4 xn ek ef ew ep es (nI n) (nI sn) dn, cI aC ek 8 kf, cI aC ef 8 ff, cI aC ew 8 wf, cI aC es 5 stf, cA aC po 8 fo, cA aC pp 8 fp, cA aC ps 8 fs, cK aC pk 7 fk, cO k0 0 [], cO k1 1 [], cO k2 3 [], cO k3 5 [], cO k4 6 [], cO k5 10 [], cO k6 8 [], cI aC pa 8 yf, cI aC pe 8 ef0, cI aC pb 8 bf, cI aC pu 7 uf, cI aC pw 7 vf, cI aC pq 128 qf, cI aC pt 128 tf, cI aC xr 7 rf] (va_pl L (plE aC g))) U.heap ∧ va_K (dC, dI) classes (TY aC) U ∧ va_D (fun _ => True) (wp [oX11 h0 xp xtp xn xt xk xl xc xo xto xr xch ts ik st, oX9 xp po pp ps pa pe pb xn pk pu pw pq pt un fw, oX4 xn ek ef ew ep es (nI n) (nI sn) dn, cI aC ek 8 kf, cI aC ef 8 ff, cI aC ew 8 wf, cI aC es 5 stf, cA aC po 8 fo, cA aC pp 8 fp, cA aC ps 8 fs, cK aC pk 7 fk, cO k0 0 [], cO k1 1 [], cO k2 3 [], cO k3 5 [], cO k4 6 [], cO k5 10 [], cO k6 8 [], cI aC pa 8 yf, cI aC pe 8 ef0, cI aC pb 8 bf, cI aC pu 7 uf, cI aC pw 7 vf, cI aC pq 128 qf, cI aC pt 128 tf, cI aC xr 7 rf] (va_pl L (plE aC g))) ∧ NX U)) (va_Qi (fun (r : Int32) (u : Int32 × Int32 × (Nat → Int32) × (Nat → Int32) × (Nat → Int32) × (Nat → Int32) × (Nat → Int32) × (Nat → Int32) × (Nat → Int32) × (Nat → Nat → Int32) × (Nat → Int32) × Int32) => match u with | (un2, fw2, ug, vg, qg, tg, bg, yg, eg, g2, rf2, st2) => STL st2 n (PO n K F W0 S5) ro rp rs g2 yg eg bg ∧ (∀ a, OFF ro rp rs a → g2 a = g a) ∧ r = rVot n (PO n K F W0 S5) i) (fun (u : Int32 × Int32 × (Nat → Int32) × (Nat → Int32) × (Nat → Int32) × (Nat → Int32) × (Nat → Int32) × (Nat → Int32) × (Nat → Int32) × (Nat → Nat → Int32) × (Nat → Int32) × Int32) (t : State) => match u with | (un2, fw2, ug, vg, qg, tg, bg, yg, eg, g2, rf2, st2) => va_P (dC, dI) classes (wp [oX11 h0 xp xtp xn xt xk xl xc xo xto xr xch ts ik st2, oX9 xp po pp ps pa pe pb xn pk pu pw pq pt un2 fw2, oX4 xn ek ef ew ep es (nI n) (nI sn) dn, cI aC ek 8 kf, cI aC ef 8 ff, cI aC ew 8 wf, cI aC es 5 stf, cA aC po 8 fo, cA aC pp 8 fp, cA aC ps 8 fs, cK aC pk 7 fk, cO k0 0 [], cO k1 1 [], cO k2 3 [], cO k3 5 [], cO k4 6 [], cO k5 10 [], cO k6 8 [], cI aC pa 8 yg, cI aC pe 8 eg, cI aC pb 8 bg, cI aC pu 7 ug, cI aC pw 7 vg, cI aC pq 128 qg, cI aC pt 128 tg, cI aC xr 7 rf2] (va_pl L (plE aC g2))) t.heap ∧ va_K (dC, dI) classes (TY aC) t ∧ va_D (va_A (wp [oX11 h0 xp xtp xn xt xk xl xc xo xto xr xch ts ik st, oX9 xp po pp ps pa pe pb xn pk pu pw pq pt un fw, oX4 xn ek ef ew ep es (nI n) (nI sn) dn, cI aC ek 8 kf, cI aC ef 8 ff, cI aC ew 8 wf, cI aC es 5 stf, cA aC po 8 fo, cA aC pp 8 fp, cA aC ps 8 fs, cK aC pk 7 fk, cO k0 0 [], cO k1 1 [], cO k2 3 [], cO k3 5 [], cO k4 6 [], cO k5 10 [], cO k6 8 [], cI aC pa 8 yf, cI aC pe 8 ef0, cI aC pb 8 bf, cI aC pu 7 uf, cI aC pw 7 vf, cI aC pq 128 qf, cI aC pt 128 tf, cI aC xr 7 rf] (va_pl L (plE aC g))) sz) (wp [oX11 h0 xp xtp xn xt xk xl xc xo xto xr xch ts ik st2, oX9 xp po pp ps pa pe pb xn pk pu pw pq pt un2 fw2, oX4 xn ek ef ew ep es (nI n) (nI sn) dn, cI aC ek 8 kf, cI aC ef 8 ff, cI aC ew 8 wf, cI aC es 5 stf, cA aC po 8 fo, cA aC pp 8 fp, cA aC ps 8 fs, cK aC pk 7 fk, cO k0 0 [], cO k1 1 [], cO k2 3 [], cO k3 5 [], cO k4 6 [], cO k5 10 [], cO k6 8 [], cI aC pa 8 yg, cI aC pe 8 eg, cI aC pb 8 bg, cI aC pu 7 ug, cI aC pw 7 vg, cI aC pq 128 qg, cI aC pt 128 tg, cI aC xr 7 rf2] (va_pl L (plE aC g2)))) (va_A (wp [oX11 h0 xp xtp xn xt xk xl xc xo xto xr xch ts ik st, oX9 xp po pp ps pa pe pb xn pk pu pw pq pt un fw, oX4 xn ek ef ew ep es (nI n) (nI sn) dn, cI aC ek 8 kf, cI aC ef 8 ff, cI aC ew 8 wf, cI aC es 5 stf, cA aC po 8 fo, cA aC pp 8 fp, cA aC ps 8 fs, cK aC pk 7 fk, cO k0 0 [], cO k1 1 [], cO k2 3 [], cO k3 5 [], cO k4 6 [], cO k5 10 [], cO k6 8 [], cI aC pa 8 yf, cI aC pe 8 ef0, cI aC pb 8 bf, cI aC pu 7 uf, cI aC pw 7 vf, cI aC pq 128 qf, cI aC pt 128 tf, cI aC xr 7 rf] (va_pl L (plE aC g))) sz)) 0 0 (va_A (wp [oX11 h0 xp xtp xn xt xk xl xc xo xto xr xch ts ik st, oX9 xp po pp ps pa pe pb xn pk pu pw pq pt un fw, oX4 xn ek ef ew ep es (nI n) (nI sn) dn, cI aC ek 8 kf, cI aC ef 8 ff, cI aC ew 8 wf, cI aC es 5 stf, cA aC po 8 fo, cA aC pp 8 fp, cA aC ps 8 fs, cK aC pk 7 fk, cO k0 0 [], cO k1 1 [], cO k2 3 [], cO k3 5 [], cO k4 6 [], cO k5 10 [], cO k6 8 [], cI aC pa 8 yf, cI aC pe 8 ef0, cI aC pb 8 bf, cI aC pu 7 uf, cI aC pw 7 vf, cI aC pq 128 qf, cI aC pt 128 tf, cI aC xr 7 rf] (va_pl L (plE aC g))) sz) := by
  refine Met.ofW (cc := cX11_votes) (maxL := 2) (ret := (some .int)) (by decide) rfl ?_
  intro p e s m args below meth c s₁ B hml hv
  obtain ⟨rfl, hsz, hP, hK, hD0, hN⟩ := hv
  have hx := B.exec
  have hb := B.bytes
  have hr := B.returns
  have hts0 := atoms_spec (ws := (wW yX11_votes cX11_votes 2 (some .int))) B.pre
  have hts : ∀ w9 ∈ lw_G, w9.before ([Value.ref h0, Value.int i] : List Value).toArray s = true := fun w9 h9 => hts0 w9 (List.mem_cons_of_mem _ h9)
  have hown : s.vm.findClass RX11 = some m.cls := findClass_of_methodNamed (x := yX11_votes) B.named
  have hlocks := B.notSynchronized
  subst hsz
  have hD := hD0.self (sz := s.heap.size)
  generalize hAe : va_A (wp [oX11 h0 xp xtp xn xt xk xl xc xo xto xr xch ts ik st, oX9 xp po pp ps pa pe pb xn pk pu pw pq pt un fw, oX4 xn ek ef ew ep es (nI n) (nI sn) dn, cI aC ek 8 kf, cI aC ef 8 ff, cI aC ew 8 wf, cI aC es 5 stf, cA aC po 8 fo, cA aC pp 8 fp, cA aC ps 8 fs, cK aC pk 7 fk, cO k0 0 [], cO k1 1 [], cO k2 3 [], cO k3 5 [], cO k4 6 [], cO k5 10 [], cO k6 8 [], cI aC pa 8 yf, cI aC pe 8 ef0, cI aC pb 8 bf, cI aC pu 7 uf, cI aC pw 7 vf, cI aC pq 128 qf, cI aC pt 128 tf, cI aC xr 7 rf] (va_pl L (plE aC g))) s.heap.size = A at hD ⊢
  have hA : ∀ q : Nat, s.heap.size ≤ q → A q := fun q h => by rw [← hAe]; exact Or.inr h
  obtain ⟨H, hHe⟩ : ∃ H : Heap, H = s.heap := ⟨_, rfl⟩
  have hS : va_S A s.heap H [] := by rw [hHe]; exact va_S.rf
  have hP : va_P (dC, dI) classes (wp [oX11 h0 xp xtp xn xt xk xl xc xo xto xr xch ts ik st, oX9 xp po pp ps pa pe pb xn pk pu pw pq pt un fw, oX4 xn ek ef ew ep es (nI n) (nI sn) dn, cI aC ek 8 kf, cI aC ef 8 ff, cI aC ew 8 wf, cI aC es 5 stf, cA aC po 8 fo, cA aC pp 8 fp, cA aC ps 8 fs, cK aC pk 7 fk, cO k0 0 [], cO k1 1 [], cO k2 3 [], cO k3 5 [], cO k4 6 [], cO k5 10 [], cO k6 8 [], cI aC pa 8 yf, cI aC pe 8 ef0, cI aC pb 8 bf, cI aC pu 7 uf, cI aC pw 7 vf, cI aC pq 128 qf, cI aC pt 128 tf, cI aC xr 7 rf] (va_pl L (plE aC g))) H := by rw [hHe]; exact hP
  have hl := lv_entry ([Value.ref h0, Value.int i]) (n := 2) (Nat.le_of_ble_eq_true rfl)
  rw [lg_entry_eq]
  generalize (lg_sl ([Value.ref h0, Value.int i]) ++ List.replicate (2 - (lg_sl ([Value.ref h0, Value.int i])).length) Slot.unset).toArray = ls at hl ⊢
  have hl : lv_has ls 2 [(0, Value.ref h0), (1, Value.int i)] := hl
  rw [← hHe]
  have hn8 := EVS_n hev
  refine lv_aload_n hx hb dX11_votes_0 rfl (lv_at hl 0 rfl) ?_
  refine va_get (D := (dC, dI)) (ci := 11) (v := Value.ref xn) (C := RX11) (T := TX11) (N := 14) hx hb hts inX11 hown hK hP 0 rfl rfl 2 (by decide) (hts _ (gw kw_228 rfl)) (fun _ h9 => h9) rfl dX11_votes_1 ?_
  refine lv_iload_n hx hb dX11_votes_4 rfl (lv_at hl 1 rfl) ?_
  have hpd9 := pdf_N (cx := [oX4 xn ek ef ew ep es (nI n) (nI sn) dn]) hP hD hS hA [2] (by decide) rfl
  have hPc := hpd9.1
  have hDc := hpd9.2.1
  have hFc := hpd9.2.2
  clear hpd9
  refine va_calli (va_runV (As := [Value.int i]) (rest := []) ⟨hx, hb, hml, hown, hts⟩ (c_X4_has l dC dI aC H.size xn ek ef ew ep es (nI n) (nI sn) dn i ) ⟨(callB_of 1 hts (gG kw_340) rfl rfl rfl (hts _ (gw kw_2 rfl)) (hts _ (gw kw_337 rfl)) hd_X4_has ⟨Nat.le_of_ble_eq_true rfl, Nat.le_of_ble_eq_true rfl⟩), (hts _ (gw kw_338 rfl)), (hts _ (gw kw_339 rfl))⟩ ⟨fb_std, va_recv (q := (RX4, TX4, 8)) hK hPc (ci := 4) (q0 := 0) rfl rfl, pre_std hPc hK hDc hN⟩ rfl rfl hl.1 rfl (lv_room (Nat.le_of_ble_eq_true rfl)) dX11_votes_5 ⟨Nat.le_of_ble_eq_true rfl, Nat.le_of_ble_eq_true rfl⟩) hS (fun q _ h => hFc q h) hFc (fun x_1 u9 t9 H1 locs ht hvm hw_1 hB hz1 hk1 hS => ?_)
  obtain ⟨hP1, hK1, hD1⟩ := hB
  rw [ht] at hP1
  clear hK1
  try dsimp only at hw_1
  have hpd9 : PDx (dC, dI) classes A H1 (wp [oX11 h0 xp xtp xn xt xk xl xc xo xto xr xch ts ik st, oX9 xp po pp ps pa pe pb xn pk pu pw pq pt un fw, cI aC ek 8 kf, cI aC ef 8 ff, cI aC ew 8 wf, cI aC es 5 stf, cA aC po 8 fo, cA aC pp 8 fp, cA aC ps 8 fs, cK aC pk 7 fk, cO k0 0 [], cO k1 1 [], cO k2 3 [], cO k3 5 [], cO k4 6 [], cO k5 10 [], cO k6 8 [], cI aC pa 8 yf, cI aC pe 8 ef0, cI aC pb 8 bf, cI aC pu 7 uf, cI aC pw 7 vf, cI aC pq 128 qf, cI aC pt 128 tf, cI aC xr 7 rf, oX4 xn ek ef ew ep es (nI n) (nI sn) dn] (va_pl L (plE aC g))) := jn_Q (wr := [oX11 h0 xp xtp xn xt xk xl xc xo xto xr xch ts ik st, oX9 xp po pp ps pa pe pb xn pk pu pw pq pt un fw, cI aC ek 8 kf, cI aC ef 8 ff, cI aC ew 8 wf, cI aC es 5 stf, cA aC po 8 fo, cA aC pp 8 fp, cA aC ps 8 fs, cK aC pk 7 fk, cO k0 0 [], cO k1 1 [], cO k2 3 [], cO k3 5 [], cO k4 6 [], cO k5 10 [], cO k6 8 [], cI aC pa 8 yf, cI aC pe 8 ef0, cI aC pb 8 bf, cI aC pu 7 uf, cI aC pw 7 vf, cI aC pq 128 qf, cI aC pt 128 tf, cI aC xr 7 rf]) hFc hk1 hP1 hD1 hP hD [2] [0, 1, 3, 4, 5, 6, 7, 8, 9, 10, 11, 12, 13, 14, 15, 16, 17, 18, 19, 20, 21, 22, 23, 24, 25] rfl rfl (by decide) (by decide)
  have hP := hpd9.1
  have hD := hpd9.2
  clear hpd9
  generalize H1 = H at hP hS ⊢
  clear hPc hDc hFc hz1 hk1 hP1 hD1 ht hvm
  have hz_5 := hw_1
  refine lv_if_eq (tgt := 23) hx hb dX11_votes_8 (by decide) (fun c_2 => ?_) (fun c_2 => ?_)
  · refine lv_aload_n hx hb dX11_votes_23 rfl (lv_at hl 0 rfl) ?_
    refine lv_iconst (v := -1) hx hb dX11_votes_24 (by decide) ?_
    have hpd9 := pdf_N (cx := [oX11 h0 xp xtp xn xt xk xl xc xo xto xr xch ts ik st, cI aC xr 7 rf]) hP hD hS hA [0, 24] (by decide) rfl
    have hPc := hpd9.1
    have hDc := hpd9.2.1
    have hFc := hpd9.2.2
    clear hpd9
    refine va_calli (va_runV (As := [Value.int (-1)]) (rest := []) ⟨hx, hb, hml, hown, hts⟩ (c_X11_refuse l dC dI aC H.size h0 xp xtp xn xt xk xl xc xo xto xr xch ts ik st (-1) 1 rf (by decide) (by decide) (by decide) (by unfold vp_in; decide)) ⟨(callB_of 1 hts (gG kw_276) rfl rfl rfl (hts _ (gw kw_1 rfl)) (hts _ (gw kw_273 rfl)) hd_X11_refuse ⟨Nat.le_of_ble_eq_true rfl, Nat.le_of_ble_eq_true rfl⟩), (hts _ (gw kw_275 rfl)), (hts _ (gw ks_0 rfl))⟩ ⟨fb_std, va_recv (q := (RX11, TX11, 14)) hK hPc (ci := 11) (q0 := 0) rfl rfl, pre_std hPc hK hDc hN⟩ rfl rfl hl.1 rfl (lv_room (Nat.le_of_ble_eq_true rfl)) dX11_votes_25 ⟨Nat.le_of_ble_eq_true rfl, Nat.le_of_ble_eq_true rfl⟩) hS (fun q _ h => hFc q h) hFc (fun x_3 u9 t9 H1 locs ht hvm hw_3 hB hz1 hk1 hS => ?_)
    obtain ⟨u_4, rfl⟩ : ∃ z, z = u9 := ⟨_, rfl⟩
    obtain ⟨hP1, hK1, hD1⟩ := hB
    rw [ht] at hP1
    clear hK1
    try dsimp only at hw_3
    have hpd9 : PDx (dC, dI) classes A H1 (wp [oX9 xp po pp ps pa pe pb xn pk pu pw pq pt un fw, cI aC ek 8 kf, cI aC ef 8 ff, cI aC ew 8 wf, cI aC es 5 stf, cA aC po 8 fo, cA aC pp 8 fp, cA aC ps 8 fs, cK aC pk 7 fk, cO k0 0 [], cO k1 1 [], cO k2 3 [], cO k3 5 [], cO k4 6 [], cO k5 10 [], cO k6 8 [], cI aC pa 8 yf, cI aC pe 8 ef0, cI aC pb 8 bf, cI aC pu 7 uf, cI aC pw 7 vf, cI aC pq 128 qf, cI aC pt 128 tf, oX4 xn ek ef ew ep es (nI n) (nI sn) dn, oX11 h0 xp xtp xn xt xk xl xc xo xto xr xch ts ik st, cI aC xr 7 u_4] (va_pl L (plE aC g))) := jn_Q (wr := [oX9 xp po pp ps pa pe pb xn pk pu pw pq pt un fw, cI aC ek 8 kf, cI aC ef 8 ff, cI aC ew 8 wf, cI aC es 5 stf, cA aC po 8 fo, cA aC pp 8 fp, cA aC ps 8 fs, cK aC pk 7 fk, cO k0 0 [], cO k1 1 [], cO k2 3 [], cO k3 5 [], cO k4 6 [], cO k5 10 [], cO k6 8 [], cI aC pa 8 yf, cI aC pe 8 ef0, cI aC pb 8 bf, cI aC pu 7 uf, cI aC pw 7 vf, cI aC pq 128 qf, cI aC pt 128 tf, oX4 xn ek ef ew ep es (nI n) (nI sn) dn]) hFc hk1 hP1 hD1 hP hD [0, 24] [1, 2, 3, 4, 5, 6, 7, 8, 9, 10, 11, 12, 13, 14, 15, 16, 17, 18, 19, 20, 21, 22, 23, 25] rfl rfl (by decide) (by decide)
    have hP := hpd9.1
    have hD := hpd9.2
    clear hpd9
    generalize H1 = H at hP hS ⊢
    clear hPc hDc hFc hz1 hk1 hP1 hD1 ht hvm
    obtain ⟨hv9, -⟩ := hw_3
    have hpd9 := pd_P (cx := [oX11 h0 xp xtp xn xt xk xl xc xo xto xr xch ts ik st, oX9 xp po pp ps pa pe pb xn pk pu pw pq pt un fw, oX4 xn ek ef ew ep es (nI n) (nI sn) dn, cI aC ek 8 kf, cI aC ef 8 ff, cI aC ew 8 wf, cI aC es 5 stf, cA aC po 8 fo, cA aC pp 8 fp, cA aC ps 8 fs, cK aC pk 7 fk, cO k0 0 [], cO k1 1 [], cO k2 3 [], cO k3 5 [], cO k4 6 [], cO k5 10 [], cO k6 8 [], cI aC pa 8 yf, cI aC pe 8 ef0, cI aC pb 8 bf, cI aC pu 7 uf, cI aC pw 7 vf, cI aC pq 128 qf, cI aC pt 128 tf, cI aC xr 7 u_4]) hP hD [24, 0, 23, 1, 2, 3, 4, 5, 6, 7, 8, 9, 10, 11, 12, 13, 14, 15, 16, 17, 18, 19, 20, 21, 22, 25] (by decide) rfl
    have hP9 := hpd9.1
    have hD9 := hpd9.2
    refine W.widen (k := 0) (n := 0) (by omega) (by omega) ?_
    exact W.iret (v := x_3) hx hb hr (fun t ht hW => ⟨⟨x_3, (un, fw, uf, vf, qf, tf, bf, yf, ef0, g, u_4, st), rfl, ⟨hst, fun a _ => rfl, by rw [hv9]; unfold rVot; rw [if_neg (has_n hz_5 c_2)]⟩, by rw [ht]; exact hP9, va_K.moved hW.alike hK, hD9⟩, hS.F ht⟩) hS.2.2 dX11_votes_28
  · obtain ⟨a, ha8, ha9⟩ := OKI_ix hn8 (has_y hz_5 c_2)
    have h9 : i = nI a := ha9
    subst h9
    refine lv_aload_n hx hb dX11_votes_11 rfl (lv_at hl 0 rfl) ?_
    have hpd9 := pdf_P (cx := [oX11 h0 xp xtp xn xt xk xl xc xo xto xr xch ts ik st, oX9 xp po pp ps pa pe pb xn pk pu pw pq pt un fw, oX4 xn ek ef ew ep es (nI n) (nI sn) dn, cI aC ek 8 kf, cI aC ef 8 ff, cI aC ew 8 wf, cI aC es 5 stf, cA aC po 8 fo, cA aC pp 8 fp, cA aC ps 8 fs, cK aC pk 7 fk, cO k0 0 [], cO k1 1 [], cO k2 3 [], cO k3 5 [], cO k4 6 [], cO k5 10 [], cO k6 8 [], cI aC pa 8 yf, cI aC pe 8 ef0, cI aC pb 8 bf, cI aC pu 7 uf, cI aC pw 7 vf, cI aC pq 128 qf, cI aC pt 128 tf]) hP hD hS hA [0, 1, 25, 2, 3, 4, 5, 6, 7, 8, 9, 10, 11, 12, 13, 14, 15, 16, 17, 18, 19, 20, 21, 22, 23] (by decide) rfl
    have hPc := hpd9.1
    have hDc := hpd9.2.1
    have hFc := hpd9.2.2
    clear hpd9
    refine va_callr (va_runV (As := []) (rest := []) ⟨hx, hb, hml, hown, hts⟩ (c_X11_solved l dC dI aC H.size h0 xp xtp xn xt xk xl xc xo xto xr xch ts ik st po pp ps pa pe pb pk pu pw pq pt un fw ek ef ew ep es n sn dn kf ff wf stf K F W0 S5 L g fo fp fs ro rp rs fk k0 k1 k2 k3 k4 k5 k6 uf vf qf tf bf yf ef0 (hgr) (hev) (hkd) (hst)) ⟨(callB_of 0 hts (gG kw_353) rfl rfl rfl (hts _ (gw kw_1 rfl)) (hts _ (gw kw_350 rfl)) hd_X11_solved ⟨Nat.le_of_ble_eq_true rfl, Nat.le_of_ble_eq_true rfl⟩), (hts _ (gw kw_352 rfl)), (hts _ (gw ks_6 rfl))⟩ ⟨fb_std, va_recv (q := (RX11, TX11, 14)) hK hPc (ci := 11) (q0 := 0) rfl rfl, pre_std hPc hK hDc hN⟩ rfl rfl hl.1 rfl (lv_room (Nat.le_of_ble_eq_true rfl)) dX11_votes_12 ⟨Nat.le_of_ble_eq_true rfl, Nat.le_of_ble_eq_true rfl⟩) hS (fun q _ h => hFc q h) hFc (fun u9 q_5 t9 H1 locs ht hvm hw_5 hB hz1 hk1 hS => ?_)
    obtain ⟨u_6, u_7, u_8, u_9, u_10, u_11, u_12, u_13, u_14, u_15⟩ := u9
    obtain ⟨q_5_e, hP1, hK1, hD1⟩ := hB
    rw [ht] at hP1
    clear hK1
    try dsimp only at hw_5
    have hpd9 : PDx (dC, dI) classes A H1 (wp [cI aC xr 7 rf, oX11 h0 xp xtp xn xt xk xl xc xo xto xr xch ts ik 0, oX9 xp po pp ps pa pe pb xn pk pu pw pq pt u_6 u_7, oX4 xn ek ef ew ep es (nI n) (nI sn) dn, cI aC ek 8 kf, cI aC ef 8 ff, cI aC ew 8 wf, cI aC es 5 stf, cA aC po 8 fo, cA aC pp 8 fp, cA aC ps 8 fs, cK aC pk 7 fk, cO k0 0 [], cO k1 1 [], cO k2 3 [], cO k3 5 [], cO k4 6 [], cO k5 10 [], cO k6 8 [], cI aC pa 8 u_13, cI aC pe 8 u_14, cI aC pb 8 u_12, cI aC pu 7 u_8, cI aC pw 7 u_9, cI aC pq 128 u_10, cI aC pt 128 u_11] (va_pl L (plE aC u_15))) := jn_P (wr := [cI aC xr 7 rf]) hFc hk1 hP1 hD1 hP hD [0, 1, 25, 2, 3, 4, 5, 6, 7, 8, 9, 10, 11, 12, 13, 14, 15, 16, 17, 18, 19, 20, 21, 22, 23] [24] rfl rfl (by decide) (by decide)
    have hP := hpd9.1
    have hD := hpd9.2
    clear hpd9
    generalize H1 = H at hP hS ⊢
    clear hPc hDc hFc hz1 hk1 hP1 hD1 ht hvm
    have h9 := q_5_e.symm
    subst h9
    obtain ⟨hm1, hm2⟩ := hw_5
    refine va_get (D := (dC, dI)) (ci := 9) (v := Value.ref pa) (C := RX9) (T := TX9) (N := 14) hx hb hts inX9 hown hK hP 2 rfl rfl 3 (by decide) (hts _ (gw kw_157 rfl)) (fun _ h9 => h9) rfl dX11_votes_15 ?_
    refine lv_iload_n hx hb dX11_votes_18 rfl (lv_at hl 1 rfl) ?_
    have h_16 : vp_in (nI a) 8 := by first | exact vp_in_nI (by omega) (by omega) | (unfold vp_in; decide) | (subst_vars; first | (unfold vp_in; decide) | exact vp_in_nI (by omega) (by omega))
    refine va_iald hx hb hK hP 19 0 rfl rfl h_16 dX11_votes_19 ?_
    refine lv_topi (fun x_17 e_17 => ?_)
    refine lv_goto (tgt := 28) hx hb dX11_votes_20 (by decide) ?_
    have hpd9 := pd_P (cx := [oX11 h0 xp xtp xn xt xk xl xc xo xto xr xch ts ik 0, oX9 xp po pp ps pa pe pb xn pk pu pw pq pt u_6 u_7, oX4 xn ek ef ew ep es (nI n) (nI sn) dn, cI aC ek 8 kf, cI aC ef 8 ff, cI aC ew 8 wf, cI aC es 5 stf, cA aC po 8 fo, cA aC pp 8 fp, cA aC ps 8 fs, cK aC pk 7 fk, cO k0 0 [], cO k1 1 [], cO k2 3 [], cO k3 5 [], cO k4 6 [], cO k5 10 [], cO k6 8 [], cI aC pa 8 u_13, cI aC pe 8 u_14, cI aC pb 8 u_12, cI aC pu 7 u_8, cI aC pw 7 u_9, cI aC pq 128 u_10, cI aC pt 128 u_11, cI aC xr 7 rf]) hP hD [1, 2, 3, 4, 5, 6, 7, 8, 9, 10, 11, 12, 13, 14, 15, 16, 17, 18, 19, 20, 21, 22, 23, 24, 25, 0] (by decide) rfl
    have hP9 := hpd9.1
    have hD9 := hpd9.2
    refine W.widen (k := 0) (n := 0) (by omega) (by omega) ?_
    exact W.iret (v := x_17) hx hb hr (fun t ht hW => ⟨⟨x_17, (u_6, u_7, u_8, u_9, u_10, u_11, u_12, u_13, u_14, u_15, rf, 0), rfl, ⟨Or.inr ⟨rfl, hm1⟩, hm2, by rw [e_17, nI_clamp (by omega)]; unfold rVot; rw [if_pos (OKI_nI hn8 ha8), nI_clamp (by omega)]; exact (hm1 a ha8).2.2.2.1⟩, by rw [ht]; exact hP9, va_K.moved hW.alike hK, hD9⟩, hS.F ht⟩) hS.2.2 dX11_votes_28

set_option maxHeartbeats 1000000 in
set_option maxRecDepth 100000 in
/-- X11_ends -/
theorem c_X11_ends (l : Launch) (dC : Nat → ClassId) (dI : Nat → Nat → Nat) (aC : Nat → ClassId) (sz : Nat) (h0 : Nat) (xp : Nat) (xtp : Nat) (xn : Nat) (xt : Nat) (xk : Nat) (xl : Nat) (xc : Nat) (xo : Nat) (xto : Nat) (xr : Nat) (xch : Nat) (ts : Int32) (ik : Int32) (st : Int32) (po : Nat) (pp : Nat) (ps : Nat) (pa : Nat) (pe : Nat) (pb : Nat) (pk : Nat) (pu : Nat) (pw : Nat) (pq : Nat) (pt : Nat) (un : Int32) (fw : Int32) (ek : Nat) (ef : Nat) (ew : Nat) (ep : Nat) (es : Nat) (n : Nat) (sn : Nat) (dn : Int32) (kf : Nat → Int32) (ff : Nat → Int32) (wf : Nat → Int32) (stf : Nat → Int32) (K : Nat → Nat) (F : Nat → Nat) (W0 : Nat → Nat) (S5 : Nat → Nat) (L : List Nat) (g : Nat → Nat → Int32) (fo : Nat → Option Nat) (fp : Nat → Option Nat) (fs : Nat → Option Nat) (ro : Nat → Nat) (rp : Nat → Nat) (rs : Nat → Nat) (fk : Nat → Option Nat) (k0 : Nat) (k1 : Nat) (k2 : Nat) (k3 : Nat) (k4 : Nat) (k5 : Nat) (k6 : Nat) (uf : Nat → Int32) (vf : Nat → Int32) (qf : Nat → Int32) (tf : Nat → Int32) (bf : Nat → Int32) (yf : Nat → Int32) (ef0 : Nat → Int32) (rf : Nat → Int32) (i : Int32) (hgr : GRD L fo fp fs ro rp rs) (hev : EVS n sn dn K F W0 S5 kf ff wf stf) (hkd : KDS fk k0 k1 k2 k3 k4 k5 k6) (hst : STL st n (PO n K F W0 S5) ro rp rs g yf ef0 bf) : Met l yX11_ends (wW yX11_ends cX11_ends 2 (some .int)) ({ frames := 7, cells := 0, slots := 0, locals := 151 } : Room) (va_Pc [Value.ref h0, Value.int i] (fun U => U.heap.size = sz ∧ va_P (dC, dI) classes (wp [oX11 h0 xp xtp xn xt xk xl xc xo xto xr xch ts ik st, oX9 xp po pp ps pa pe pb xn pk pu pw pq pt un fw, oX4 xn ek ef ew ep es (nI n) (nI sn) dn, cI aC ek 8 kf, cI aC ef 8 ff, cI aC ew 8 wf, cI aC es 5 stf, cA aC po 8 fo, cA aC pp 8 fp, cA aC ps 8 fs, cK aC pk 7 fk, cO k0 0 [], cO k1 1 [], cO k2 3 [], cO k3 5 [], cO k4 6 [], cO k5 10 [], cO k6 8 [], cI aC pa 8 yf, cI aC pe 8 ef0, cI aC pb 8 bf, cI aC pu 7 uf, cI aC pw 7 vf, cI aC pq 128 qf, cI aC pt 128 tf, cI aC xr 7 rf] (va_pl L (plE aC g))) U.heap ∧ va_K (dC, dI) classes (TY aC) U ∧ va_D (fun _ => True) (wp [oX11 h0 xp xtp xn xt xk xl xc xo xto xr xch ts ik st, oX9 xp po pp ps pa pe pb xn pk pu pw pq pt un fw, oX4 xn ek ef ew ep es (nI n) (nI sn) dn, cI aC ek 8 kf, cI aC ef 8 ff, cI aC ew 8 wf, cI aC es 5 stf, cA aC po 8 fo, cA aC pp 8 fp, cA aC ps 8 fs, cK aC pk 7 fk, cO k0 0 [], cO k1 1 [], cO k2 3 [], cO k3 5 [], cO k4 6 [], cO k5 10 [], cO k6 8 [], cI aC pa 8 yf, cI aC pe 8 ef0, cI aC pb 8 bf, cI aC pu 7 uf, cI aC pw 7 vf, cI aC pq 128 qf, cI aC pt 128 tf, cI aC xr 7 rf] (va_pl L (plE aC g))) ∧ NX U)) (va_Qi (fun (r : Int32) (u : Int32 × Int32 × (Nat → Int32) × (Nat → Int32) × (Nat → Int32) × (Nat → Int32) × (Nat → Int32) × (Nat → Int32) × (Nat → Int32) × (Nat → Nat → Int32) × (Nat → Int32) × Int32) => match u with | (un2, fw2, ug, vg, qg, tg, bg, yg, eg, g2, rf2, st2) => STL st2 n (PO n K F W0 S5) ro rp rs g2 yg eg bg ∧ (∀ a, OFF ro rp rs a → g2 a = g a) ∧ r = rEnd n (PO n K F W0 S5) i) (fun (u : Int32 × Int32 × (Nat → Int32) × (Nat → Int32) × (Nat → Int32) × (Nat → Int32) × (Nat → Int32) × (Nat → Int32) × (Nat → Int32) × (Nat → Nat → Int32) × (Nat → Int32) × Int32) (t : State) => match u with | (un2, fw2, ug, vg, qg, tg, bg, yg, eg, g2, rf2, st2) => va_P (dC, dI) classes (wp [oX11 h0 xp xtp xn xt xk xl xc xo xto xr xch ts ik st2, oX9 xp po pp ps pa pe pb xn pk pu pw pq pt un2 fw2, oX4 xn ek ef ew ep es (nI n) (nI sn) dn, cI aC ek 8 kf, cI aC ef 8 ff, cI aC ew 8 wf, cI aC es 5 stf, cA aC po 8 fo, cA aC pp 8 fp, cA aC ps 8 fs, cK aC pk 7 fk, cO k0 0 [], cO k1 1 [], cO k2 3 [], cO k3 5 [], cO k4 6 [], cO k5 10 [], cO k6 8 [], cI aC pa 8 yg, cI aC pe 8 eg, cI aC pb 8 bg, cI aC pu 7 ug, cI aC pw 7 vg, cI aC pq 128 qg, cI aC pt 128 tg, cI aC xr 7 rf2] (va_pl L (plE aC g2))) t.heap ∧ va_K (dC, dI) classes (TY aC) t ∧ va_D (va_A (wp [oX11 h0 xp xtp xn xt xk xl xc xo xto xr xch ts ik st, oX9 xp po pp ps pa pe pb xn pk pu pw pq pt un fw, oX4 xn ek ef ew ep es (nI n) (nI sn) dn, cI aC ek 8 kf, cI aC ef 8 ff, cI aC ew 8 wf, cI aC es 5 stf, cA aC po 8 fo, cA aC pp 8 fp, cA aC ps 8 fs, cK aC pk 7 fk, cO k0 0 [], cO k1 1 [], cO k2 3 [], cO k3 5 [], cO k4 6 [], cO k5 10 [], cO k6 8 [], cI aC pa 8 yf, cI aC pe 8 ef0, cI aC pb 8 bf, cI aC pu 7 uf, cI aC pw 7 vf, cI aC pq 128 qf, cI aC pt 128 tf, cI aC xr 7 rf] (va_pl L (plE aC g))) sz) (wp [oX11 h0 xp xtp xn xt xk xl xc xo xto xr xch ts ik st2, oX9 xp po pp ps pa pe pb xn pk pu pw pq pt un2 fw2, oX4 xn ek ef ew ep es (nI n) (nI sn) dn, cI aC ek 8 kf, cI aC ef 8 ff, cI aC ew 8 wf, cI aC es 5 stf, cA aC po 8 fo, cA aC pp 8 fp, cA aC ps 8 fs, cK aC pk 7 fk, cO k0 0 [], cO k1 1 [], cO k2 3 [], cO k3 5 [], cO k4 6 [], cO k5 10 [], cO k6 8 [], cI aC pa 8 yg, cI aC pe 8 eg, cI aC pb 8 bg, cI aC pu 7 ug, cI aC pw 7 vg, cI aC pq 128 qg, cI aC pt 128 tg, cI aC xr 7 rf2] (va_pl L (plE aC g2)))) (va_A (wp [oX11 h0 xp xtp xn xt xk xl xc xo xto xr xch ts ik st, oX9 xp po pp ps pa pe pb xn pk pu pw pq pt un fw, oX4 xn ek ef ew ep es (nI n) (nI sn) dn, cI aC ek 8 kf, cI aC ef 8 ff, cI aC ew 8 wf, cI aC es 5 stf, cA aC po 8 fo, cA aC pp 8 fp, cA aC ps 8 fs, cK aC pk 7 fk, cO k0 0 [], cO k1 1 [], cO k2 3 [], cO k3 5 [], cO k4 6 [], cO k5 10 [], cO k6 8 [], cI aC pa 8 yf, cI aC pe 8 ef0, cI aC pb 8 bf, cI aC pu 7 uf, cI aC pw 7 vf, cI aC pq 128 qf, cI aC pt 128 tf, cI aC xr 7 rf] (va_pl L (plE aC g))) sz)) 0 0 (va_A (wp [oX11 h0 xp xtp xn xt xk xl xc xo xto xr xch ts ik st, oX9 xp po pp ps pa pe pb xn pk pu pw pq pt un fw, oX4 xn ek ef ew ep es (nI n) (nI sn) dn, cI aC ek 8 kf, cI aC ef 8 ff, cI aC ew 8 wf, cI aC es 5 stf, cA aC po 8 fo, cA aC pp 8 fp, cA aC ps 8 fs, cK aC pk 7 fk, cO k0 0 [], cO k1 1 [], cO k2 3 [], cO k3 5 [], cO k4 6 [], cO k5 10 [], cO k6 8 [], cI aC pa 8 yf, cI aC pe 8 ef0, cI aC pb 8 bf, cI aC pu 7 uf, cI aC pw 7 vf, cI aC pq 128 qf, cI aC pt 128 tf, cI aC xr 7 rf] (va_pl L (plE aC g))) sz) := by
  refine Met.ofW (cc := cX11_ends) (maxL := 2) (ret := (some .int)) (by decide) rfl ?_
  intro p e s m args below meth c s₁ B hml hv
  obtain ⟨rfl, hsz, hP, hK, hD0, hN⟩ := hv
  have hx := B.exec
  have hb := B.bytes
  have hr := B.returns
  have hts0 := atoms_spec (ws := (wW yX11_ends cX11_ends 2 (some .int))) B.pre
  have hts : ∀ w9 ∈ lw_G, w9.before ([Value.ref h0, Value.int i] : List Value).toArray s = true := fun w9 h9 => hts0 w9 (List.mem_cons_of_mem _ h9)
  have hown : s.vm.findClass RX11 = some m.cls := findClass_of_methodNamed (x := yX11_ends) B.named
  have hlocks := B.notSynchronized
  subst hsz
  have hD := hD0.self (sz := s.heap.size)
  generalize hAe : va_A (wp [oX11 h0 xp xtp xn xt xk xl xc xo xto xr xch ts ik st, oX9 xp po pp ps pa pe pb xn pk pu pw pq pt un fw, oX4 xn ek ef ew ep es (nI n) (nI sn) dn, cI aC ek 8 kf, cI aC ef 8 ff, cI aC ew 8 wf, cI aC es 5 stf, cA aC po 8 fo, cA aC pp 8 fp, cA aC ps 8 fs, cK aC pk 7 fk, cO k0 0 [], cO k1 1 [], cO k2 3 [], cO k3 5 [], cO k4 6 [], cO k5 10 [], cO k6 8 [], cI aC pa 8 yf, cI aC pe 8 ef0, cI aC pb 8 bf, cI aC pu 7 uf, cI aC pw 7 vf, cI aC pq 128 qf, cI aC pt 128 tf, cI aC xr 7 rf] (va_pl L (plE aC g))) s.heap.size = A at hD ⊢
  have hA : ∀ q : Nat, s.heap.size ≤ q → A q := fun q h => by rw [← hAe]; exact Or.inr h
  obtain ⟨H, hHe⟩ : ∃ H : Heap, H = s.heap := ⟨_, rfl⟩
  have hS : va_S A s.heap H [] := by rw [hHe]; exact va_S.rf
  have hP : va_P (dC, dI) classes (wp [oX11 h0 xp xtp xn xt xk xl xc xo xto xr xch ts ik st, oX9 xp po pp ps pa pe pb xn pk pu pw pq pt un fw, oX4 xn ek ef ew ep es (nI n) (nI sn) dn, cI aC ek 8 kf, cI aC ef 8 ff, cI aC ew 8 wf, cI aC es 5 stf, cA aC po 8 fo, cA aC pp 8 fp, cA aC ps 8 fs, cK aC pk 7 fk, cO k0 0 [], cO k1 1 [], cO k2 3 [], cO k3 5 [], cO k4 6 [], cO k5 10 [], cO k6 8 [], cI aC pa 8 yf, cI aC pe 8 ef0, cI aC pb 8 bf, cI aC pu 7 uf, cI aC pw 7 vf, cI aC pq 128 qf, cI aC pt 128 tf, cI aC xr 7 rf] (va_pl L (plE aC g))) H := by rw [hHe]; exact hP
  have hl := lv_entry ([Value.ref h0, Value.int i]) (n := 2) (Nat.le_of_ble_eq_true rfl)
  rw [lg_entry_eq]
  generalize (lg_sl ([Value.ref h0, Value.int i]) ++ List.replicate (2 - (lg_sl ([Value.ref h0, Value.int i])).length) Slot.unset).toArray = ls at hl ⊢
  have hl : lv_has ls 2 [(0, Value.ref h0), (1, Value.int i)] := hl
  rw [← hHe]
  have hn8 := EVS_n hev
  refine lv_aload_n hx hb dX11_ends_0 rfl (lv_at hl 0 rfl) ?_
  refine va_get (D := (dC, dI)) (ci := 11) (v := Value.ref xn) (C := RX11) (T := TX11) (N := 14) hx hb hts inX11 hown hK hP 0 rfl rfl 2 (by decide) (hts _ (gw kw_228 rfl)) (fun _ h9 => h9) rfl dX11_ends_1 ?_
  refine lv_iload_n hx hb dX11_ends_4 rfl (lv_at hl 1 rfl) ?_
  have hpd9 := pdf_N (cx := [oX4 xn ek ef ew ep es (nI n) (nI sn) dn]) hP hD hS hA [2] (by decide) rfl
  have hPc := hpd9.1
  have hDc := hpd9.2.1
  have hFc := hpd9.2.2
  clear hpd9
  refine va_calli (va_runV (As := [Value.int i]) (rest := []) ⟨hx, hb, hml, hown, hts⟩ (c_X4_has l dC dI aC H.size xn ek ef ew ep es (nI n) (nI sn) dn i ) ⟨(callB_of 1 hts (gG kw_340) rfl rfl rfl (hts _ (gw kw_2 rfl)) (hts _ (gw kw_337 rfl)) hd_X4_has ⟨Nat.le_of_ble_eq_true rfl, Nat.le_of_ble_eq_true rfl⟩), (hts _ (gw kw_338 rfl)), (hts _ (gw kw_339 rfl))⟩ ⟨fb_std, va_recv (q := (RX4, TX4, 8)) hK hPc (ci := 4) (q0 := 0) rfl rfl, pre_std hPc hK hDc hN⟩ rfl rfl hl.1 rfl (lv_room (Nat.le_of_ble_eq_true rfl)) dX11_ends_5 ⟨Nat.le_of_ble_eq_true rfl, Nat.le_of_ble_eq_true rfl⟩) hS (fun q _ h => hFc q h) hFc (fun x_1 u9 t9 H1 locs ht hvm hw_1 hB hz1 hk1 hS => ?_)
  obtain ⟨hP1, hK1, hD1⟩ := hB
  rw [ht] at hP1
  clear hK1
  try dsimp only at hw_1
  have hpd9 : PDx (dC, dI) classes A H1 (wp [oX11 h0 xp xtp xn xt xk xl xc xo xto xr xch ts ik st, oX9 xp po pp ps pa pe pb xn pk pu pw pq pt un fw, cI aC ek 8 kf, cI aC ef 8 ff, cI aC ew 8 wf, cI aC es 5 stf, cA aC po 8 fo, cA aC pp 8 fp, cA aC ps 8 fs, cK aC pk 7 fk, cO k0 0 [], cO k1 1 [], cO k2 3 [], cO k3 5 [], cO k4 6 [], cO k5 10 [], cO k6 8 [], cI aC pa 8 yf, cI aC pe 8 ef0, cI aC pb 8 bf, cI aC pu 7 uf, cI aC pw 7 vf, cI aC pq 128 qf, cI aC pt 128 tf, cI aC xr 7 rf, oX4 xn ek ef ew ep es (nI n) (nI sn) dn] (va_pl L (plE aC g))) := jn_Q (wr := [oX11 h0 xp xtp xn xt xk xl xc xo xto xr xch ts ik st, oX9 xp po pp ps pa pe pb xn pk pu pw pq pt un fw, cI aC ek 8 kf, cI aC ef 8 ff, cI aC ew 8 wf, cI aC es 5 stf, cA aC po 8 fo, cA aC pp 8 fp, cA aC ps 8 fs, cK aC pk 7 fk, cO k0 0 [], cO k1 1 [], cO k2 3 [], cO k3 5 [], cO k4 6 [], cO k5 10 [], cO k6 8 [], cI aC pa 8 yf, cI aC pe 8 ef0, cI aC pb 8 bf, cI aC pu 7 uf, cI aC pw 7 vf, cI aC pq 128 qf, cI aC pt 128 tf, cI aC xr 7 rf]) hFc hk1 hP1 hD1 hP hD [2] [0, 1, 3, 4, 5, 6, 7, 8, 9, 10, 11, 12, 13, 14, 15, 16, 17, 18, 19, 20, 21, 22, 23, 24, 25] rfl rfl (by decide) (by decide)
  have hP := hpd9.1
  have hD := hpd9.2
  clear hpd9
  generalize H1 = H at hP hS ⊢
  clear hPc hDc hFc hz1 hk1 hP1 hD1 ht hvm
  have hz_5 := hw_1
  refine lv_if_eq (tgt := 23) hx hb dX11_ends_8 (by decide) (fun c_2 => ?_) (fun c_2 => ?_)
  · refine lv_aload_n hx hb dX11_ends_23 rfl (lv_at hl 0 rfl) ?_
    refine lv_iconst (v := -1) hx hb dX11_ends_24 (by decide) ?_
    have hpd9 := pdf_N (cx := [oX11 h0 xp xtp xn xt xk xl xc xo xto xr xch ts ik st, cI aC xr 7 rf]) hP hD hS hA [0, 24] (by decide) rfl
    have hPc := hpd9.1
    have hDc := hpd9.2.1
    have hFc := hpd9.2.2
    clear hpd9
    refine va_calli (va_runV (As := [Value.int (-1)]) (rest := []) ⟨hx, hb, hml, hown, hts⟩ (c_X11_refuse l dC dI aC H.size h0 xp xtp xn xt xk xl xc xo xto xr xch ts ik st (-1) 1 rf (by decide) (by decide) (by decide) (by unfold vp_in; decide)) ⟨(callB_of 1 hts (gG kw_276) rfl rfl rfl (hts _ (gw kw_1 rfl)) (hts _ (gw kw_273 rfl)) hd_X11_refuse ⟨Nat.le_of_ble_eq_true rfl, Nat.le_of_ble_eq_true rfl⟩), (hts _ (gw kw_275 rfl)), (hts _ (gw ks_0 rfl))⟩ ⟨fb_std, va_recv (q := (RX11, TX11, 14)) hK hPc (ci := 11) (q0 := 0) rfl rfl, pre_std hPc hK hDc hN⟩ rfl rfl hl.1 rfl (lv_room (Nat.le_of_ble_eq_true rfl)) dX11_ends_25 ⟨Nat.le_of_ble_eq_true rfl, Nat.le_of_ble_eq_true rfl⟩) hS (fun q _ h => hFc q h) hFc (fun x_3 u9 t9 H1 locs ht hvm hw_3 hB hz1 hk1 hS => ?_)
    obtain ⟨u_4, rfl⟩ : ∃ z, z = u9 := ⟨_, rfl⟩
    obtain ⟨hP1, hK1, hD1⟩ := hB
    rw [ht] at hP1
    clear hK1
    try dsimp only at hw_3
    have hpd9 : PDx (dC, dI) classes A H1 (wp [oX9 xp po pp ps pa pe pb xn pk pu pw pq pt un fw, cI aC ek 8 kf, cI aC ef 8 ff, cI aC ew 8 wf, cI aC es 5 stf, cA aC po 8 fo, cA aC pp 8 fp, cA aC ps 8 fs, cK aC pk 7 fk, cO k0 0 [], cO k1 1 [], cO k2 3 [], cO k3 5 [], cO k4 6 [], cO k5 10 [], cO k6 8 [], cI aC pa 8 yf, cI aC pe 8 ef0, cI aC pb 8 bf, cI aC pu 7 uf, cI aC pw 7 vf, cI aC pq 128 qf, cI aC pt 128 tf, oX4 xn ek ef ew ep es (nI n) (nI sn) dn, oX11 h0 xp xtp xn xt xk xl xc xo xto xr xch ts ik st, cI aC xr 7 u_4] (va_pl L (plE aC g))) := jn_Q (wr := [oX9 xp po pp ps pa pe pb xn pk pu pw pq pt un fw, cI aC ek 8 kf, cI aC ef 8 ff, cI aC ew 8 wf, cI aC es 5 stf, cA aC po 8 fo, cA aC pp 8 fp, cA aC ps 8 fs, cK aC pk 7 fk, cO k0 0 [], cO k1 1 [], cO k2 3 [], cO k3 5 [], cO k4 6 [], cO k5 10 [], cO k6 8 [], cI aC pa 8 yf, cI aC pe 8 ef0, cI aC pb 8 bf, cI aC pu 7 uf, cI aC pw 7 vf, cI aC pq 128 qf, cI aC pt 128 tf, oX4 xn ek ef ew ep es (nI n) (nI sn) dn]) hFc hk1 hP1 hD1 hP hD [0, 24] [1, 2, 3, 4, 5, 6, 7, 8, 9, 10, 11, 12, 13, 14, 15, 16, 17, 18, 19, 20, 21, 22, 23, 25] rfl rfl (by decide) (by decide)
    have hP := hpd9.1
    have hD := hpd9.2
    clear hpd9
    generalize H1 = H at hP hS ⊢
    clear hPc hDc hFc hz1 hk1 hP1 hD1 ht hvm
    obtain ⟨hv9, -⟩ := hw_3
    have hpd9 := pd_P (cx := [oX11 h0 xp xtp xn xt xk xl xc xo xto xr xch ts ik st, oX9 xp po pp ps pa pe pb xn pk pu pw pq pt un fw, oX4 xn ek ef ew ep es (nI n) (nI sn) dn, cI aC ek 8 kf, cI aC ef 8 ff, cI aC ew 8 wf, cI aC es 5 stf, cA aC po 8 fo, cA aC pp 8 fp, cA aC ps 8 fs, cK aC pk 7 fk, cO k0 0 [], cO k1 1 [], cO k2 3 [], cO k3 5 [], cO k4 6 [], cO k5 10 [], cO k6 8 [], cI aC pa 8 yf, cI aC pe 8 ef0, cI aC pb 8 bf, cI aC pu 7 uf, cI aC pw 7 vf, cI aC pq 128 qf, cI aC pt 128 tf, cI aC xr 7 u_4]) hP hD [24, 0, 23, 1, 2, 3, 4, 5, 6, 7, 8, 9, 10, 11, 12, 13, 14, 15, 16, 17, 18, 19, 20, 21, 22, 25] (by decide) rfl
    have hP9 := hpd9.1
    have hD9 := hpd9.2
    refine W.widen (k := 0) (n := 0) (by omega) (by omega) ?_
    exact W.iret (v := x_3) hx hb hr (fun t ht hW => ⟨⟨x_3, (un, fw, uf, vf, qf, tf, bf, yf, ef0, g, u_4, st), rfl, ⟨hst, fun a _ => rfl, by rw [hv9]; unfold rEnd; rw [if_neg (has_n hz_5 c_2)]⟩, by rw [ht]; exact hP9, va_K.moved hW.alike hK, hD9⟩, hS.F ht⟩) hS.2.2 dX11_ends_28
  · obtain ⟨a, ha8, ha9⟩ := OKI_ix hn8 (has_y hz_5 c_2)
    have h9 : i = nI a := ha9
    subst h9
    refine lv_aload_n hx hb dX11_ends_11 rfl (lv_at hl 0 rfl) ?_
    have hpd9 := pdf_P (cx := [oX11 h0 xp xtp xn xt xk xl xc xo xto xr xch ts ik st, oX9 xp po pp ps pa pe pb xn pk pu pw pq pt un fw, oX4 xn ek ef ew ep es (nI n) (nI sn) dn, cI aC ek 8 kf, cI aC ef 8 ff, cI aC ew 8 wf, cI aC es 5 stf, cA aC po 8 fo, cA aC pp 8 fp, cA aC ps 8 fs, cK aC pk 7 fk, cO k0 0 [], cO k1 1 [], cO k2 3 [], cO k3 5 [], cO k4 6 [], cO k5 10 [], cO k6 8 [], cI aC pa 8 yf, cI aC pe 8 ef0, cI aC pb 8 bf, cI aC pu 7 uf, cI aC pw 7 vf, cI aC pq 128 qf, cI aC pt 128 tf]) hP hD hS hA [0, 1, 25, 2, 3, 4, 5, 6, 7, 8, 9, 10, 11, 12, 13, 14, 15, 16, 17, 18, 19, 20, 21, 22, 23] (by decide) rfl
    have hPc := hpd9.1
    have hDc := hpd9.2.1
    have hFc := hpd9.2.2
    clear hpd9
    refine va_callr (va_runV (As := []) (rest := []) ⟨hx, hb, hml, hown, hts⟩ (c_X11_solved l dC dI aC H.size h0 xp xtp xn xt xk xl xc xo xto xr xch ts ik st po pp ps pa pe pb pk pu pw pq pt un fw ek ef ew ep es n sn dn kf ff wf stf K F W0 S5 L g fo fp fs ro rp rs fk k0 k1 k2 k3 k4 k5 k6 uf vf qf tf bf yf ef0 (hgr) (hev) (hkd) (hst)) ⟨(callB_of 0 hts (gG kw_353) rfl rfl rfl (hts _ (gw kw_1 rfl)) (hts _ (gw kw_350 rfl)) hd_X11_solved ⟨Nat.le_of_ble_eq_true rfl, Nat.le_of_ble_eq_true rfl⟩), (hts _ (gw kw_352 rfl)), (hts _ (gw ks_6 rfl))⟩ ⟨fb_std, va_recv (q := (RX11, TX11, 14)) hK hPc (ci := 11) (q0 := 0) rfl rfl, pre_std hPc hK hDc hN⟩ rfl rfl hl.1 rfl (lv_room (Nat.le_of_ble_eq_true rfl)) dX11_ends_12 ⟨Nat.le_of_ble_eq_true rfl, Nat.le_of_ble_eq_true rfl⟩) hS (fun q _ h => hFc q h) hFc (fun u9 q_5 t9 H1 locs ht hvm hw_5 hB hz1 hk1 hS => ?_)
    obtain ⟨u_6, u_7, u_8, u_9, u_10, u_11, u_12, u_13, u_14, u_15⟩ := u9
    obtain ⟨q_5_e, hP1, hK1, hD1⟩ := hB
    rw [ht] at hP1
    clear hK1
    try dsimp only at hw_5
    have hpd9 : PDx (dC, dI) classes A H1 (wp [cI aC xr 7 rf, oX11 h0 xp xtp xn xt xk xl xc xo xto xr xch ts ik 0, oX9 xp po pp ps pa pe pb xn pk pu pw pq pt u_6 u_7, oX4 xn ek ef ew ep es (nI n) (nI sn) dn, cI aC ek 8 kf, cI aC ef 8 ff, cI aC ew 8 wf, cI aC es 5 stf, cA aC po 8 fo, cA aC pp 8 fp, cA aC ps 8 fs, cK aC pk 7 fk, cO k0 0 [], cO k1 1 [], cO k2 3 [], cO k3 5 [], cO k4 6 [], cO k5 10 [], cO k6 8 [], cI aC pa 8 u_13, cI aC pe 8 u_14, cI aC pb 8 u_12, cI aC pu 7 u_8, cI aC pw 7 u_9, cI aC pq 128 u_10, cI aC pt 128 u_11] (va_pl L (plE aC u_15))) := jn_P (wr := [cI aC xr 7 rf]) hFc hk1 hP1 hD1 hP hD [0, 1, 25, 2, 3, 4, 5, 6, 7, 8, 9, 10, 11, 12, 13, 14, 15, 16, 17, 18, 19, 20, 21, 22, 23] [24] rfl rfl (by decide) (by decide)
    have hP := hpd9.1
    have hD := hpd9.2
    clear hpd9
    generalize H1 = H at hP hS ⊢
    clear hPc hDc hFc hz1 hk1 hP1 hD1 ht hvm
    have h9 := q_5_e.symm
    subst h9
    obtain ⟨hm1, hm2⟩ := hw_5
    refine va_get (D := (dC, dI)) (ci := 9) (v := Value.ref pe) (C := RX9) (T := TX9) (N := 14) hx hb hts inX9 hown hK hP 2 rfl rfl 4 (by decide) (hts _ (gw kw_159 rfl)) (fun _ h9 => h9) rfl dX11_ends_15 ?_
    refine lv_iload_n hx hb dX11_ends_18 rfl (lv_at hl 1 rfl) ?_
    have h_16 : vp_in (nI a) 8 := by first | exact vp_in_nI (by omega) (by omega) | (unfold vp_in; decide) | (subst_vars; first | (unfold vp_in; decide) | exact vp_in_nI (by omega) (by omega))
    refine va_iald hx hb hK hP 20 0 rfl rfl h_16 dX11_ends_19 ?_
    refine lv_topi (fun x_17 e_17 => ?_)
    refine lv_goto (tgt := 28) hx hb dX11_ends_20 (by decide) ?_
    have hpd9 := pd_P (cx := [oX11 h0 xp xtp xn xt xk xl xc xo xto xr xch ts ik 0, oX9 xp po pp ps pa pe pb xn pk pu pw pq pt u_6 u_7, oX4 xn ek ef ew ep es (nI n) (nI sn) dn, cI aC ek 8 kf, cI aC ef 8 ff, cI aC ew 8 wf, cI aC es 5 stf, cA aC po 8 fo, cA aC pp 8 fp, cA aC ps 8 fs, cK aC pk 7 fk, cO k0 0 [], cO k1 1 [], cO k2 3 [], cO k3 5 [], cO k4 6 [], cO k5 10 [], cO k6 8 [], cI aC pa 8 u_13, cI aC pe 8 u_14, cI aC pb 8 u_12, cI aC pu 7 u_8, cI aC pw 7 u_9, cI aC pq 128 u_10, cI aC pt 128 u_11, cI aC xr 7 rf]) hP hD [1, 2, 3, 4, 5, 6, 7, 8, 9, 10, 11, 12, 13, 14, 15, 16, 17, 18, 19, 20, 21, 22, 23, 24, 25, 0] (by decide) rfl
    have hP9 := hpd9.1
    have hD9 := hpd9.2
    refine W.widen (k := 0) (n := 0) (by omega) (by omega) ?_
    exact W.iret (v := x_17) hx hb hr (fun t ht hW => ⟨⟨x_17, (u_6, u_7, u_8, u_9, u_10, u_11, u_12, u_13, u_14, u_15, rf, 0), rfl, ⟨Or.inr ⟨rfl, hm1⟩, hm2, by rw [e_17, nI_clamp (by omega)]; unfold rEnd; rw [if_pos (OKI_nI hn8 ha8), nI_clamp (by omega)]; exact (hm1 a ha8).2.2.2.2.1⟩, by rw [ht]; exact hP9, va_K.moved hW.alike hK, hD9⟩, hS.F ht⟩) hS.2.2 dX11_ends_28

set_option maxHeartbeats 1000000 in
set_option maxRecDepth 100000 in
/-- X11_bought -/
theorem c_X11_bought (l : Launch) (dC : Nat → ClassId) (dI : Nat → Nat → Nat) (aC : Nat → ClassId) (sz : Nat) (h0 : Nat) (xp : Nat) (xtp : Nat) (xn : Nat) (xt : Nat) (xk : Nat) (xl : Nat) (xc : Nat) (xo : Nat) (xto : Nat) (xr : Nat) (xch : Nat) (ts : Int32) (ik : Int32) (st : Int32) (po : Nat) (pp : Nat) (ps : Nat) (pa : Nat) (pe : Nat) (pb : Nat) (pk : Nat) (pu : Nat) (pw : Nat) (pq : Nat) (pt : Nat) (un : Int32) (fw : Int32) (ek : Nat) (ef : Nat) (ew : Nat) (ep : Nat) (es : Nat) (n : Nat) (sn : Nat) (dn : Int32) (kf : Nat → Int32) (ff : Nat → Int32) (wf : Nat → Int32) (stf : Nat → Int32) (K : Nat → Nat) (F : Nat → Nat) (W0 : Nat → Nat) (S5 : Nat → Nat) (L : List Nat) (g : Nat → Nat → Int32) (fo : Nat → Option Nat) (fp : Nat → Option Nat) (fs : Nat → Option Nat) (ro : Nat → Nat) (rp : Nat → Nat) (rs : Nat → Nat) (fk : Nat → Option Nat) (k0 : Nat) (k1 : Nat) (k2 : Nat) (k3 : Nat) (k4 : Nat) (k5 : Nat) (k6 : Nat) (uf : Nat → Int32) (vf : Nat → Int32) (qf : Nat → Int32) (tf : Nat → Int32) (bf : Nat → Int32) (yf : Nat → Int32) (ef0 : Nat → Int32) (rf : Nat → Int32) (i : Int32) (hgr : GRD L fo fp fs ro rp rs) (hev : EVS n sn dn K F W0 S5 kf ff wf stf) (hkd : KDS fk k0 k1 k2 k3 k4 k5 k6) (hst : STL st n (PO n K F W0 S5) ro rp rs g yf ef0 bf) : Met l yX11_bought (wW yX11_bought cX11_bought 2 (some .int)) ({ frames := 7, cells := 0, slots := 0, locals := 151 } : Room) (va_Pc [Value.ref h0, Value.int i] (fun U => U.heap.size = sz ∧ va_P (dC, dI) classes (wp [oX11 h0 xp xtp xn xt xk xl xc xo xto xr xch ts ik st, oX9 xp po pp ps pa pe pb xn pk pu pw pq pt un fw, oX4 xn ek ef ew ep es (nI n) (nI sn) dn, cI aC ek 8 kf, cI aC ef 8 ff, cI aC ew 8 wf, cI aC es 5 stf, cA aC po 8 fo, cA aC pp 8 fp, cA aC ps 8 fs, cK aC pk 7 fk, cO k0 0 [], cO k1 1 [], cO k2 3 [], cO k3 5 [], cO k4 6 [], cO k5 10 [], cO k6 8 [], cI aC pa 8 yf, cI aC pe 8 ef0, cI aC pb 8 bf, cI aC pu 7 uf, cI aC pw 7 vf, cI aC pq 128 qf, cI aC pt 128 tf, cI aC xr 7 rf] (va_pl L (plE aC g))) U.heap ∧ va_K (dC, dI) classes (TY aC) U ∧ va_D (fun _ => True) (wp [oX11 h0 xp xtp xn xt xk xl xc xo xto xr xch ts ik st, oX9 xp po pp ps pa pe pb xn pk pu pw pq pt un fw, oX4 xn ek ef ew ep es (nI n) (nI sn) dn, cI aC ek 8 kf, cI aC ef 8 ff, cI aC ew 8 wf, cI aC es 5 stf, cA aC po 8 fo, cA aC pp 8 fp, cA aC ps 8 fs, cK aC pk 7 fk, cO k0 0 [], cO k1 1 [], cO k2 3 [], cO k3 5 [], cO k4 6 [], cO k5 10 [], cO k6 8 [], cI aC pa 8 yf, cI aC pe 8 ef0, cI aC pb 8 bf, cI aC pu 7 uf, cI aC pw 7 vf, cI aC pq 128 qf, cI aC pt 128 tf, cI aC xr 7 rf] (va_pl L (plE aC g))) ∧ NX U)) (va_Qi (fun (r : Int32) (u : Int32 × Int32 × (Nat → Int32) × (Nat → Int32) × (Nat → Int32) × (Nat → Int32) × (Nat → Int32) × (Nat → Int32) × (Nat → Int32) × (Nat → Nat → Int32) × (Nat → Int32) × Int32) => match u with | (un2, fw2, ug, vg, qg, tg, bg, yg, eg, g2, rf2, st2) => STL st2 n (PO n K F W0 S5) ro rp rs g2 yg eg bg ∧ (∀ a, OFF ro rp rs a → g2 a = g a) ∧ r = rBou n (PO n K F W0 S5) i) (fun (u : Int32 × Int32 × (Nat → Int32) × (Nat → Int32) × (Nat → Int32) × (Nat → Int32) × (Nat → Int32) × (Nat → Int32) × (Nat → Int32) × (Nat → Nat → Int32) × (Nat → Int32) × Int32) (t : State) => match u with | (un2, fw2, ug, vg, qg, tg, bg, yg, eg, g2, rf2, st2) => va_P (dC, dI) classes (wp [oX11 h0 xp xtp xn xt xk xl xc xo xto xr xch ts ik st2, oX9 xp po pp ps pa pe pb xn pk pu pw pq pt un2 fw2, oX4 xn ek ef ew ep es (nI n) (nI sn) dn, cI aC ek 8 kf, cI aC ef 8 ff, cI aC ew 8 wf, cI aC es 5 stf, cA aC po 8 fo, cA aC pp 8 fp, cA aC ps 8 fs, cK aC pk 7 fk, cO k0 0 [], cO k1 1 [], cO k2 3 [], cO k3 5 [], cO k4 6 [], cO k5 10 [], cO k6 8 [], cI aC pa 8 yg, cI aC pe 8 eg, cI aC pb 8 bg, cI aC pu 7 ug, cI aC pw 7 vg, cI aC pq 128 qg, cI aC pt 128 tg, cI aC xr 7 rf2] (va_pl L (plE aC g2))) t.heap ∧ va_K (dC, dI) classes (TY aC) t ∧ va_D (va_A (wp [oX11 h0 xp xtp xn xt xk xl xc xo xto xr xch ts ik st, oX9 xp po pp ps pa pe pb xn pk pu pw pq pt un fw, oX4 xn ek ef ew ep es (nI n) (nI sn) dn, cI aC ek 8 kf, cI aC ef 8 ff, cI aC ew 8 wf, cI aC es 5 stf, cA aC po 8 fo, cA aC pp 8 fp, cA aC ps 8 fs, cK aC pk 7 fk, cO k0 0 [], cO k1 1 [], cO k2 3 [], cO k3 5 [], cO k4 6 [], cO k5 10 [], cO k6 8 [], cI aC pa 8 yf, cI aC pe 8 ef0, cI aC pb 8 bf, cI aC pu 7 uf, cI aC pw 7 vf, cI aC pq 128 qf, cI aC pt 128 tf, cI aC xr 7 rf] (va_pl L (plE aC g))) sz) (wp [oX11 h0 xp xtp xn xt xk xl xc xo xto xr xch ts ik st2, oX9 xp po pp ps pa pe pb xn pk pu pw pq pt un2 fw2, oX4 xn ek ef ew ep es (nI n) (nI sn) dn, cI aC ek 8 kf, cI aC ef 8 ff, cI aC ew 8 wf, cI aC es 5 stf, cA aC po 8 fo, cA aC pp 8 fp, cA aC ps 8 fs, cK aC pk 7 fk, cO k0 0 [], cO k1 1 [], cO k2 3 [], cO k3 5 [], cO k4 6 [], cO k5 10 [], cO k6 8 [], cI aC pa 8 yg, cI aC pe 8 eg, cI aC pb 8 bg, cI aC pu 7 ug, cI aC pw 7 vg, cI aC pq 128 qg, cI aC pt 128 tg, cI aC xr 7 rf2] (va_pl L (plE aC g2)))) (va_A (wp [oX11 h0 xp xtp xn xt xk xl xc xo xto xr xch ts ik st, oX9 xp po pp ps pa pe pb xn pk pu pw pq pt un fw, oX4 xn ek ef ew ep es (nI n) (nI sn) dn, cI aC ek 8 kf, cI aC ef 8 ff, cI aC ew 8 wf, cI aC es 5 stf, cA aC po 8 fo, cA aC pp 8 fp, cA aC ps 8 fs, cK aC pk 7 fk, cO k0 0 [], cO k1 1 [], cO k2 3 [], cO k3 5 [], cO k4 6 [], cO k5 10 [], cO k6 8 [], cI aC pa 8 yf, cI aC pe 8 ef0, cI aC pb 8 bf, cI aC pu 7 uf, cI aC pw 7 vf, cI aC pq 128 qf, cI aC pt 128 tf, cI aC xr 7 rf] (va_pl L (plE aC g))) sz)) 0 0 (va_A (wp [oX11 h0 xp xtp xn xt xk xl xc xo xto xr xch ts ik st, oX9 xp po pp ps pa pe pb xn pk pu pw pq pt un fw, oX4 xn ek ef ew ep es (nI n) (nI sn) dn, cI aC ek 8 kf, cI aC ef 8 ff, cI aC ew 8 wf, cI aC es 5 stf, cA aC po 8 fo, cA aC pp 8 fp, cA aC ps 8 fs, cK aC pk 7 fk, cO k0 0 [], cO k1 1 [], cO k2 3 [], cO k3 5 [], cO k4 6 [], cO k5 10 [], cO k6 8 [], cI aC pa 8 yf, cI aC pe 8 ef0, cI aC pb 8 bf, cI aC pu 7 uf, cI aC pw 7 vf, cI aC pq 128 qf, cI aC pt 128 tf, cI aC xr 7 rf] (va_pl L (plE aC g))) sz) := by
  refine Met.ofW (cc := cX11_bought) (maxL := 2) (ret := (some .int)) (by decide) rfl ?_
  intro p e s m args below meth c s₁ B hml hv
  obtain ⟨rfl, hsz, hP, hK, hD0, hN⟩ := hv
  have hx := B.exec
  have hb := B.bytes
  have hr := B.returns
  have hts0 := atoms_spec (ws := (wW yX11_bought cX11_bought 2 (some .int))) B.pre
  have hts : ∀ w9 ∈ lw_G, w9.before ([Value.ref h0, Value.int i] : List Value).toArray s = true := fun w9 h9 => hts0 w9 (List.mem_cons_of_mem _ h9)
  have hown : s.vm.findClass RX11 = some m.cls := findClass_of_methodNamed (x := yX11_bought) B.named
  have hlocks := B.notSynchronized
  subst hsz
  have hD := hD0.self (sz := s.heap.size)
  generalize hAe : va_A (wp [oX11 h0 xp xtp xn xt xk xl xc xo xto xr xch ts ik st, oX9 xp po pp ps pa pe pb xn pk pu pw pq pt un fw, oX4 xn ek ef ew ep es (nI n) (nI sn) dn, cI aC ek 8 kf, cI aC ef 8 ff, cI aC ew 8 wf, cI aC es 5 stf, cA aC po 8 fo, cA aC pp 8 fp, cA aC ps 8 fs, cK aC pk 7 fk, cO k0 0 [], cO k1 1 [], cO k2 3 [], cO k3 5 [], cO k4 6 [], cO k5 10 [], cO k6 8 [], cI aC pa 8 yf, cI aC pe 8 ef0, cI aC pb 8 bf, cI aC pu 7 uf, cI aC pw 7 vf, cI aC pq 128 qf, cI aC pt 128 tf, cI aC xr 7 rf] (va_pl L (plE aC g))) s.heap.size = A at hD ⊢
  have hA : ∀ q : Nat, s.heap.size ≤ q → A q := fun q h => by rw [← hAe]; exact Or.inr h
  obtain ⟨H, hHe⟩ : ∃ H : Heap, H = s.heap := ⟨_, rfl⟩
  have hS : va_S A s.heap H [] := by rw [hHe]; exact va_S.rf
  have hP : va_P (dC, dI) classes (wp [oX11 h0 xp xtp xn xt xk xl xc xo xto xr xch ts ik st, oX9 xp po pp ps pa pe pb xn pk pu pw pq pt un fw, oX4 xn ek ef ew ep es (nI n) (nI sn) dn, cI aC ek 8 kf, cI aC ef 8 ff, cI aC ew 8 wf, cI aC es 5 stf, cA aC po 8 fo, cA aC pp 8 fp, cA aC ps 8 fs, cK aC pk 7 fk, cO k0 0 [], cO k1 1 [], cO k2 3 [], cO k3 5 [], cO k4 6 [], cO k5 10 [], cO k6 8 [], cI aC pa 8 yf, cI aC pe 8 ef0, cI aC pb 8 bf, cI aC pu 7 uf, cI aC pw 7 vf, cI aC pq 128 qf, cI aC pt 128 tf, cI aC xr 7 rf] (va_pl L (plE aC g))) H := by rw [hHe]; exact hP
  have hl := lv_entry ([Value.ref h0, Value.int i]) (n := 2) (Nat.le_of_ble_eq_true rfl)
  rw [lg_entry_eq]
  generalize (lg_sl ([Value.ref h0, Value.int i]) ++ List.replicate (2 - (lg_sl ([Value.ref h0, Value.int i])).length) Slot.unset).toArray = ls at hl ⊢
  have hl : lv_has ls 2 [(0, Value.ref h0), (1, Value.int i)] := hl
  rw [← hHe]
  have hn8 := EVS_n hev
  refine lv_aload_n hx hb dX11_bought_0 rfl (lv_at hl 0 rfl) ?_
  refine va_get (D := (dC, dI)) (ci := 11) (v := Value.ref xn) (C := RX11) (T := TX11) (N := 14) hx hb hts inX11 hown hK hP 0 rfl rfl 2 (by decide) (hts _ (gw kw_228 rfl)) (fun _ h9 => h9) rfl dX11_bought_1 ?_
  refine lv_iload_n hx hb dX11_bought_4 rfl (lv_at hl 1 rfl) ?_
  have hpd9 := pdf_N (cx := [oX4 xn ek ef ew ep es (nI n) (nI sn) dn]) hP hD hS hA [2] (by decide) rfl
  have hPc := hpd9.1
  have hDc := hpd9.2.1
  have hFc := hpd9.2.2
  clear hpd9
  refine va_calli (va_runV (As := [Value.int i]) (rest := []) ⟨hx, hb, hml, hown, hts⟩ (c_X4_has l dC dI aC H.size xn ek ef ew ep es (nI n) (nI sn) dn i ) ⟨(callB_of 1 hts (gG kw_340) rfl rfl rfl (hts _ (gw kw_2 rfl)) (hts _ (gw kw_337 rfl)) hd_X4_has ⟨Nat.le_of_ble_eq_true rfl, Nat.le_of_ble_eq_true rfl⟩), (hts _ (gw kw_338 rfl)), (hts _ (gw kw_339 rfl))⟩ ⟨fb_std, va_recv (q := (RX4, TX4, 8)) hK hPc (ci := 4) (q0 := 0) rfl rfl, pre_std hPc hK hDc hN⟩ rfl rfl hl.1 rfl (lv_room (Nat.le_of_ble_eq_true rfl)) dX11_bought_5 ⟨Nat.le_of_ble_eq_true rfl, Nat.le_of_ble_eq_true rfl⟩) hS (fun q _ h => hFc q h) hFc (fun x_1 u9 t9 H1 locs ht hvm hw_1 hB hz1 hk1 hS => ?_)
  obtain ⟨hP1, hK1, hD1⟩ := hB
  rw [ht] at hP1
  clear hK1
  try dsimp only at hw_1
  have hpd9 : PDx (dC, dI) classes A H1 (wp [oX11 h0 xp xtp xn xt xk xl xc xo xto xr xch ts ik st, oX9 xp po pp ps pa pe pb xn pk pu pw pq pt un fw, cI aC ek 8 kf, cI aC ef 8 ff, cI aC ew 8 wf, cI aC es 5 stf, cA aC po 8 fo, cA aC pp 8 fp, cA aC ps 8 fs, cK aC pk 7 fk, cO k0 0 [], cO k1 1 [], cO k2 3 [], cO k3 5 [], cO k4 6 [], cO k5 10 [], cO k6 8 [], cI aC pa 8 yf, cI aC pe 8 ef0, cI aC pb 8 bf, cI aC pu 7 uf, cI aC pw 7 vf, cI aC pq 128 qf, cI aC pt 128 tf, cI aC xr 7 rf, oX4 xn ek ef ew ep es (nI n) (nI sn) dn] (va_pl L (plE aC g))) := jn_Q (wr := [oX11 h0 xp xtp xn xt xk xl xc xo xto xr xch ts ik st, oX9 xp po pp ps pa pe pb xn pk pu pw pq pt un fw, cI aC ek 8 kf, cI aC ef 8 ff, cI aC ew 8 wf, cI aC es 5 stf, cA aC po 8 fo, cA aC pp 8 fp, cA aC ps 8 fs, cK aC pk 7 fk, cO k0 0 [], cO k1 1 [], cO k2 3 [], cO k3 5 [], cO k4 6 [], cO k5 10 [], cO k6 8 [], cI aC pa 8 yf, cI aC pe 8 ef0, cI aC pb 8 bf, cI aC pu 7 uf, cI aC pw 7 vf, cI aC pq 128 qf, cI aC pt 128 tf, cI aC xr 7 rf]) hFc hk1 hP1 hD1 hP hD [2] [0, 1, 3, 4, 5, 6, 7, 8, 9, 10, 11, 12, 13, 14, 15, 16, 17, 18, 19, 20, 21, 22, 23, 24, 25] rfl rfl (by decide) (by decide)
  have hP := hpd9.1
  have hD := hpd9.2
  clear hpd9
  generalize H1 = H at hP hS ⊢
  clear hPc hDc hFc hz1 hk1 hP1 hD1 ht hvm
  have hz_5 := hw_1
  refine lv_if_eq (tgt := 23) hx hb dX11_bought_8 (by decide) (fun c_2 => ?_) (fun c_2 => ?_)
  · refine lv_aload_n hx hb dX11_bought_23 rfl (lv_at hl 0 rfl) ?_
    refine lv_iconst (v := -1) hx hb dX11_bought_24 (by decide) ?_
    have hpd9 := pdf_N (cx := [oX11 h0 xp xtp xn xt xk xl xc xo xto xr xch ts ik st, cI aC xr 7 rf]) hP hD hS hA [0, 24] (by decide) rfl
    have hPc := hpd9.1
    have hDc := hpd9.2.1
    have hFc := hpd9.2.2
    clear hpd9
    refine va_calli (va_runV (As := [Value.int (-1)]) (rest := []) ⟨hx, hb, hml, hown, hts⟩ (c_X11_refuse l dC dI aC H.size h0 xp xtp xn xt xk xl xc xo xto xr xch ts ik st (-1) 1 rf (by decide) (by decide) (by decide) (by unfold vp_in; decide)) ⟨(callB_of 1 hts (gG kw_276) rfl rfl rfl (hts _ (gw kw_1 rfl)) (hts _ (gw kw_273 rfl)) hd_X11_refuse ⟨Nat.le_of_ble_eq_true rfl, Nat.le_of_ble_eq_true rfl⟩), (hts _ (gw kw_275 rfl)), (hts _ (gw ks_0 rfl))⟩ ⟨fb_std, va_recv (q := (RX11, TX11, 14)) hK hPc (ci := 11) (q0 := 0) rfl rfl, pre_std hPc hK hDc hN⟩ rfl rfl hl.1 rfl (lv_room (Nat.le_of_ble_eq_true rfl)) dX11_bought_25 ⟨Nat.le_of_ble_eq_true rfl, Nat.le_of_ble_eq_true rfl⟩) hS (fun q _ h => hFc q h) hFc (fun x_3 u9 t9 H1 locs ht hvm hw_3 hB hz1 hk1 hS => ?_)
    obtain ⟨u_4, rfl⟩ : ∃ z, z = u9 := ⟨_, rfl⟩
    obtain ⟨hP1, hK1, hD1⟩ := hB
    rw [ht] at hP1
    clear hK1
    try dsimp only at hw_3
    have hpd9 : PDx (dC, dI) classes A H1 (wp [oX9 xp po pp ps pa pe pb xn pk pu pw pq pt un fw, cI aC ek 8 kf, cI aC ef 8 ff, cI aC ew 8 wf, cI aC es 5 stf, cA aC po 8 fo, cA aC pp 8 fp, cA aC ps 8 fs, cK aC pk 7 fk, cO k0 0 [], cO k1 1 [], cO k2 3 [], cO k3 5 [], cO k4 6 [], cO k5 10 [], cO k6 8 [], cI aC pa 8 yf, cI aC pe 8 ef0, cI aC pb 8 bf, cI aC pu 7 uf, cI aC pw 7 vf, cI aC pq 128 qf, cI aC pt 128 tf, oX4 xn ek ef ew ep es (nI n) (nI sn) dn, oX11 h0 xp xtp xn xt xk xl xc xo xto xr xch ts ik st, cI aC xr 7 u_4] (va_pl L (plE aC g))) := jn_Q (wr := [oX9 xp po pp ps pa pe pb xn pk pu pw pq pt un fw, cI aC ek 8 kf, cI aC ef 8 ff, cI aC ew 8 wf, cI aC es 5 stf, cA aC po 8 fo, cA aC pp 8 fp, cA aC ps 8 fs, cK aC pk 7 fk, cO k0 0 [], cO k1 1 [], cO k2 3 [], cO k3 5 [], cO k4 6 [], cO k5 10 [], cO k6 8 [], cI aC pa 8 yf, cI aC pe 8 ef0, cI aC pb 8 bf, cI aC pu 7 uf, cI aC pw 7 vf, cI aC pq 128 qf, cI aC pt 128 tf, oX4 xn ek ef ew ep es (nI n) (nI sn) dn]) hFc hk1 hP1 hD1 hP hD [0, 24] [1, 2, 3, 4, 5, 6, 7, 8, 9, 10, 11, 12, 13, 14, 15, 16, 17, 18, 19, 20, 21, 22, 23, 25] rfl rfl (by decide) (by decide)
    have hP := hpd9.1
    have hD := hpd9.2
    clear hpd9
    generalize H1 = H at hP hS ⊢
    clear hPc hDc hFc hz1 hk1 hP1 hD1 ht hvm
    obtain ⟨hv9, -⟩ := hw_3
    have hpd9 := pd_P (cx := [oX11 h0 xp xtp xn xt xk xl xc xo xto xr xch ts ik st, oX9 xp po pp ps pa pe pb xn pk pu pw pq pt un fw, oX4 xn ek ef ew ep es (nI n) (nI sn) dn, cI aC ek 8 kf, cI aC ef 8 ff, cI aC ew 8 wf, cI aC es 5 stf, cA aC po 8 fo, cA aC pp 8 fp, cA aC ps 8 fs, cK aC pk 7 fk, cO k0 0 [], cO k1 1 [], cO k2 3 [], cO k3 5 [], cO k4 6 [], cO k5 10 [], cO k6 8 [], cI aC pa 8 yf, cI aC pe 8 ef0, cI aC pb 8 bf, cI aC pu 7 uf, cI aC pw 7 vf, cI aC pq 128 qf, cI aC pt 128 tf, cI aC xr 7 u_4]) hP hD [24, 0, 23, 1, 2, 3, 4, 5, 6, 7, 8, 9, 10, 11, 12, 13, 14, 15, 16, 17, 18, 19, 20, 21, 22, 25] (by decide) rfl
    have hP9 := hpd9.1
    have hD9 := hpd9.2
    refine W.widen (k := 0) (n := 0) (by omega) (by omega) ?_
    exact W.iret (v := x_3) hx hb hr (fun t ht hW => ⟨⟨x_3, (un, fw, uf, vf, qf, tf, bf, yf, ef0, g, u_4, st), rfl, ⟨hst, fun a _ => rfl, by rw [hv9]; unfold rBou; rw [if_neg (has_n hz_5 c_2)]⟩, by rw [ht]; exact hP9, va_K.moved hW.alike hK, hD9⟩, hS.F ht⟩) hS.2.2 dX11_bought_28
  · obtain ⟨a, ha8, ha9⟩ := OKI_ix hn8 (has_y hz_5 c_2)
    have h9 : i = nI a := ha9
    subst h9
    refine lv_aload_n hx hb dX11_bought_11 rfl (lv_at hl 0 rfl) ?_
    have hpd9 := pdf_P (cx := [oX11 h0 xp xtp xn xt xk xl xc xo xto xr xch ts ik st, oX9 xp po pp ps pa pe pb xn pk pu pw pq pt un fw, oX4 xn ek ef ew ep es (nI n) (nI sn) dn, cI aC ek 8 kf, cI aC ef 8 ff, cI aC ew 8 wf, cI aC es 5 stf, cA aC po 8 fo, cA aC pp 8 fp, cA aC ps 8 fs, cK aC pk 7 fk, cO k0 0 [], cO k1 1 [], cO k2 3 [], cO k3 5 [], cO k4 6 [], cO k5 10 [], cO k6 8 [], cI aC pa 8 yf, cI aC pe 8 ef0, cI aC pb 8 bf, cI aC pu 7 uf, cI aC pw 7 vf, cI aC pq 128 qf, cI aC pt 128 tf]) hP hD hS hA [0, 1, 25, 2, 3, 4, 5, 6, 7, 8, 9, 10, 11, 12, 13, 14, 15, 16, 17, 18, 19, 20, 21, 22, 23] (by decide) rfl
    have hPc := hpd9.1
    have hDc := hpd9.2.1
    have hFc := hpd9.2.2
    clear hpd9
    refine va_callr (va_runV (As := []) (rest := []) ⟨hx, hb, hml, hown, hts⟩ (c_X11_solved l dC dI aC H.size h0 xp xtp xn xt xk xl xc xo xto xr xch ts ik st po pp ps pa pe pb pk pu pw pq pt un fw ek ef ew ep es n sn dn kf ff wf stf K F W0 S5 L g fo fp fs ro rp rs fk k0 k1 k2 k3 k4 k5 k6 uf vf qf tf bf yf ef0 (hgr) (hev) (hkd) (hst)) ⟨(callB_of 0 hts (gG kw_353) rfl rfl rfl (hts _ (gw kw_1 rfl)) (hts _ (gw kw_350 rfl)) hd_X11_solved ⟨Nat.le_of_ble_eq_true rfl, Nat.le_of_ble_eq_true rfl⟩), (hts _ (gw kw_352 rfl)), (hts _ (gw ks_6 rfl))⟩ ⟨fb_std, va_recv (q := (RX11, TX11, 14)) hK hPc (ci := 11) (q0 := 0) rfl rfl, pre_std hPc hK hDc hN⟩ rfl rfl hl.1 rfl (lv_room (Nat.le_of_ble_eq_true rfl)) dX11_bought_12 ⟨Nat.le_of_ble_eq_true rfl, Nat.le_of_ble_eq_true rfl⟩) hS (fun q _ h => hFc q h) hFc (fun u9 q_5 t9 H1 locs ht hvm hw_5 hB hz1 hk1 hS => ?_)
    obtain ⟨u_6, u_7, u_8, u_9, u_10, u_11, u_12, u_13, u_14, u_15⟩ := u9
    obtain ⟨q_5_e, hP1, hK1, hD1⟩ := hB
    rw [ht] at hP1
    clear hK1
    try dsimp only at hw_5
    have hpd9 : PDx (dC, dI) classes A H1 (wp [cI aC xr 7 rf, oX11 h0 xp xtp xn xt xk xl xc xo xto xr xch ts ik 0, oX9 xp po pp ps pa pe pb xn pk pu pw pq pt u_6 u_7, oX4 xn ek ef ew ep es (nI n) (nI sn) dn, cI aC ek 8 kf, cI aC ef 8 ff, cI aC ew 8 wf, cI aC es 5 stf, cA aC po 8 fo, cA aC pp 8 fp, cA aC ps 8 fs, cK aC pk 7 fk, cO k0 0 [], cO k1 1 [], cO k2 3 [], cO k3 5 [], cO k4 6 [], cO k5 10 [], cO k6 8 [], cI aC pa 8 u_13, cI aC pe 8 u_14, cI aC pb 8 u_12, cI aC pu 7 u_8, cI aC pw 7 u_9, cI aC pq 128 u_10, cI aC pt 128 u_11] (va_pl L (plE aC u_15))) := jn_P (wr := [cI aC xr 7 rf]) hFc hk1 hP1 hD1 hP hD [0, 1, 25, 2, 3, 4, 5, 6, 7, 8, 9, 10, 11, 12, 13, 14, 15, 16, 17, 18, 19, 20, 21, 22, 23] [24] rfl rfl (by decide) (by decide)
    have hP := hpd9.1
    have hD := hpd9.2
    clear hpd9
    generalize H1 = H at hP hS ⊢
    clear hPc hDc hFc hz1 hk1 hP1 hD1 ht hvm
    have h9 := q_5_e.symm
    subst h9
    obtain ⟨hm1, hm2⟩ := hw_5
    refine va_get (D := (dC, dI)) (ci := 9) (v := Value.ref pb) (C := RX9) (T := TX9) (N := 14) hx hb hts inX9 hown hK hP 2 rfl rfl 5 (by decide) (hts _ (gw kw_161 rfl)) (fun _ h9 => h9) rfl dX11_bought_15 ?_
    refine lv_iload_n hx hb dX11_bought_18 rfl (lv_at hl 1 rfl) ?_
    have h_16 : vp_in (nI a) 8 := by first | exact vp_in_nI (by omega) (by omega) | (unfold vp_in; decide) | (subst_vars; first | (unfold vp_in; decide) | exact vp_in_nI (by omega) (by omega))
    refine va_iald hx hb hK hP 21 0 rfl rfl h_16 dX11_bought_19 ?_
    refine lv_topi (fun x_17 e_17 => ?_)
    refine lv_goto (tgt := 28) hx hb dX11_bought_20 (by decide) ?_
    have hpd9 := pd_P (cx := [oX11 h0 xp xtp xn xt xk xl xc xo xto xr xch ts ik 0, oX9 xp po pp ps pa pe pb xn pk pu pw pq pt u_6 u_7, oX4 xn ek ef ew ep es (nI n) (nI sn) dn, cI aC ek 8 kf, cI aC ef 8 ff, cI aC ew 8 wf, cI aC es 5 stf, cA aC po 8 fo, cA aC pp 8 fp, cA aC ps 8 fs, cK aC pk 7 fk, cO k0 0 [], cO k1 1 [], cO k2 3 [], cO k3 5 [], cO k4 6 [], cO k5 10 [], cO k6 8 [], cI aC pa 8 u_13, cI aC pe 8 u_14, cI aC pb 8 u_12, cI aC pu 7 u_8, cI aC pw 7 u_9, cI aC pq 128 u_10, cI aC pt 128 u_11, cI aC xr 7 rf]) hP hD [1, 2, 3, 4, 5, 6, 7, 8, 9, 10, 11, 12, 13, 14, 15, 16, 17, 18, 19, 20, 21, 22, 23, 24, 25, 0] (by decide) rfl
    have hP9 := hpd9.1
    have hD9 := hpd9.2
    refine W.widen (k := 0) (n := 0) (by omega) (by omega) ?_
    exact W.iret (v := x_17) hx hb hr (fun t ht hW => ⟨⟨x_17, (u_6, u_7, u_8, u_9, u_10, u_11, u_12, u_13, u_14, u_15, rf, 0), rfl, ⟨Or.inr ⟨rfl, hm1⟩, hm2, by rw [e_17, nI_clamp (by omega)]; unfold rBou; rw [if_pos (OKI_nI hn8 ha8), nI_clamp (by omega)]; exact (hm1 a ha8).2.2.2.2.2⟩, by rw [ht]; exact hP9, va_K.moved hW.alike hK, hD9⟩, hS.F ht⟩) hS.2.2 dX11_bought_28

set_option maxHeartbeats 1000000 in
set_option maxRecDepth 100000 in
/-- X11_carries -/
theorem c_X11_carries (l : Launch) (dC : Nat → ClassId) (dI : Nat → Nat → Nat) (aC : Nat → ClassId) (sz : Nat) (h0 : Nat) (xp : Nat) (xtp : Nat) (xn : Nat) (xt : Nat) (xk : Nat) (xl : Nat) (xc : Nat) (xo : Nat) (xto : Nat) (xr : Nat) (xch : Nat) (ts : Int32) (ik : Int32) (st : Int32) (po : Nat) (pp : Nat) (ps : Nat) (pa : Nat) (pe : Nat) (pb : Nat) (pk : Nat) (pu : Nat) (pw : Nat) (pq : Nat) (pt : Nat) (un : Int32) (fw : Int32) (ek : Nat) (ef : Nat) (ew : Nat) (ep : Nat) (es : Nat) (n : Nat) (sn : Nat) (dn : Int32) (kf : Nat → Int32) (ff : Nat → Int32) (wf : Nat → Int32) (stf : Nat → Int32) (K : Nat → Nat) (F : Nat → Nat) (W0 : Nat → Nat) (S5 : Nat → Nat) (L : List Nat) (g : Nat → Nat → Int32) (fo : Nat → Option Nat) (fp : Nat → Option Nat) (fs : Nat → Option Nat) (ro : Nat → Nat) (rp : Nat → Nat) (rs : Nat → Nat) (fk : Nat → Option Nat) (k0 : Nat) (k1 : Nat) (k2 : Nat) (k3 : Nat) (k4 : Nat) (k5 : Nat) (k6 : Nat) (uf : Nat → Int32) (vf : Nat → Int32) (qf : Nat → Int32) (tf : Nat → Int32) (bf : Nat → Int32) (yf : Nat → Int32) (ef0 : Nat → Int32) (rf : Nat → Int32) (i : Int32) (hgr : GRD L fo fp fs ro rp rs) (hev : EVS n sn dn K F W0 S5 kf ff wf stf) (hkd : KDS fk k0 k1 k2 k3 k4 k5 k6) (hst : STL st n (PO n K F W0 S5) ro rp rs g yf ef0 bf) : Met l yX11_carries (wW yX11_carries cX11_carries 2 (some .int)) ({ frames := 7, cells := 0, slots := 0, locals := 151 } : Room) (va_Pc [Value.ref h0, Value.int i] (fun U => U.heap.size = sz ∧ va_P (dC, dI) classes (wp [oX11 h0 xp xtp xn xt xk xl xc xo xto xr xch ts ik st, oX9 xp po pp ps pa pe pb xn pk pu pw pq pt un fw, oX4 xn ek ef ew ep es (nI n) (nI sn) dn, cI aC ek 8 kf, cI aC ef 8 ff, cI aC ew 8 wf, cI aC es 5 stf, cA aC po 8 fo, cA aC pp 8 fp, cA aC ps 8 fs, cK aC pk 7 fk, cO k0 0 [], cO k1 1 [], cO k2 3 [], cO k3 5 [], cO k4 6 [], cO k5 10 [], cO k6 8 [], cI aC pa 8 yf, cI aC pe 8 ef0, cI aC pb 8 bf, cI aC pu 7 uf, cI aC pw 7 vf, cI aC pq 128 qf, cI aC pt 128 tf, cI aC xr 7 rf] (va_pl L (plE aC g))) U.heap ∧ va_K (dC, dI) classes (TY aC) U ∧ va_D (fun _ => True) (wp [oX11 h0 xp xtp xn xt xk xl xc xo xto xr xch ts ik st, oX9 xp po pp ps pa pe pb xn pk pu pw pq pt un fw, oX4 xn ek ef ew ep es (nI n) (nI sn) dn, cI aC ek 8 kf, cI aC ef 8 ff, cI aC ew 8 wf, cI aC es 5 stf, cA aC po 8 fo, cA aC pp 8 fp, cA aC ps 8 fs, cK aC pk 7 fk, cO k0 0 [], cO k1 1 [], cO k2 3 [], cO k3 5 [], cO k4 6 [], cO k5 10 [], cO k6 8 [], cI aC pa 8 yf, cI aC pe 8 ef0, cI aC pb 8 bf, cI aC pu 7 uf, cI aC pw 7 vf, cI aC pq 128 qf, cI aC pt 128 tf, cI aC xr 7 rf] (va_pl L (plE aC g))) ∧ NX U)) (va_Qi (fun (r : Int32) (u : Int32 × Int32 × (Nat → Int32) × (Nat → Int32) × (Nat → Int32) × (Nat → Int32) × (Nat → Int32) × (Nat → Int32) × (Nat → Int32) × (Nat → Nat → Int32) × (Nat → Int32) × Int32) => match u with | (un2, fw2, ug, vg, qg, tg, bg, yg, eg, g2, rf2, st2) => STL st2 n (PO n K F W0 S5) ro rp rs g2 yg eg bg ∧ (∀ a, OFF ro rp rs a → g2 a = g a) ∧ r = rCar n (PO n K F W0 S5) i) (fun (u : Int32 × Int32 × (Nat → Int32) × (Nat → Int32) × (Nat → Int32) × (Nat → Int32) × (Nat → Int32) × (Nat → Int32) × (Nat → Int32) × (Nat → Nat → Int32) × (Nat → Int32) × Int32) (t : State) => match u with | (un2, fw2, ug, vg, qg, tg, bg, yg, eg, g2, rf2, st2) => va_P (dC, dI) classes (wp [oX11 h0 xp xtp xn xt xk xl xc xo xto xr xch ts ik st2, oX9 xp po pp ps pa pe pb xn pk pu pw pq pt un2 fw2, oX4 xn ek ef ew ep es (nI n) (nI sn) dn, cI aC ek 8 kf, cI aC ef 8 ff, cI aC ew 8 wf, cI aC es 5 stf, cA aC po 8 fo, cA aC pp 8 fp, cA aC ps 8 fs, cK aC pk 7 fk, cO k0 0 [], cO k1 1 [], cO k2 3 [], cO k3 5 [], cO k4 6 [], cO k5 10 [], cO k6 8 [], cI aC pa 8 yg, cI aC pe 8 eg, cI aC pb 8 bg, cI aC pu 7 ug, cI aC pw 7 vg, cI aC pq 128 qg, cI aC pt 128 tg, cI aC xr 7 rf2] (va_pl L (plE aC g2))) t.heap ∧ va_K (dC, dI) classes (TY aC) t ∧ va_D (va_A (wp [oX11 h0 xp xtp xn xt xk xl xc xo xto xr xch ts ik st, oX9 xp po pp ps pa pe pb xn pk pu pw pq pt un fw, oX4 xn ek ef ew ep es (nI n) (nI sn) dn, cI aC ek 8 kf, cI aC ef 8 ff, cI aC ew 8 wf, cI aC es 5 stf, cA aC po 8 fo, cA aC pp 8 fp, cA aC ps 8 fs, cK aC pk 7 fk, cO k0 0 [], cO k1 1 [], cO k2 3 [], cO k3 5 [], cO k4 6 [], cO k5 10 [], cO k6 8 [], cI aC pa 8 yf, cI aC pe 8 ef0, cI aC pb 8 bf, cI aC pu 7 uf, cI aC pw 7 vf, cI aC pq 128 qf, cI aC pt 128 tf, cI aC xr 7 rf] (va_pl L (plE aC g))) sz) (wp [oX11 h0 xp xtp xn xt xk xl xc xo xto xr xch ts ik st2, oX9 xp po pp ps pa pe pb xn pk pu pw pq pt un2 fw2, oX4 xn ek ef ew ep es (nI n) (nI sn) dn, cI aC ek 8 kf, cI aC ef 8 ff, cI aC ew 8 wf, cI aC es 5 stf, cA aC po 8 fo, cA aC pp 8 fp, cA aC ps 8 fs, cK aC pk 7 fk, cO k0 0 [], cO k1 1 [], cO k2 3 [], cO k3 5 [], cO k4 6 [], cO k5 10 [], cO k6 8 [], cI aC pa 8 yg, cI aC pe 8 eg, cI aC pb 8 bg, cI aC pu 7 ug, cI aC pw 7 vg, cI aC pq 128 qg, cI aC pt 128 tg, cI aC xr 7 rf2] (va_pl L (plE aC g2)))) (va_A (wp [oX11 h0 xp xtp xn xt xk xl xc xo xto xr xch ts ik st, oX9 xp po pp ps pa pe pb xn pk pu pw pq pt un fw, oX4 xn ek ef ew ep es (nI n) (nI sn) dn, cI aC ek 8 kf, cI aC ef 8 ff, cI aC ew 8 wf, cI aC es 5 stf, cA aC po 8 fo, cA aC pp 8 fp, cA aC ps 8 fs, cK aC pk 7 fk, cO k0 0 [], cO k1 1 [], cO k2 3 [], cO k3 5 [], cO k4 6 [], cO k5 10 [], cO k6 8 [], cI aC pa 8 yf, cI aC pe 8 ef0, cI aC pb 8 bf, cI aC pu 7 uf, cI aC pw 7 vf, cI aC pq 128 qf, cI aC pt 128 tf, cI aC xr 7 rf] (va_pl L (plE aC g))) sz)) 0 0 (va_A (wp [oX11 h0 xp xtp xn xt xk xl xc xo xto xr xch ts ik st, oX9 xp po pp ps pa pe pb xn pk pu pw pq pt un fw, oX4 xn ek ef ew ep es (nI n) (nI sn) dn, cI aC ek 8 kf, cI aC ef 8 ff, cI aC ew 8 wf, cI aC es 5 stf, cA aC po 8 fo, cA aC pp 8 fp, cA aC ps 8 fs, cK aC pk 7 fk, cO k0 0 [], cO k1 1 [], cO k2 3 [], cO k3 5 [], cO k4 6 [], cO k5 10 [], cO k6 8 [], cI aC pa 8 yf, cI aC pe 8 ef0, cI aC pb 8 bf, cI aC pu 7 uf, cI aC pw 7 vf, cI aC pq 128 qf, cI aC pt 128 tf, cI aC xr 7 rf] (va_pl L (plE aC g))) sz) := by
  refine Met.ofW (cc := cX11_carries) (maxL := 2) (ret := (some .int)) (by decide) rfl ?_
  intro p e s m args below meth c s₁ B hml hv
  obtain ⟨rfl, hsz, hP, hK, hD0, hN⟩ := hv
  have hx := B.exec
  have hb := B.bytes
  have hr := B.returns
  have hts0 := atoms_spec (ws := (wW yX11_carries cX11_carries 2 (some .int))) B.pre
  have hts : ∀ w9 ∈ lw_G, w9.before ([Value.ref h0, Value.int i] : List Value).toArray s = true := fun w9 h9 => hts0 w9 (List.mem_cons_of_mem _ h9)
  have hown : s.vm.findClass RX11 = some m.cls := findClass_of_methodNamed (x := yX11_carries) B.named
  have hlocks := B.notSynchronized
  subst hsz
  have hD := hD0.self (sz := s.heap.size)
  generalize hAe : va_A (wp [oX11 h0 xp xtp xn xt xk xl xc xo xto xr xch ts ik st, oX9 xp po pp ps pa pe pb xn pk pu pw pq pt un fw, oX4 xn ek ef ew ep es (nI n) (nI sn) dn, cI aC ek 8 kf, cI aC ef 8 ff, cI aC ew 8 wf, cI aC es 5 stf, cA aC po 8 fo, cA aC pp 8 fp, cA aC ps 8 fs, cK aC pk 7 fk, cO k0 0 [], cO k1 1 [], cO k2 3 [], cO k3 5 [], cO k4 6 [], cO k5 10 [], cO k6 8 [], cI aC pa 8 yf, cI aC pe 8 ef0, cI aC pb 8 bf, cI aC pu 7 uf, cI aC pw 7 vf, cI aC pq 128 qf, cI aC pt 128 tf, cI aC xr 7 rf] (va_pl L (plE aC g))) s.heap.size = A at hD ⊢
  have hA : ∀ q : Nat, s.heap.size ≤ q → A q := fun q h => by rw [← hAe]; exact Or.inr h
  obtain ⟨H, hHe⟩ : ∃ H : Heap, H = s.heap := ⟨_, rfl⟩
  have hS : va_S A s.heap H [] := by rw [hHe]; exact va_S.rf
  have hP : va_P (dC, dI) classes (wp [oX11 h0 xp xtp xn xt xk xl xc xo xto xr xch ts ik st, oX9 xp po pp ps pa pe pb xn pk pu pw pq pt un fw, oX4 xn ek ef ew ep es (nI n) (nI sn) dn, cI aC ek 8 kf, cI aC ef 8 ff, cI aC ew 8 wf, cI aC es 5 stf, cA aC po 8 fo, cA aC pp 8 fp, cA aC ps 8 fs, cK aC pk 7 fk, cO k0 0 [], cO k1 1 [], cO k2 3 [], cO k3 5 [], cO k4 6 [], cO k5 10 [], cO k6 8 [], cI aC pa 8 yf, cI aC pe 8 ef0, cI aC pb 8 bf, cI aC pu 7 uf, cI aC pw 7 vf, cI aC pq 128 qf, cI aC pt 128 tf, cI aC xr 7 rf] (va_pl L (plE aC g))) H := by rw [hHe]; exact hP
  have hl := lv_entry ([Value.ref h0, Value.int i]) (n := 2) (Nat.le_of_ble_eq_true rfl)
  rw [lg_entry_eq]
  generalize (lg_sl ([Value.ref h0, Value.int i]) ++ List.replicate (2 - (lg_sl ([Value.ref h0, Value.int i])).length) Slot.unset).toArray = ls at hl ⊢
  have hl : lv_has ls 2 [(0, Value.ref h0), (1, Value.int i)] := hl
  rw [← hHe]
  have hn8 := EVS_n hev
  refine lv_aload_n hx hb dX11_carries_0 rfl (lv_at hl 0 rfl) ?_
  refine va_get (D := (dC, dI)) (ci := 11) (v := Value.ref xn) (C := RX11) (T := TX11) (N := 14) hx hb hts inX11 hown hK hP 0 rfl rfl 2 (by decide) (hts _ (gw kw_228 rfl)) (fun _ h9 => h9) rfl dX11_carries_1 ?_
  refine lv_iload_n hx hb dX11_carries_4 rfl (lv_at hl 1 rfl) ?_
  have hpd9 := pdf_N (cx := [oX4 xn ek ef ew ep es (nI n) (nI sn) dn]) hP hD hS hA [2] (by decide) rfl
  have hPc := hpd9.1
  have hDc := hpd9.2.1
  have hFc := hpd9.2.2
  clear hpd9
  refine va_calli (va_runV (As := [Value.int i]) (rest := []) ⟨hx, hb, hml, hown, hts⟩ (c_X4_has l dC dI aC H.size xn ek ef ew ep es (nI n) (nI sn) dn i ) ⟨(callB_of 1 hts (gG kw_340) rfl rfl rfl (hts _ (gw kw_2 rfl)) (hts _ (gw kw_337 rfl)) hd_X4_has ⟨Nat.le_of_ble_eq_true rfl, Nat.le_of_ble_eq_true rfl⟩), (hts _ (gw kw_338 rfl)), (hts _ (gw kw_339 rfl))⟩ ⟨fb_std, va_recv (q := (RX4, TX4, 8)) hK hPc (ci := 4) (q0 := 0) rfl rfl, pre_std hPc hK hDc hN⟩ rfl rfl hl.1 rfl (lv_room (Nat.le_of_ble_eq_true rfl)) dX11_carries_5 ⟨Nat.le_of_ble_eq_true rfl, Nat.le_of_ble_eq_true rfl⟩) hS (fun q _ h => hFc q h) hFc (fun x_1 u9 t9 H1 locs ht hvm hw_1 hB hz1 hk1 hS => ?_)
  obtain ⟨hP1, hK1, hD1⟩ := hB
  rw [ht] at hP1
  clear hK1
  try dsimp only at hw_1
  have hpd9 : PDx (dC, dI) classes A H1 (wp [oX11 h0 xp xtp xn xt xk xl xc xo xto xr xch ts ik st, oX9 xp po pp ps pa pe pb xn pk pu pw pq pt un fw, cI aC ek 8 kf, cI aC ef 8 ff, cI aC ew 8 wf, cI aC es 5 stf, cA aC po 8 fo, cA aC pp 8 fp, cA aC ps 8 fs, cK aC pk 7 fk, cO k0 0 [], cO k1 1 [], cO k2 3 [], cO k3 5 [], cO k4 6 [], cO k5 10 [], cO k6 8 [], cI aC pa 8 yf, cI aC pe 8 ef0, cI aC pb 8 bf, cI aC pu 7 uf, cI aC pw 7 vf, cI aC pq 128 qf, cI aC pt 128 tf, cI aC xr 7 rf, oX4 xn ek ef ew ep es (nI n) (nI sn) dn] (va_pl L (plE aC g))) := jn_Q (wr := [oX11 h0 xp xtp xn xt xk xl xc xo xto xr xch ts ik st, oX9 xp po pp ps pa pe pb xn pk pu pw pq pt un fw, cI aC ek 8 kf, cI aC ef 8 ff, cI aC ew 8 wf, cI aC es 5 stf, cA aC po 8 fo, cA aC pp 8 fp, cA aC ps 8 fs, cK aC pk 7 fk, cO k0 0 [], cO k1 1 [], cO k2 3 [], cO k3 5 [], cO k4 6 [], cO k5 10 [], cO k6 8 [], cI aC pa 8 yf, cI aC pe 8 ef0, cI aC pb 8 bf, cI aC pu 7 uf, cI aC pw 7 vf, cI aC pq 128 qf, cI aC pt 128 tf, cI aC xr 7 rf]) hFc hk1 hP1 hD1 hP hD [2] [0, 1, 3, 4, 5, 6, 7, 8, 9, 10, 11, 12, 13, 14, 15, 16, 17, 18, 19, 20, 21, 22, 23, 24, 25] rfl rfl (by decide) (by decide)
  have hP := hpd9.1
  have hD := hpd9.2
  clear hpd9
  generalize H1 = H at hP hS ⊢
  clear hPc hDc hFc hz1 hk1 hP1 hD1 ht hvm
  have hz_5 := hw_1
  refine lv_if_ne (tgt := 17) hx hb dX11_carries_8 (by decide) (fun c_2 => ?_) (fun c_2 => ?_)
  · obtain ⟨a, ha8, ha9⟩ := OKI_ix hn8 (has_y hz_5 c_2)
    have h9 : i = nI a := ha9
    subst h9
    refine lv_aload_n hx hb dX11_carries_17 rfl (lv_at hl 0 rfl) ?_
    have hpd9 := pdf_P (cx := [oX11 h0 xp xtp xn xt xk xl xc xo xto xr xch ts ik st, oX9 xp po pp ps pa pe pb xn pk pu pw pq pt un fw, oX4 xn ek ef ew ep es (nI n) (nI sn) dn, cI aC ek 8 kf, cI aC ef 8 ff, cI aC ew 8 wf, cI aC es 5 stf, cA aC po 8 fo, cA aC pp 8 fp, cA aC ps 8 fs, cK aC pk 7 fk, cO k0 0 [], cO k1 1 [], cO k2 3 [], cO k3 5 [], cO k4 6 [], cO k5 10 [], cO k6 8 [], cI aC pa 8 yf, cI aC pe 8 ef0, cI aC pb 8 bf, cI aC pu 7 uf, cI aC pw 7 vf, cI aC pq 128 qf, cI aC pt 128 tf]) hP hD hS hA [0, 1, 25, 2, 3, 4, 5, 6, 7, 8, 9, 10, 11, 12, 13, 14, 15, 16, 17, 18, 19, 20, 21, 22, 23] (by decide) rfl
    have hPc := hpd9.1
    have hDc := hpd9.2.1
    have hFc := hpd9.2.2
    clear hpd9
    refine va_callr (va_runV (As := []) (rest := []) ⟨hx, hb, hml, hown, hts⟩ (c_X11_solved l dC dI aC H.size h0 xp xtp xn xt xk xl xc xo xto xr xch ts ik st po pp ps pa pe pb pk pu pw pq pt un fw ek ef ew ep es n sn dn kf ff wf stf K F W0 S5 L g fo fp fs ro rp rs fk k0 k1 k2 k3 k4 k5 k6 uf vf qf tf bf yf ef0 (hgr) (hev) (hkd) (hst)) ⟨(callB_of 0 hts (gG kw_353) rfl rfl rfl (hts _ (gw kw_1 rfl)) (hts _ (gw kw_350 rfl)) hd_X11_solved ⟨Nat.le_of_ble_eq_true rfl, Nat.le_of_ble_eq_true rfl⟩), (hts _ (gw kw_352 rfl)), (hts _ (gw ks_6 rfl))⟩ ⟨fb_std, va_recv (q := (RX11, TX11, 14)) hK hPc (ci := 11) (q0 := 0) rfl rfl, pre_std hPc hK hDc hN⟩ rfl rfl hl.1 rfl (lv_room (Nat.le_of_ble_eq_true rfl)) dX11_carries_18 ⟨Nat.le_of_ble_eq_true rfl, Nat.le_of_ble_eq_true rfl⟩) hS (fun q _ h => hFc q h) hFc (fun u9 q_3 t9 H1 locs ht hvm hw_3 hB hz1 hk1 hS => ?_)
    obtain ⟨u_4, u_5, u_6, u_7, u_8, u_9, u_10, u_11, u_12, u_13⟩ := u9
    obtain ⟨q_3_e, hP1, hK1, hD1⟩ := hB
    rw [ht] at hP1
    clear hK1
    try dsimp only at hw_3
    have hpd9 : PDx (dC, dI) classes A H1 (wp [cI aC xr 7 rf, oX11 h0 xp xtp xn xt xk xl xc xo xto xr xch ts ik 0, oX9 xp po pp ps pa pe pb xn pk pu pw pq pt u_4 u_5, oX4 xn ek ef ew ep es (nI n) (nI sn) dn, cI aC ek 8 kf, cI aC ef 8 ff, cI aC ew 8 wf, cI aC es 5 stf, cA aC po 8 fo, cA aC pp 8 fp, cA aC ps 8 fs, cK aC pk 7 fk, cO k0 0 [], cO k1 1 [], cO k2 3 [], cO k3 5 [], cO k4 6 [], cO k5 10 [], cO k6 8 [], cI aC pa 8 u_11, cI aC pe 8 u_12, cI aC pb 8 u_10, cI aC pu 7 u_6, cI aC pw 7 u_7, cI aC pq 128 u_8, cI aC pt 128 u_9] (va_pl L (plE aC u_13))) := jn_P (wr := [cI aC xr 7 rf]) hFc hk1 hP1 hD1 hP hD [0, 1, 25, 2, 3, 4, 5, 6, 7, 8, 9, 10, 11, 12, 13, 14, 15, 16, 17, 18, 19, 20, 21, 22, 23] [24] rfl rfl (by decide) (by decide)
    have hP := hpd9.1
    have hD := hpd9.2
    clear hpd9
    generalize H1 = H at hP hS ⊢
    clear hPc hDc hFc hz1 hk1 hP1 hD1 ht hvm
    have h9 := q_3_e.symm
    subst h9
    obtain ⟨hm1, hm2⟩ := hw_3
    refine va_get (D := (dC, dI)) (ci := 9) (v := Value.ref pe) (C := RX9) (T := TX9) (N := 14) hx hb hts inX9 hown hK hP 2 rfl rfl 4 (by decide) (hts _ (gw kw_159 rfl)) (fun _ h9 => h9) rfl dX11_carries_21 ?_
    refine lv_iload_n hx hb dX11_carries_24 rfl (lv_at hl 1 rfl) ?_
    have h_14 : vp_in (nI a) 8 := by first | exact vp_in_nI (by omega) (by omega) | (unfold vp_in; decide) | (subst_vars; first | (unfold vp_in; decide) | exact vp_in_nI (by omega) (by omega))
    refine va_iald hx hb hK hP 20 0 rfl rfl h_14 dX11_carries_25 ?_
    refine lv_topi (fun x_15 e_15 => ?_)
    refine lv_iload_n hx hb dX11_carries_26 rfl (lv_at hl 1 rfl) ?_
    refine lv_icmp_ne (tgt := 34) hx hb dX11_carries_27 (by decide) (fun c_16 => ?_) (fun c_16 => ?_)
    · refine lv_iconst (v := 0) hx hb dX11_carries_34 (by decide) ?_
      have hpd9 := pd_P (cx := [oX11 h0 xp xtp xn xt xk xl xc xo xto xr xch ts ik 0, oX9 xp po pp ps pa pe pb xn pk pu pw pq pt u_4 u_5, oX4 xn ek ef ew ep es (nI n) (nI sn) dn, cI aC ek 8 kf, cI aC ef 8 ff, cI aC ew 8 wf, cI aC es 5 stf, cA aC po 8 fo, cA aC pp 8 fp, cA aC ps 8 fs, cK aC pk 7 fk, cO k0 0 [], cO k1 1 [], cO k2 3 [], cO k3 5 [], cO k4 6 [], cO k5 10 [], cO k6 8 [], cI aC pa 8 u_11, cI aC pe 8 u_12, cI aC pb 8 u_10, cI aC pu 7 u_6, cI aC pw 7 u_7, cI aC pq 128 u_8, cI aC pt 128 u_9, cI aC xr 7 rf]) hP hD [1, 2, 3, 4, 5, 6, 7, 8, 9, 10, 11, 12, 13, 14, 15, 16, 17, 18, 19, 20, 21, 22, 23, 24, 25, 0] (by decide) rfl
      have hP9 := hpd9.1
      have hD9 := hpd9.2
      refine W.widen (k := 0) (n := 0) (by omega) (by omega) ?_
      exact W.iret (v := 0) hx hb hr (fun t ht hW => ⟨⟨0, (u_4, u_5, u_6, u_7, u_8, u_9, u_10, u_11, u_12, u_13, rf, 0), rfl, ⟨Or.inr ⟨rfl, hm1⟩, hm2, by have h8 := (hm1 a ha8).2.2.2.2.1; unfold rCar; rw [if_pos (OKI_nI hn8 ha8), nI_clamp (by omega)]; rw [e_15, nI_clamp (by omega), h8] at c_16; rw [if_neg c_16]⟩, by rw [ht]; exact hP9, va_K.moved hW.alike hK, hD9⟩, hS.F ht⟩) hS.2.2 dX11_carries_35
    · refine lv_iconst (v := 1) hx hb dX11_carries_30 (by decide) ?_
      refine lv_goto (tgt := 35) hx hb dX11_carries_31 (by decide) ?_
      have hpd9 := pd_P (cx := [oX11 h0 xp xtp xn xt xk xl xc xo xto xr xch ts ik 0, oX9 xp po pp ps pa pe pb xn pk pu pw pq pt u_4 u_5, oX4 xn ek ef ew ep es (nI n) (nI sn) dn, cI aC ek 8 kf, cI aC ef 8 ff, cI aC ew 8 wf, cI aC es 5 stf, cA aC po 8 fo, cA aC pp 8 fp, cA aC ps 8 fs, cK aC pk 7 fk, cO k0 0 [], cO k1 1 [], cO k2 3 [], cO k3 5 [], cO k4 6 [], cO k5 10 [], cO k6 8 [], cI aC pa 8 u_11, cI aC pe 8 u_12, cI aC pb 8 u_10, cI aC pu 7 u_6, cI aC pw 7 u_7, cI aC pq 128 u_8, cI aC pt 128 u_9, cI aC xr 7 rf]) hP hD [1, 2, 3, 4, 5, 6, 7, 8, 9, 10, 11, 12, 13, 14, 15, 16, 17, 18, 19, 20, 21, 22, 23, 24, 25, 0] (by decide) rfl
      have hP9 := hpd9.1
      have hD9 := hpd9.2
      refine W.widen (k := 0) (n := 0) (by omega) (by omega) ?_
      exact W.iret (v := 1) hx hb hr (fun t ht hW => ⟨⟨1, (u_4, u_5, u_6, u_7, u_8, u_9, u_10, u_11, u_12, u_13, rf, 0), rfl, ⟨Or.inr ⟨rfl, hm1⟩, hm2, by have h8 := (hm1 a ha8).2.2.2.2.1; unfold rCar; rw [if_pos (OKI_nI hn8 ha8), nI_clamp (by omega)]; rw [e_15, nI_clamp (by omega), h8] at c_16; rw [if_pos c_16]⟩, by rw [ht]; exact hP9, va_K.moved hW.alike hK, hD9⟩, hS.F ht⟩) hS.2.2 dX11_carries_35
  · refine lv_aload_n hx hb dX11_carries_11 rfl (lv_at hl 0 rfl) ?_
    refine lv_iconst (v := -1) hx hb dX11_carries_12 (by decide) ?_
    have hpd9 := pdf_N (cx := [oX11 h0 xp xtp xn xt xk xl xc xo xto xr xch ts ik st, cI aC xr 7 rf]) hP hD hS hA [0, 24] (by decide) rfl
    have hPc := hpd9.1
    have hDc := hpd9.2.1
    have hFc := hpd9.2.2
    clear hpd9
    refine va_calli (va_runV (As := [Value.int (-1)]) (rest := []) ⟨hx, hb, hml, hown, hts⟩ (c_X11_refuse l dC dI aC H.size h0 xp xtp xn xt xk xl xc xo xto xr xch ts ik st (-1) 1 rf (by decide) (by decide) (by decide) (by unfold vp_in; decide)) ⟨(callB_of 1 hts (gG kw_276) rfl rfl rfl (hts _ (gw kw_1 rfl)) (hts _ (gw kw_273 rfl)) hd_X11_refuse ⟨Nat.le_of_ble_eq_true rfl, Nat.le_of_ble_eq_true rfl⟩), (hts _ (gw kw_275 rfl)), (hts _ (gw ks_0 rfl))⟩ ⟨fb_std, va_recv (q := (RX11, TX11, 14)) hK hPc (ci := 11) (q0 := 0) rfl rfl, pre_std hPc hK hDc hN⟩ rfl rfl hl.1 rfl (lv_room (Nat.le_of_ble_eq_true rfl)) dX11_carries_13 ⟨Nat.le_of_ble_eq_true rfl, Nat.le_of_ble_eq_true rfl⟩) hS (fun q _ h => hFc q h) hFc (fun x_17 u9 t9 H1 locs ht hvm hw_17 hB hz1 hk1 hS => ?_)
    obtain ⟨u_18, rfl⟩ : ∃ z, z = u9 := ⟨_, rfl⟩
    obtain ⟨hP1, hK1, hD1⟩ := hB
    rw [ht] at hP1
    clear hK1
    try dsimp only at hw_17
    have hpd9 : PDx (dC, dI) classes A H1 (wp [oX9 xp po pp ps pa pe pb xn pk pu pw pq pt un fw, cI aC ek 8 kf, cI aC ef 8 ff, cI aC ew 8 wf, cI aC es 5 stf, cA aC po 8 fo, cA aC pp 8 fp, cA aC ps 8 fs, cK aC pk 7 fk, cO k0 0 [], cO k1 1 [], cO k2 3 [], cO k3 5 [], cO k4 6 [], cO k5 10 [], cO k6 8 [], cI aC pa 8 yf, cI aC pe 8 ef0, cI aC pb 8 bf, cI aC pu 7 uf, cI aC pw 7 vf, cI aC pq 128 qf, cI aC pt 128 tf, oX4 xn ek ef ew ep es (nI n) (nI sn) dn, oX11 h0 xp xtp xn xt xk xl xc xo xto xr xch ts ik st, cI aC xr 7 u_18] (va_pl L (plE aC g))) := jn_Q (wr := [oX9 xp po pp ps pa pe pb xn pk pu pw pq pt un fw, cI aC ek 8 kf, cI aC ef 8 ff, cI aC ew 8 wf, cI aC es 5 stf, cA aC po 8 fo, cA aC pp 8 fp, cA aC ps 8 fs, cK aC pk 7 fk, cO k0 0 [], cO k1 1 [], cO k2 3 [], cO k3 5 [], cO k4 6 [], cO k5 10 [], cO k6 8 [], cI aC pa 8 yf, cI aC pe 8 ef0, cI aC pb 8 bf, cI aC pu 7 uf, cI aC pw 7 vf, cI aC pq 128 qf, cI aC pt 128 tf, oX4 xn ek ef ew ep es (nI n) (nI sn) dn]) hFc hk1 hP1 hD1 hP hD [0, 24] [1, 2, 3, 4, 5, 6, 7, 8, 9, 10, 11, 12, 13, 14, 15, 16, 17, 18, 19, 20, 21, 22, 23, 25] rfl rfl (by decide) (by decide)
    have hP := hpd9.1
    have hD := hpd9.2
    clear hpd9
    generalize H1 = H at hP hS ⊢
    clear hPc hDc hFc hz1 hk1 hP1 hD1 ht hvm
    obtain ⟨hv9, -⟩ := hw_17
    have hpd9 := pd_P (cx := [oX11 h0 xp xtp xn xt xk xl xc xo xto xr xch ts ik st, oX9 xp po pp ps pa pe pb xn pk pu pw pq pt un fw, oX4 xn ek ef ew ep es (nI n) (nI sn) dn, cI aC ek 8 kf, cI aC ef 8 ff, cI aC ew 8 wf, cI aC es 5 stf, cA aC po 8 fo, cA aC pp 8 fp, cA aC ps 8 fs, cK aC pk 7 fk, cO k0 0 [], cO k1 1 [], cO k2 3 [], cO k3 5 [], cO k4 6 [], cO k5 10 [], cO k6 8 [], cI aC pa 8 yf, cI aC pe 8 ef0, cI aC pb 8 bf, cI aC pu 7 uf, cI aC pw 7 vf, cI aC pq 128 qf, cI aC pt 128 tf, cI aC xr 7 u_18]) hP hD [24, 0, 23, 1, 2, 3, 4, 5, 6, 7, 8, 9, 10, 11, 12, 13, 14, 15, 16, 17, 18, 19, 20, 21, 22, 25] (by decide) rfl
    have hP9 := hpd9.1
    have hD9 := hpd9.2
    refine W.widen (k := 0) (n := 0) (by omega) (by omega) ?_
    exact W.iret (v := x_17) hx hb hr (fun t ht hW => ⟨⟨x_17, (un, fw, uf, vf, qf, tf, bf, yf, ef0, g, u_18, st), rfl, ⟨hst, fun a _ => rfl, by rw [hv9]; unfold rCar; rw [if_neg (has_n hz_5 c_2)]⟩, by rw [ht]; exact hP9, va_K.moved hW.alike hK, hD9⟩, hS.F ht⟩) hS.2.2 dX11_carries_16

set_option maxHeartbeats 1000000 in
set_option maxRecDepth 100000 in
/-- X11_offered -/
theorem c_X11_offered (l : Launch) (dC : Nat → ClassId) (dI : Nat → Nat → Nat) (aC : Nat → ClassId) (sz : Nat) (h0 : Nat) (xp : Nat) (xtp : Nat) (xn : Nat) (xt : Nat) (xk : Nat) (xl : Nat) (xc : Nat) (xo : Nat) (xto : Nat) (xr : Nat) (xch : Nat) (ts : Int32) (ik : Int32) (st : Int32) (po : Nat) (pp : Nat) (ps : Nat) (pa : Nat) (pe : Nat) (pb : Nat) (pk : Nat) (pu : Nat) (pw : Nat) (pq : Nat) (pt : Nat) (un : Int32) (fw : Int32) (ek : Nat) (ef : Nat) (ew : Nat) (ep : Nat) (es : Nat) (n : Nat) (sn : Nat) (dn : Int32) (kf : Nat → Int32) (ff : Nat → Int32) (wf : Nat → Int32) (stf : Nat → Int32) (K : Nat → Nat) (F : Nat → Nat) (W0 : Nat → Nat) (S5 : Nat → Nat) (L : List Nat) (g : Nat → Nat → Int32) (fo : Nat → Option Nat) (fp : Nat → Option Nat) (fs : Nat → Option Nat) (ro : Nat → Nat) (rp : Nat → Nat) (rs : Nat → Nat) (fk : Nat → Option Nat) (k0 : Nat) (k1 : Nat) (k2 : Nat) (k3 : Nat) (k4 : Nat) (k5 : Nat) (k6 : Nat) (uf : Nat → Int32) (vf : Nat → Int32) (qf : Nat → Int32) (tf : Nat → Int32) (bf : Nat → Int32) (yf : Nat → Int32) (ef0 : Nat → Int32) (rf : Nat → Int32) (i : Int32) (j : Int32) (hgr : GRD L fo fp fs ro rp rs) (hev : EVS n sn dn K F W0 S5 kf ff wf stf) (hkd : KDS fk k0 k1 k2 k3 k4 k5 k6) (hst : STL st n (PO n K F W0 S5) ro rp rs g yf ef0 bf) : Met l yX11_offered (wW yX11_offered cX11_offered 3 (some .int)) ({ frames := 7, cells := 0, slots := 0, locals := 151 } : Room) (va_Pc [Value.ref h0, Value.int i, Value.int j] (fun U => U.heap.size = sz ∧ va_P (dC, dI) classes (wp [oX11 h0 xp xtp xn xt xk xl xc xo xto xr xch ts ik st, oX9 xp po pp ps pa pe pb xn pk pu pw pq pt un fw, oX4 xn ek ef ew ep es (nI n) (nI sn) dn, cI aC ek 8 kf, cI aC ef 8 ff, cI aC ew 8 wf, cI aC es 5 stf, cA aC po 8 fo, cA aC pp 8 fp, cA aC ps 8 fs, cK aC pk 7 fk, cO k0 0 [], cO k1 1 [], cO k2 3 [], cO k3 5 [], cO k4 6 [], cO k5 10 [], cO k6 8 [], cI aC pa 8 yf, cI aC pe 8 ef0, cI aC pb 8 bf, cI aC pu 7 uf, cI aC pw 7 vf, cI aC pq 128 qf, cI aC pt 128 tf, cI aC xr 7 rf] (va_pl L (plE aC g))) U.heap ∧ va_K (dC, dI) classes (TY aC) U ∧ va_D (fun _ => True) (wp [oX11 h0 xp xtp xn xt xk xl xc xo xto xr xch ts ik st, oX9 xp po pp ps pa pe pb xn pk pu pw pq pt un fw, oX4 xn ek ef ew ep es (nI n) (nI sn) dn, cI aC ek 8 kf, cI aC ef 8 ff, cI aC ew 8 wf, cI aC es 5 stf, cA aC po 8 fo, cA aC pp 8 fp, cA aC ps 8 fs, cK aC pk 7 fk, cO k0 0 [], cO k1 1 [], cO k2 3 [], cO k3 5 [], cO k4 6 [], cO k5 10 [], cO k6 8 [], cI aC pa 8 yf, cI aC pe 8 ef0, cI aC pb 8 bf, cI aC pu 7 uf, cI aC pw 7 vf, cI aC pq 128 qf, cI aC pt 128 tf, cI aC xr 7 rf] (va_pl L (plE aC g))) ∧ NX U)) (va_Qi (fun (r : Int32) (u : Int32 × Int32 × (Nat → Int32) × (Nat → Int32) × (Nat → Int32) × (Nat → Int32) × (Nat → Int32) × (Nat → Int32) × (Nat → Int32) × (Nat → Nat → Int32) × (Nat → Int32) × Int32) => match u with | (un2, fw2, ug, vg, qg, tg, bg, yg, eg, g2, rf2, st2) => STL st2 n (PO n K F W0 S5) ro rp rs g2 yg eg bg ∧ (∀ a, OFF ro rp rs a → g2 a = g a) ∧ r = rOff n (PO n K F W0 S5) i j) (fun (u : Int32 × Int32 × (Nat → Int32) × (Nat → Int32) × (Nat → Int32) × (Nat → Int32) × (Nat → Int32) × (Nat → Int32) × (Nat → Int32) × (Nat → Nat → Int32) × (Nat → Int32) × Int32) (t : State) => match u with | (un2, fw2, ug, vg, qg, tg, bg, yg, eg, g2, rf2, st2) => va_P (dC, dI) classes (wp [oX11 h0 xp xtp xn xt xk xl xc xo xto xr xch ts ik st2, oX9 xp po pp ps pa pe pb xn pk pu pw pq pt un2 fw2, oX4 xn ek ef ew ep es (nI n) (nI sn) dn, cI aC ek 8 kf, cI aC ef 8 ff, cI aC ew 8 wf, cI aC es 5 stf, cA aC po 8 fo, cA aC pp 8 fp, cA aC ps 8 fs, cK aC pk 7 fk, cO k0 0 [], cO k1 1 [], cO k2 3 [], cO k3 5 [], cO k4 6 [], cO k5 10 [], cO k6 8 [], cI aC pa 8 yg, cI aC pe 8 eg, cI aC pb 8 bg, cI aC pu 7 ug, cI aC pw 7 vg, cI aC pq 128 qg, cI aC pt 128 tg, cI aC xr 7 rf2] (va_pl L (plE aC g2))) t.heap ∧ va_K (dC, dI) classes (TY aC) t ∧ va_D (va_A (wp [oX11 h0 xp xtp xn xt xk xl xc xo xto xr xch ts ik st, oX9 xp po pp ps pa pe pb xn pk pu pw pq pt un fw, oX4 xn ek ef ew ep es (nI n) (nI sn) dn, cI aC ek 8 kf, cI aC ef 8 ff, cI aC ew 8 wf, cI aC es 5 stf, cA aC po 8 fo, cA aC pp 8 fp, cA aC ps 8 fs, cK aC pk 7 fk, cO k0 0 [], cO k1 1 [], cO k2 3 [], cO k3 5 [], cO k4 6 [], cO k5 10 [], cO k6 8 [], cI aC pa 8 yf, cI aC pe 8 ef0, cI aC pb 8 bf, cI aC pu 7 uf, cI aC pw 7 vf, cI aC pq 128 qf, cI aC pt 128 tf, cI aC xr 7 rf] (va_pl L (plE aC g))) sz) (wp [oX11 h0 xp xtp xn xt xk xl xc xo xto xr xch ts ik st2, oX9 xp po pp ps pa pe pb xn pk pu pw pq pt un2 fw2, oX4 xn ek ef ew ep es (nI n) (nI sn) dn, cI aC ek 8 kf, cI aC ef 8 ff, cI aC ew 8 wf, cI aC es 5 stf, cA aC po 8 fo, cA aC pp 8 fp, cA aC ps 8 fs, cK aC pk 7 fk, cO k0 0 [], cO k1 1 [], cO k2 3 [], cO k3 5 [], cO k4 6 [], cO k5 10 [], cO k6 8 [], cI aC pa 8 yg, cI aC pe 8 eg, cI aC pb 8 bg, cI aC pu 7 ug, cI aC pw 7 vg, cI aC pq 128 qg, cI aC pt 128 tg, cI aC xr 7 rf2] (va_pl L (plE aC g2)))) (va_A (wp [oX11 h0 xp xtp xn xt xk xl xc xo xto xr xch ts ik st, oX9 xp po pp ps pa pe pb xn pk pu pw pq pt un fw, oX4 xn ek ef ew ep es (nI n) (nI sn) dn, cI aC ek 8 kf, cI aC ef 8 ff, cI aC ew 8 wf, cI aC es 5 stf, cA aC po 8 fo, cA aC pp 8 fp, cA aC ps 8 fs, cK aC pk 7 fk, cO k0 0 [], cO k1 1 [], cO k2 3 [], cO k3 5 [], cO k4 6 [], cO k5 10 [], cO k6 8 [], cI aC pa 8 yf, cI aC pe 8 ef0, cI aC pb 8 bf, cI aC pu 7 uf, cI aC pw 7 vf, cI aC pq 128 qf, cI aC pt 128 tf, cI aC xr 7 rf] (va_pl L (plE aC g))) sz)) 0 0 (va_A (wp [oX11 h0 xp xtp xn xt xk xl xc xo xto xr xch ts ik st, oX9 xp po pp ps pa pe pb xn pk pu pw pq pt un fw, oX4 xn ek ef ew ep es (nI n) (nI sn) dn, cI aC ek 8 kf, cI aC ef 8 ff, cI aC ew 8 wf, cI aC es 5 stf, cA aC po 8 fo, cA aC pp 8 fp, cA aC ps 8 fs, cK aC pk 7 fk, cO k0 0 [], cO k1 1 [], cO k2 3 [], cO k3 5 [], cO k4 6 [], cO k5 10 [], cO k6 8 [], cI aC pa 8 yf, cI aC pe 8 ef0, cI aC pb 8 bf, cI aC pu 7 uf, cI aC pw 7 vf, cI aC pq 128 qf, cI aC pt 128 tf, cI aC xr 7 rf] (va_pl L (plE aC g))) sz) := by
  refine Met.ofW (cc := cX11_offered) (maxL := 3) (ret := (some .int)) (by decide) rfl ?_
  intro p e s m args below meth c s₁ B hml hv
  obtain ⟨rfl, hsz, hP, hK, hD0, hN⟩ := hv
  have hx := B.exec
  have hb := B.bytes
  have hr := B.returns
  have hts0 := atoms_spec (ws := (wW yX11_offered cX11_offered 3 (some .int))) B.pre
  have hts : ∀ w9 ∈ lw_G, w9.before ([Value.ref h0, Value.int i, Value.int j] : List Value).toArray s = true := fun w9 h9 => hts0 w9 (List.mem_cons_of_mem _ h9)
  have hown : s.vm.findClass RX11 = some m.cls := findClass_of_methodNamed (x := yX11_offered) B.named
  have hlocks := B.notSynchronized
  subst hsz
  have hD := hD0.self (sz := s.heap.size)
  generalize hAe : va_A (wp [oX11 h0 xp xtp xn xt xk xl xc xo xto xr xch ts ik st, oX9 xp po pp ps pa pe pb xn pk pu pw pq pt un fw, oX4 xn ek ef ew ep es (nI n) (nI sn) dn, cI aC ek 8 kf, cI aC ef 8 ff, cI aC ew 8 wf, cI aC es 5 stf, cA aC po 8 fo, cA aC pp 8 fp, cA aC ps 8 fs, cK aC pk 7 fk, cO k0 0 [], cO k1 1 [], cO k2 3 [], cO k3 5 [], cO k4 6 [], cO k5 10 [], cO k6 8 [], cI aC pa 8 yf, cI aC pe 8 ef0, cI aC pb 8 bf, cI aC pu 7 uf, cI aC pw 7 vf, cI aC pq 128 qf, cI aC pt 128 tf, cI aC xr 7 rf] (va_pl L (plE aC g))) s.heap.size = A at hD ⊢
  have hA : ∀ q : Nat, s.heap.size ≤ q → A q := fun q h => by rw [← hAe]; exact Or.inr h
  obtain ⟨H, hHe⟩ : ∃ H : Heap, H = s.heap := ⟨_, rfl⟩
  have hS : va_S A s.heap H [] := by rw [hHe]; exact va_S.rf
  have hP : va_P (dC, dI) classes (wp [oX11 h0 xp xtp xn xt xk xl xc xo xto xr xch ts ik st, oX9 xp po pp ps pa pe pb xn pk pu pw pq pt un fw, oX4 xn ek ef ew ep es (nI n) (nI sn) dn, cI aC ek 8 kf, cI aC ef 8 ff, cI aC ew 8 wf, cI aC es 5 stf, cA aC po 8 fo, cA aC pp 8 fp, cA aC ps 8 fs, cK aC pk 7 fk, cO k0 0 [], cO k1 1 [], cO k2 3 [], cO k3 5 [], cO k4 6 [], cO k5 10 [], cO k6 8 [], cI aC pa 8 yf, cI aC pe 8 ef0, cI aC pb 8 bf, cI aC pu 7 uf, cI aC pw 7 vf, cI aC pq 128 qf, cI aC pt 128 tf, cI aC xr 7 rf] (va_pl L (plE aC g))) H := by rw [hHe]; exact hP
  have hl := lv_entry ([Value.ref h0, Value.int i, Value.int j]) (n := 3) (Nat.le_of_ble_eq_true rfl)
  rw [lg_entry_eq]
  generalize (lg_sl ([Value.ref h0, Value.int i, Value.int j]) ++ List.replicate (3 - (lg_sl ([Value.ref h0, Value.int i, Value.int j])).length) Slot.unset).toArray = ls at hl ⊢
  have hl : lv_has ls 3 [(0, Value.ref h0), (1, Value.int i), (2, Value.int j)] := hl
  rw [← hHe]
  have hn8 := EVS_n hev
  refine lv_aload_n hx hb dX11_offered_0 rfl (lv_at hl 0 rfl) ?_
  refine va_get (D := (dC, dI)) (ci := 11) (v := Value.ref xn) (C := RX11) (T := TX11) (N := 14) hx hb hts inX11 hown hK hP 0 rfl rfl 2 (by decide) (hts _ (gw kw_228 rfl)) (fun _ h9 => h9) rfl dX11_offered_1 ?_
  refine lv_iload_n hx hb dX11_offered_4 rfl (lv_at hl 1 rfl) ?_
  have hpd9 := pdf_N (cx := [oX4 xn ek ef ew ep es (nI n) (nI sn) dn]) hP hD hS hA [2] (by decide) rfl
  have hPc := hpd9.1
  have hDc := hpd9.2.1
  have hFc := hpd9.2.2
  clear hpd9
  refine va_calli (va_runV (As := [Value.int i]) (rest := []) ⟨hx, hb, hml, hown, hts⟩ (c_X4_has l dC dI aC H.size xn ek ef ew ep es (nI n) (nI sn) dn i ) ⟨(callB_of 1 hts (gG kw_340) rfl rfl rfl (hts _ (gw kw_2 rfl)) (hts _ (gw kw_337 rfl)) hd_X4_has ⟨Nat.le_of_ble_eq_true rfl, Nat.le_of_ble_eq_true rfl⟩), (hts _ (gw kw_338 rfl)), (hts _ (gw kw_339 rfl))⟩ ⟨fb_std, va_recv (q := (RX4, TX4, 8)) hK hPc (ci := 4) (q0 := 0) rfl rfl, pre_std hPc hK hDc hN⟩ rfl rfl hl.1 rfl (lv_room (Nat.le_of_ble_eq_true rfl)) dX11_offered_5 ⟨Nat.le_of_ble_eq_true rfl, Nat.le_of_ble_eq_true rfl⟩) hS (fun q _ h => hFc q h) hFc (fun x_1 u9 t9 H1 locs ht hvm hw_1 hB hz1 hk1 hS => ?_)
  obtain ⟨hP1, hK1, hD1⟩ := hB
  rw [ht] at hP1
  clear hK1
  try dsimp only at hw_1
  have hpd9 : PDx (dC, dI) classes A H1 (wp [oX11 h0 xp xtp xn xt xk xl xc xo xto xr xch ts ik st, oX9 xp po pp ps pa pe pb xn pk pu pw pq pt un fw, cI aC ek 8 kf, cI aC ef 8 ff, cI aC ew 8 wf, cI aC es 5 stf, cA aC po 8 fo, cA aC pp 8 fp, cA aC ps 8 fs, cK aC pk 7 fk, cO k0 0 [], cO k1 1 [], cO k2 3 [], cO k3 5 [], cO k4 6 [], cO k5 10 [], cO k6 8 [], cI aC pa 8 yf, cI aC pe 8 ef0, cI aC pb 8 bf, cI aC pu 7 uf, cI aC pw 7 vf, cI aC pq 128 qf, cI aC pt 128 tf, cI aC xr 7 rf, oX4 xn ek ef ew ep es (nI n) (nI sn) dn] (va_pl L (plE aC g))) := jn_Q (wr := [oX11 h0 xp xtp xn xt xk xl xc xo xto xr xch ts ik st, oX9 xp po pp ps pa pe pb xn pk pu pw pq pt un fw, cI aC ek 8 kf, cI aC ef 8 ff, cI aC ew 8 wf, cI aC es 5 stf, cA aC po 8 fo, cA aC pp 8 fp, cA aC ps 8 fs, cK aC pk 7 fk, cO k0 0 [], cO k1 1 [], cO k2 3 [], cO k3 5 [], cO k4 6 [], cO k5 10 [], cO k6 8 [], cI aC pa 8 yf, cI aC pe 8 ef0, cI aC pb 8 bf, cI aC pu 7 uf, cI aC pw 7 vf, cI aC pq 128 qf, cI aC pt 128 tf, cI aC xr 7 rf]) hFc hk1 hP1 hD1 hP hD [2] [0, 1, 3, 4, 5, 6, 7, 8, 9, 10, 11, 12, 13, 14, 15, 16, 17, 18, 19, 20, 21, 22, 23, 24, 25] rfl rfl (by decide) (by decide)
  have hP := hpd9.1
  have hD := hpd9.2
  clear hpd9
  generalize H1 = H at hP hS ⊢
  clear hPc hDc hFc hz1 hk1 hP1 hD1 ht hvm
  have hz_5 := hw_1
  refine lv_if_eq (tgt := 41) hx hb dX11_offered_8 (by decide) (fun c_2 => ?_) (fun c_2 => ?_)
  · refine lv_aload_n hx hb dX11_offered_41 rfl (lv_at hl 0 rfl) ?_
    refine lv_iconst (v := -1) hx hb dX11_offered_42 (by decide) ?_
    have hpd9 := pdf_N (cx := [oX11 h0 xp xtp xn xt xk xl xc xo xto xr xch ts ik st, cI aC xr 7 rf]) hP hD hS hA [0, 24] (by decide) rfl
    have hPc := hpd9.1
    have hDc := hpd9.2.1
    have hFc := hpd9.2.2
    clear hpd9
    refine va_calli (va_runV (As := [Value.int (-1)]) (rest := []) ⟨hx, hb, hml, hown, hts⟩ (c_X11_refuse l dC dI aC H.size h0 xp xtp xn xt xk xl xc xo xto xr xch ts ik st (-1) 1 rf (by decide) (by decide) (by decide) (by unfold vp_in; decide)) ⟨(callB_of 1 hts (gG kw_276) rfl rfl rfl (hts _ (gw kw_1 rfl)) (hts _ (gw kw_273 rfl)) hd_X11_refuse ⟨Nat.le_of_ble_eq_true rfl, Nat.le_of_ble_eq_true rfl⟩), (hts _ (gw kw_275 rfl)), (hts _ (gw ks_0 rfl))⟩ ⟨fb_std, va_recv (q := (RX11, TX11, 14)) hK hPc (ci := 11) (q0 := 0) rfl rfl, pre_std hPc hK hDc hN⟩ rfl rfl hl.1 rfl (lv_room (Nat.le_of_ble_eq_true rfl)) dX11_offered_43 ⟨Nat.le_of_ble_eq_true rfl, Nat.le_of_ble_eq_true rfl⟩) hS (fun q _ h => hFc q h) hFc (fun x_3 u9 t9 H1 locs ht hvm hw_3 hB hz1 hk1 hS => ?_)
    obtain ⟨u_4, rfl⟩ : ∃ z, z = u9 := ⟨_, rfl⟩
    obtain ⟨hP1, hK1, hD1⟩ := hB
    rw [ht] at hP1
    clear hK1
    try dsimp only at hw_3
    have hpd9 : PDx (dC, dI) classes A H1 (wp [oX9 xp po pp ps pa pe pb xn pk pu pw pq pt un fw, cI aC ek 8 kf, cI aC ef 8 ff, cI aC ew 8 wf, cI aC es 5 stf, cA aC po 8 fo, cA aC pp 8 fp, cA aC ps 8 fs, cK aC pk 7 fk, cO k0 0 [], cO k1 1 [], cO k2 3 [], cO k3 5 [], cO k4 6 [], cO k5 10 [], cO k6 8 [], cI aC pa 8 yf, cI aC pe 8 ef0, cI aC pb 8 bf, cI aC pu 7 uf, cI aC pw 7 vf, cI aC pq 128 qf, cI aC pt 128 tf, oX4 xn ek ef ew ep es (nI n) (nI sn) dn, oX11 h0 xp xtp xn xt xk xl xc xo xto xr xch ts ik st, cI aC xr 7 u_4] (va_pl L (plE aC g))) := jn_Q (wr := [oX9 xp po pp ps pa pe pb xn pk pu pw pq pt un fw, cI aC ek 8 kf, cI aC ef 8 ff, cI aC ew 8 wf, cI aC es 5 stf, cA aC po 8 fo, cA aC pp 8 fp, cA aC ps 8 fs, cK aC pk 7 fk, cO k0 0 [], cO k1 1 [], cO k2 3 [], cO k3 5 [], cO k4 6 [], cO k5 10 [], cO k6 8 [], cI aC pa 8 yf, cI aC pe 8 ef0, cI aC pb 8 bf, cI aC pu 7 uf, cI aC pw 7 vf, cI aC pq 128 qf, cI aC pt 128 tf, oX4 xn ek ef ew ep es (nI n) (nI sn) dn]) hFc hk1 hP1 hD1 hP hD [0, 24] [1, 2, 3, 4, 5, 6, 7, 8, 9, 10, 11, 12, 13, 14, 15, 16, 17, 18, 19, 20, 21, 22, 23, 25] rfl rfl (by decide) (by decide)
    have hP := hpd9.1
    have hD := hpd9.2
    clear hpd9
    generalize H1 = H at hP hS ⊢
    clear hPc hDc hFc hz1 hk1 hP1 hD1 ht hvm
    obtain ⟨hv9, -⟩ := hw_3
    have hpd9 := pd_P (cx := [oX11 h0 xp xtp xn xt xk xl xc xo xto xr xch ts ik st, oX9 xp po pp ps pa pe pb xn pk pu pw pq pt un fw, oX4 xn ek ef ew ep es (nI n) (nI sn) dn, cI aC ek 8 kf, cI aC ef 8 ff, cI aC ew 8 wf, cI aC es 5 stf, cA aC po 8 fo, cA aC pp 8 fp, cA aC ps 8 fs, cK aC pk 7 fk, cO k0 0 [], cO k1 1 [], cO k2 3 [], cO k3 5 [], cO k4 6 [], cO k5 10 [], cO k6 8 [], cI aC pa 8 yf, cI aC pe 8 ef0, cI aC pb 8 bf, cI aC pu 7 uf, cI aC pw 7 vf, cI aC pq 128 qf, cI aC pt 128 tf, cI aC xr 7 u_4]) hP hD [24, 0, 23, 1, 2, 3, 4, 5, 6, 7, 8, 9, 10, 11, 12, 13, 14, 15, 16, 17, 18, 19, 20, 21, 22, 25] (by decide) rfl
    have hP9 := hpd9.1
    have hD9 := hpd9.2
    refine W.widen (k := 0) (n := 0) (by omega) (by omega) ?_
    exact W.iret (v := x_3) hx hb hr (fun t ht hW => ⟨⟨x_3, (un, fw, uf, vf, qf, tf, bf, yf, ef0, g, u_4, st), rfl, ⟨hst, fun a _ => rfl, by rw [hv9]; unfold rOff; rw [if_neg (fun q => (has_n hz_5 c_2) q.1)]⟩, by rw [ht]; exact hP9, va_K.moved hW.alike hK, hD9⟩, hS.F ht⟩) hS.2.2 dX11_offered_46
  · obtain ⟨a, ha8, ha9⟩ := OKI_ix hn8 (has_y hz_5 c_2)
    have h9 : i = nI a := ha9
    subst h9
    refine lv_aload_n hx hb dX11_offered_11 rfl (lv_at hl 0 rfl) ?_
    refine va_get (D := (dC, dI)) (ci := 11) (v := Value.ref xn) (C := RX11) (T := TX11) (N := 14) hx hb hts inX11 hown hK hP 0 rfl rfl 2 (by decide) (hts _ (gw kw_228 rfl)) (fun _ h9 => h9) rfl dX11_offered_12 ?_
    refine lv_iload_n hx hb dX11_offered_15 rfl (lv_at hl 2 rfl) ?_
    have hpd9 := pdf_N (cx := [oX4 xn ek ef ew ep es (nI n) (nI sn) dn]) hP hD hS hA [25] (by decide) rfl
    have hPc := hpd9.1
    have hDc := hpd9.2.1
    have hFc := hpd9.2.2
    clear hpd9
    refine va_calli (va_runV (As := [Value.int j]) (rest := []) ⟨hx, hb, hml, hown, hts⟩ (c_X4_has l dC dI aC H.size xn ek ef ew ep es (nI n) (nI sn) dn j ) ⟨(callB_of 1 hts (gG kw_340) rfl rfl rfl (hts _ (gw kw_2 rfl)) (hts _ (gw kw_337 rfl)) hd_X4_has ⟨Nat.le_of_ble_eq_true rfl, Nat.le_of_ble_eq_true rfl⟩), (hts _ (gw kw_338 rfl)), (hts _ (gw kw_339 rfl))⟩ ⟨fb_std, va_recv (q := (RX4, TX4, 8)) hK hPc (ci := 4) (q0 := 0) rfl rfl, pre_std hPc hK hDc hN⟩ rfl rfl hl.1 rfl (lv_room (Nat.le_of_ble_eq_true rfl)) dX11_offered_16 ⟨Nat.le_of_ble_eq_true rfl, Nat.le_of_ble_eq_true rfl⟩) hS (fun q _ h => hFc q h) hFc (fun x_5 u9 t9 H1 locs ht hvm hw_5 hB hz1 hk1 hS => ?_)
    obtain ⟨hP1, hK1, hD1⟩ := hB
    rw [ht] at hP1
    clear hK1
    try dsimp only at hw_5
    have hpd9 : PDx (dC, dI) classes A H1 (wp [oX11 h0 xp xtp xn xt xk xl xc xo xto xr xch ts ik st, oX9 xp po pp ps pa pe pb xn pk pu pw pq pt un fw, cI aC ek 8 kf, cI aC ef 8 ff, cI aC ew 8 wf, cI aC es 5 stf, cA aC po 8 fo, cA aC pp 8 fp, cA aC ps 8 fs, cK aC pk 7 fk, cO k0 0 [], cO k1 1 [], cO k2 3 [], cO k3 5 [], cO k4 6 [], cO k5 10 [], cO k6 8 [], cI aC pa 8 yf, cI aC pe 8 ef0, cI aC pb 8 bf, cI aC pu 7 uf, cI aC pw 7 vf, cI aC pq 128 qf, cI aC pt 128 tf, cI aC xr 7 rf, oX4 xn ek ef ew ep es (nI n) (nI sn) dn] (va_pl L (plE aC g))) := jn_Q (wr := [oX11 h0 xp xtp xn xt xk xl xc xo xto xr xch ts ik st, oX9 xp po pp ps pa pe pb xn pk pu pw pq pt un fw, cI aC ek 8 kf, cI aC ef 8 ff, cI aC ew 8 wf, cI aC es 5 stf, cA aC po 8 fo, cA aC pp 8 fp, cA aC ps 8 fs, cK aC pk 7 fk, cO k0 0 [], cO k1 1 [], cO k2 3 [], cO k3 5 [], cO k4 6 [], cO k5 10 [], cO k6 8 [], cI aC pa 8 yf, cI aC pe 8 ef0, cI aC pb 8 bf, cI aC pu 7 uf, cI aC pw 7 vf, cI aC pq 128 qf, cI aC pt 128 tf, cI aC xr 7 rf]) hFc hk1 hP1 hD1 hP hD [25] [0, 1, 2, 3, 4, 5, 6, 7, 8, 9, 10, 11, 12, 13, 14, 15, 16, 17, 18, 19, 20, 21, 22, 23, 24] rfl rfl (by decide) (by decide)
    have hP := hpd9.1
    have hD := hpd9.2
    clear hpd9
    generalize H1 = H at hP hS ⊢
    clear hPc hDc hFc hz1 hk1 hP1 hD1 ht hvm
    have hz_16 := hw_5
    refine lv_if_eq (tgt := 41) hx hb dX11_offered_19 (by decide) (fun c_6 => ?_) (fun c_6 => ?_)
    · refine lv_aload_n hx hb dX11_offered_41 rfl (lv_at hl 0 rfl) ?_
      refine lv_iconst (v := -1) hx hb dX11_offered_42 (by decide) ?_
      have hpd9 := pdf_N (cx := [oX11 h0 xp xtp xn xt xk xl xc xo xto xr xch ts ik st, cI aC xr 7 rf]) hP hD hS hA [0, 24] (by decide) rfl
      have hPc := hpd9.1
      have hDc := hpd9.2.1
      have hFc := hpd9.2.2
      clear hpd9
      refine va_calli (va_runV (As := [Value.int (-1)]) (rest := []) ⟨hx, hb, hml, hown, hts⟩ (c_X11_refuse l dC dI aC H.size h0 xp xtp xn xt xk xl xc xo xto xr xch ts ik st (-1) 1 rf (by decide) (by decide) (by decide) (by unfold vp_in; decide)) ⟨(callB_of 1 hts (gG kw_276) rfl rfl rfl (hts _ (gw kw_1 rfl)) (hts _ (gw kw_273 rfl)) hd_X11_refuse ⟨Nat.le_of_ble_eq_true rfl, Nat.le_of_ble_eq_true rfl⟩), (hts _ (gw kw_275 rfl)), (hts _ (gw ks_0 rfl))⟩ ⟨fb_std, va_recv (q := (RX11, TX11, 14)) hK hPc (ci := 11) (q0 := 0) rfl rfl, pre_std hPc hK hDc hN⟩ rfl rfl hl.1 rfl (lv_room (Nat.le_of_ble_eq_true rfl)) dX11_offered_43 ⟨Nat.le_of_ble_eq_true rfl, Nat.le_of_ble_eq_true rfl⟩) hS (fun q _ h => hFc q h) hFc (fun x_7 u9 t9 H1 locs ht hvm hw_7 hB hz1 hk1 hS => ?_)
      obtain ⟨u_8, rfl⟩ : ∃ z, z = u9 := ⟨_, rfl⟩
      obtain ⟨hP1, hK1, hD1⟩ := hB
      rw [ht] at hP1
      clear hK1
      try dsimp only at hw_7
      have hpd9 : PDx (dC, dI) classes A H1 (wp [oX9 xp po pp ps pa pe pb xn pk pu pw pq pt un fw, cI aC ek 8 kf, cI aC ef 8 ff, cI aC ew 8 wf, cI aC es 5 stf, cA aC po 8 fo, cA aC pp 8 fp, cA aC ps 8 fs, cK aC pk 7 fk, cO k0 0 [], cO k1 1 [], cO k2 3 [], cO k3 5 [], cO k4 6 [], cO k5 10 [], cO k6 8 [], cI aC pa 8 yf, cI aC pe 8 ef0, cI aC pb 8 bf, cI aC pu 7 uf, cI aC pw 7 vf, cI aC pq 128 qf, cI aC pt 128 tf, oX4 xn ek ef ew ep es (nI n) (nI sn) dn, oX11 h0 xp xtp xn xt xk xl xc xo xto xr xch ts ik st, cI aC xr 7 u_8] (va_pl L (plE aC g))) := jn_Q (wr := [oX9 xp po pp ps pa pe pb xn pk pu pw pq pt un fw, cI aC ek 8 kf, cI aC ef 8 ff, cI aC ew 8 wf, cI aC es 5 stf, cA aC po 8 fo, cA aC pp 8 fp, cA aC ps 8 fs, cK aC pk 7 fk, cO k0 0 [], cO k1 1 [], cO k2 3 [], cO k3 5 [], cO k4 6 [], cO k5 10 [], cO k6 8 [], cI aC pa 8 yf, cI aC pe 8 ef0, cI aC pb 8 bf, cI aC pu 7 uf, cI aC pw 7 vf, cI aC pq 128 qf, cI aC pt 128 tf, oX4 xn ek ef ew ep es (nI n) (nI sn) dn]) hFc hk1 hP1 hD1 hP hD [0, 24] [1, 2, 3, 4, 5, 6, 7, 8, 9, 10, 11, 12, 13, 14, 15, 16, 17, 18, 19, 20, 21, 22, 23, 25] rfl rfl (by decide) (by decide)
      have hP := hpd9.1
      have hD := hpd9.2
      clear hpd9
      generalize H1 = H at hP hS ⊢
      clear hPc hDc hFc hz1 hk1 hP1 hD1 ht hvm
      obtain ⟨hv9, -⟩ := hw_7
      have hpd9 := pd_P (cx := [oX11 h0 xp xtp xn xt xk xl xc xo xto xr xch ts ik st, oX9 xp po pp ps pa pe pb xn pk pu pw pq pt un fw, oX4 xn ek ef ew ep es (nI n) (nI sn) dn, cI aC ek 8 kf, cI aC ef 8 ff, cI aC ew 8 wf, cI aC es 5 stf, cA aC po 8 fo, cA aC pp 8 fp, cA aC ps 8 fs, cK aC pk 7 fk, cO k0 0 [], cO k1 1 [], cO k2 3 [], cO k3 5 [], cO k4 6 [], cO k5 10 [], cO k6 8 [], cI aC pa 8 yf, cI aC pe 8 ef0, cI aC pb 8 bf, cI aC pu 7 uf, cI aC pw 7 vf, cI aC pq 128 qf, cI aC pt 128 tf, cI aC xr 7 u_8]) hP hD [24, 0, 23, 1, 2, 3, 4, 5, 6, 7, 8, 9, 10, 11, 12, 13, 14, 15, 16, 17, 18, 19, 20, 21, 22, 25] (by decide) rfl
      have hP9 := hpd9.1
      have hD9 := hpd9.2
      refine W.widen (k := 0) (n := 0) (by omega) (by omega) ?_
      exact W.iret (v := x_7) hx hb hr (fun t ht hW => ⟨⟨x_7, (un, fw, uf, vf, qf, tf, bf, yf, ef0, g, u_8, st), rfl, ⟨hst, fun a _ => rfl, by rw [hv9]; unfold rOff; rw [if_neg (fun q => (has_n hz_16 c_6) q.2.1)]⟩, by rw [ht]; exact hP9, va_K.moved hW.alike hK, hD9⟩, hS.F ht⟩) hS.2.2 dX11_offered_46
    · obtain ⟨b, hb8, hb9⟩ := OKI_ix hn8 (has_y hz_16 c_6)
      have h9 : j = nI b := hb9
      subst h9
      refine lv_iload_n hx hb dX11_offered_22 rfl (lv_at hl 2 rfl) ?_
      refine lv_iload_n hx hb dX11_offered_23 rfl (lv_at hl 1 rfl) ?_
      refine lv_icmp_lt (tgt := 41) hx hb dX11_offered_24 (by decide) (fun c_9 => ?_) (fun c_9 => ?_)
      · refine lv_aload_n hx hb dX11_offered_41 rfl (lv_at hl 0 rfl) ?_
        refine lv_iconst (v := -1) hx hb dX11_offered_42 (by decide) ?_
        have hpd9 := pdf_N (cx := [oX11 h0 xp xtp xn xt xk xl xc xo xto xr xch ts ik st, cI aC xr 7 rf]) hP hD hS hA [0, 24] (by decide) rfl
        have hPc := hpd9.1
        have hDc := hpd9.2.1
        have hFc := hpd9.2.2
        clear hpd9
        refine va_calli (va_runV (As := [Value.int (-1)]) (rest := []) ⟨hx, hb, hml, hown, hts⟩ (c_X11_refuse l dC dI aC H.size h0 xp xtp xn xt xk xl xc xo xto xr xch ts ik st (-1) 1 rf (by decide) (by decide) (by decide) (by unfold vp_in; decide)) ⟨(callB_of 1 hts (gG kw_276) rfl rfl rfl (hts _ (gw kw_1 rfl)) (hts _ (gw kw_273 rfl)) hd_X11_refuse ⟨Nat.le_of_ble_eq_true rfl, Nat.le_of_ble_eq_true rfl⟩), (hts _ (gw kw_275 rfl)), (hts _ (gw ks_0 rfl))⟩ ⟨fb_std, va_recv (q := (RX11, TX11, 14)) hK hPc (ci := 11) (q0 := 0) rfl rfl, pre_std hPc hK hDc hN⟩ rfl rfl hl.1 rfl (lv_room (Nat.le_of_ble_eq_true rfl)) dX11_offered_43 ⟨Nat.le_of_ble_eq_true rfl, Nat.le_of_ble_eq_true rfl⟩) hS (fun q _ h => hFc q h) hFc (fun x_10 u9 t9 H1 locs ht hvm hw_10 hB hz1 hk1 hS => ?_)
        obtain ⟨u_11, rfl⟩ : ∃ z, z = u9 := ⟨_, rfl⟩
        obtain ⟨hP1, hK1, hD1⟩ := hB
        rw [ht] at hP1
        clear hK1
        try dsimp only at hw_10
        have hpd9 : PDx (dC, dI) classes A H1 (wp [oX9 xp po pp ps pa pe pb xn pk pu pw pq pt un fw, cI aC ek 8 kf, cI aC ef 8 ff, cI aC ew 8 wf, cI aC es 5 stf, cA aC po 8 fo, cA aC pp 8 fp, cA aC ps 8 fs, cK aC pk 7 fk, cO k0 0 [], cO k1 1 [], cO k2 3 [], cO k3 5 [], cO k4 6 [], cO k5 10 [], cO k6 8 [], cI aC pa 8 yf, cI aC pe 8 ef0, cI aC pb 8 bf, cI aC pu 7 uf, cI aC pw 7 vf, cI aC pq 128 qf, cI aC pt 128 tf, oX4 xn ek ef ew ep es (nI n) (nI sn) dn, oX11 h0 xp xtp xn xt xk xl xc xo xto xr xch ts ik st, cI aC xr 7 u_11] (va_pl L (plE aC g))) := jn_Q (wr := [oX9 xp po pp ps pa pe pb xn pk pu pw pq pt un fw, cI aC ek 8 kf, cI aC ef 8 ff, cI aC ew 8 wf, cI aC es 5 stf, cA aC po 8 fo, cA aC pp 8 fp, cA aC ps 8 fs, cK aC pk 7 fk, cO k0 0 [], cO k1 1 [], cO k2 3 [], cO k3 5 [], cO k4 6 [], cO k5 10 [], cO k6 8 [], cI aC pa 8 yf, cI aC pe 8 ef0, cI aC pb 8 bf, cI aC pu 7 uf, cI aC pw 7 vf, cI aC pq 128 qf, cI aC pt 128 tf, oX4 xn ek ef ew ep es (nI n) (nI sn) dn]) hFc hk1 hP1 hD1 hP hD [0, 24] [1, 2, 3, 4, 5, 6, 7, 8, 9, 10, 11, 12, 13, 14, 15, 16, 17, 18, 19, 20, 21, 22, 23, 25] rfl rfl (by decide) (by decide)
        have hP := hpd9.1
        have hD := hpd9.2
        clear hpd9
        generalize H1 = H at hP hS ⊢
        clear hPc hDc hFc hz1 hk1 hP1 hD1 ht hvm
        obtain ⟨hv9, -⟩ := hw_10
        have hpd9 := pd_P (cx := [oX11 h0 xp xtp xn xt xk xl xc xo xto xr xch ts ik st, oX9 xp po pp ps pa pe pb xn pk pu pw pq pt un fw, oX4 xn ek ef ew ep es (nI n) (nI sn) dn, cI aC ek 8 kf, cI aC ef 8 ff, cI aC ew 8 wf, cI aC es 5 stf, cA aC po 8 fo, cA aC pp 8 fp, cA aC ps 8 fs, cK aC pk 7 fk, cO k0 0 [], cO k1 1 [], cO k2 3 [], cO k3 5 [], cO k4 6 [], cO k5 10 [], cO k6 8 [], cI aC pa 8 yf, cI aC pe 8 ef0, cI aC pb 8 bf, cI aC pu 7 uf, cI aC pw 7 vf, cI aC pq 128 qf, cI aC pt 128 tf, cI aC xr 7 u_11]) hP hD [24, 0, 23, 1, 2, 3, 4, 5, 6, 7, 8, 9, 10, 11, 12, 13, 14, 15, 16, 17, 18, 19, 20, 21, 22, 25] (by decide) rfl
        have hP9 := hpd9.1
        have hD9 := hpd9.2
        refine W.widen (k := 0) (n := 0) (by omega) (by omega) ?_
        exact W.iret (v := x_10) hx hb hr (fun t ht hW => ⟨⟨x_10, (un, fw, uf, vf, qf, tf, bf, yf, ef0, g, u_11, st), rfl, ⟨hst, fun a _ => rfl, by rw [hv9]; unfold rOff; rw [if_neg (fun q => q.2.2 c_9)]⟩, by rw [ht]; exact hP9, va_K.moved hW.alike hK, hD9⟩, hS.F ht⟩) hS.2.2 dX11_offered_46
      · refine lv_aload_n hx hb dX11_offered_27 rfl (lv_at hl 0 rfl) ?_
        have hpd9 := pdf_P (cx := [oX11 h0 xp xtp xn xt xk xl xc xo xto xr xch ts ik st, oX9 xp po pp ps pa pe pb xn pk pu pw pq pt un fw, oX4 xn ek ef ew ep es (nI n) (nI sn) dn, cI aC ek 8 kf, cI aC ef 8 ff, cI aC ew 8 wf, cI aC es 5 stf, cA aC po 8 fo, cA aC pp 8 fp, cA aC ps 8 fs, cK aC pk 7 fk, cO k0 0 [], cO k1 1 [], cO k2 3 [], cO k3 5 [], cO k4 6 [], cO k5 10 [], cO k6 8 [], cI aC pa 8 yf, cI aC pe 8 ef0, cI aC pb 8 bf, cI aC pu 7 uf, cI aC pw 7 vf, cI aC pq 128 qf, cI aC pt 128 tf]) hP hD hS hA [0, 1, 25, 2, 3, 4, 5, 6, 7, 8, 9, 10, 11, 12, 13, 14, 15, 16, 17, 18, 19, 20, 21, 22, 23] (by decide) rfl
        have hPc := hpd9.1
        have hDc := hpd9.2.1
        have hFc := hpd9.2.2
        clear hpd9
        refine va_callr (va_runV (As := []) (rest := []) ⟨hx, hb, hml, hown, hts⟩ (c_X11_solved l dC dI aC H.size h0 xp xtp xn xt xk xl xc xo xto xr xch ts ik st po pp ps pa pe pb pk pu pw pq pt un fw ek ef ew ep es n sn dn kf ff wf stf K F W0 S5 L g fo fp fs ro rp rs fk k0 k1 k2 k3 k4 k5 k6 uf vf qf tf bf yf ef0 (hgr) (hev) (hkd) (hst)) ⟨(callB_of 0 hts (gG kw_353) rfl rfl rfl (hts _ (gw kw_1 rfl)) (hts _ (gw kw_350 rfl)) hd_X11_solved ⟨Nat.le_of_ble_eq_true rfl, Nat.le_of_ble_eq_true rfl⟩), (hts _ (gw kw_352 rfl)), (hts _ (gw ks_6 rfl))⟩ ⟨fb_std, va_recv (q := (RX11, TX11, 14)) hK hPc (ci := 11) (q0 := 0) rfl rfl, pre_std hPc hK hDc hN⟩ rfl rfl hl.1 rfl (lv_room (Nat.le_of_ble_eq_true rfl)) dX11_offered_28 ⟨Nat.le_of_ble_eq_true rfl, Nat.le_of_ble_eq_true rfl⟩) hS (fun q _ h => hFc q h) hFc (fun u9 q_12 t9 H1 locs ht hvm hw_12 hB hz1 hk1 hS => ?_)
        obtain ⟨u_13, u_14, u_15, u_16, u_17, u_18, u_19, u_20, u_21, u_22⟩ := u9
        obtain ⟨q_12_e, hP1, hK1, hD1⟩ := hB
        rw [ht] at hP1
        clear hK1
        try dsimp only at hw_12
        have hpd9 : PDx (dC, dI) classes A H1 (wp [cI aC xr 7 rf, oX11 h0 xp xtp xn xt xk xl xc xo xto xr xch ts ik 0, oX9 xp po pp ps pa pe pb xn pk pu pw pq pt u_13 u_14, oX4 xn ek ef ew ep es (nI n) (nI sn) dn, cI aC ek 8 kf, cI aC ef 8 ff, cI aC ew 8 wf, cI aC es 5 stf, cA aC po 8 fo, cA aC pp 8 fp, cA aC ps 8 fs, cK aC pk 7 fk, cO k0 0 [], cO k1 1 [], cO k2 3 [], cO k3 5 [], cO k4 6 [], cO k5 10 [], cO k6 8 [], cI aC pa 8 u_20, cI aC pe 8 u_21, cI aC pb 8 u_19, cI aC pu 7 u_15, cI aC pw 7 u_16, cI aC pq 128 u_17, cI aC pt 128 u_18] (va_pl L (plE aC u_22))) := jn_P (wr := [cI aC xr 7 rf]) hFc hk1 hP1 hD1 hP hD [0, 1, 25, 2, 3, 4, 5, 6, 7, 8, 9, 10, 11, 12, 13, 14, 15, 16, 17, 18, 19, 20, 21, 22, 23] [24] rfl rfl (by decide) (by decide)
        have hP := hpd9.1
        have hD := hpd9.2
        clear hpd9
        generalize H1 = H at hP hS ⊢
        clear hPc hDc hFc hz1 hk1 hP1 hD1 ht hvm
        have h9 := q_12_e.symm
        subst h9
        obtain ⟨hm1, hm2⟩ := hw_12
        refine va_get (D := (dC, dI)) (ci := 9) (v := Value.ref po) (C := RX9) (T := TX9) (N := 14) hx hb hts inX9 hown hK hP 2 rfl rfl 0 (by decide) (hts _ (gw kw_151 rfl)) (fun _ h9 => h9) rfl dX11_offered_31 ?_
        refine lv_iload_n hx hb dX11_offered_34 rfl (lv_at hl 1 rfl) ?_
        have h_23 : vp_in (nI a) 8 := by first | exact vp_in_nI (by omega) (by omega) | (unfold vp_in; decide) | (subst_vars; first | (unfold vp_in; decide) | exact vp_in_nI (by omega) (by omega))
        refine va_alda (r := ro a) hx hb hK hP 8 rfl h_23 (by rw [nI_clamp (by omega)]; exact (hgr.1 a (by omega)).1.1) dX11_offered_35 ?_
        refine lv_iload_n hx hb dX11_offered_36 rfl (lv_at hl 2 rfl) ?_
        have h_24 : vp_in (nI b) 8 := by first | exact vp_in_nI (by omega) (by omega) | (unfold vp_in; decide) | (subst_vars; first | (unfold vp_in; decide) | exact vp_in_nI (by omega) (by omega))
        refine pl_iald hx hb hK hP ((hgr.1 a (by omega)).1.2) h_24 dX11_offered_37 ?_
        refine lv_topi (fun x_25 e_25 => ?_)
        refine lv_goto (tgt := 46) hx hb dX11_offered_38 (by decide) ?_
        have hpd9 := pd_P (cx := [oX11 h0 xp xtp xn xt xk xl xc xo xto xr xch ts ik 0, oX9 xp po pp ps pa pe pb xn pk pu pw pq pt u_13 u_14, oX4 xn ek ef ew ep es (nI n) (nI sn) dn, cI aC ek 8 kf, cI aC ef 8 ff, cI aC ew 8 wf, cI aC es 5 stf, cA aC po 8 fo, cA aC pp 8 fp, cA aC ps 8 fs, cK aC pk 7 fk, cO k0 0 [], cO k1 1 [], cO k2 3 [], cO k3 5 [], cO k4 6 [], cO k5 10 [], cO k6 8 [], cI aC pa 8 u_20, cI aC pe 8 u_21, cI aC pb 8 u_19, cI aC pu 7 u_15, cI aC pw 7 u_16, cI aC pq 128 u_17, cI aC pt 128 u_18, cI aC xr 7 rf]) hP hD [1, 2, 3, 4, 5, 6, 7, 8, 9, 10, 11, 12, 13, 14, 15, 16, 17, 18, 19, 20, 21, 22, 23, 24, 25, 0] (by decide) rfl
        have hP9 := hpd9.1
        have hD9 := hpd9.2
        refine W.widen (k := 0) (n := 0) (by omega) (by omega) ?_
        exact W.iret (v := x_25) hx hb hr (fun t ht hW => ⟨⟨x_25, (u_13, u_14, u_15, u_16, u_17, u_18, u_19, u_20, u_21, u_22, rf, 0), rfl, ⟨Or.inr ⟨rfl, hm1⟩, hm2, by rw [e_25, nI_clamp (by omega)]; unfold rOff; rw [if_pos ⟨OKI_nI hn8 ha8, OKI_nI hn8 hb8, c_9⟩, nI_clamp (by omega), nI_clamp (by omega)]; exact (hm1 a ha8).2.1 b (by omega)⟩, by rw [ht]; exact hP9, va_K.moved hW.alike hK, hD9⟩, hS.F ht⟩) hS.2.2 dX11_offered_46

set_option maxHeartbeats 1000000 in
set_option maxRecDepth 100000 in
/-- X11_gets -/
theorem c_X11_gets (l : Launch) (dC : Nat → ClassId) (dI : Nat → Nat → Nat) (aC : Nat → ClassId) (sz : Nat) (h0 : Nat) (xp : Nat) (xtp : Nat) (xn : Nat) (xt : Nat) (xk : Nat) (xl : Nat) (xc : Nat) (xo : Nat) (xto : Nat) (xr : Nat) (xch : Nat) (ts : Int32) (ik : Int32) (st : Int32) (po : Nat) (pp : Nat) (ps : Nat) (pa : Nat) (pe : Nat) (pb : Nat) (pk : Nat) (pu : Nat) (pw : Nat) (pq : Nat) (pt : Nat) (un : Int32) (fw : Int32) (ek : Nat) (ef : Nat) (ew : Nat) (ep : Nat) (es : Nat) (n : Nat) (sn : Nat) (dn : Int32) (kf : Nat → Int32) (ff : Nat → Int32) (wf : Nat → Int32) (stf : Nat → Int32) (K : Nat → Nat) (F : Nat → Nat) (W0 : Nat → Nat) (S5 : Nat → Nat) (L : List Nat) (g : Nat → Nat → Int32) (fo : Nat → Option Nat) (fp : Nat → Option Nat) (fs : Nat → Option Nat) (ro : Nat → Nat) (rp : Nat → Nat) (rs : Nat → Nat) (fk : Nat → Option Nat) (k0 : Nat) (k1 : Nat) (k2 : Nat) (k3 : Nat) (k4 : Nat) (k5 : Nat) (k6 : Nat) (uf : Nat → Int32) (vf : Nat → Int32) (qf : Nat → Int32) (tf : Nat → Int32) (bf : Nat → Int32) (yf : Nat → Int32) (ef0 : Nat → Int32) (rf : Nat → Int32) (i : Int32) (j : Int32) (hgr : GRD L fo fp fs ro rp rs) (hev : EVS n sn dn K F W0 S5 kf ff wf stf) (hkd : KDS fk k0 k1 k2 k3 k4 k5 k6) (hst : STL st n (PO n K F W0 S5) ro rp rs g yf ef0 bf) : Met l yX11_gets (wW yX11_gets cX11_gets 3 (some .int)) ({ frames := 7, cells := 0, slots := 0, locals := 151 } : Room) (va_Pc [Value.ref h0, Value.int i, Value.int j] (fun U => U.heap.size = sz ∧ va_P (dC, dI) classes (wp [oX11 h0 xp xtp xn xt xk xl xc xo xto xr xch ts ik st, oX9 xp po pp ps pa pe pb xn pk pu pw pq pt un fw, oX4 xn ek ef ew ep es (nI n) (nI sn) dn, cI aC ek 8 kf, cI aC ef 8 ff, cI aC ew 8 wf, cI aC es 5 stf, cA aC po 8 fo, cA aC pp 8 fp, cA aC ps 8 fs, cK aC pk 7 fk, cO k0 0 [], cO k1 1 [], cO k2 3 [], cO k3 5 [], cO k4 6 [], cO k5 10 [], cO k6 8 [], cI aC pa 8 yf, cI aC pe 8 ef0, cI aC pb 8 bf, cI aC pu 7 uf, cI aC pw 7 vf, cI aC pq 128 qf, cI aC pt 128 tf, cI aC xr 7 rf] (va_pl L (plE aC g))) U.heap ∧ va_K (dC, dI) classes (TY aC) U ∧ va_D (fun _ => True) (wp [oX11 h0 xp xtp xn xt xk xl xc xo xto xr xch ts ik st, oX9 xp po pp ps pa pe pb xn pk pu pw pq pt un fw, oX4 xn ek ef ew ep es (nI n) (nI sn) dn, cI aC ek 8 kf, cI aC ef 8 ff, cI aC ew 8 wf, cI aC es 5 stf, cA aC po 8 fo, cA aC pp 8 fp, cA aC ps 8 fs, cK aC pk 7 fk, cO k0 0 [], cO k1 1 [], cO k2 3 [], cO k3 5 [], cO k4 6 [], cO k5 10 [], cO k6 8 [], cI aC pa 8 yf, cI aC pe 8 ef0, cI aC pb 8 bf, cI aC pu 7 uf, cI aC pw 7 vf, cI aC pq 128 qf, cI aC pt 128 tf, cI aC xr 7 rf] (va_pl L (plE aC g))) ∧ NX U)) (va_Qi (fun (r : Int32) (u : Int32 × Int32 × (Nat → Int32) × (Nat → Int32) × (Nat → Int32) × (Nat → Int32) × (Nat → Int32) × (Nat → Int32) × (Nat → Int32) × (Nat → Nat → Int32) × (Nat → Int32) × Int32) => match u with | (un2, fw2, ug, vg, qg, tg, bg, yg, eg, g2, rf2, st2) => STL st2 n (PO n K F W0 S5) ro rp rs g2 yg eg bg ∧ (∀ a, OFF ro rp rs a → g2 a = g a) ∧ r = rGet n (PO n K F W0 S5) i j) (fun (u : Int32 × Int32 × (Nat → Int32) × (Nat → Int32) × (Nat → Int32) × (Nat → Int32) × (Nat → Int32) × (Nat → Int32) × (Nat → Int32) × (Nat → Nat → Int32) × (Nat → Int32) × Int32) (t : State) => match u with | (un2, fw2, ug, vg, qg, tg, bg, yg, eg, g2, rf2, st2) => va_P (dC, dI) classes (wp [oX11 h0 xp xtp xn xt xk xl xc xo xto xr xch ts ik st2, oX9 xp po pp ps pa pe pb xn pk pu pw pq pt un2 fw2, oX4 xn ek ef ew ep es (nI n) (nI sn) dn, cI aC ek 8 kf, cI aC ef 8 ff, cI aC ew 8 wf, cI aC es 5 stf, cA aC po 8 fo, cA aC pp 8 fp, cA aC ps 8 fs, cK aC pk 7 fk, cO k0 0 [], cO k1 1 [], cO k2 3 [], cO k3 5 [], cO k4 6 [], cO k5 10 [], cO k6 8 [], cI aC pa 8 yg, cI aC pe 8 eg, cI aC pb 8 bg, cI aC pu 7 ug, cI aC pw 7 vg, cI aC pq 128 qg, cI aC pt 128 tg, cI aC xr 7 rf2] (va_pl L (plE aC g2))) t.heap ∧ va_K (dC, dI) classes (TY aC) t ∧ va_D (va_A (wp [oX11 h0 xp xtp xn xt xk xl xc xo xto xr xch ts ik st, oX9 xp po pp ps pa pe pb xn pk pu pw pq pt un fw, oX4 xn ek ef ew ep es (nI n) (nI sn) dn, cI aC ek 8 kf, cI aC ef 8 ff, cI aC ew 8 wf, cI aC es 5 stf, cA aC po 8 fo, cA aC pp 8 fp, cA aC ps 8 fs, cK aC pk 7 fk, cO k0 0 [], cO k1 1 [], cO k2 3 [], cO k3 5 [], cO k4 6 [], cO k5 10 [], cO k6 8 [], cI aC pa 8 yf, cI aC pe 8 ef0, cI aC pb 8 bf, cI aC pu 7 uf, cI aC pw 7 vf, cI aC pq 128 qf, cI aC pt 128 tf, cI aC xr 7 rf] (va_pl L (plE aC g))) sz) (wp [oX11 h0 xp xtp xn xt xk xl xc xo xto xr xch ts ik st2, oX9 xp po pp ps pa pe pb xn pk pu pw pq pt un2 fw2, oX4 xn ek ef ew ep es (nI n) (nI sn) dn, cI aC ek 8 kf, cI aC ef 8 ff, cI aC ew 8 wf, cI aC es 5 stf, cA aC po 8 fo, cA aC pp 8 fp, cA aC ps 8 fs, cK aC pk 7 fk, cO k0 0 [], cO k1 1 [], cO k2 3 [], cO k3 5 [], cO k4 6 [], cO k5 10 [], cO k6 8 [], cI aC pa 8 yg, cI aC pe 8 eg, cI aC pb 8 bg, cI aC pu 7 ug, cI aC pw 7 vg, cI aC pq 128 qg, cI aC pt 128 tg, cI aC xr 7 rf2] (va_pl L (plE aC g2)))) (va_A (wp [oX11 h0 xp xtp xn xt xk xl xc xo xto xr xch ts ik st, oX9 xp po pp ps pa pe pb xn pk pu pw pq pt un fw, oX4 xn ek ef ew ep es (nI n) (nI sn) dn, cI aC ek 8 kf, cI aC ef 8 ff, cI aC ew 8 wf, cI aC es 5 stf, cA aC po 8 fo, cA aC pp 8 fp, cA aC ps 8 fs, cK aC pk 7 fk, cO k0 0 [], cO k1 1 [], cO k2 3 [], cO k3 5 [], cO k4 6 [], cO k5 10 [], cO k6 8 [], cI aC pa 8 yf, cI aC pe 8 ef0, cI aC pb 8 bf, cI aC pu 7 uf, cI aC pw 7 vf, cI aC pq 128 qf, cI aC pt 128 tf, cI aC xr 7 rf] (va_pl L (plE aC g))) sz)) 0 0 (va_A (wp [oX11 h0 xp xtp xn xt xk xl xc xo xto xr xch ts ik st, oX9 xp po pp ps pa pe pb xn pk pu pw pq pt un fw, oX4 xn ek ef ew ep es (nI n) (nI sn) dn, cI aC ek 8 kf, cI aC ef 8 ff, cI aC ew 8 wf, cI aC es 5 stf, cA aC po 8 fo, cA aC pp 8 fp, cA aC ps 8 fs, cK aC pk 7 fk, cO k0 0 [], cO k1 1 [], cO k2 3 [], cO k3 5 [], cO k4 6 [], cO k5 10 [], cO k6 8 [], cI aC pa 8 yf, cI aC pe 8 ef0, cI aC pb 8 bf, cI aC pu 7 uf, cI aC pw 7 vf, cI aC pq 128 qf, cI aC pt 128 tf, cI aC xr 7 rf] (va_pl L (plE aC g))) sz) := by
  refine Met.ofW (cc := cX11_gets) (maxL := 3) (ret := (some .int)) (by decide) rfl ?_
  intro p e s m args below meth c s₁ B hml hv
  obtain ⟨rfl, hsz, hP, hK, hD0, hN⟩ := hv
  have hx := B.exec
  have hb := B.bytes
  have hr := B.returns
  have hts0 := atoms_spec (ws := (wW yX11_gets cX11_gets 3 (some .int))) B.pre
  have hts : ∀ w9 ∈ lw_G, w9.before ([Value.ref h0, Value.int i, Value.int j] : List Value).toArray s = true := fun w9 h9 => hts0 w9 (List.mem_cons_of_mem _ h9)
  have hown : s.vm.findClass RX11 = some m.cls := findClass_of_methodNamed (x := yX11_gets) B.named
  have hlocks := B.notSynchronized
  subst hsz
  have hD := hD0.self (sz := s.heap.size)
  generalize hAe : va_A (wp [oX11 h0 xp xtp xn xt xk xl xc xo xto xr xch ts ik st, oX9 xp po pp ps pa pe pb xn pk pu pw pq pt un fw, oX4 xn ek ef ew ep es (nI n) (nI sn) dn, cI aC ek 8 kf, cI aC ef 8 ff, cI aC ew 8 wf, cI aC es 5 stf, cA aC po 8 fo, cA aC pp 8 fp, cA aC ps 8 fs, cK aC pk 7 fk, cO k0 0 [], cO k1 1 [], cO k2 3 [], cO k3 5 [], cO k4 6 [], cO k5 10 [], cO k6 8 [], cI aC pa 8 yf, cI aC pe 8 ef0, cI aC pb 8 bf, cI aC pu 7 uf, cI aC pw 7 vf, cI aC pq 128 qf, cI aC pt 128 tf, cI aC xr 7 rf] (va_pl L (plE aC g))) s.heap.size = A at hD ⊢
  have hA : ∀ q : Nat, s.heap.size ≤ q → A q := fun q h => by rw [← hAe]; exact Or.inr h
  obtain ⟨H, hHe⟩ : ∃ H : Heap, H = s.heap := ⟨_, rfl⟩
  have hS : va_S A s.heap H [] := by rw [hHe]; exact va_S.rf
  have hP : va_P (dC, dI) classes (wp [oX11 h0 xp xtp xn xt xk xl xc xo xto xr xch ts ik st, oX9 xp po pp ps pa pe pb xn pk pu pw pq pt un fw, oX4 xn ek ef ew ep es (nI n) (nI sn) dn, cI aC ek 8 kf, cI aC ef 8 ff, cI aC ew 8 wf, cI aC es 5 stf, cA aC po 8 fo, cA aC pp 8 fp, cA aC ps 8 fs, cK aC pk 7 fk, cO k0 0 [], cO k1 1 [], cO k2 3 [], cO k3 5 [], cO k4 6 [], cO k5 10 [], cO k6 8 [], cI aC pa 8 yf, cI aC pe 8 ef0, cI aC pb 8 bf, cI aC pu 7 uf, cI aC pw 7 vf, cI aC pq 128 qf, cI aC pt 128 tf, cI aC xr 7 rf] (va_pl L (plE aC g))) H := by rw [hHe]; exact hP
  have hl := lv_entry ([Value.ref h0, Value.int i, Value.int j]) (n := 3) (Nat.le_of_ble_eq_true rfl)
  rw [lg_entry_eq]
  generalize (lg_sl ([Value.ref h0, Value.int i, Value.int j]) ++ List.replicate (3 - (lg_sl ([Value.ref h0, Value.int i, Value.int j])).length) Slot.unset).toArray = ls at hl ⊢
  have hl : lv_has ls 3 [(0, Value.ref h0), (1, Value.int i), (2, Value.int j)] := hl
  rw [← hHe]
  have hn8 := EVS_n hev
  refine lv_aload_n hx hb dX11_gets_0 rfl (lv_at hl 0 rfl) ?_
  refine va_get (D := (dC, dI)) (ci := 11) (v := Value.ref xn) (C := RX11) (T := TX11) (N := 14) hx hb hts inX11 hown hK hP 0 rfl rfl 2 (by decide) (hts _ (gw kw_228 rfl)) (fun _ h9 => h9) rfl dX11_gets_1 ?_
  refine lv_iload_n hx hb dX11_gets_4 rfl (lv_at hl 1 rfl) ?_
  have hpd9 := pdf_N (cx := [oX4 xn ek ef ew ep es (nI n) (nI sn) dn]) hP hD hS hA [2] (by decide) rfl
  have hPc := hpd9.1
  have hDc := hpd9.2.1
  have hFc := hpd9.2.2
  clear hpd9
  refine va_calli (va_runV (As := [Value.int i]) (rest := []) ⟨hx, hb, hml, hown, hts⟩ (c_X4_has l dC dI aC H.size xn ek ef ew ep es (nI n) (nI sn) dn i ) ⟨(callB_of 1 hts (gG kw_340) rfl rfl rfl (hts _ (gw kw_2 rfl)) (hts _ (gw kw_337 rfl)) hd_X4_has ⟨Nat.le_of_ble_eq_true rfl, Nat.le_of_ble_eq_true rfl⟩), (hts _ (gw kw_338 rfl)), (hts _ (gw kw_339 rfl))⟩ ⟨fb_std, va_recv (q := (RX4, TX4, 8)) hK hPc (ci := 4) (q0 := 0) rfl rfl, pre_std hPc hK hDc hN⟩ rfl rfl hl.1 rfl (lv_room (Nat.le_of_ble_eq_true rfl)) dX11_gets_5 ⟨Nat.le_of_ble_eq_true rfl, Nat.le_of_ble_eq_true rfl⟩) hS (fun q _ h => hFc q h) hFc (fun x_1 u9 t9 H1 locs ht hvm hw_1 hB hz1 hk1 hS => ?_)
  obtain ⟨hP1, hK1, hD1⟩ := hB
  rw [ht] at hP1
  clear hK1
  try dsimp only at hw_1
  have hpd9 : PDx (dC, dI) classes A H1 (wp [oX11 h0 xp xtp xn xt xk xl xc xo xto xr xch ts ik st, oX9 xp po pp ps pa pe pb xn pk pu pw pq pt un fw, cI aC ek 8 kf, cI aC ef 8 ff, cI aC ew 8 wf, cI aC es 5 stf, cA aC po 8 fo, cA aC pp 8 fp, cA aC ps 8 fs, cK aC pk 7 fk, cO k0 0 [], cO k1 1 [], cO k2 3 [], cO k3 5 [], cO k4 6 [], cO k5 10 [], cO k6 8 [], cI aC pa 8 yf, cI aC pe 8 ef0, cI aC pb 8 bf, cI aC pu 7 uf, cI aC pw 7 vf, cI aC pq 128 qf, cI aC pt 128 tf, cI aC xr 7 rf, oX4 xn ek ef ew ep es (nI n) (nI sn) dn] (va_pl L (plE aC g))) := jn_Q (wr := [oX11 h0 xp xtp xn xt xk xl xc xo xto xr xch ts ik st, oX9 xp po pp ps pa pe pb xn pk pu pw pq pt un fw, cI aC ek 8 kf, cI aC ef 8 ff, cI aC ew 8 wf, cI aC es 5 stf, cA aC po 8 fo, cA aC pp 8 fp, cA aC ps 8 fs, cK aC pk 7 fk, cO k0 0 [], cO k1 1 [], cO k2 3 [], cO k3 5 [], cO k4 6 [], cO k5 10 [], cO k6 8 [], cI aC pa 8 yf, cI aC pe 8 ef0, cI aC pb 8 bf, cI aC pu 7 uf, cI aC pw 7 vf, cI aC pq 128 qf, cI aC pt 128 tf, cI aC xr 7 rf]) hFc hk1 hP1 hD1 hP hD [2] [0, 1, 3, 4, 5, 6, 7, 8, 9, 10, 11, 12, 13, 14, 15, 16, 17, 18, 19, 20, 21, 22, 23, 24, 25] rfl rfl (by decide) (by decide)
  have hP := hpd9.1
  have hD := hpd9.2
  clear hpd9
  generalize H1 = H at hP hS ⊢
  clear hPc hDc hFc hz1 hk1 hP1 hD1 ht hvm
  have hz_5 := hw_1
  refine lv_if_eq (tgt := 27) hx hb dX11_gets_8 (by decide) (fun c_2 => ?_) (fun c_2 => ?_)
  · refine lv_ldc hx hb hown (hts _ (gw kw_507 rfl)) dX11_gets_27 ?_
    refine lv_aload_n hx hb dX11_gets_29 rfl (lv_at hl 0 rfl) ?_
    refine lv_iconst (v := -1) hx hb dX11_gets_30 (by decide) ?_
    have hpd9 := pdf_N (cx := [oX11 h0 xp xtp xn xt xk xl xc xo xto xr xch ts ik st, cI aC xr 7 rf]) hP hD hS hA [0, 24] (by decide) rfl
    have hPc := hpd9.1
    have hDc := hpd9.2.1
    have hFc := hpd9.2.2
    clear hpd9
    refine va_calli (va_runV (As := [Value.int (-1)]) (rest := [Value.int 1000000000]) ⟨hx, hb, hml, hown, hts⟩ (c_X11_refuse l dC dI aC H.size h0 xp xtp xn xt xk xl xc xo xto xr xch ts ik st (-1) 1 rf (by decide) (by decide) (by decide) (by unfold vp_in; decide)) ⟨(callB_of 1 hts (gG kw_276) rfl rfl rfl (hts _ (gw kw_1 rfl)) (hts _ (gw kw_273 rfl)) hd_X11_refuse ⟨Nat.le_of_ble_eq_true rfl, Nat.le_of_ble_eq_true rfl⟩), (hts _ (gw kw_275 rfl)), (hts _ (gw ks_0 rfl))⟩ ⟨fb_std, va_recv (q := (RX11, TX11, 14)) hK hPc (ci := 11) (q0 := 0) rfl rfl, pre_std hPc hK hDc hN⟩ rfl rfl hl.1 rfl (lv_room (Nat.le_of_ble_eq_true rfl)) dX11_gets_31 ⟨Nat.le_of_ble_eq_true rfl, Nat.le_of_ble_eq_true rfl⟩) hS (fun q _ h => hFc q h) hFc (fun x_3 u9 t9 H1 locs ht hvm hw_3 hB hz1 hk1 hS => ?_)
    obtain ⟨u_4, rfl⟩ : ∃ z, z = u9 := ⟨_, rfl⟩
    obtain ⟨hP1, hK1, hD1⟩ := hB
    rw [ht] at hP1
    clear hK1
    try dsimp only at hw_3
    have hpd9 : PDx (dC, dI) classes A H1 (wp [oX9 xp po pp ps pa pe pb xn pk pu pw pq pt un fw, cI aC ek 8 kf, cI aC ef 8 ff, cI aC ew 8 wf, cI aC es 5 stf, cA aC po 8 fo, cA aC pp 8 fp, cA aC ps 8 fs, cK aC pk 7 fk, cO k0 0 [], cO k1 1 [], cO k2 3 [], cO k3 5 [], cO k4 6 [], cO k5 10 [], cO k6 8 [], cI aC pa 8 yf, cI aC pe 8 ef0, cI aC pb 8 bf, cI aC pu 7 uf, cI aC pw 7 vf, cI aC pq 128 qf, cI aC pt 128 tf, oX4 xn ek ef ew ep es (nI n) (nI sn) dn, oX11 h0 xp xtp xn xt xk xl xc xo xto xr xch ts ik st, cI aC xr 7 u_4] (va_pl L (plE aC g))) := jn_Q (wr := [oX9 xp po pp ps pa pe pb xn pk pu pw pq pt un fw, cI aC ek 8 kf, cI aC ef 8 ff, cI aC ew 8 wf, cI aC es 5 stf, cA aC po 8 fo, cA aC pp 8 fp, cA aC ps 8 fs, cK aC pk 7 fk, cO k0 0 [], cO k1 1 [], cO k2 3 [], cO k3 5 [], cO k4 6 [], cO k5 10 [], cO k6 8 [], cI aC pa 8 yf, cI aC pe 8 ef0, cI aC pb 8 bf, cI aC pu 7 uf, cI aC pw 7 vf, cI aC pq 128 qf, cI aC pt 128 tf, oX4 xn ek ef ew ep es (nI n) (nI sn) dn]) hFc hk1 hP1 hD1 hP hD [0, 24] [1, 2, 3, 4, 5, 6, 7, 8, 9, 10, 11, 12, 13, 14, 15, 16, 17, 18, 19, 20, 21, 22, 23, 25] rfl rfl (by decide) (by decide)
    have hP := hpd9.1
    have hD := hpd9.2
    clear hpd9
    generalize H1 = H at hP hS ⊢
    clear hPc hDc hFc hz1 hk1 hP1 hD1 ht hvm
    obtain ⟨hv9, -⟩ := hw_3
    refine lv_isub hx hb dX11_gets_34 ?_
    refine lv_topi (fun x_5 e_5 => ?_)
    have hpd9 := pd_P (cx := [oX11 h0 xp xtp xn xt xk xl xc xo xto xr xch ts ik st, oX9 xp po pp ps pa pe pb xn pk pu pw pq pt un fw, oX4 xn ek ef ew ep es (nI n) (nI sn) dn, cI aC ek 8 kf, cI aC ef 8 ff, cI aC ew 8 wf, cI aC es 5 stf, cA aC po 8 fo, cA aC pp 8 fp, cA aC ps 8 fs, cK aC pk 7 fk, cO k0 0 [], cO k1 1 [], cO k2 3 [], cO k3 5 [], cO k4 6 [], cO k5 10 [], cO k6 8 [], cI aC pa 8 yf, cI aC pe 8 ef0, cI aC pb 8 bf, cI aC pu 7 uf, cI aC pw 7 vf, cI aC pq 128 qf, cI aC pt 128 tf, cI aC xr 7 u_4]) hP hD [24, 0, 23, 1, 2, 3, 4, 5, 6, 7, 8, 9, 10, 11, 12, 13, 14, 15, 16, 17, 18, 19, 20, 21, 22, 25] (by decide) rfl
    have hP9 := hpd9.1
    have hD9 := hpd9.2
    refine W.widen (k := 0) (n := 0) (by omega) (by omega) ?_
    exact W.iret (v := x_5) hx hb hr (fun t ht hW => ⟨⟨x_5, (un, fw, uf, vf, qf, tf, bf, yf, ef0, g, u_4, st), rfl, ⟨hst, fun a _ => rfl, by rw [e_5, hv9]; unfold rGet; rw [if_neg (fun q => (has_n hz_5 c_2) q.1)]; rfl⟩, by rw [ht]; exact hP9, va_K.moved hW.alike hK, hD9⟩, hS.F ht⟩) hS.2.2 dX11_gets_35
  · obtain ⟨a, ha8, ha9⟩ := OKI_ix hn8 (has_y hz_5 c_2)
    have h9 : i = nI a := ha9
    subst h9
    refine lv_aload_n hx hb dX11_gets_11 rfl (lv_at hl 0 rfl) ?_
    refine va_get (D := (dC, dI)) (ci := 11) (v := Value.ref xn) (C := RX11) (T := TX11) (N := 14) hx hb hts inX11 hown hK hP 0 rfl rfl 2 (by decide) (hts _ (gw kw_228 rfl)) (fun _ h9 => h9) rfl dX11_gets_12 ?_
    refine lv_iload_n hx hb dX11_gets_15 rfl (lv_at hl 2 rfl) ?_
    have hpd9 := pdf_N (cx := [oX4 xn ek ef ew ep es (nI n) (nI sn) dn]) hP hD hS hA [25] (by decide) rfl
    have hPc := hpd9.1
    have hDc := hpd9.2.1
    have hFc := hpd9.2.2
    clear hpd9
    refine va_calli (va_runV (As := [Value.int j]) (rest := []) ⟨hx, hb, hml, hown, hts⟩ (c_X4_has l dC dI aC H.size xn ek ef ew ep es (nI n) (nI sn) dn j ) ⟨(callB_of 1 hts (gG kw_340) rfl rfl rfl (hts _ (gw kw_2 rfl)) (hts _ (gw kw_337 rfl)) hd_X4_has ⟨Nat.le_of_ble_eq_true rfl, Nat.le_of_ble_eq_true rfl⟩), (hts _ (gw kw_338 rfl)), (hts _ (gw kw_339 rfl))⟩ ⟨fb_std, va_recv (q := (RX4, TX4, 8)) hK hPc (ci := 4) (q0 := 0) rfl rfl, pre_std hPc hK hDc hN⟩ rfl rfl hl.1 rfl (lv_room (Nat.le_of_ble_eq_true rfl)) dX11_gets_16 ⟨Nat.le_of_ble_eq_true rfl, Nat.le_of_ble_eq_true rfl⟩) hS (fun q _ h => hFc q h) hFc (fun x_6 u9 t9 H1 locs ht hvm hw_6 hB hz1 hk1 hS => ?_)
    obtain ⟨hP1, hK1, hD1⟩ := hB
    rw [ht] at hP1
    clear hK1
    try dsimp only at hw_6
    have hpd9 : PDx (dC, dI) classes A H1 (wp [oX11 h0 xp xtp xn xt xk xl xc xo xto xr xch ts ik st, oX9 xp po pp ps pa pe pb xn pk pu pw pq pt un fw, cI aC ek 8 kf, cI aC ef 8 ff, cI aC ew 8 wf, cI aC es 5 stf, cA aC po 8 fo, cA aC pp 8 fp, cA aC ps 8 fs, cK aC pk 7 fk, cO k0 0 [], cO k1 1 [], cO k2 3 [], cO k3 5 [], cO k4 6 [], cO k5 10 [], cO k6 8 [], cI aC pa 8 yf, cI aC pe 8 ef0, cI aC pb 8 bf, cI aC pu 7 uf, cI aC pw 7 vf, cI aC pq 128 qf, cI aC pt 128 tf, cI aC xr 7 rf, oX4 xn ek ef ew ep es (nI n) (nI sn) dn] (va_pl L (plE aC g))) := jn_Q (wr := [oX11 h0 xp xtp xn xt xk xl xc xo xto xr xch ts ik st, oX9 xp po pp ps pa pe pb xn pk pu pw pq pt un fw, cI aC ek 8 kf, cI aC ef 8 ff, cI aC ew 8 wf, cI aC es 5 stf, cA aC po 8 fo, cA aC pp 8 fp, cA aC ps 8 fs, cK aC pk 7 fk, cO k0 0 [], cO k1 1 [], cO k2 3 [], cO k3 5 [], cO k4 6 [], cO k5 10 [], cO k6 8 [], cI aC pa 8 yf, cI aC pe 8 ef0, cI aC pb 8 bf, cI aC pu 7 uf, cI aC pw 7 vf, cI aC pq 128 qf, cI aC pt 128 tf, cI aC xr 7 rf]) hFc hk1 hP1 hD1 hP hD [25] [0, 1, 2, 3, 4, 5, 6, 7, 8, 9, 10, 11, 12, 13, 14, 15, 16, 17, 18, 19, 20, 21, 22, 23, 24] rfl rfl (by decide) (by decide)
    have hP := hpd9.1
    have hD := hpd9.2
    clear hpd9
    generalize H1 = H at hP hS ⊢
    clear hPc hDc hFc hz1 hk1 hP1 hD1 ht hvm
    have hz_16 := hw_6
    refine lv_if_eq (tgt := 27) hx hb dX11_gets_19 (by decide) (fun c_7 => ?_) (fun c_7 => ?_)
    · refine lv_ldc hx hb hown (hts _ (gw kw_507 rfl)) dX11_gets_27 ?_
      refine lv_aload_n hx hb dX11_gets_29 rfl (lv_at hl 0 rfl) ?_
      refine lv_iconst (v := -1) hx hb dX11_gets_30 (by decide) ?_
      have hpd9 := pdf_N (cx := [oX11 h0 xp xtp xn xt xk xl xc xo xto xr xch ts ik st, cI aC xr 7 rf]) hP hD hS hA [0, 24] (by decide) rfl
      have hPc := hpd9.1
      have hDc := hpd9.2.1
      have hFc := hpd9.2.2
      clear hpd9
      refine va_calli (va_runV (As := [Value.int (-1)]) (rest := [Value.int 1000000000]) ⟨hx, hb, hml, hown, hts⟩ (c_X11_refuse l dC dI aC H.size h0 xp xtp xn xt xk xl xc xo xto xr xch ts ik st (-1) 1 rf (by decide) (by decide) (by decide) (by unfold vp_in; decide)) ⟨(callB_of 1 hts (gG kw_276) rfl rfl rfl (hts _ (gw kw_1 rfl)) (hts _ (gw kw_273 rfl)) hd_X11_refuse ⟨Nat.le_of_ble_eq_true rfl, Nat.le_of_ble_eq_true rfl⟩), (hts _ (gw kw_275 rfl)), (hts _ (gw ks_0 rfl))⟩ ⟨fb_std, va_recv (q := (RX11, TX11, 14)) hK hPc (ci := 11) (q0 := 0) rfl rfl, pre_std hPc hK hDc hN⟩ rfl rfl hl.1 rfl (lv_room (Nat.le_of_ble_eq_true rfl)) dX11_gets_31 ⟨Nat.le_of_ble_eq_true rfl, Nat.le_of_ble_eq_true rfl⟩) hS (fun q _ h => hFc q h) hFc (fun x_8 u9 t9 H1 locs ht hvm hw_8 hB hz1 hk1 hS => ?_)
      obtain ⟨u_9, rfl⟩ : ∃ z, z = u9 := ⟨_, rfl⟩
      obtain ⟨hP1, hK1, hD1⟩ := hB
      rw [ht] at hP1
      clear hK1
      try dsimp only at hw_8
      have hpd9 : PDx (dC, dI) classes A H1 (wp [oX9 xp po pp ps pa pe pb xn pk pu pw pq pt un fw, cI aC ek 8 kf, cI aC ef 8 ff, cI aC ew 8 wf, cI aC es 5 stf, cA aC po 8 fo, cA aC pp 8 fp, cA aC ps 8 fs, cK aC pk 7 fk, cO k0 0 [], cO k1 1 [], cO k2 3 [], cO k3 5 [], cO k4 6 [], cO k5 10 [], cO k6 8 [], cI aC pa 8 yf, cI aC pe 8 ef0, cI aC pb 8 bf, cI aC pu 7 uf, cI aC pw 7 vf, cI aC pq 128 qf, cI aC pt 128 tf, oX4 xn ek ef ew ep es (nI n) (nI sn) dn, oX11 h0 xp xtp xn xt xk xl xc xo xto xr xch ts ik st, cI aC xr 7 u_9] (va_pl L (plE aC g))) := jn_Q (wr := [oX9 xp po pp ps pa pe pb xn pk pu pw pq pt un fw, cI aC ek 8 kf, cI aC ef 8 ff, cI aC ew 8 wf, cI aC es 5 stf, cA aC po 8 fo, cA aC pp 8 fp, cA aC ps 8 fs, cK aC pk 7 fk, cO k0 0 [], cO k1 1 [], cO k2 3 [], cO k3 5 [], cO k4 6 [], cO k5 10 [], cO k6 8 [], cI aC pa 8 yf, cI aC pe 8 ef0, cI aC pb 8 bf, cI aC pu 7 uf, cI aC pw 7 vf, cI aC pq 128 qf, cI aC pt 128 tf, oX4 xn ek ef ew ep es (nI n) (nI sn) dn]) hFc hk1 hP1 hD1 hP hD [0, 24] [1, 2, 3, 4, 5, 6, 7, 8, 9, 10, 11, 12, 13, 14, 15, 16, 17, 18, 19, 20, 21, 22, 23, 25] rfl rfl (by decide) (by decide)
      have hP := hpd9.1
      have hD := hpd9.2
      clear hpd9
      generalize H1 = H at hP hS ⊢
      clear hPc hDc hFc hz1 hk1 hP1 hD1 ht hvm
      obtain ⟨hv9, -⟩ := hw_8
      refine lv_isub hx hb dX11_gets_34 ?_
      refine lv_topi (fun x_10 e_10 => ?_)
      have hpd9 := pd_P (cx := [oX11 h0 xp xtp xn xt xk xl xc xo xto xr xch ts ik st, oX9 xp po pp ps pa pe pb xn pk pu pw pq pt un fw, oX4 xn ek ef ew ep es (nI n) (nI sn) dn, cI aC ek 8 kf, cI aC ef 8 ff, cI aC ew 8 wf, cI aC es 5 stf, cA aC po 8 fo, cA aC pp 8 fp, cA aC ps 8 fs, cK aC pk 7 fk, cO k0 0 [], cO k1 1 [], cO k2 3 [], cO k3 5 [], cO k4 6 [], cO k5 10 [], cO k6 8 [], cI aC pa 8 yf, cI aC pe 8 ef0, cI aC pb 8 bf, cI aC pu 7 uf, cI aC pw 7 vf, cI aC pq 128 qf, cI aC pt 128 tf, cI aC xr 7 u_9]) hP hD [24, 0, 23, 1, 2, 3, 4, 5, 6, 7, 8, 9, 10, 11, 12, 13, 14, 15, 16, 17, 18, 19, 20, 21, 22, 25] (by decide) rfl
      have hP9 := hpd9.1
      have hD9 := hpd9.2
      refine W.widen (k := 0) (n := 0) (by omega) (by omega) ?_
      exact W.iret (v := x_10) hx hb hr (fun t ht hW => ⟨⟨x_10, (un, fw, uf, vf, qf, tf, bf, yf, ef0, g, u_9, st), rfl, ⟨hst, fun a _ => rfl, by rw [e_10, hv9]; unfold rGet; rw [if_neg (fun q => (has_n hz_16 c_7) q.2.1)]; rfl⟩, by rw [ht]; exact hP9, va_K.moved hW.alike hK, hD9⟩, hS.F ht⟩) hS.2.2 dX11_gets_35
    · obtain ⟨b, hb8, hb9⟩ := OKI_ix hn8 (has_y hz_16 c_7)
      have h9 : j = nI b := hb9
      subst h9
      refine lv_iload_n hx hb dX11_gets_22 rfl (lv_at hl 2 rfl) ?_
      refine lv_iload_n hx hb dX11_gets_23 rfl (lv_at hl 1 rfl) ?_
      refine lv_icmp_ge (tgt := 36) hx hb dX11_gets_24 (by decide) (fun c_11 => ?_) (fun c_11 => ?_)
      · refine lv_aload_n hx hb dX11_gets_36 rfl (lv_at hl 0 rfl) ?_
        have hpd9 := pdf_P (cx := [oX11 h0 xp xtp xn xt xk xl xc xo xto xr xch ts ik st, oX9 xp po pp ps pa pe pb xn pk pu pw pq pt un fw, oX4 xn ek ef ew ep es (nI n) (nI sn) dn, cI aC ek 8 kf, cI aC ef 8 ff, cI aC ew 8 wf, cI aC es 5 stf, cA aC po 8 fo, cA aC pp 8 fp, cA aC ps 8 fs, cK aC pk 7 fk, cO k0 0 [], cO k1 1 [], cO k2 3 [], cO k3 5 [], cO k4 6 [], cO k5 10 [], cO k6 8 [], cI aC pa 8 yf, cI aC pe 8 ef0, cI aC pb 8 bf, cI aC pu 7 uf, cI aC pw 7 vf, cI aC pq 128 qf, cI aC pt 128 tf]) hP hD hS hA [0, 1, 25, 2, 3, 4, 5, 6, 7, 8, 9, 10, 11, 12, 13, 14, 15, 16, 17, 18, 19, 20, 21, 22, 23] (by decide) rfl
        have hPc := hpd9.1
        have hDc := hpd9.2.1
        have hFc := hpd9.2.2
        clear hpd9
        refine va_callr (va_runV (As := []) (rest := []) ⟨hx, hb, hml, hown, hts⟩ (c_X11_solved l dC dI aC H.size h0 xp xtp xn xt xk xl xc xo xto xr xch ts ik st po pp ps pa pe pb pk pu pw pq pt un fw ek ef ew ep es n sn dn kf ff wf stf K F W0 S5 L g fo fp fs ro rp rs fk k0 k1 k2 k3 k4 k5 k6 uf vf qf tf bf yf ef0 (hgr) (hev) (hkd) (hst)) ⟨(callB_of 0 hts (gG kw_353) rfl rfl rfl (hts _ (gw kw_1 rfl)) (hts _ (gw kw_350 rfl)) hd_X11_solved ⟨Nat.le_of_ble_eq_true rfl, Nat.le_of_ble_eq_true rfl⟩), (hts _ (gw kw_352 rfl)), (hts _ (gw ks_6 rfl))⟩ ⟨fb_std, va_recv (q := (RX11, TX11, 14)) hK hPc (ci := 11) (q0 := 0) rfl rfl, pre_std hPc hK hDc hN⟩ rfl rfl hl.1 rfl (lv_room (Nat.le_of_ble_eq_true rfl)) dX11_gets_37 ⟨Nat.le_of_ble_eq_true rfl, Nat.le_of_ble_eq_true rfl⟩) hS (fun q _ h => hFc q h) hFc (fun u9 q_12 t9 H1 locs ht hvm hw_12 hB hz1 hk1 hS => ?_)
        obtain ⟨u_13, u_14, u_15, u_16, u_17, u_18, u_19, u_20, u_21, u_22⟩ := u9
        obtain ⟨q_12_e, hP1, hK1, hD1⟩ := hB
        rw [ht] at hP1
        clear hK1
        try dsimp only at hw_12
        have hpd9 : PDx (dC, dI) classes A H1 (wp [cI aC xr 7 rf, oX11 h0 xp xtp xn xt xk xl xc xo xto xr xch ts ik 0, oX9 xp po pp ps pa pe pb xn pk pu pw pq pt u_13 u_14, oX4 xn ek ef ew ep es (nI n) (nI sn) dn, cI aC ek 8 kf, cI aC ef 8 ff, cI aC ew 8 wf, cI aC es 5 stf, cA aC po 8 fo, cA aC pp 8 fp, cA aC ps 8 fs, cK aC pk 7 fk, cO k0 0 [], cO k1 1 [], cO k2 3 [], cO k3 5 [], cO k4 6 [], cO k5 10 [], cO k6 8 [], cI aC pa 8 u_20, cI aC pe 8 u_21, cI aC pb 8 u_19, cI aC pu 7 u_15, cI aC pw 7 u_16, cI aC pq 128 u_17, cI aC pt 128 u_18] (va_pl L (plE aC u_22))) := jn_P (wr := [cI aC xr 7 rf]) hFc hk1 hP1 hD1 hP hD [0, 1, 25, 2, 3, 4, 5, 6, 7, 8, 9, 10, 11, 12, 13, 14, 15, 16, 17, 18, 19, 20, 21, 22, 23] [24] rfl rfl (by decide) (by decide)
        have hP := hpd9.1
        have hD := hpd9.2
        clear hpd9
        generalize H1 = H at hP hS ⊢
        clear hPc hDc hFc hz1 hk1 hP1 hD1 ht hvm
        have h9 := q_12_e.symm
        subst h9
        obtain ⟨hm1, hm2⟩ := hw_12
        refine va_get (D := (dC, dI)) (ci := 9) (v := Value.ref ps) (C := RX9) (T := TX9) (N := 14) hx hb hts inX9 hown hK hP 2 rfl rfl 2 (by decide) (hts _ (gw kw_155 rfl)) (fun _ h9 => h9) rfl dX11_gets_40 ?_
        refine lv_iload_n hx hb dX11_gets_43 rfl (lv_at hl 1 rfl) ?_
        have h_23 : vp_in (nI a) 8 := by first | exact vp_in_nI (by omega) (by omega) | (unfold vp_in; decide) | (subst_vars; first | (unfold vp_in; decide) | exact vp_in_nI (by omega) (by omega))
        refine va_alda (r := rs a) hx hb hK hP 10 rfl h_23 (by rw [nI_clamp (by omega)]; exact (hgr.1 a (by omega)).2.2.1) dX11_gets_44 ?_
        refine lv_iload_n hx hb dX11_gets_45 rfl (lv_at hl 2 rfl) ?_
        have h_24 : vp_in (nI b) 8 := by first | exact vp_in_nI (by omega) (by omega) | (unfold vp_in; decide) | (subst_vars; first | (unfold vp_in; decide) | exact vp_in_nI (by omega) (by omega))
        refine pl_iald hx hb hK hP ((hgr.1 a (by omega)).2.2.2) h_24 dX11_gets_46 ?_
        refine lv_topi (fun x_25 e_25 => ?_)
        have hpd9 := pd_P (cx := [oX11 h0 xp xtp xn xt xk xl xc xo xto xr xch ts ik 0, oX9 xp po pp ps pa pe pb xn pk pu pw pq pt u_13 u_14, oX4 xn ek ef ew ep es (nI n) (nI sn) dn, cI aC ek 8 kf, cI aC ef 8 ff, cI aC ew 8 wf, cI aC es 5 stf, cA aC po 8 fo, cA aC pp 8 fp, cA aC ps 8 fs, cK aC pk 7 fk, cO k0 0 [], cO k1 1 [], cO k2 3 [], cO k3 5 [], cO k4 6 [], cO k5 10 [], cO k6 8 [], cI aC pa 8 u_20, cI aC pe 8 u_21, cI aC pb 8 u_19, cI aC pu 7 u_15, cI aC pw 7 u_16, cI aC pq 128 u_17, cI aC pt 128 u_18, cI aC xr 7 rf]) hP hD [1, 2, 3, 4, 5, 6, 7, 8, 9, 10, 11, 12, 13, 14, 15, 16, 17, 18, 19, 20, 21, 22, 23, 24, 25, 0] (by decide) rfl
        have hP9 := hpd9.1
        have hD9 := hpd9.2
        refine W.widen (k := 0) (n := 0) (by omega) (by omega) ?_
        exact W.iret (v := x_25) hx hb hr (fun t ht hW => ⟨⟨x_25, (u_13, u_14, u_15, u_16, u_17, u_18, u_19, u_20, u_21, u_22, rf, 0), rfl, ⟨Or.inr ⟨rfl, hm1⟩, hm2, by rw [e_25, nI_clamp (by omega)]; unfold rGet; rw [if_pos ⟨OKI_nI hn8 ha8, OKI_nI hn8 hb8, Int32.not_lt.mpr c_11⟩, nI_clamp (by omega), nI_clamp (by omega)]; exact (hm1 a ha8).2.2.1 b (by omega)⟩, by rw [ht]; exact hP9, va_K.moved hW.alike hK, hD9⟩, hS.F ht⟩) hS.2.2 dX11_gets_47
      · refine lv_ldc hx hb hown (hts _ (gw kw_507 rfl)) dX11_gets_27 ?_
        refine lv_aload_n hx hb dX11_gets_29 rfl (lv_at hl 0 rfl) ?_
        refine lv_iconst (v := -1) hx hb dX11_gets_30 (by decide) ?_
        have hpd9 := pdf_N (cx := [oX11 h0 xp xtp xn xt xk xl xc xo xto xr xch ts ik st, cI aC xr 7 rf]) hP hD hS hA [0, 24] (by decide) rfl
        have hPc := hpd9.1
        have hDc := hpd9.2.1
        have hFc := hpd9.2.2
        clear hpd9
        refine va_calli (va_runV (As := [Value.int (-1)]) (rest := [Value.int 1000000000]) ⟨hx, hb, hml, hown, hts⟩ (c_X11_refuse l dC dI aC H.size h0 xp xtp xn xt xk xl xc xo xto xr xch ts ik st (-1) 1 rf (by decide) (by decide) (by decide) (by unfold vp_in; decide)) ⟨(callB_of 1 hts (gG kw_276) rfl rfl rfl (hts _ (gw kw_1 rfl)) (hts _ (gw kw_273 rfl)) hd_X11_refuse ⟨Nat.le_of_ble_eq_true rfl, Nat.le_of_ble_eq_true rfl⟩), (hts _ (gw kw_275 rfl)), (hts _ (gw ks_0 rfl))⟩ ⟨fb_std, va_recv (q := (RX11, TX11, 14)) hK hPc (ci := 11) (q0 := 0) rfl rfl, pre_std hPc hK hDc hN⟩ rfl rfl hl.1 rfl (lv_room (Nat.le_of_ble_eq_true rfl)) dX11_gets_31 ⟨Nat.le_of_ble_eq_true rfl, Nat.le_of_ble_eq_true rfl⟩) hS (fun q _ h => hFc q h) hFc (fun x_26 u9 t9 H1 locs ht hvm hw_26 hB hz1 hk1 hS => ?_)
        obtain ⟨u_27, rfl⟩ : ∃ z, z = u9 := ⟨_, rfl⟩
        obtain ⟨hP1, hK1, hD1⟩ := hB
        rw [ht] at hP1
        clear hK1
        try dsimp only at hw_26
        have hpd9 : PDx (dC, dI) classes A H1 (wp [oX9 xp po pp ps pa pe pb xn pk pu pw pq pt un fw, cI aC ek 8 kf, cI aC ef 8 ff, cI aC ew 8 wf, cI aC es 5 stf, cA aC po 8 fo, cA aC pp 8 fp, cA aC ps 8 fs, cK aC pk 7 fk, cO k0 0 [], cO k1 1 [], cO k2 3 [], cO k3 5 [], cO k4 6 [], cO k5 10 [], cO k6 8 [], cI aC pa 8 yf, cI aC pe 8 ef0, cI aC pb 8 bf, cI aC pu 7 uf, cI aC pw 7 vf, cI aC pq 128 qf, cI aC pt 128 tf, oX4 xn ek ef ew ep es (nI n) (nI sn) dn, oX11 h0 xp xtp xn xt xk xl xc xo xto xr xch ts ik st, cI aC xr 7 u_27] (va_pl L (plE aC g))) := jn_Q (wr := [oX9 xp po pp ps pa pe pb xn pk pu pw pq pt un fw, cI aC ek 8 kf, cI aC ef 8 ff, cI aC ew 8 wf, cI aC es 5 stf, cA aC po 8 fo, cA aC pp 8 fp, cA aC ps 8 fs, cK aC pk 7 fk, cO k0 0 [], cO k1 1 [], cO k2 3 [], cO k3 5 [], cO k4 6 [], cO k5 10 [], cO k6 8 [], cI aC pa 8 yf, cI aC pe 8 ef0, cI aC pb 8 bf, cI aC pu 7 uf, cI aC pw 7 vf, cI aC pq 128 qf, cI aC pt 128 tf, oX4 xn ek ef ew ep es (nI n) (nI sn) dn]) hFc hk1 hP1 hD1 hP hD [0, 24] [1, 2, 3, 4, 5, 6, 7, 8, 9, 10, 11, 12, 13, 14, 15, 16, 17, 18, 19, 20, 21, 22, 23, 25] rfl rfl (by decide) (by decide)
        have hP := hpd9.1
        have hD := hpd9.2
        clear hpd9
        generalize H1 = H at hP hS ⊢
        clear hPc hDc hFc hz1 hk1 hP1 hD1 ht hvm
        obtain ⟨hv9, -⟩ := hw_26
        refine lv_isub hx hb dX11_gets_34 ?_
        refine lv_topi (fun x_28 e_28 => ?_)
        have hpd9 := pd_P (cx := [oX11 h0 xp xtp xn xt xk xl xc xo xto xr xch ts ik st, oX9 xp po pp ps pa pe pb xn pk pu pw pq pt un fw, oX4 xn ek ef ew ep es (nI n) (nI sn) dn, cI aC ek 8 kf, cI aC ef 8 ff, cI aC ew 8 wf, cI aC es 5 stf, cA aC po 8 fo, cA aC pp 8 fp, cA aC ps 8 fs, cK aC pk 7 fk, cO k0 0 [], cO k1 1 [], cO k2 3 [], cO k3 5 [], cO k4 6 [], cO k5 10 [], cO k6 8 [], cI aC pa 8 yf, cI aC pe 8 ef0, cI aC pb 8 bf, cI aC pu 7 uf, cI aC pw 7 vf, cI aC pq 128 qf, cI aC pt 128 tf, cI aC xr 7 u_27]) hP hD [24, 0, 23, 1, 2, 3, 4, 5, 6, 7, 8, 9, 10, 11, 12, 13, 14, 15, 16, 17, 18, 19, 20, 21, 22, 25] (by decide) rfl
        have hP9 := hpd9.1
        have hD9 := hpd9.2
        refine W.widen (k := 0) (n := 0) (by omega) (by omega) ?_
        exact W.iret (v := x_28) hx hb hr (fun t ht hW => ⟨⟨x_28, (un, fw, uf, vf, qf, tf, bf, yf, ef0, g, u_27, st), rfl, ⟨hst, fun a _ => rfl, by rw [e_28, hv9]; unfold rGet; rw [if_neg (fun q => c_11 (Int32.not_lt.mp q.2.2))]; rfl⟩, by rw [ht]; exact hP9, va_K.moved hW.alike hK, hD9⟩, hS.F ht⟩) hS.2.2 dX11_gets_35

set_option maxHeartbeats 1000000 in
set_option maxRecDepth 100000 in
/-- X11_price -/
theorem c_X11_price (l : Launch) (dC : Nat → ClassId) (dI : Nat → Nat → Nat) (aC : Nat → ClassId) (sz : Nat) (h0 : Nat) (xp : Nat) (xtp : Nat) (xn : Nat) (xt : Nat) (xk : Nat) (xl : Nat) (xc : Nat) (xo : Nat) (xto : Nat) (xr : Nat) (xch : Nat) (ts : Int32) (ik : Int32) (st : Int32) (po : Nat) (pp : Nat) (ps : Nat) (pa : Nat) (pe : Nat) (pb : Nat) (pk : Nat) (pu : Nat) (pw : Nat) (pq : Nat) (pt : Nat) (un : Int32) (fw : Int32) (ek : Nat) (ef : Nat) (ew : Nat) (ep : Nat) (es : Nat) (n : Nat) (sn : Nat) (dn : Int32) (kf : Nat → Int32) (ff : Nat → Int32) (wf : Nat → Int32) (stf : Nat → Int32) (K : Nat → Nat) (F : Nat → Nat) (W0 : Nat → Nat) (S5 : Nat → Nat) (L : List Nat) (g : Nat → Nat → Int32) (fo : Nat → Option Nat) (fp : Nat → Option Nat) (fs : Nat → Option Nat) (ro : Nat → Nat) (rp : Nat → Nat) (rs : Nat → Nat) (fk : Nat → Option Nat) (k0 : Nat) (k1 : Nat) (k2 : Nat) (k3 : Nat) (k4 : Nat) (k5 : Nat) (k6 : Nat) (uf : Nat → Int32) (vf : Nat → Int32) (qf : Nat → Int32) (tf : Nat → Int32) (bf : Nat → Int32) (yf : Nat → Int32) (ef0 : Nat → Int32) (rf : Nat → Int32) (i : Int32) (j : Int32) (hgr : GRD L fo fp fs ro rp rs) (hev : EVS n sn dn K F W0 S5 kf ff wf stf) (hkd : KDS fk k0 k1 k2 k3 k4 k5 k6) (hst : STL st n (PO n K F W0 S5) ro rp rs g yf ef0 bf) : Met l yX11_price (wW yX11_price cX11_price 3 (some .int)) ({ frames := 7, cells := 0, slots := 0, locals := 151 } : Room) (va_Pc [Value.ref h0, Value.int i, Value.int j] (fun U => U.heap.size = sz ∧ va_P (dC, dI) classes (wp [oX11 h0 xp xtp xn xt xk xl xc xo xto xr xch ts ik st, oX9 xp po pp ps pa pe pb xn pk pu pw pq pt un fw, oX4 xn ek ef ew ep es (nI n) (nI sn) dn, cI aC ek 8 kf, cI aC ef 8 ff, cI aC ew 8 wf, cI aC es 5 stf, cA aC po 8 fo, cA aC pp 8 fp, cA aC ps 8 fs, cK aC pk 7 fk, cO k0 0 [], cO k1 1 [], cO k2 3 [], cO k3 5 [], cO k4 6 [], cO k5 10 [], cO k6 8 [], cI aC pa 8 yf, cI aC pe 8 ef0, cI aC pb 8 bf, cI aC pu 7 uf, cI aC pw 7 vf, cI aC pq 128 qf, cI aC pt 128 tf, cI aC xr 7 rf] (va_pl L (plE aC g))) U.heap ∧ va_K (dC, dI) classes (TY aC) U ∧ va_D (fun _ => True) (wp [oX11 h0 xp xtp xn xt xk xl xc xo xto xr xch ts ik st, oX9 xp po pp ps pa pe pb xn pk pu pw pq pt un fw, oX4 xn ek ef ew ep es (nI n) (nI sn) dn, cI aC ek 8 kf, cI aC ef 8 ff, cI aC ew 8 wf, cI aC es 5 stf, cA aC po 8 fo, cA aC pp 8 fp, cA aC ps 8 fs, cK aC pk 7 fk, cO k0 0 [], cO k1 1 [], cO k2 3 [], cO k3 5 [], cO k4 6 [], cO k5 10 [], cO k6 8 [], cI aC pa 8 yf, cI aC pe 8 ef0, cI aC pb 8 bf, cI aC pu 7 uf, cI aC pw 7 vf, cI aC pq 128 qf, cI aC pt 128 tf, cI aC xr 7 rf] (va_pl L (plE aC g))) ∧ NX U)) (va_Qi (fun (r : Int32) (u : Int32 × Int32 × (Nat → Int32) × (Nat → Int32) × (Nat → Int32) × (Nat → Int32) × (Nat → Int32) × (Nat → Int32) × (Nat → Int32) × (Nat → Nat → Int32) × (Nat → Int32) × Int32) => match u with | (un2, fw2, ug, vg, qg, tg, bg, yg, eg, g2, rf2, st2) => STL st2 n (PO n K F W0 S5) ro rp rs g2 yg eg bg ∧ (∀ a, OFF ro rp rs a → g2 a = g a) ∧ r = rPri n (PO n K F W0 S5) i j) (fun (u : Int32 × Int32 × (Nat → Int32) × (Nat → Int32) × (Nat → Int32) × (Nat → Int32) × (Nat → Int32) × (Nat → Int32) × (Nat → Int32) × (Nat → Nat → Int32) × (Nat → Int32) × Int32) (t : State) => match u with | (un2, fw2, ug, vg, qg, tg, bg, yg, eg, g2, rf2, st2) => va_P (dC, dI) classes (wp [oX11 h0 xp xtp xn xt xk xl xc xo xto xr xch ts ik st2, oX9 xp po pp ps pa pe pb xn pk pu pw pq pt un2 fw2, oX4 xn ek ef ew ep es (nI n) (nI sn) dn, cI aC ek 8 kf, cI aC ef 8 ff, cI aC ew 8 wf, cI aC es 5 stf, cA aC po 8 fo, cA aC pp 8 fp, cA aC ps 8 fs, cK aC pk 7 fk, cO k0 0 [], cO k1 1 [], cO k2 3 [], cO k3 5 [], cO k4 6 [], cO k5 10 [], cO k6 8 [], cI aC pa 8 yg, cI aC pe 8 eg, cI aC pb 8 bg, cI aC pu 7 ug, cI aC pw 7 vg, cI aC pq 128 qg, cI aC pt 128 tg, cI aC xr 7 rf2] (va_pl L (plE aC g2))) t.heap ∧ va_K (dC, dI) classes (TY aC) t ∧ va_D (va_A (wp [oX11 h0 xp xtp xn xt xk xl xc xo xto xr xch ts ik st, oX9 xp po pp ps pa pe pb xn pk pu pw pq pt un fw, oX4 xn ek ef ew ep es (nI n) (nI sn) dn, cI aC ek 8 kf, cI aC ef 8 ff, cI aC ew 8 wf, cI aC es 5 stf, cA aC po 8 fo, cA aC pp 8 fp, cA aC ps 8 fs, cK aC pk 7 fk, cO k0 0 [], cO k1 1 [], cO k2 3 [], cO k3 5 [], cO k4 6 [], cO k5 10 [], cO k6 8 [], cI aC pa 8 yf, cI aC pe 8 ef0, cI aC pb 8 bf, cI aC pu 7 uf, cI aC pw 7 vf, cI aC pq 128 qf, cI aC pt 128 tf, cI aC xr 7 rf] (va_pl L (plE aC g))) sz) (wp [oX11 h0 xp xtp xn xt xk xl xc xo xto xr xch ts ik st2, oX9 xp po pp ps pa pe pb xn pk pu pw pq pt un2 fw2, oX4 xn ek ef ew ep es (nI n) (nI sn) dn, cI aC ek 8 kf, cI aC ef 8 ff, cI aC ew 8 wf, cI aC es 5 stf, cA aC po 8 fo, cA aC pp 8 fp, cA aC ps 8 fs, cK aC pk 7 fk, cO k0 0 [], cO k1 1 [], cO k2 3 [], cO k3 5 [], cO k4 6 [], cO k5 10 [], cO k6 8 [], cI aC pa 8 yg, cI aC pe 8 eg, cI aC pb 8 bg, cI aC pu 7 ug, cI aC pw 7 vg, cI aC pq 128 qg, cI aC pt 128 tg, cI aC xr 7 rf2] (va_pl L (plE aC g2)))) (va_A (wp [oX11 h0 xp xtp xn xt xk xl xc xo xto xr xch ts ik st, oX9 xp po pp ps pa pe pb xn pk pu pw pq pt un fw, oX4 xn ek ef ew ep es (nI n) (nI sn) dn, cI aC ek 8 kf, cI aC ef 8 ff, cI aC ew 8 wf, cI aC es 5 stf, cA aC po 8 fo, cA aC pp 8 fp, cA aC ps 8 fs, cK aC pk 7 fk, cO k0 0 [], cO k1 1 [], cO k2 3 [], cO k3 5 [], cO k4 6 [], cO k5 10 [], cO k6 8 [], cI aC pa 8 yf, cI aC pe 8 ef0, cI aC pb 8 bf, cI aC pu 7 uf, cI aC pw 7 vf, cI aC pq 128 qf, cI aC pt 128 tf, cI aC xr 7 rf] (va_pl L (plE aC g))) sz)) 0 0 (va_A (wp [oX11 h0 xp xtp xn xt xk xl xc xo xto xr xch ts ik st, oX9 xp po pp ps pa pe pb xn pk pu pw pq pt un fw, oX4 xn ek ef ew ep es (nI n) (nI sn) dn, cI aC ek 8 kf, cI aC ef 8 ff, cI aC ew 8 wf, cI aC es 5 stf, cA aC po 8 fo, cA aC pp 8 fp, cA aC ps 8 fs, cK aC pk 7 fk, cO k0 0 [], cO k1 1 [], cO k2 3 [], cO k3 5 [], cO k4 6 [], cO k5 10 [], cO k6 8 [], cI aC pa 8 yf, cI aC pe 8 ef0, cI aC pb 8 bf, cI aC pu 7 uf, cI aC pw 7 vf, cI aC pq 128 qf, cI aC pt 128 tf, cI aC xr 7 rf] (va_pl L (plE aC g))) sz) := by
  refine Met.ofW (cc := cX11_price) (maxL := 3) (ret := (some .int)) (by decide) rfl ?_
  intro p e s m args below meth c s₁ B hml hv
  obtain ⟨rfl, hsz, hP, hK, hD0, hN⟩ := hv
  have hx := B.exec
  have hb := B.bytes
  have hr := B.returns
  have hts0 := atoms_spec (ws := (wW yX11_price cX11_price 3 (some .int))) B.pre
  have hts : ∀ w9 ∈ lw_G, w9.before ([Value.ref h0, Value.int i, Value.int j] : List Value).toArray s = true := fun w9 h9 => hts0 w9 (List.mem_cons_of_mem _ h9)
  have hown : s.vm.findClass RX11 = some m.cls := findClass_of_methodNamed (x := yX11_price) B.named
  have hlocks := B.notSynchronized
  subst hsz
  have hD := hD0.self (sz := s.heap.size)
  generalize hAe : va_A (wp [oX11 h0 xp xtp xn xt xk xl xc xo xto xr xch ts ik st, oX9 xp po pp ps pa pe pb xn pk pu pw pq pt un fw, oX4 xn ek ef ew ep es (nI n) (nI sn) dn, cI aC ek 8 kf, cI aC ef 8 ff, cI aC ew 8 wf, cI aC es 5 stf, cA aC po 8 fo, cA aC pp 8 fp, cA aC ps 8 fs, cK aC pk 7 fk, cO k0 0 [], cO k1 1 [], cO k2 3 [], cO k3 5 [], cO k4 6 [], cO k5 10 [], cO k6 8 [], cI aC pa 8 yf, cI aC pe 8 ef0, cI aC pb 8 bf, cI aC pu 7 uf, cI aC pw 7 vf, cI aC pq 128 qf, cI aC pt 128 tf, cI aC xr 7 rf] (va_pl L (plE aC g))) s.heap.size = A at hD ⊢
  have hA : ∀ q : Nat, s.heap.size ≤ q → A q := fun q h => by rw [← hAe]; exact Or.inr h
  obtain ⟨H, hHe⟩ : ∃ H : Heap, H = s.heap := ⟨_, rfl⟩
  have hS : va_S A s.heap H [] := by rw [hHe]; exact va_S.rf
  have hP : va_P (dC, dI) classes (wp [oX11 h0 xp xtp xn xt xk xl xc xo xto xr xch ts ik st, oX9 xp po pp ps pa pe pb xn pk pu pw pq pt un fw, oX4 xn ek ef ew ep es (nI n) (nI sn) dn, cI aC ek 8 kf, cI aC ef 8 ff, cI aC ew 8 wf, cI aC es 5 stf, cA aC po 8 fo, cA aC pp 8 fp, cA aC ps 8 fs, cK aC pk 7 fk, cO k0 0 [], cO k1 1 [], cO k2 3 [], cO k3 5 [], cO k4 6 [], cO k5 10 [], cO k6 8 [], cI aC pa 8 yf, cI aC pe 8 ef0, cI aC pb 8 bf, cI aC pu 7 uf, cI aC pw 7 vf, cI aC pq 128 qf, cI aC pt 128 tf, cI aC xr 7 rf] (va_pl L (plE aC g))) H := by rw [hHe]; exact hP
  have hl := lv_entry ([Value.ref h0, Value.int i, Value.int j]) (n := 3) (Nat.le_of_ble_eq_true rfl)
  rw [lg_entry_eq]
  generalize (lg_sl ([Value.ref h0, Value.int i, Value.int j]) ++ List.replicate (3 - (lg_sl ([Value.ref h0, Value.int i, Value.int j])).length) Slot.unset).toArray = ls at hl ⊢
  have hl : lv_has ls 3 [(0, Value.ref h0), (1, Value.int i), (2, Value.int j)] := hl
  rw [← hHe]
  have hn8 := EVS_n hev
  refine lv_aload_n hx hb dX11_price_0 rfl (lv_at hl 0 rfl) ?_
  refine va_get (D := (dC, dI)) (ci := 11) (v := Value.ref xn) (C := RX11) (T := TX11) (N := 14) hx hb hts inX11 hown hK hP 0 rfl rfl 2 (by decide) (hts _ (gw kw_228 rfl)) (fun _ h9 => h9) rfl dX11_price_1 ?_
  refine lv_iload_n hx hb dX11_price_4 rfl (lv_at hl 1 rfl) ?_
  have hpd9 := pdf_N (cx := [oX4 xn ek ef ew ep es (nI n) (nI sn) dn]) hP hD hS hA [2] (by decide) rfl
  have hPc := hpd9.1
  have hDc := hpd9.2.1
  have hFc := hpd9.2.2
  clear hpd9
  refine va_calli (va_runV (As := [Value.int i]) (rest := []) ⟨hx, hb, hml, hown, hts⟩ (c_X4_has l dC dI aC H.size xn ek ef ew ep es (nI n) (nI sn) dn i ) ⟨(callB_of 1 hts (gG kw_340) rfl rfl rfl (hts _ (gw kw_2 rfl)) (hts _ (gw kw_337 rfl)) hd_X4_has ⟨Nat.le_of_ble_eq_true rfl, Nat.le_of_ble_eq_true rfl⟩), (hts _ (gw kw_338 rfl)), (hts _ (gw kw_339 rfl))⟩ ⟨fb_std, va_recv (q := (RX4, TX4, 8)) hK hPc (ci := 4) (q0 := 0) rfl rfl, pre_std hPc hK hDc hN⟩ rfl rfl hl.1 rfl (lv_room (Nat.le_of_ble_eq_true rfl)) dX11_price_5 ⟨Nat.le_of_ble_eq_true rfl, Nat.le_of_ble_eq_true rfl⟩) hS (fun q _ h => hFc q h) hFc (fun x_1 u9 t9 H1 locs ht hvm hw_1 hB hz1 hk1 hS => ?_)
  obtain ⟨hP1, hK1, hD1⟩ := hB
  rw [ht] at hP1
  clear hK1
  try dsimp only at hw_1
  have hpd9 : PDx (dC, dI) classes A H1 (wp [oX11 h0 xp xtp xn xt xk xl xc xo xto xr xch ts ik st, oX9 xp po pp ps pa pe pb xn pk pu pw pq pt un fw, cI aC ek 8 kf, cI aC ef 8 ff, cI aC ew 8 wf, cI aC es 5 stf, cA aC po 8 fo, cA aC pp 8 fp, cA aC ps 8 fs, cK aC pk 7 fk, cO k0 0 [], cO k1 1 [], cO k2 3 [], cO k3 5 [], cO k4 6 [], cO k5 10 [], cO k6 8 [], cI aC pa 8 yf, cI aC pe 8 ef0, cI aC pb 8 bf, cI aC pu 7 uf, cI aC pw 7 vf, cI aC pq 128 qf, cI aC pt 128 tf, cI aC xr 7 rf, oX4 xn ek ef ew ep es (nI n) (nI sn) dn] (va_pl L (plE aC g))) := jn_Q (wr := [oX11 h0 xp xtp xn xt xk xl xc xo xto xr xch ts ik st, oX9 xp po pp ps pa pe pb xn pk pu pw pq pt un fw, cI aC ek 8 kf, cI aC ef 8 ff, cI aC ew 8 wf, cI aC es 5 stf, cA aC po 8 fo, cA aC pp 8 fp, cA aC ps 8 fs, cK aC pk 7 fk, cO k0 0 [], cO k1 1 [], cO k2 3 [], cO k3 5 [], cO k4 6 [], cO k5 10 [], cO k6 8 [], cI aC pa 8 yf, cI aC pe 8 ef0, cI aC pb 8 bf, cI aC pu 7 uf, cI aC pw 7 vf, cI aC pq 128 qf, cI aC pt 128 tf, cI aC xr 7 rf]) hFc hk1 hP1 hD1 hP hD [2] [0, 1, 3, 4, 5, 6, 7, 8, 9, 10, 11, 12, 13, 14, 15, 16, 17, 18, 19, 20, 21, 22, 23, 24, 25] rfl rfl (by decide) (by decide)
  have hP := hpd9.1
  have hD := hpd9.2
  clear hpd9
  generalize H1 = H at hP hS ⊢
  clear hPc hDc hFc hz1 hk1 hP1 hD1 ht hvm
  have hz_5 := hw_1
  refine lv_if_eq (tgt := 22) hx hb dX11_price_8 (by decide) (fun c_2 => ?_) (fun c_2 => ?_)
  · refine lv_aload_n hx hb dX11_price_22 rfl (lv_at hl 0 rfl) ?_
    refine lv_iconst (v := -1) hx hb dX11_price_23 (by decide) ?_
    have hpd9 := pdf_N (cx := [oX11 h0 xp xtp xn xt xk xl xc xo xto xr xch ts ik st, cI aC xr 7 rf]) hP hD hS hA [0, 24] (by decide) rfl
    have hPc := hpd9.1
    have hDc := hpd9.2.1
    have hFc := hpd9.2.2
    clear hpd9
    refine va_calli (va_runV (As := [Value.int (-1)]) (rest := []) ⟨hx, hb, hml, hown, hts⟩ (c_X11_refuse l dC dI aC H.size h0 xp xtp xn xt xk xl xc xo xto xr xch ts ik st (-1) 1 rf (by decide) (by decide) (by decide) (by unfold vp_in; decide)) ⟨(callB_of 1 hts (gG kw_276) rfl rfl rfl (hts _ (gw kw_1 rfl)) (hts _ (gw kw_273 rfl)) hd_X11_refuse ⟨Nat.le_of_ble_eq_true rfl, Nat.le_of_ble_eq_true rfl⟩), (hts _ (gw kw_275 rfl)), (hts _ (gw ks_0 rfl))⟩ ⟨fb_std, va_recv (q := (RX11, TX11, 14)) hK hPc (ci := 11) (q0 := 0) rfl rfl, pre_std hPc hK hDc hN⟩ rfl rfl hl.1 rfl (lv_room (Nat.le_of_ble_eq_true rfl)) dX11_price_24 ⟨Nat.le_of_ble_eq_true rfl, Nat.le_of_ble_eq_true rfl⟩) hS (fun q _ h => hFc q h) hFc (fun x_3 u9 t9 H1 locs ht hvm hw_3 hB hz1 hk1 hS => ?_)
    obtain ⟨u_4, rfl⟩ : ∃ z, z = u9 := ⟨_, rfl⟩
    obtain ⟨hP1, hK1, hD1⟩ := hB
    rw [ht] at hP1
    clear hK1
    try dsimp only at hw_3
    have hpd9 : PDx (dC, dI) classes A H1 (wp [oX9 xp po pp ps pa pe pb xn pk pu pw pq pt un fw, cI aC ek 8 kf, cI aC ef 8 ff, cI aC ew 8 wf, cI aC es 5 stf, cA aC po 8 fo, cA aC pp 8 fp, cA aC ps 8 fs, cK aC pk 7 fk, cO k0 0 [], cO k1 1 [], cO k2 3 [], cO k3 5 [], cO k4 6 [], cO k5 10 [], cO k6 8 [], cI aC pa 8 yf, cI aC pe 8 ef0, cI aC pb 8 bf, cI aC pu 7 uf, cI aC pw 7 vf, cI aC pq 128 qf, cI aC pt 128 tf, oX4 xn ek ef ew ep es (nI n) (nI sn) dn, oX11 h0 xp xtp xn xt xk xl xc xo xto xr xch ts ik st, cI aC xr 7 u_4] (va_pl L (plE aC g))) := jn_Q (wr := [oX9 xp po pp ps pa pe pb xn pk pu pw pq pt un fw, cI aC ek 8 kf, cI aC ef 8 ff, cI aC ew 8 wf, cI aC es 5 stf, cA aC po 8 fo, cA aC pp 8 fp, cA aC ps 8 fs, cK aC pk 7 fk, cO k0 0 [], cO k1 1 [], cO k2 3 [], cO k3 5 [], cO k4 6 [], cO k5 10 [], cO k6 8 [], cI aC pa 8 yf, cI aC pe 8 ef0, cI aC pb 8 bf, cI aC pu 7 uf, cI aC pw 7 vf, cI aC pq 128 qf, cI aC pt 128 tf, oX4 xn ek ef ew ep es (nI n) (nI sn) dn]) hFc hk1 hP1 hD1 hP hD [0, 24] [1, 2, 3, 4, 5, 6, 7, 8, 9, 10, 11, 12, 13, 14, 15, 16, 17, 18, 19, 20, 21, 22, 23, 25] rfl rfl (by decide) (by decide)
    have hP := hpd9.1
    have hD := hpd9.2
    clear hpd9
    generalize H1 = H at hP hS ⊢
    clear hPc hDc hFc hz1 hk1 hP1 hD1 ht hvm
    obtain ⟨hv9, -⟩ := hw_3
    have hpd9 := pd_P (cx := [oX11 h0 xp xtp xn xt xk xl xc xo xto xr xch ts ik st, oX9 xp po pp ps pa pe pb xn pk pu pw pq pt un fw, oX4 xn ek ef ew ep es (nI n) (nI sn) dn, cI aC ek 8 kf, cI aC ef 8 ff, cI aC ew 8 wf, cI aC es 5 stf, cA aC po 8 fo, cA aC pp 8 fp, cA aC ps 8 fs, cK aC pk 7 fk, cO k0 0 [], cO k1 1 [], cO k2 3 [], cO k3 5 [], cO k4 6 [], cO k5 10 [], cO k6 8 [], cI aC pa 8 yf, cI aC pe 8 ef0, cI aC pb 8 bf, cI aC pu 7 uf, cI aC pw 7 vf, cI aC pq 128 qf, cI aC pt 128 tf, cI aC xr 7 u_4]) hP hD [24, 0, 23, 1, 2, 3, 4, 5, 6, 7, 8, 9, 10, 11, 12, 13, 14, 15, 16, 17, 18, 19, 20, 21, 22, 25] (by decide) rfl
    have hP9 := hpd9.1
    have hD9 := hpd9.2
    refine W.widen (k := 0) (n := 0) (by omega) (by omega) ?_
    exact W.iret (v := x_3) hx hb hr (fun t ht hW => ⟨⟨x_3, (un, fw, uf, vf, qf, tf, bf, yf, ef0, g, u_4, st), rfl, ⟨hst, fun a _ => rfl, by rw [hv9]; unfold rPri; rw [if_neg (fun q => (has_n hz_5 c_2) q.1)]⟩, by rw [ht]; exact hP9, va_K.moved hW.alike hK, hD9⟩, hS.F ht⟩) hS.2.2 dX11_price_27
  · obtain ⟨a, ha8, ha9⟩ := OKI_ix hn8 (has_y hz_5 c_2)
    have h9 : i = nI a := ha9
    subst h9
    refine lv_aload_n hx hb dX11_price_11 rfl (lv_at hl 0 rfl) ?_
    refine va_get (D := (dC, dI)) (ci := 11) (v := Value.ref xn) (C := RX11) (T := TX11) (N := 14) hx hb hts inX11 hown hK hP 0 rfl rfl 2 (by decide) (hts _ (gw kw_228 rfl)) (fun _ h9 => h9) rfl dX11_price_12 ?_
    refine lv_iload_n hx hb dX11_price_15 rfl (lv_at hl 2 rfl) ?_
    have hpd9 := pdf_N (cx := [oX4 xn ek ef ew ep es (nI n) (nI sn) dn]) hP hD hS hA [25] (by decide) rfl
    have hPc := hpd9.1
    have hDc := hpd9.2.1
    have hFc := hpd9.2.2
    clear hpd9
    refine va_calli (va_runV (As := [Value.int j]) (rest := []) ⟨hx, hb, hml, hown, hts⟩ (c_X4_has l dC dI aC H.size xn ek ef ew ep es (nI n) (nI sn) dn j ) ⟨(callB_of 1 hts (gG kw_340) rfl rfl rfl (hts _ (gw kw_2 rfl)) (hts _ (gw kw_337 rfl)) hd_X4_has ⟨Nat.le_of_ble_eq_true rfl, Nat.le_of_ble_eq_true rfl⟩), (hts _ (gw kw_338 rfl)), (hts _ (gw kw_339 rfl))⟩ ⟨fb_std, va_recv (q := (RX4, TX4, 8)) hK hPc (ci := 4) (q0 := 0) rfl rfl, pre_std hPc hK hDc hN⟩ rfl rfl hl.1 rfl (lv_room (Nat.le_of_ble_eq_true rfl)) dX11_price_16 ⟨Nat.le_of_ble_eq_true rfl, Nat.le_of_ble_eq_true rfl⟩) hS (fun q _ h => hFc q h) hFc (fun x_5 u9 t9 H1 locs ht hvm hw_5 hB hz1 hk1 hS => ?_)
    obtain ⟨hP1, hK1, hD1⟩ := hB
    rw [ht] at hP1
    clear hK1
    try dsimp only at hw_5
    have hpd9 : PDx (dC, dI) classes A H1 (wp [oX11 h0 xp xtp xn xt xk xl xc xo xto xr xch ts ik st, oX9 xp po pp ps pa pe pb xn pk pu pw pq pt un fw, cI aC ek 8 kf, cI aC ef 8 ff, cI aC ew 8 wf, cI aC es 5 stf, cA aC po 8 fo, cA aC pp 8 fp, cA aC ps 8 fs, cK aC pk 7 fk, cO k0 0 [], cO k1 1 [], cO k2 3 [], cO k3 5 [], cO k4 6 [], cO k5 10 [], cO k6 8 [], cI aC pa 8 yf, cI aC pe 8 ef0, cI aC pb 8 bf, cI aC pu 7 uf, cI aC pw 7 vf, cI aC pq 128 qf, cI aC pt 128 tf, cI aC xr 7 rf, oX4 xn ek ef ew ep es (nI n) (nI sn) dn] (va_pl L (plE aC g))) := jn_Q (wr := [oX11 h0 xp xtp xn xt xk xl xc xo xto xr xch ts ik st, oX9 xp po pp ps pa pe pb xn pk pu pw pq pt un fw, cI aC ek 8 kf, cI aC ef 8 ff, cI aC ew 8 wf, cI aC es 5 stf, cA aC po 8 fo, cA aC pp 8 fp, cA aC ps 8 fs, cK aC pk 7 fk, cO k0 0 [], cO k1 1 [], cO k2 3 [], cO k3 5 [], cO k4 6 [], cO k5 10 [], cO k6 8 [], cI aC pa 8 yf, cI aC pe 8 ef0, cI aC pb 8 bf, cI aC pu 7 uf, cI aC pw 7 vf, cI aC pq 128 qf, cI aC pt 128 tf, cI aC xr 7 rf]) hFc hk1 hP1 hD1 hP hD [25] [0, 1, 2, 3, 4, 5, 6, 7, 8, 9, 10, 11, 12, 13, 14, 15, 16, 17, 18, 19, 20, 21, 22, 23, 24] rfl rfl (by decide) (by decide)
    have hP := hpd9.1
    have hD := hpd9.2
    clear hpd9
    generalize H1 = H at hP hS ⊢
    clear hPc hDc hFc hz1 hk1 hP1 hD1 ht hvm
    have hz_16 := hw_5
    refine lv_if_ne (tgt := 28) hx hb dX11_price_19 (by decide) (fun c_6 => ?_) (fun c_6 => ?_)
    · obtain ⟨b, hb8, hb9⟩ := OKI_ix hn8 (has_y hz_16 c_6)
      have h9 : j = nI b := hb9
      subst h9
      refine lv_iload_n hx hb dX11_price_28 rfl (lv_at hl 2 rfl) ?_
      refine lv_iload_n hx hb dX11_price_29 rfl (lv_at hl 1 rfl) ?_
      refine lv_icmp_le (tgt := 47) hx hb dX11_price_30 (by decide) (fun c_7 => ?_) (fun c_7 => ?_)
      · refine lv_bipush (v := -9) hx hb dX11_price_47 (by decide) ?_
        have hpd9 := pd_P (cx := [oX11 h0 xp xtp xn xt xk xl xc xo xto xr xch ts ik st, oX9 xp po pp ps pa pe pb xn pk pu pw pq pt un fw, oX4 xn ek ef ew ep es (nI n) (nI sn) dn, cI aC ek 8 kf, cI aC ef 8 ff, cI aC ew 8 wf, cI aC es 5 stf, cA aC po 8 fo, cA aC pp 8 fp, cA aC ps 8 fs, cK aC pk 7 fk, cO k0 0 [], cO k1 1 [], cO k2 3 [], cO k3 5 [], cO k4 6 [], cO k5 10 [], cO k6 8 [], cI aC pa 8 yf, cI aC pe 8 ef0, cI aC pb 8 bf, cI aC pu 7 uf, cI aC pw 7 vf, cI aC pq 128 qf, cI aC pt 128 tf, cI aC xr 7 rf]) hP hD [0, 1, 25, 2, 3, 4, 5, 6, 7, 8, 9, 10, 11, 12, 13, 14, 15, 16, 17, 18, 19, 20, 21, 22, 23, 24] (by decide) rfl
        have hP9 := hpd9.1
        have hD9 := hpd9.2
        refine W.widen (k := 0) (n := 0) (by omega) (by omega) ?_
        exact W.iret (v := -9) hx hb hr (fun t ht hW => ⟨⟨(-9), (un, fw, uf, vf, qf, tf, bf, yf, ef0, g, rf, st), rfl, ⟨hst, fun a _ => rfl, by unfold rPri; rw [if_pos ⟨OKI_nI hn8 ha8, OKI_nI hn8 hb8⟩, if_neg (Int32.not_lt.mpr c_7)]⟩, by rw [ht]; exact hP9, va_K.moved hW.alike hK, hD9⟩, hS.F ht⟩) hS.2.2 dX11_price_49
      · refine lv_aload_n hx hb dX11_price_33 rfl (lv_at hl 0 rfl) ?_
        have hpd9 := pdf_P (cx := [oX11 h0 xp xtp xn xt xk xl xc xo xto xr xch ts ik st, oX9 xp po pp ps pa pe pb xn pk pu pw pq pt un fw, oX4 xn ek ef ew ep es (nI n) (nI sn) dn, cI aC ek 8 kf, cI aC ef 8 ff, cI aC ew 8 wf, cI aC es 5 stf, cA aC po 8 fo, cA aC pp 8 fp, cA aC ps 8 fs, cK aC pk 7 fk, cO k0 0 [], cO k1 1 [], cO k2 3 [], cO k3 5 [], cO k4 6 [], cO k5 10 [], cO k6 8 [], cI aC pa 8 yf, cI aC pe 8 ef0, cI aC pb 8 bf, cI aC pu 7 uf, cI aC pw 7 vf, cI aC pq 128 qf, cI aC pt 128 tf]) hP hD hS hA [0, 1, 25, 2, 3, 4, 5, 6, 7, 8, 9, 10, 11, 12, 13, 14, 15, 16, 17, 18, 19, 20, 21, 22, 23] (by decide) rfl
        have hPc := hpd9.1
        have hDc := hpd9.2.1
        have hFc := hpd9.2.2
        clear hpd9
        refine va_callr (va_runV (As := []) (rest := []) ⟨hx, hb, hml, hown, hts⟩ (c_X11_solved l dC dI aC H.size h0 xp xtp xn xt xk xl xc xo xto xr xch ts ik st po pp ps pa pe pb pk pu pw pq pt un fw ek ef ew ep es n sn dn kf ff wf stf K F W0 S5 L g fo fp fs ro rp rs fk k0 k1 k2 k3 k4 k5 k6 uf vf qf tf bf yf ef0 (hgr) (hev) (hkd) (hst)) ⟨(callB_of 0 hts (gG kw_353) rfl rfl rfl (hts _ (gw kw_1 rfl)) (hts _ (gw kw_350 rfl)) hd_X11_solved ⟨Nat.le_of_ble_eq_true rfl, Nat.le_of_ble_eq_true rfl⟩), (hts _ (gw kw_352 rfl)), (hts _ (gw ks_6 rfl))⟩ ⟨fb_std, va_recv (q := (RX11, TX11, 14)) hK hPc (ci := 11) (q0 := 0) rfl rfl, pre_std hPc hK hDc hN⟩ rfl rfl hl.1 rfl (lv_room (Nat.le_of_ble_eq_true rfl)) dX11_price_34 ⟨Nat.le_of_ble_eq_true rfl, Nat.le_of_ble_eq_true rfl⟩) hS (fun q _ h => hFc q h) hFc (fun u9 q_8 t9 H1 locs ht hvm hw_8 hB hz1 hk1 hS => ?_)
        obtain ⟨u_9, u_10, u_11, u_12, u_13, u_14, u_15, u_16, u_17, u_18⟩ := u9
        obtain ⟨q_8_e, hP1, hK1, hD1⟩ := hB
        rw [ht] at hP1
        clear hK1
        try dsimp only at hw_8
        have hpd9 : PDx (dC, dI) classes A H1 (wp [cI aC xr 7 rf, oX11 h0 xp xtp xn xt xk xl xc xo xto xr xch ts ik 0, oX9 xp po pp ps pa pe pb xn pk pu pw pq pt u_9 u_10, oX4 xn ek ef ew ep es (nI n) (nI sn) dn, cI aC ek 8 kf, cI aC ef 8 ff, cI aC ew 8 wf, cI aC es 5 stf, cA aC po 8 fo, cA aC pp 8 fp, cA aC ps 8 fs, cK aC pk 7 fk, cO k0 0 [], cO k1 1 [], cO k2 3 [], cO k3 5 [], cO k4 6 [], cO k5 10 [], cO k6 8 [], cI aC pa 8 u_16, cI aC pe 8 u_17, cI aC pb 8 u_15, cI aC pu 7 u_11, cI aC pw 7 u_12, cI aC pq 128 u_13, cI aC pt 128 u_14] (va_pl L (plE aC u_18))) := jn_P (wr := [cI aC xr 7 rf]) hFc hk1 hP1 hD1 hP hD [0, 1, 25, 2, 3, 4, 5, 6, 7, 8, 9, 10, 11, 12, 13, 14, 15, 16, 17, 18, 19, 20, 21, 22, 23] [24] rfl rfl (by decide) (by decide)
        have hP := hpd9.1
        have hD := hpd9.2
        clear hpd9
        generalize H1 = H at hP hS ⊢
        clear hPc hDc hFc hz1 hk1 hP1 hD1 ht hvm
        have h9 := q_8_e.symm
        subst h9
        obtain ⟨hm1, hm2⟩ := hw_8
        refine va_get (D := (dC, dI)) (ci := 9) (v := Value.ref pp) (C := RX9) (T := TX9) (N := 14) hx hb hts inX9 hown hK hP 2 rfl rfl 1 (by decide) (hts _ (gw kw_153 rfl)) (fun _ h9 => h9) rfl dX11_price_37 ?_
        refine lv_iload_n hx hb dX11_price_40 rfl (lv_at hl 1 rfl) ?_
        have h_19 : vp_in (nI a) 8 := by first | exact vp_in_nI (by omega) (by omega) | (unfold vp_in; decide) | (subst_vars; first | (unfold vp_in; decide) | exact vp_in_nI (by omega) (by omega))
        refine va_alda (r := rp a) hx hb hK hP 9 rfl h_19 (by rw [nI_clamp (by omega)]; exact (hgr.1 a (by omega)).2.1.1) dX11_price_41 ?_
        refine lv_iload_n hx hb dX11_price_42 rfl (lv_at hl 2 rfl) ?_
        have h_20 : vp_in (nI b) 8 := by first | exact vp_in_nI (by omega) (by omega) | (unfold vp_in; decide) | (subst_vars; first | (unfold vp_in; decide) | exact vp_in_nI (by omega) (by omega))
        refine pl_iald hx hb hK hP ((hgr.1 a (by omega)).2.1.2) h_20 dX11_price_43 ?_
        refine lv_topi (fun x_21 e_21 => ?_)
        refine lv_goto (tgt := 49) hx hb dX11_price_44 (by decide) ?_
        have hpd9 := pd_P (cx := [oX11 h0 xp xtp xn xt xk xl xc xo xto xr xch ts ik 0, oX9 xp po pp ps pa pe pb xn pk pu pw pq pt u_9 u_10, oX4 xn ek ef ew ep es (nI n) (nI sn) dn, cI aC ek 8 kf, cI aC ef 8 ff, cI aC ew 8 wf, cI aC es 5 stf, cA aC po 8 fo, cA aC pp 8 fp, cA aC ps 8 fs, cK aC pk 7 fk, cO k0 0 [], cO k1 1 [], cO k2 3 [], cO k3 5 [], cO k4 6 [], cO k5 10 [], cO k6 8 [], cI aC pa 8 u_16, cI aC pe 8 u_17, cI aC pb 8 u_15, cI aC pu 7 u_11, cI aC pw 7 u_12, cI aC pq 128 u_13, cI aC pt 128 u_14, cI aC xr 7 rf]) hP hD [1, 2, 3, 4, 5, 6, 7, 8, 9, 10, 11, 12, 13, 14, 15, 16, 17, 18, 19, 20, 21, 22, 23, 24, 25, 0] (by decide) rfl
        have hP9 := hpd9.1
        have hD9 := hpd9.2
        refine W.widen (k := 0) (n := 0) (by omega) (by omega) ?_
        exact W.iret (v := x_21) hx hb hr (fun t ht hW => ⟨⟨x_21, (u_9, u_10, u_11, u_12, u_13, u_14, u_15, u_16, u_17, u_18, rf, 0), rfl, ⟨Or.inr ⟨rfl, hm1⟩, hm2, by rw [e_21, nI_clamp (by omega)]; unfold rPri; rw [if_pos ⟨OKI_nI hn8 ha8, OKI_nI hn8 hb8⟩, if_pos (Int32.not_le.mp c_7), nI_clamp (by omega), nI_clamp (by omega)]; exact (hm1 a ha8).1 b ((nI_ltI (by omega) (by omega)).mp (Int32.not_le.mp c_7)) hb8⟩, by rw [ht]; exact hP9, va_K.moved hW.alike hK, hD9⟩, hS.F ht⟩) hS.2.2 dX11_price_49
    · refine lv_aload_n hx hb dX11_price_22 rfl (lv_at hl 0 rfl) ?_
      refine lv_iconst (v := -1) hx hb dX11_price_23 (by decide) ?_
      have hpd9 := pdf_N (cx := [oX11 h0 xp xtp xn xt xk xl xc xo xto xr xch ts ik st, cI aC xr 7 rf]) hP hD hS hA [0, 24] (by decide) rfl
      have hPc := hpd9.1
      have hDc := hpd9.2.1
      have hFc := hpd9.2.2
      clear hpd9
      refine va_calli (va_runV (As := [Value.int (-1)]) (rest := []) ⟨hx, hb, hml, hown, hts⟩ (c_X11_refuse l dC dI aC H.size h0 xp xtp xn xt xk xl xc xo xto xr xch ts ik st (-1) 1 rf (by decide) (by decide) (by decide) (by unfold vp_in; decide)) ⟨(callB_of 1 hts (gG kw_276) rfl rfl rfl (hts _ (gw kw_1 rfl)) (hts _ (gw kw_273 rfl)) hd_X11_refuse ⟨Nat.le_of_ble_eq_true rfl, Nat.le_of_ble_eq_true rfl⟩), (hts _ (gw kw_275 rfl)), (hts _ (gw ks_0 rfl))⟩ ⟨fb_std, va_recv (q := (RX11, TX11, 14)) hK hPc (ci := 11) (q0 := 0) rfl rfl, pre_std hPc hK hDc hN⟩ rfl rfl hl.1 rfl (lv_room (Nat.le_of_ble_eq_true rfl)) dX11_price_24 ⟨Nat.le_of_ble_eq_true rfl, Nat.le_of_ble_eq_true rfl⟩) hS (fun q _ h => hFc q h) hFc (fun x_22 u9 t9 H1 locs ht hvm hw_22 hB hz1 hk1 hS => ?_)
      obtain ⟨u_23, rfl⟩ : ∃ z, z = u9 := ⟨_, rfl⟩
      obtain ⟨hP1, hK1, hD1⟩ := hB
      rw [ht] at hP1
      clear hK1
      try dsimp only at hw_22
      have hpd9 : PDx (dC, dI) classes A H1 (wp [oX9 xp po pp ps pa pe pb xn pk pu pw pq pt un fw, cI aC ek 8 kf, cI aC ef 8 ff, cI aC ew 8 wf, cI aC es 5 stf, cA aC po 8 fo, cA aC pp 8 fp, cA aC ps 8 fs, cK aC pk 7 fk, cO k0 0 [], cO k1 1 [], cO k2 3 [], cO k3 5 [], cO k4 6 [], cO k5 10 [], cO k6 8 [], cI aC pa 8 yf, cI aC pe 8 ef0, cI aC pb 8 bf, cI aC pu 7 uf, cI aC pw 7 vf, cI aC pq 128 qf, cI aC pt 128 tf, oX4 xn ek ef ew ep es (nI n) (nI sn) dn, oX11 h0 xp xtp xn xt xk xl xc xo xto xr xch ts ik st, cI aC xr 7 u_23] (va_pl L (plE aC g))) := jn_Q (wr := [oX9 xp po pp ps pa pe pb xn pk pu pw pq pt un fw, cI aC ek 8 kf, cI aC ef 8 ff, cI aC ew 8 wf, cI aC es 5 stf, cA aC po 8 fo, cA aC pp 8 fp, cA aC ps 8 fs, cK aC pk 7 fk, cO k0 0 [], cO k1 1 [], cO k2 3 [], cO k3 5 [], cO k4 6 [], cO k5 10 [], cO k6 8 [], cI aC pa 8 yf, cI aC pe 8 ef0, cI aC pb 8 bf, cI aC pu 7 uf, cI aC pw 7 vf, cI aC pq 128 qf, cI aC pt 128 tf, oX4 xn ek ef ew ep es (nI n) (nI sn) dn]) hFc hk1 hP1 hD1 hP hD [0, 24] [1, 2, 3, 4, 5, 6, 7, 8, 9, 10, 11, 12, 13, 14, 15, 16, 17, 18, 19, 20, 21, 22, 23, 25] rfl rfl (by decide) (by decide)
      have hP := hpd9.1
      have hD := hpd9.2
      clear hpd9
      generalize H1 = H at hP hS ⊢
      clear hPc hDc hFc hz1 hk1 hP1 hD1 ht hvm
      obtain ⟨hv9, -⟩ := hw_22
      have hpd9 := pd_P (cx := [oX11 h0 xp xtp xn xt xk xl xc xo xto xr xch ts ik st, oX9 xp po pp ps pa pe pb xn pk pu pw pq pt un fw, oX4 xn ek ef ew ep es (nI n) (nI sn) dn, cI aC ek 8 kf, cI aC ef 8 ff, cI aC ew 8 wf, cI aC es 5 stf, cA aC po 8 fo, cA aC pp 8 fp, cA aC ps 8 fs, cK aC pk 7 fk, cO k0 0 [], cO k1 1 [], cO k2 3 [], cO k3 5 [], cO k4 6 [], cO k5 10 [], cO k6 8 [], cI aC pa 8 yf, cI aC pe 8 ef0, cI aC pb 8 bf, cI aC pu 7 uf, cI aC pw 7 vf, cI aC pq 128 qf, cI aC pt 128 tf, cI aC xr 7 u_23]) hP hD [24, 0, 23, 1, 2, 3, 4, 5, 6, 7, 8, 9, 10, 11, 12, 13, 14, 15, 16, 17, 18, 19, 20, 21, 22, 25] (by decide) rfl
      have hP9 := hpd9.1
      have hD9 := hpd9.2
      refine W.widen (k := 0) (n := 0) (by omega) (by omega) ?_
      exact W.iret (v := x_22) hx hb hr (fun t ht hW => ⟨⟨x_22, (un, fw, uf, vf, qf, tf, bf, yf, ef0, g, u_23, st), rfl, ⟨hst, fun a _ => rfl, by rw [hv9]; unfold rPri; rw [if_neg (fun q => (has_n hz_16 c_6) q.2)]⟩, by rw [ht]; exact hP9, va_K.moved hW.alike hK, hD9⟩, hS.F ht⟩) hS.2.2 dX11_price_27
