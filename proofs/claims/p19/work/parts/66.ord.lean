theorem sg_y {n : Nat} {orf : Nat → Int32} {q : Nat} (h : OKI n (orf q)) : sg n orf q = (orf q).toNatClampNeg := by
  unfold sg
  rw [if_neg (fun z => z.elim h.1 h.2)]
theorem sg_n {n : Nat} {orf : Nat → Int32} {q : Nat} (h : ¬ OKI n (orf q)) : sg n orf q = q := by
  unfold sg
  by_cases h1 : orf q < 0
  · rw [if_pos (Or.inl h1)]
  · by_cases h2 : nI n ≤ orf q
    · rw [if_pos (Or.inr h2)]
    · exact absurd ⟨h1, h2⟩ h
theorem EVS_seat {n sn : Nat} {dn : Int32} {K F W S5 : Nat → Nat} {kf ff wf stf tk tf tw ts orf : Nat → Int32} (h : EVS n sn dn K F W S5 kf ff wf stf) (h1 : ∀ q, q < 8 → tk q = if q < n then kf (sg n orf q) else kf q) (h2 : ∀ q, q < 8 → tf q = if q < n then ff (sg n orf q) else ff q) (h3 : ∀ q, q < 8 → tw q = if q < n then wf (sg n orf q) else wf q) (h4 : ∀ j, j < 5 → ts j = stf j) : EVS n sn dn (fun q => K (sg n orf q)) (fun q => F (sg n orf q)) (fun q => W (sg n orf q)) S5 tk tf tw ts := by
  have hn := EVS_n h
  obtain ⟨⟨e1, e2, e3, e4⟩, f1, f2, f3, f4⟩ := h
  refine ⟨⟨e1, e2, by rw [h4 0 (by omega)]; exact e3, fun j hj => ?_⟩, fun k hk => by rw [h4 k hk]; exact f1 k hk, f2, f3, f4⟩
  rw [h1 j (by omega), h2 j (by omega), h3 j (by omega), if_pos hj, if_pos hj, if_pos hj]
  exact e4 _ (sg_lt (by omega) hj)

set_option maxHeartbeats 1000000 in
set_option maxRecDepth 100000 in
/-- X11_orderAsIs -/
theorem c_X11_orderAsIs (l : Launch) (dC : Nat → ClassId) (dI : Nat → Nat → Nat) (aC : Nat → ClassId) (sz : Nat) (h0 : Nat) (xp : Nat) (xtp : Nat) (xn : Nat) (xt : Nat) (xk : Nat) (xl : Nat) (xc : Nat) (xo : Nat) (xto : Nat) (xr : Nat) (xch : Nat) (ts : Int32) (ik : Int32) (st : Int32) (ek : Nat) (ef : Nat) (ew : Nat) (ep : Nat) (es : Nat) (n : Nat) (sn : Nat) (dn : Int32) (orf : Nat → Int32) (hn8 : n ≤ 8) : Met l yX11_orderAsIs (wW yX11_orderAsIs cX11_orderAsIs 2 (none : Option FieldType)) ({ frames := 0, cells := 0, slots := 0, locals := 0 } : Room) (va_Pc [Value.ref h0] (fun U => U.heap.size = sz ∧ va_P (dC, dI) classes [oX11 h0 xp xtp xn xt xk xl xc xo xto xr xch ts ik st, oX4 xn ek ef ew ep es (nI n) (nI sn) dn, cI aC xo 8 orf] U.heap ∧ va_K (dC, dI) classes (TY aC) U ∧ va_D (fun _ => True) [oX11 h0 xp xtp xn xt xk xl xc xo xto xr xch ts ik st, oX4 xn ek ef ew ep es (nI n) (nI sn) dn, cI aC xo 8 orf] ∧ NX U)) (va_Qv (fun (org : Nat → Int32) => ∀ q, q < n → org q = nI q) (fun (org : Nat → Int32) (t : State) => va_P (dC, dI) classes [oX11 h0 xp xtp xn xt xk xl xc xo xto xr xch ts ik st, oX4 xn ek ef ew ep es (nI n) (nI sn) dn, cI aC xo 8 org] t.heap ∧ va_K (dC, dI) classes (TY aC) t ∧ va_D (va_A [oX11 h0 xp xtp xn xt xk xl xc xo xto xr xch ts ik st, oX4 xn ek ef ew ep es (nI n) (nI sn) dn, cI aC xo 8 orf] sz) [oX11 h0 xp xtp xn xt xk xl xc xo xto xr xch ts ik st, oX4 xn ek ef ew ep es (nI n) (nI sn) dn, cI aC xo 8 org]) (va_A [oX11 h0 xp xtp xn xt xk xl xc xo xto xr xch ts ik st, oX4 xn ek ef ew ep es (nI n) (nI sn) dn, cI aC xo 8 orf] sz)) 0 0 (va_A [oX11 h0 xp xtp xn xt xk xl xc xo xto xr xch ts ik st, oX4 xn ek ef ew ep es (nI n) (nI sn) dn, cI aC xo 8 orf] sz) := by
  refine Met.ofW (cc := cX11_orderAsIs) (maxL := 2) (ret := (none : Option FieldType)) (by decide) rfl ?_
  intro p e s m args below meth c s₁ B hml hv
  obtain ⟨rfl, hsz, hP, hK, hD0, hN⟩ := hv
  have hx := B.exec
  have hb := B.bytes
  have hr := B.returns
  have hts0 := atoms_spec (ws := (wW yX11_orderAsIs cX11_orderAsIs 2 (none : Option FieldType))) B.pre
  have hts : ∀ w9 ∈ lw_G, w9.before ([Value.ref h0] : List Value).toArray s = true := fun w9 h9 => hts0 w9 (List.mem_cons_of_mem _ h9)
  have hown : s.vm.findClass RX11 = some m.cls := findClass_of_methodNamed (x := yX11_orderAsIs) B.named
  have hlocks := B.notSynchronized
  subst hsz
  have hD := hD0.self (sz := s.heap.size)
  generalize hAe : va_A [oX11 h0 xp xtp xn xt xk xl xc xo xto xr xch ts ik st, oX4 xn ek ef ew ep es (nI n) (nI sn) dn, cI aC xo 8 orf] s.heap.size = A at hD ⊢
  have hA : ∀ q : Nat, s.heap.size ≤ q → A q := fun q h => by rw [← hAe]; exact Or.inr h
  obtain ⟨H, hHe⟩ : ∃ H : Heap, H = s.heap := ⟨_, rfl⟩
  have hS : va_S A s.heap H [] := by rw [hHe]; exact va_S.rf
  have hP : va_P (dC, dI) classes [oX11 h0 xp xtp xn xt xk xl xc xo xto xr xch ts ik st, oX4 xn ek ef ew ep es (nI n) (nI sn) dn, cI aC xo 8 orf] H := by rw [hHe]; exact hP
  have hl := lv_entry ([Value.ref h0]) (n := 2) (Nat.le_of_ble_eq_true rfl)
  rw [lg_entry_eq]
  generalize (lg_sl ([Value.ref h0]) ++ List.replicate (2 - (lg_sl ([Value.ref h0])).length) Slot.unset).toArray = ls at hl ⊢
  have hl : lv_has ls 2 [(0, Value.ref h0)] := hl
  rw [← hHe]
  refine lv_iconst (v := 0) hx hb dX11_orderAsIs_0 (by decide) ?_
  refine lv_istore_n (lv' := [(1, Value.int 0), (0, Value.ref h0)]) hx hb dX11_orderAsIs_1 rfl hl (by decide) rfl (fun ls hl => ?_)
  have lp_2 : ∀ (fu : Nat) (j : Nat) (oc : Nat → Int32) (hfu : n - j < fu) (hj : j ≤ n) (hp : ∀ q, q < j → oc q = nI q) (H : Heap) (locs : List Loc) (ls : Array Slot), va_P (dC, dI) classes [oX11 h0 xp xtp xn xt xk xl xc xo xto xr xch ts ik st, oX4 xn ek ef ew ep es (nI n) (nI sn) dn, cI aC xo 8 oc] H → va_D A [oX11 h0 xp xtp xn xt xk xl xc xo xto xr xch ts ik st, oX4 xn ek ef ew ep es (nI n) (nI sn) dn, cI aC xo 8 oc] → va_S A s.heap H locs → lv_has ls 2 [(0, Value.ref h0), (1, Value.int (nI j))] → W p l e (headSpec (wW yX11_orderAsIs cX11_orderAsIs 2 (none : Option FieldType)) ({ frames := 0, cells := 0, slots := 0, locals := 0 } : Room)).room s m ([Value.ref h0] : List Value).toArray below meth c H locs 0 0 (MQ below (va_Qv (fun (org : Nat → Int32) => ∀ q, q < n → org q = nI q) (fun (org : Nat → Int32) (t : State) => va_P (dC, dI) classes [oX11 h0 xp xtp xn xt xk xl xc xo xto xr xch ts ik st, oX4 xn ek ef ew ep es (nI n) (nI sn) dn, cI aC xo 8 org] t.heap ∧ va_K (dC, dI) classes (TY aC) t ∧ va_D A [oX11 h0 xp xtp xn xt xk xl xc xo xto xr xch ts ik st, oX4 xn ek ef ew ep es (nI n) (nI sn) dn, cI aC xo 8 org]) A) ([Value.ref h0] : List Value).toArray s 0 0 A) (F0 m 2 ls []) := by
    intro fu
    induction fu with
    | zero => intro j oc hfu; exact absurd hfu (Nat.not_lt_zero _)
    | succ fu ih_2 =>
      intro j oc hfu hj hp H locs ls hP hD hS hl
      refine lv_iload_n hx hb dX11_orderAsIs_2 rfl (lv_at hl 1 rfl) ?_
      refine lv_aload_n hx hb dX11_orderAsIs_3 rfl (lv_at hl 0 rfl) ?_
      refine va_get (D := (dC, dI)) (ci := 11) (v := Value.ref xn) (C := RX11) (T := TX11) (N := 14) hx hb hts inX11 hown hK hP 0 rfl rfl 2 (by decide) (hts _ (gw kw_228 rfl)) (fun _ h9 => h9) rfl dX11_orderAsIs_4 ?_
      refine va_get (D := (dC, dI)) (ci := 4) (v := Value.int (nI n)) (C := RX4) (T := TX4) (N := 8) hx hb hts inX4 hown hK hP 1 rfl rfl 5 (by decide) (hts _ (gw kw_50 rfl)) (fun _ h9 => h9) rfl dX11_orderAsIs_7 ?_
      refine lv_icmp_ge (tgt := 26) hx hb dX11_orderAsIs_10 (by decide) (fun c_1 => ?_) (fun c_1 => ?_)
      · have hjn : j = n := by
          rcases Nat.lt_or_ge j n with q | q
          · exact absurd c_1 (nI_ge q (by omega))
          · omega
        have hpd9 := pd_N (cx := [oX11 h0 xp xtp xn xt xk xl xc xo xto xr xch ts ik st, oX4 xn ek ef ew ep es (nI n) (nI sn) dn, cI aC xo 8 oc]) hP hD [0, 1, 2] (by decide) rfl
        have hP9 := hpd9.1
        have hD9 := hpd9.2
        refine W.widen (k := 0) (n := 0) (by omega) (by omega) ?_
        exact W.vret hx hb hr (fun t ht hW => ⟨⟨(oc), rfl, fun q hq => hp q (by omega), by rw [ht]; exact hP9, va_K.moved hW.alike hK, hD9⟩, hS.F ht⟩) hS.2.2 dX11_orderAsIs_26
      · have hlt : j < n := by
          rcases Nat.lt_or_ge j n with q | q
          · exact q
          · exact absurd (nI_le q (by omega)) c_1
        refine lv_aload_n hx hb dX11_orderAsIs_13 rfl (lv_at hl 0 rfl) ?_
        refine va_get (D := (dC, dI)) (ci := 11) (v := Value.ref xo) (C := RX11) (T := TX11) (N := 14) hx hb hts inX11 hown hK hP 0 rfl rfl 7 (by decide) (hts _ (gw kw_233 rfl)) (fun _ h9 => h9) rfl dX11_orderAsIs_14 ?_
        refine lv_iload_n hx hb dX11_orderAsIs_17 rfl (lv_at hl 1 rfl) ?_
        refine lv_iload_n hx hb dX11_orderAsIs_18 rfl (lv_at hl 1 rfl) ?_
        have h_2 : vp_in (nI j) 8 := by first | exact vp_in_nI (by omega) (by omega) | (unfold vp_in; decide) | (subst_vars; first | (unfold vp_in; decide) | exact vp_in_nI (by omega) (by omega))
        refine va_iast hx hb hK hP hD hS 2 0 rfl rfl h_2 dX11_orderAsIs_19 (fun H locs hP hD hS => ?_)
        obtain ⟨f_3, e_f_3⟩ : ∃ y : Nat → Int32, y = upd oc (nI j : Int32).toNatClampNeg (nI j) := ⟨_, rfl⟩
        have hpd9 : PDx (dC, dI) classes A H [oX11 h0 xp xtp xn xt xk xl xc xo xto xr xch ts ik st, oX4 xn ek ef ew ep es (nI n) (nI sn) dn, cI aC xo 8 f_3] := by rw [e_f_3]; exact ⟨hP, hD⟩
        have hP := hpd9.1
        have hD := hpd9.2
        clear hpd9
        obtain ⟨x_4, e_4⟩ : ∃ y : Int32, y = (nI j) + 1 := ⟨_, rfl⟩
        refine lv_iinc (v := x_4) (lv' := [(1, Value.int x_4), (0, Value.ref h0)]) hx hb dX11_orderAsIs_20 hl (k := 1) rfl (by rw [e_4]; rfl) (by decide) rfl (fun ls hl => ?_)
        have h9 : x_4 = nI (j + 1) := by rw [e_4, nI_1]
        subst h9
        refine lv_goto (tgt := 2) hx hb dX11_orderAsIs_23 (by decide) ?_
        exact ih_2 (j + 1) f_3 (ms_lt hlt hfu) (by omega) (fun q hq => by rw [e_f_3, nI_clamp (by omega)]; by_cases e : q = j <;> first | (rw [e, pk_us]; done) | (rw [pk_un e]; exact hp q (by omega))) _ _ _ (hP.sub [0, 1, 2] rfl) (hD.sub [0, 1, 2] (by decide) rfl) hS (lv_sub hl [1, 0] rfl)
  exact lp_2 ((n - 0) + 1) 0 orf (Nat.lt_succ_self _) (by omega) (fun q hq => by omega) _ _ _ (hP.sub [0, 1, 2] rfl) (hD.sub [0, 1, 2] (by decide) rfl) hS (lv_sub hl [1, 0] rfl)

/-- one man at another place, the others in their order -/
def bo (m p q : Nat) : Nat := if q = p then m else if q < p then (if q < m then q else q + 1) else (if q - 1 < m then q - 1 else q)
theorem bo_lt {n m p q : Nat} (hm : m < n) (hp : p < n) (hq : q < n) : bo m p q < n := by
  unfold bo
  repeat' split
  all_goals omega
theorem bo_id {m q : Nat} : bo m m q = q := by
  unfold bo
  repeat' split
  all_goals omega
/-- the next of the others -/
def nxo (m p j : Nat) : Nat := if (if j ≤ p then j else j - 1) ≤ m then (if j ≤ p then j else j - 1) else (if j ≤ p then j else j - 1) + 1
theorem nx_b1 {m p j : Nat} (h : j ≠ p) (h2 : nxo m p j ≠ m) : nxo m p j = bo m p j := by
  unfold nxo at *
  unfold bo
  repeat' split
  all_goals (repeat' split at h2)
  all_goals omega
theorem nx_b2 {m p j : Nat} (h : j ≠ p) (h2 : nxo m p j = m) : nxo m p j + 1 = bo m p j := by
  unfold nxo at *
  unfold bo
  repeat' split
  all_goals (repeat' split at h2)
  all_goals omega
theorem nx_s {m p j : Nat} (h : j ≠ p) : bo m p j + 1 = nxo m p (j + 1) := by
  unfold nxo bo
  repeat' split
  all_goals omega
theorem nx_e {m p j : Nat} (h : j = p) : nxo m p j = nxo m p (j + 1) := by
  unfold nxo
  repeat' split
  all_goals omega
theorem nx_le {m p j : Nat} (h : j ≤ 8) : nxo m p j ≤ 9 := by
  unfold nxo
  repeat' split
  all_goals omega
theorem nx_0 {m p : Nat} : nxo m p 0 = 0 := by
  unfold nxo
  repeat' split
  all_goals omega
theorem bo_p {m p : Nat} : bo m p p = m := if_pos rfl
theorem sgb {n : Nat} {orf : Nat → Int32} {q x : Nat} (hn : n ≤ 8) (hx : x < n) (h : orf q = nI x) : sg n orf q = x := by
  rw [sg_y (by rw [h]; exact OKI_nI hn hx), h, nI_clamp (by omega)]
theorem EVS_pm {n sn : Nat} {dn : Int32} {K F W S5 : Nat → Nat} {kf ff wf stf tk tf tw ts : Nat → Int32} {s : Nat → Nat} (h : EVS n sn dn K F W S5 kf ff wf stf) (hs : ∀ q, q < n → s q < n) (h1 : ∀ q, q < n → tk q = kf (s q)) (h2 : ∀ q, q < n → tf q = ff (s q)) (h3 : ∀ q, q < n → tw q = wf (s q)) (h4 : ∀ j, j < 5 → ts j = stf j) : EVS n sn dn (fun q => K (s q)) (fun q => F (s q)) (fun q => W (s q)) S5 tk tf tw ts := by
  obtain ⟨⟨e1, e2, e3, e4⟩, f1, f2, f3, f4⟩ := h
  refine ⟨⟨e1, e2, by rw [h4 0 (by omega)]; exact e3, fun j hj => ?_⟩, fun k hk => by rw [h4 k hk]; exact f1 k hk, f2, f3, f4⟩
  rw [h1 j hj, h2 j hj, h3 j hj]
  exact e4 _ (hs j hj)

set_option maxHeartbeats 1000000 in
set_option maxRecDepth 100000 in
/-- X11_orderWith -/
theorem c_X11_orderWith (l : Launch) (dC : Nat → ClassId) (dI : Nat → Nat → Nat) (aC : Nat → ClassId) (sz : Nat) (h0 : Nat) (xp : Nat) (xtp : Nat) (xn : Nat) (xt : Nat) (xk : Nat) (xl : Nat) (xc : Nat) (xo : Nat) (xto : Nat) (xr : Nat) (xch : Nat) (ts : Int32) (ik : Int32) (st : Int32) (ek : Nat) (ef : Nat) (ew : Nat) (ep : Nat) (es : Nat) (n : Nat) (sn : Nat) (dn : Int32) (orf : Nat → Int32) (mm : Nat) (pq : Nat) (hn8 : n ≤ 8) (hmm : mm < n) (hpq : pq < n) : Met l yX11_orderWith (wW yX11_orderWith cX11_orderWith 5 (none : Option FieldType)) ({ frames := 0, cells := 0, slots := 0, locals := 0 } : Room) (va_Pc [Value.ref h0, Value.int (nI mm), Value.int (nI pq)] (fun U => U.heap.size = sz ∧ va_P (dC, dI) classes [oX11 h0 xp xtp xn xt xk xl xc xo xto xr xch ts ik st, oX4 xn ek ef ew ep es (nI n) (nI sn) dn, cI aC xo 8 orf] U.heap ∧ va_K (dC, dI) classes (TY aC) U ∧ va_D (fun _ => True) [oX11 h0 xp xtp xn xt xk xl xc xo xto xr xch ts ik st, oX4 xn ek ef ew ep es (nI n) (nI sn) dn, cI aC xo 8 orf] ∧ NX U)) (va_Qv (fun (org : Nat → Int32) => ∀ q, q < n → org q = nI (bo mm pq q)) (fun (org : Nat → Int32) (t : State) => va_P (dC, dI) classes [oX11 h0 xp xtp xn xt xk xl xc xo xto xr xch ts ik st, oX4 xn ek ef ew ep es (nI n) (nI sn) dn, cI aC xo 8 org] t.heap ∧ va_K (dC, dI) classes (TY aC) t ∧ va_D (va_A [oX11 h0 xp xtp xn xt xk xl xc xo xto xr xch ts ik st, oX4 xn ek ef ew ep es (nI n) (nI sn) dn, cI aC xo 8 orf] sz) [oX11 h0 xp xtp xn xt xk xl xc xo xto xr xch ts ik st, oX4 xn ek ef ew ep es (nI n) (nI sn) dn, cI aC xo 8 org]) (va_A [oX11 h0 xp xtp xn xt xk xl xc xo xto xr xch ts ik st, oX4 xn ek ef ew ep es (nI n) (nI sn) dn, cI aC xo 8 orf] sz)) 0 0 (va_A [oX11 h0 xp xtp xn xt xk xl xc xo xto xr xch ts ik st, oX4 xn ek ef ew ep es (nI n) (nI sn) dn, cI aC xo 8 orf] sz) := by
  refine Met.ofW (cc := cX11_orderWith) (maxL := 5) (ret := (none : Option FieldType)) (by decide) rfl ?_
  intro p e s m args below meth c s₁ B hml hv
  obtain ⟨rfl, hsz, hP, hK, hD0, hN⟩ := hv
  have hx := B.exec
  have hb := B.bytes
  have hr := B.returns
  have hts0 := atoms_spec (ws := (wW yX11_orderWith cX11_orderWith 5 (none : Option FieldType))) B.pre
  have hts : ∀ w9 ∈ lw_G, w9.before ([Value.ref h0, Value.int (nI mm), Value.int (nI pq)] : List Value).toArray s = true := fun w9 h9 => hts0 w9 (List.mem_cons_of_mem _ h9)
  have hown : s.vm.findClass RX11 = some m.cls := findClass_of_methodNamed (x := yX11_orderWith) B.named
  have hlocks := B.notSynchronized
  subst hsz
  have hD := hD0.self (sz := s.heap.size)
  generalize hAe : va_A [oX11 h0 xp xtp xn xt xk xl xc xo xto xr xch ts ik st, oX4 xn ek ef ew ep es (nI n) (nI sn) dn, cI aC xo 8 orf] s.heap.size = A at hD ⊢
  have hA : ∀ q : Nat, s.heap.size ≤ q → A q := fun q h => by rw [← hAe]; exact Or.inr h
  obtain ⟨H, hHe⟩ : ∃ H : Heap, H = s.heap := ⟨_, rfl⟩
  have hS : va_S A s.heap H [] := by rw [hHe]; exact va_S.rf
  have hP : va_P (dC, dI) classes [oX11 h0 xp xtp xn xt xk xl xc xo xto xr xch ts ik st, oX4 xn ek ef ew ep es (nI n) (nI sn) dn, cI aC xo 8 orf] H := by rw [hHe]; exact hP
  have hl := lv_entry ([Value.ref h0, Value.int (nI mm), Value.int (nI pq)]) (n := 5) (Nat.le_of_ble_eq_true rfl)
  rw [lg_entry_eq]
  generalize (lg_sl ([Value.ref h0, Value.int (nI mm), Value.int (nI pq)]) ++ List.replicate (5 - (lg_sl ([Value.ref h0, Value.int (nI mm), Value.int (nI pq)])).length) Slot.unset).toArray = ls at hl ⊢
  have hl : lv_has ls 5 [(0, Value.ref h0), (1, Value.int (nI mm)), (2, Value.int (nI pq))] := hl
  rw [← hHe]
  refine lv_iconst (v := 0) hx hb dX11_orderWith_0 (by decide) ?_
  refine lv_istore_n (lv' := [(3, Value.int 0), (0, Value.ref h0), (1, Value.int (nI mm)), (2, Value.int (nI pq))]) hx hb dX11_orderWith_1 rfl hl (by decide) rfl (fun ls hl => ?_)
  refine lv_iconst (v := 0) hx hb dX11_orderWith_2 (by decide) ?_
  refine lv_istore (lv' := [(4, Value.int 0), (3, Value.int 0), (0, Value.ref h0), (1, Value.int (nI mm)), (2, Value.int (nI pq))]) hx hb dX11_orderWith_3 hl (by decide) rfl (fun ls hl => ?_)
  have hl : lv_has ls 5 [(4, Value.int 0), (3, Value.int (nI (nxo mm pq 0))), (0, Value.ref h0), (1, Value.int (nI mm)), (2, Value.int (nI pq))] := by rw [← (show (0 : Int32) = nI (nxo mm pq 0) by rw [nx_0]; rfl)]; exact hl
  have lp_5 : ∀ (fu : Nat) (j : Nat) (oc : Nat → Int32) (hfu : n - j < fu) (hj : j ≤ n) (hp : ∀ q, q < j → oc q = nI (bo mm pq q)) (H : Heap) (locs : List Loc) (ls : Array Slot), va_P (dC, dI) classes [oX11 h0 xp xtp xn xt xk xl xc xo xto xr xch ts ik st, oX4 xn ek ef ew ep es (nI n) (nI sn) dn, cI aC xo 8 oc] H → va_D A [oX11 h0 xp xtp xn xt xk xl xc xo xto xr xch ts ik st, oX4 xn ek ef ew ep es (nI n) (nI sn) dn, cI aC xo 8 oc] → va_S A s.heap H locs → lv_has ls 5 [(0, Value.ref h0), (1, Value.int (nI mm)), (2, Value.int (nI pq)), (3, Value.int (nI (nxo mm pq j))), (4, Value.int (nI j))] → W p l e (headSpec (wW yX11_orderWith cX11_orderWith 5 (none : Option FieldType)) ({ frames := 0, cells := 0, slots := 0, locals := 0 } : Room)).room s m ([Value.ref h0, Value.int (nI mm), Value.int (nI pq)] : List Value).toArray below meth c H locs 0 0 (MQ below (va_Qv (fun (org : Nat → Int32) => ∀ q, q < n → org q = nI (bo mm pq q)) (fun (org : Nat → Int32) (t : State) => va_P (dC, dI) classes [oX11 h0 xp xtp xn xt xk xl xc xo xto xr xch ts ik st, oX4 xn ek ef ew ep es (nI n) (nI sn) dn, cI aC xo 8 org] t.heap ∧ va_K (dC, dI) classes (TY aC) t ∧ va_D A [oX11 h0 xp xtp xn xt xk xl xc xo xto xr xch ts ik st, oX4 xn ek ef ew ep es (nI n) (nI sn) dn, cI aC xo 8 org]) A) ([Value.ref h0, Value.int (nI mm), Value.int (nI pq)] : List Value).toArray s 0 0 A) (F0 m 5 ls []) := by
    intro fu
    induction fu with
    | zero => intro j oc hfu; exact absurd hfu (Nat.not_lt_zero _)
    | succ fu ih_5 =>
      intro j oc hfu hj hp H locs ls hP hD hS hl
      refine lv_iload hx hb dX11_orderWith_5 (lv_at hl 4 rfl) ?_
      refine lv_aload_n hx hb dX11_orderWith_7 rfl (lv_at hl 0 rfl) ?_
      refine va_get (D := (dC, dI)) (ci := 11) (v := Value.ref xn) (C := RX11) (T := TX11) (N := 14) hx hb hts inX11 hown hK hP 0 rfl rfl 2 (by decide) (hts _ (gw kw_228 rfl)) (fun _ h9 => h9) rfl dX11_orderWith_8 ?_
      refine va_get (D := (dC, dI)) (ci := 4) (v := Value.int (nI n)) (C := RX4) (T := TX4) (N := 8) hx hb hts inX4 hown hK hP 1 rfl rfl 5 (by decide) (hts _ (gw kw_50 rfl)) (fun _ h9 => h9) rfl dX11_orderWith_11 ?_
      refine lv_icmp_ge (tgt := 59) hx hb dX11_orderWith_14 (by decide) (fun c_1 => ?_) (fun c_1 => ?_)
      · have hjn : j = n := by
          rcases Nat.lt_or_ge j n with q | q
          · exact absurd c_1 (nI_ge q (by omega))
          · omega
        have hpd9 := pd_N (cx := [oX11 h0 xp xtp xn xt xk xl xc xo xto xr xch ts ik st, oX4 xn ek ef ew ep es (nI n) (nI sn) dn, cI aC xo 8 oc]) hP hD [0, 1, 2] (by decide) rfl
        have hP9 := hpd9.1
        have hD9 := hpd9.2
        refine W.widen (k := 0) (n := 0) (by omega) (by omega) ?_
        exact W.vret hx hb hr (fun t ht hW => ⟨⟨(oc), rfl, fun q hq => hp q (by omega), by rw [ht]; exact hP9, va_K.moved hW.alike hK, hD9⟩, hS.F ht⟩) hS.2.2 dX11_orderWith_59
      · have hlt : j < n := by
          rcases Nat.lt_or_ge j n with q | q
          · exact q
          · exact absurd (nI_le q (by omega)) c_1
        have hnx := nx_le (m := mm) (p := pq) (j := j) (by omega)
        refine lv_iload hx hb dX11_orderWith_17 (lv_at hl 4 rfl) ?_
        refine lv_iload_n hx hb dX11_orderWith_19 rfl (lv_at hl 2 rfl) ?_
        refine lv_icmp_ne (tgt := 34) hx hb dX11_orderWith_20 (by decide) (fun c_2 => ?_) (fun c_2 => ?_)
        · refine lv_iload_n hx hb dX11_orderWith_34 rfl (lv_at hl 3 rfl) ?_
          refine lv_iload_n hx hb dX11_orderWith_35 rfl (lv_at hl 1 rfl) ?_
          refine lv_icmp_ne (tgt := 42) hx hb dX11_orderWith_36 (by decide) (fun c_3 => ?_) (fun c_3 => ?_)
          · have hne : j ≠ pq := fun e9 => c_2 (by rw [e9])
            have hl : lv_has ls 5 [(0, Value.ref h0), (1, Value.int (nI mm)), (2, Value.int (nI pq)), (3, Value.int (nI (bo mm pq j))), (4, Value.int (nI j))] := by rw [← (show nI (nxo mm pq j) = nI (bo mm pq j) by rw [nx_b1 hne (fun e9 => c_3 (by rw [e9]))])]; exact hl
            refine lv_aload_n hx hb dX11_orderWith_42 rfl (lv_at hl 0 rfl) ?_
            refine va_get (D := (dC, dI)) (ci := 11) (v := Value.ref xo) (C := RX11) (T := TX11) (N := 14) hx hb hts inX11 hown hK hP 0 rfl rfl 7 (by decide) (hts _ (gw kw_233 rfl)) (fun _ h9 => h9) rfl dX11_orderWith_43 ?_
            refine lv_iload hx hb dX11_orderWith_46 (lv_at hl 4 rfl) ?_
            refine lv_iload_n hx hb dX11_orderWith_48 rfl (lv_at hl 3 rfl) ?_
            have h_4 : vp_in (nI j) 8 := vp_in_nI (by omega) (by omega)
            refine va_iast hx hb hK hP hD hS 2 0 rfl rfl h_4 dX11_orderWith_49 (fun H locs hP hD hS => ?_)
            obtain ⟨f_5, e_f_5⟩ : ∃ y : Nat → Int32, y = upd oc (nI j : Int32).toNatClampNeg (nI (bo mm pq j)) := ⟨_, rfl⟩
            have hpd9 : PDx (dC, dI) classes A H [oX11 h0 xp xtp xn xt xk xl xc xo xto xr xch ts ik st, oX4 xn ek ef ew ep es (nI n) (nI sn) dn, cI aC xo 8 f_5] := by rw [e_f_5]; exact ⟨hP, hD⟩
            have hP := hpd9.1
            have hD := hpd9.2
            clear hpd9
            obtain ⟨x_6, e_6⟩ : ∃ y : Int32, y = (nI (bo mm pq j)) + 1 := ⟨_, rfl⟩
            refine lv_iinc (v := x_6) (lv' := [(3, Value.int x_6), (0, Value.ref h0), (1, Value.int (nI mm)), (2, Value.int (nI pq)), (4, Value.int (nI j))]) hx hb dX11_orderWith_50 hl (k := 3) rfl (by rw [e_6]; rfl) (by decide) rfl (fun ls hl => ?_)
            have h9 : x_6 = nI (nxo mm pq (j + 1)) := by rw [e_6, nI_1, nx_s hne]
            subst h9
            have hp2 : ∀ q, q < j + 1 → f_5 q = nI (bo mm pq q) := fun q hq => by
              rw [e_f_5, nI_clamp (by omega)]
              by_cases e9 : q = j
              · rw [e9, pk_us]
              · rw [pk_un e9]; exact hp q (by omega)
            obtain ⟨x_7, e_7⟩ : ∃ y : Int32, y = (nI j) + 1 := ⟨_, rfl⟩
            refine lv_iinc (v := x_7) (lv' := [(4, Value.int x_7), (3, Value.int (nI (nxo mm pq (j + 1)))), (0, Value.ref h0), (1, Value.int (nI mm)), (2, Value.int (nI pq))]) hx hb dX11_orderWith_53 hl (k := 4) rfl (by rw [e_7]; rfl) (by decide) rfl (fun ls hl => ?_)
            have h9 : x_7 = nI (j + 1) := by rw [e_7, nI_1]
            subst h9
            refine lv_goto (tgt := 5) hx hb dX11_orderWith_56 (by decide) ?_
            exact ih_5 (j + 1) f_5 (ms_lt hlt hfu) (by omega) (hp2) _ _ _ (hP.sub [0, 1, 2] rfl) (hD.sub [0, 1, 2] (by decide) rfl) hS (lv_sub hl [2, 3, 4, 1, 0] rfl)
          · obtain ⟨x_8, e_8⟩ : ∃ y : Int32, y = (nI (nxo mm pq j)) + 1 := ⟨_, rfl⟩
            refine lv_iinc (v := x_8) (lv' := [(3, Value.int x_8), (0, Value.ref h0), (1, Value.int (nI mm)), (2, Value.int (nI pq)), (4, Value.int (nI j))]) hx hb dX11_orderWith_39 hl (k := 3) rfl (by rw [e_8]; rfl) (by decide) rfl (fun ls hl => ?_)
            have hne : j ≠ pq := fun e9 => c_2 (by rw [e9])
            have h9 : x_8 = nI (bo mm pq j) := by rw [e_8, nI_1, nx_b2 hne ((nI_eq (by omega) (by omega)).mp c_3)]
            subst h9
            refine lv_aload_n hx hb dX11_orderWith_42 rfl (lv_at hl 1 rfl) ?_
            refine va_get (D := (dC, dI)) (ci := 11) (v := Value.ref xo) (C := RX11) (T := TX11) (N := 14) hx hb hts inX11 hown hK hP 0 rfl rfl 7 (by decide) (hts _ (gw kw_233 rfl)) (fun _ h9 => h9) rfl dX11_orderWith_43 ?_
            refine lv_iload hx hb dX11_orderWith_46 (lv_at hl 4 rfl) ?_
            refine lv_iload_n hx hb dX11_orderWith_48 rfl (lv_at hl 0 rfl) ?_
            have h_9 : vp_in (nI j) 8 := vp_in_nI (by omega) (by omega)
            refine va_iast hx hb hK hP hD hS 2 0 rfl rfl h_9 dX11_orderWith_49 (fun H locs hP hD hS => ?_)
            obtain ⟨f_10, e_f_10⟩ : ∃ y : Nat → Int32, y = upd oc (nI j : Int32).toNatClampNeg (nI (bo mm pq j)) := ⟨_, rfl⟩
            have hpd9 : PDx (dC, dI) classes A H [oX11 h0 xp xtp xn xt xk xl xc xo xto xr xch ts ik st, oX4 xn ek ef ew ep es (nI n) (nI sn) dn, cI aC xo 8 f_10] := by rw [e_f_10]; exact ⟨hP, hD⟩
            have hP := hpd9.1
            have hD := hpd9.2
            clear hpd9
            obtain ⟨x_11, e_11⟩ : ∃ y : Int32, y = (nI (bo mm pq j)) + 1 := ⟨_, rfl⟩
            refine lv_iinc (v := x_11) (lv' := [(3, Value.int x_11), (0, Value.ref h0), (1, Value.int (nI mm)), (2, Value.int (nI pq)), (4, Value.int (nI j))]) hx hb dX11_orderWith_50 hl (k := 0) rfl (by rw [e_11]; rfl) (by decide) rfl (fun ls hl => ?_)
            have h9 : x_11 = nI (nxo mm pq (j + 1)) := by rw [e_11, nI_1, nx_s hne]
            subst h9
            have hp2 : ∀ q, q < j + 1 → f_10 q = nI (bo mm pq q) := fun q hq => by
              rw [e_f_10, nI_clamp (by omega)]
              by_cases e9 : q = j
              · rw [e9, pk_us]
              · rw [pk_un e9]; exact hp q (by omega)
            obtain ⟨x_12, e_12⟩ : ∃ y : Int32, y = (nI j) + 1 := ⟨_, rfl⟩
            refine lv_iinc (v := x_12) (lv' := [(4, Value.int x_12), (3, Value.int (nI (nxo mm pq (j + 1)))), (0, Value.ref h0), (1, Value.int (nI mm)), (2, Value.int (nI pq))]) hx hb dX11_orderWith_53 hl (k := 4) rfl (by rw [e_12]; rfl) (by decide) rfl (fun ls hl => ?_)
            have h9 : x_12 = nI (j + 1) := by rw [e_12, nI_1]
            subst h9
            refine lv_goto (tgt := 5) hx hb dX11_orderWith_56 (by decide) ?_
            exact ih_5 (j + 1) f_10 (ms_lt hlt hfu) (by omega) (hp2) _ _ _ (hP.sub [0, 1, 2] rfl) (hD.sub [0, 1, 2] (by decide) rfl) hS (lv_sub hl [2, 3, 4, 1, 0] rfl)
        · refine lv_aload_n hx hb dX11_orderWith_23 rfl (lv_at hl 0 rfl) ?_
          refine va_get (D := (dC, dI)) (ci := 11) (v := Value.ref xo) (C := RX11) (T := TX11) (N := 14) hx hb hts inX11 hown hK hP 0 rfl rfl 7 (by decide) (hts _ (gw kw_233 rfl)) (fun _ h9 => h9) rfl dX11_orderWith_24 ?_
          refine lv_iload hx hb dX11_orderWith_27 (lv_at hl 4 rfl) ?_
          refine lv_iload_n hx hb dX11_orderWith_29 rfl (lv_at hl 1 rfl) ?_
          have h_13 : vp_in (nI j) 8 := vp_in_nI (by omega) (by omega)
          refine va_iast hx hb hK hP hD hS 2 0 rfl rfl h_13 dX11_orderWith_30 (fun H locs hP hD hS => ?_)
          obtain ⟨f_14, e_f_14⟩ : ∃ y : Nat → Int32, y = upd oc (nI j : Int32).toNatClampNeg (nI mm) := ⟨_, rfl⟩
          have hpd9 : PDx (dC, dI) classes A H [oX11 h0 xp xtp xn xt xk xl xc xo xto xr xch ts ik st, oX4 xn ek ef ew ep es (nI n) (nI sn) dn, cI aC xo 8 f_14] := by rw [e_f_14]; exact ⟨hP, hD⟩
          have hP := hpd9.1
          have hD := hpd9.2
          clear hpd9
          refine lv_goto (tgt := 53) hx hb dX11_orderWith_31 (by decide) ?_
          have hje : j = pq := (nI_eq (by omega) (by omega)).mp c_2
          have hl : lv_has ls 5 [(0, Value.ref h0), (1, Value.int (nI mm)), (2, Value.int (nI pq)), (3, Value.int (nI (nxo mm pq (j + 1)))), (4, Value.int (nI j))] := by rw [← (show nI (nxo mm pq j) = nI (nxo mm pq (j + 1)) by rw [nx_e hje])]; exact hl
          have hp2 : ∀ q, q < j + 1 → f_14 q = nI (bo mm pq q) := fun q hq => by
            rw [e_f_14, nI_clamp (by omega)]
            by_cases e9 : q = j
            · rw [e9, pk_us, hje, bo_p]
            · rw [pk_un e9]; exact hp q (by omega)
          obtain ⟨x_15, e_15⟩ : ∃ y : Int32, y = (nI j) + 1 := ⟨_, rfl⟩
          refine lv_iinc (v := x_15) (lv' := [(4, Value.int x_15), (0, Value.ref h0), (1, Value.int (nI mm)), (2, Value.int (nI pq)), (3, Value.int (nI (nxo mm pq (j + 1))))]) hx hb dX11_orderWith_53 hl (k := 4) rfl (by rw [e_15]; rfl) (by decide) rfl (fun ls hl => ?_)
          have h9 : x_15 = nI (j + 1) := by rw [e_15, nI_1]
          subst h9
          refine lv_goto (tgt := 5) hx hb dX11_orderWith_56 (by decide) ?_
          exact ih_5 (j + 1) f_14 (ms_lt hlt hfu) (by omega) (hp2) _ _ _ (hP.sub [0, 1, 2] rfl) (hD.sub [0, 1, 2] (by decide) rfl) hS (lv_sub hl [1, 2, 3, 4, 0] rfl)
  exact lp_5 ((n - 0) + 1) 0 orf (Nat.lt_succ_self _) (by omega) (fun q hq => by omega) _ _ _ (hP.sub [0, 1, 2] rfl) (hD.sub [0, 1, 2] (by decide) rfl) hS (lv_sub hl [2, 3, 4, 1, 0] rfl)

set_option maxHeartbeats 1000000 in
set_option maxRecDepth 100000 in
/-- X11_seat -/
theorem c_X11_seat (l : Launch) (dC : Nat → ClassId) (dI : Nat → Nat → Nat) (aC : Nat → ClassId) (sz : Nat) (h0 : Nat) (xp : Nat) (xtp : Nat) (xn : Nat) (xt : Nat) (xk : Nat) (xl : Nat) (xc : Nat) (xo : Nat) (xto : Nat) (xr : Nat) (xch : Nat) (ts : Int32) (ik : Int32) (st : Int32) (ek : Nat) (ef : Nat) (ew : Nat) (ep : Nat) (es : Nat) (n : Nat) (sn : Nat) (dn : Int32) (kf : Nat → Int32) (ff : Nat → Int32) (wf : Nat → Int32) (pf : Nat → Int32) (stf : Nat → Int32) (tek : Nat) (tef : Nat) (tew : Nat) (tep : Nat) (tes : Nat) (tsz : Int32) (tsy : Int32) (tdn : Int32) (tkf : Nat → Int32) (tff : Nat → Int32) (twf : Nat → Int32) (tpf : Nat → Int32) (tsf : Nat → Int32) (orf : Nat → Int32) (tG : Nat) (hn8 : n ≤ 8) (hdn : dn = 0 ∨ dn = 1) : Met l yX11_seat (wW yX11_seat cX11_seat 3 (none : Option FieldType)) ({ frames := 2, cells := 0, slots := 0, locals := 61 } : Room) (va_Pc [Value.ref h0] (fun U => U.heap.size = sz ∧ va_P (dC, dI) classes [oX11 h0 xp xtp xn xt xk xl xc xo xto xr xch ts ik st, oX4 xn ek ef ew ep es (nI n) (nI sn) dn, cI aC ek 8 kf, cI aC ef 8 ff, cI aC ew 8 wf, cI aC ep 8 pf, cI aC es 5 stf, oX4 xt tek tef tew tep tes tsz tsy tdn, cI aC tek 8 tkf, cI aC tef 8 tff, cI aC tew 8 twf, cI aC tep 8 tpf, cI aC tes 5 tsf, cI aC xo 8 orf] U.heap ∧ va_K (dC, dI) classes (TY aC) U ∧ va_D (fun _ => True) [oX11 h0 xp xtp xn xt xk xl xc xo xto xr xch ts ik st, oX4 xn ek ef ew ep es (nI n) (nI sn) dn, cI aC ek 8 kf, cI aC ef 8 ff, cI aC ew 8 wf, cI aC ep 8 pf, cI aC es 5 stf, oX4 xt tek tef tew tep tes tsz tsy tdn, cI aC tek 8 tkf, cI aC tef 8 tff, cI aC tew 8 twf, cI aC tep 8 tpf, cI aC tes 5 tsf, cI aC xo 8 orf] ∧ NX U ∧ va_Z "EldestSays" "GREATEST" "[I" (.ref tG) (va_A [oX11 h0 xp xtp xn xt xk xl xc xo xto xr xch ts ik st, oX4 xn ek ef ew ep es (nI n) (nI sn) dn, cI aC ek 8 kf, cI aC ef 8 ff, cI aC ew 8 wf, cI aC ep 8 pf, cI aC es 5 stf, oX4 xt tek tef tew tep tes tsz tsy tdn, cI aC tek 8 tkf, cI aC tef 8 tff, cI aC tew 8 twf, cI aC tep 8 tpf, cI aC tes 5 tsf, cI aC xo 8 orf] sz) U U.heap ∧ va_T .int tG 5 (fun j => .int (GV j)) (va_A [oX11 h0 xp xtp xn xt xk xl xc xo xto xr xch ts ik st, oX4 xn ek ef ew ep es (nI n) (nI sn) dn, cI aC ek 8 kf, cI aC ef 8 ff, cI aC ew 8 wf, cI aC ep 8 pf, cI aC es 5 stf, oX4 xt tek tef tew tep tes tsz tsy tdn, cI aC tek 8 tkf, cI aC tef 8 tff, cI aC tew 8 twf, cI aC tep 8 tpf, cI aC tes 5 tsf, cI aC xo 8 orf] sz) U U.heap)) (va_Qv (fun (u : (Nat → Int32) × (Nat → Int32) × (Nat → Int32) × (Nat → Int32) × (Nat → Int32)) => match u with | (tkf2, tff2, twf2, tpf2, tsf2) => (∀ q, q < 8 → tkf2 q = if q < n then kf (sg n orf q) else kf q) ∧ (∀ q, q < 8 → tff2 q = if q < n then ff (sg n orf q) else ff q) ∧ (∀ q, q < 8 → twf2 q = if q < n then wf (sg n orf q) else wf q) ∧ (∀ j, j < 8 → tpf2 j = pf j) ∧ (∀ j, j < 5 → tsf2 j = stf j)) (fun (u : (Nat → Int32) × (Nat → Int32) × (Nat → Int32) × (Nat → Int32) × (Nat → Int32)) (t : State) => match u with | (tkf2, tff2, twf2, tpf2, tsf2) => va_P (dC, dI) classes [oX11 h0 xp xtp xn xt xk xl xc xo xto xr xch ts ik st, oX4 xn ek ef ew ep es (nI n) (nI sn) dn, cI aC ek 8 kf, cI aC ef 8 ff, cI aC ew 8 wf, cI aC ep 8 pf, cI aC es 5 stf, oX4 xt tek tef tew tep tes (nI n) (nI sn) dn, cI aC tek 8 tkf2, cI aC tef 8 tff2, cI aC tew 8 twf2, cI aC tep 8 tpf2, cI aC tes 5 tsf2, cI aC xo 8 orf] t.heap ∧ va_K (dC, dI) classes (TY aC) t ∧ va_D (va_A [oX11 h0 xp xtp xn xt xk xl xc xo xto xr xch ts ik st, oX4 xn ek ef ew ep es (nI n) (nI sn) dn, cI aC ek 8 kf, cI aC ef 8 ff, cI aC ew 8 wf, cI aC ep 8 pf, cI aC es 5 stf, oX4 xt tek tef tew tep tes tsz tsy tdn, cI aC tek 8 tkf, cI aC tef 8 tff, cI aC tew 8 twf, cI aC tep 8 tpf, cI aC tes 5 tsf, cI aC xo 8 orf] sz) [oX11 h0 xp xtp xn xt xk xl xc xo xto xr xch ts ik st, oX4 xn ek ef ew ep es (nI n) (nI sn) dn, cI aC ek 8 kf, cI aC ef 8 ff, cI aC ew 8 wf, cI aC ep 8 pf, cI aC es 5 stf, oX4 xt tek tef tew tep tes (nI n) (nI sn) dn, cI aC tek 8 tkf2, cI aC tef 8 tff2, cI aC tew 8 twf2, cI aC tep 8 tpf2, cI aC tes 5 tsf2, cI aC xo 8 orf]) (va_A [oX11 h0 xp xtp xn xt xk xl xc xo xto xr xch ts ik st, oX4 xn ek ef ew ep es (nI n) (nI sn) dn, cI aC ek 8 kf, cI aC ef 8 ff, cI aC ew 8 wf, cI aC ep 8 pf, cI aC es 5 stf, oX4 xt tek tef tew tep tes tsz tsy tdn, cI aC tek 8 tkf, cI aC tef 8 tff, cI aC tew 8 twf, cI aC tep 8 tpf, cI aC tes 5 tsf, cI aC xo 8 orf] sz)) 0 0 (va_A [oX11 h0 xp xtp xn xt xk xl xc xo xto xr xch ts ik st, oX4 xn ek ef ew ep es (nI n) (nI sn) dn, cI aC ek 8 kf, cI aC ef 8 ff, cI aC ew 8 wf, cI aC ep 8 pf, cI aC es 5 stf, oX4 xt tek tef tew tep tes tsz tsy tdn, cI aC tek 8 tkf, cI aC tef 8 tff, cI aC tew 8 twf, cI aC tep 8 tpf, cI aC tes 5 tsf, cI aC xo 8 orf] sz) := by
  refine Met.ofW (cc := cX11_seat) (maxL := 3) (ret := (none : Option FieldType)) (by decide) rfl ?_
  intro p e s m args below meth c s₁ B hml hv
  obtain ⟨rfl, hsz, hP, hK, hD0, hN, hZG, hTG⟩ := hv
  have hx := B.exec
  have hb := B.bytes
  have hr := B.returns
  have hts0 := atoms_spec (ws := (wW yX11_seat cX11_seat 3 (none : Option FieldType))) B.pre
  have hts : ∀ w9 ∈ lw_G, w9.before ([Value.ref h0] : List Value).toArray s = true := fun w9 h9 => hts0 w9 (List.mem_cons_of_mem _ h9)
  have hown : s.vm.findClass RX11 = some m.cls := findClass_of_methodNamed (x := yX11_seat) B.named
  have hlocks := B.notSynchronized
  subst hsz
  have hD := hD0.self (sz := s.heap.size)
  generalize hAe : va_A [oX11 h0 xp xtp xn xt xk xl xc xo xto xr xch ts ik st, oX4 xn ek ef ew ep es (nI n) (nI sn) dn, cI aC ek 8 kf, cI aC ef 8 ff, cI aC ew 8 wf, cI aC ep 8 pf, cI aC es 5 stf, oX4 xt tek tef tew tep tes tsz tsy tdn, cI aC tek 8 tkf, cI aC tef 8 tff, cI aC tew 8 twf, cI aC tep 8 tpf, cI aC tes 5 tsf, cI aC xo 8 orf] s.heap.size = A at hZG hTG hD ⊢
  have hA : ∀ q : Nat, s.heap.size ≤ q → A q := fun q h => by rw [← hAe]; exact Or.inr h
  obtain ⟨H, hHe⟩ : ∃ H : Heap, H = s.heap := ⟨_, rfl⟩
  have hS : va_S A s.heap H [] := by rw [hHe]; exact va_S.rf
  have hP : va_P (dC, dI) classes [oX11 h0 xp xtp xn xt xk xl xc xo xto xr xch ts ik st, oX4 xn ek ef ew ep es (nI n) (nI sn) dn, cI aC ek 8 kf, cI aC ef 8 ff, cI aC ew 8 wf, cI aC ep 8 pf, cI aC es 5 stf, oX4 xt tek tef tew tep tes tsz tsy tdn, cI aC tek 8 tkf, cI aC tef 8 tff, cI aC tew 8 twf, cI aC tep 8 tpf, cI aC tes 5 tsf, cI aC xo 8 orf] H := by rw [hHe]; exact hP
  have hl := lv_entry ([Value.ref h0]) (n := 3) (Nat.le_of_ble_eq_true rfl)
  rw [lg_entry_eq]
  generalize (lg_sl ([Value.ref h0]) ++ List.replicate (3 - (lg_sl ([Value.ref h0])).length) Slot.unset).toArray = ls at hl ⊢
  have hl : lv_has ls 3 [(0, Value.ref h0)] := hl
  rw [← hHe]
  refine lv_aload_n hx hb dX11_seat_0 rfl (lv_at hl 0 rfl) ?_
  refine va_get (D := (dC, dI)) (ci := 11) (v := Value.ref xt) (C := RX11) (T := TX11) (N := 14) hx hb hts inX11 hown hK hP 0 rfl rfl 3 (by decide) (hts _ (gw kw_229 rfl)) (fun _ h9 => h9) rfl dX11_seat_1 ?_
  refine lv_aload_n hx hb dX11_seat_4 rfl (lv_at hl 0 rfl) ?_
  refine va_get (D := (dC, dI)) (ci := 11) (v := Value.ref xn) (C := RX11) (T := TX11) (N := 14) hx hb hts inX11 hown hK hP 0 rfl rfl 2 (by decide) (hts _ (gw kw_228 rfl)) (fun _ h9 => h9) rfl dX11_seat_5 ?_
  have hpd9 := pdf_N (cx := [oX4 xt tek tef tew tep tes tsz tsy tdn, cI aC tek 8 tkf, cI aC tef 8 tff, cI aC tew 8 twf, cI aC tep 8 tpf, cI aC tes 5 tsf, oX4 xn ek ef ew ep es (nI n) (nI sn) dn, cI aC ek 8 kf, cI aC ef 8 ff, cI aC ew 8 wf, cI aC ep 8 pf, cI aC es 5 stf]) hP hD hS hA [7, 8, 9, 10, 11, 12, 1, 2, 3, 4, 5, 6] (by decide) rfl
  have hPc := hpd9.1
  have hDc := hpd9.2.1
  have hFc := hpd9.2.2
  clear hpd9
  refine va_callv (va_runV (As := [Value.ref xn]) (rest := []) ⟨hx, hb, hml, hown, hts⟩ (c_X4_copy l dC dI aC H.size xt xn tek tef tew tep tes ek ef ew ep es tsz tsy tdn (nI n) (nI sn) dn tkf tff twf tpf tsf kf ff wf pf stf tG (hdn)) ⟨(callB_of 1 hts (gG kw_598) rfl rfl rfl (hts _ (gw kw_2 rfl)) (hts _ (gw kw_595 rfl)) hd_X4_copy ⟨Nat.le_of_ble_eq_true rfl, Nat.le_of_ble_eq_true rfl⟩), (hts _ (gw kw_596 rfl)), (hts _ (gw kw_597 rfl))⟩ ⟨fun a U g mk q => by obtain ⟨q0, q1, qP, qK, qD, qN, z0, z1⟩ := q; exact ⟨q0, q1, qP, va_K.moved (u := U) (U := U.calling g mk a) (Vm.Alike.refl U.vm) qK, qD, NX.same (u := U) (U := U.calling g mk a) rfl qN, va_Z.moved (u := U) (U := U.calling g mk a) (Vm.Alike.refl U.vm) z0, va_T.moved (u := U) (U := U.calling g mk a) (Vm.Alike.refl U.vm) z1⟩, va_recv (q := (RX4, TX4, 8)) hK hPc (ci := 4) (q0 := 0) rfl rfl, fun U hU hW => ⟨rfl, by rw [hU], by rw [hU]; exact hPc, va_K.moved hW.alike hK, hDc.weaken (fun _ _ _ _ => trivial), NX.warm hW hN, by rw [hU]; exact va_Z.moved hW.alike (va_Z.narrow (va_Z.kept hZG hS.2.1) hFc), by rw [hU]; exact va_T.moved hW.alike (va_T.narrow (va_T.kept hTG hS.2.1) hFc)⟩⟩ rfl rfl hl.1 rfl (lv_room (Nat.le_of_ble_eq_true rfl)) dX11_seat_8 ⟨Nat.le_of_ble_eq_true rfl, Nat.le_of_ble_eq_true rfl⟩) hS (fun q _ h => hFc q h) hFc (fun u9 t9 H1 locs ht hvm hw_1 hB hz1 hk1 hS => ?_)
  obtain ⟨u_2, u_3, u_4, u_5, u_6⟩ := u9
  obtain ⟨hP1, hK1, hD1⟩ := hB
  rw [ht] at hP1
  clear hK1
  try dsimp only at hw_1
  have hpd9 : PDx (dC, dI) classes A H1 [oX11 h0 xp xtp xn xt xk xl xc xo xto xr xch ts ik st, cI aC xo 8 orf, oX4 xt tek tef tew tep tes (nI n) (nI sn) dn, cI aC tek 8 u_2, cI aC tef 8 u_3, cI aC tew 8 u_4, cI aC tep 8 u_5, cI aC tes 5 u_6, oX4 xn ek ef ew ep es (nI n) (nI sn) dn, cI aC ek 8 kf, cI aC ef 8 ff, cI aC ew 8 wf, cI aC ep 8 pf, cI aC es 5 stf] := jn_N (wr := [oX11 h0 xp xtp xn xt xk xl xc xo xto xr xch ts ik st, cI aC xo 8 orf]) hFc hk1 hP1 hD1 hP hD [7, 8, 9, 10, 11, 12, 1, 2, 3, 4, 5, 6] [0, 13] rfl rfl (by decide) (by decide)
  have hP := hpd9.1
  have hD := hpd9.2
  clear hpd9
  generalize H1 = H at hP hS ⊢
  clear hPc hDc hFc hz1 hk1 hP1 hD1 ht hvm
  have hc9 := hw_1
  refine lv_iconst (v := 0) hx hb dX11_seat_11 (by decide) ?_
  refine lv_istore_n (lv' := [(1, Value.int 0), (0, Value.ref h0)]) hx hb dX11_seat_12 rfl hl (by decide) rfl (fun ls hl => ?_)
  have lp_13 : ∀ (fu : Nat) (j : Nat) (tkc : Nat → Int32) (tfc : Nat → Int32) (twc : Nat → Int32) (hfu : n - j < fu) (hj : j ≤ n) (hk0 : ∀ q, q < 8 → tkc q = if q < j then kf (sg n orf q) else kf q) (hk1 : ∀ q, q < 8 → tfc q = if q < j then ff (sg n orf q) else ff q) (hk2 : ∀ q, q < 8 → twc q = if q < j then wf (sg n orf q) else wf q) (H : Heap) (locs : List Loc) (ls : Array Slot), va_P (dC, dI) classes [oX11 h0 xp xtp xn xt xk xl xc xo xto xr xch ts ik st, cI aC xo 8 orf, oX4 xt tek tef tew tep tes (nI n) (nI sn) dn, cI aC tek 8 tkc, cI aC tef 8 tfc, cI aC tew 8 twc, cI aC tep 8 u_5, cI aC tes 5 u_6, oX4 xn ek ef ew ep es (nI n) (nI sn) dn, cI aC ek 8 kf, cI aC ef 8 ff, cI aC ew 8 wf, cI aC ep 8 pf, cI aC es 5 stf] H → va_D A [oX11 h0 xp xtp xn xt xk xl xc xo xto xr xch ts ik st, cI aC xo 8 orf, oX4 xt tek tef tew tep tes (nI n) (nI sn) dn, cI aC tek 8 tkc, cI aC tef 8 tfc, cI aC tew 8 twc, cI aC tep 8 u_5, cI aC tes 5 u_6, oX4 xn ek ef ew ep es (nI n) (nI sn) dn, cI aC ek 8 kf, cI aC ef 8 ff, cI aC ew 8 wf, cI aC ep 8 pf, cI aC es 5 stf] → va_S A s.heap H locs → lv_has ls 3 [(0, Value.ref h0), (1, Value.int (nI j))] → W p l e (headSpec (wW yX11_seat cX11_seat 3 (none : Option FieldType)) ({ frames := 2, cells := 0, slots := 0, locals := 61 } : Room)).room s m ([Value.ref h0] : List Value).toArray below meth c H locs 0 0 (MQ below (va_Qv (fun (u : (Nat → Int32) × (Nat → Int32) × (Nat → Int32) × (Nat → Int32) × (Nat → Int32)) => match u with | (tkf2, tff2, twf2, tpf2, tsf2) => (∀ q, q < 8 → tkf2 q = if q < n then kf (sg n orf q) else kf q) ∧ (∀ q, q < 8 → tff2 q = if q < n then ff (sg n orf q) else ff q) ∧ (∀ q, q < 8 → twf2 q = if q < n then wf (sg n orf q) else wf q) ∧ (∀ j, j < 8 → tpf2 j = pf j) ∧ (∀ j, j < 5 → tsf2 j = stf j)) (fun (u : (Nat → Int32) × (Nat → Int32) × (Nat → Int32) × (Nat → Int32) × (Nat → Int32)) (t : State) => match u with | (tkf2, tff2, twf2, tpf2, tsf2) => va_P (dC, dI) classes [oX11 h0 xp xtp xn xt xk xl xc xo xto xr xch ts ik st, oX4 xn ek ef ew ep es (nI n) (nI sn) dn, cI aC ek 8 kf, cI aC ef 8 ff, cI aC ew 8 wf, cI aC ep 8 pf, cI aC es 5 stf, oX4 xt tek tef tew tep tes (nI n) (nI sn) dn, cI aC tek 8 tkf2, cI aC tef 8 tff2, cI aC tew 8 twf2, cI aC tep 8 tpf2, cI aC tes 5 tsf2, cI aC xo 8 orf] t.heap ∧ va_K (dC, dI) classes (TY aC) t ∧ va_D A [oX11 h0 xp xtp xn xt xk xl xc xo xto xr xch ts ik st, oX4 xn ek ef ew ep es (nI n) (nI sn) dn, cI aC ek 8 kf, cI aC ef 8 ff, cI aC ew 8 wf, cI aC ep 8 pf, cI aC es 5 stf, oX4 xt tek tef tew tep tes (nI n) (nI sn) dn, cI aC tek 8 tkf2, cI aC tef 8 tff2, cI aC tew 8 twf2, cI aC tep 8 tpf2, cI aC tes 5 tsf2, cI aC xo 8 orf]) A) ([Value.ref h0] : List Value).toArray s 0 0 A) (F0 m 13 ls []) := by
    intro fu
    induction fu with
    | zero => intro j tkc tfc twc hfu; exact absurd hfu (Nat.not_lt_zero _)
    | succ fu ih_13 =>
      intro j tkc tfc twc hfu hj hk0 hk1 hk2 H locs ls hP hD hS hl
      refine lv_iload_n hx hb dX11_seat_13 rfl (lv_at hl 1 rfl) ?_
      refine lv_aload_n hx hb dX11_seat_14 rfl (lv_at hl 0 rfl) ?_
      refine va_get (D := (dC, dI)) (ci := 11) (v := Value.ref xn) (C := RX11) (T := TX11) (N := 14) hx hb hts inX11 hown hK hP 0 rfl rfl 2 (by decide) (hts _ (gw kw_228 rfl)) (fun _ h9 => h9) rfl dX11_seat_15 ?_
      refine va_get (D := (dC, dI)) (ci := 4) (v := Value.int (nI n)) (C := RX4) (T := TX4) (N := 8) hx hb hts inX4 hown hK hP 8 rfl rfl 5 (by decide) (hts _ (gw kw_50 rfl)) (fun _ h9 => h9) rfl dX11_seat_18 ?_
      refine lv_icmp_ge (tgt := 102) hx hb dX11_seat_21 (by decide) (fun c_7 => ?_) (fun c_7 => ?_)
      · have hjn : j = n := by
          rcases Nat.lt_or_ge j n with q | q
          · exact absurd c_7 (nI_ge q (by omega))
          · omega
        have hpd9 := pd_N (cx := [oX11 h0 xp xtp xn xt xk xl xc xo xto xr xch ts ik st, oX4 xn ek ef ew ep es (nI n) (nI sn) dn, cI aC ek 8 kf, cI aC ef 8 ff, cI aC ew 8 wf, cI aC ep 8 pf, cI aC es 5 stf, oX4 xt tek tef tew tep tes (nI n) (nI sn) dn, cI aC tek 8 tkc, cI aC tef 8 tfc, cI aC tew 8 twc, cI aC tep 8 u_5, cI aC tes 5 u_6, cI aC xo 8 orf]) hP hD [0, 8, 9, 10, 11, 12, 13, 2, 3, 4, 5, 6, 7, 1] (by decide) rfl
        have hP9 := hpd9.1
        have hD9 := hpd9.2
        refine W.widen (k := 0) (n := 0) (by omega) (by omega) ?_
        exact W.vret hx hb hr (fun t ht hW => ⟨⟨(tkc, tfc, twc, u_5, u_6), rfl, ⟨fun q hq => by rw [hk0 q hq, hjn], fun q hq => by rw [hk1 q hq, hjn], fun q hq => by rw [hk2 q hq, hjn], hc9.2.2.2.1, hc9.2.2.2.2⟩, by rw [ht]; exact hP9, va_K.moved hW.alike hK, hD9⟩, hS.F ht⟩) hS.2.2 dX11_seat_102
      · have hlt : j < n := by
          rcases Nat.lt_or_ge j n with q | q
          · exact q
          · exact absurd (nI_le q (by omega)) c_7
        refine lv_aload_n hx hb dX11_seat_24 rfl (lv_at hl 0 rfl) ?_
        refine va_get (D := (dC, dI)) (ci := 11) (v := Value.ref xo) (C := RX11) (T := TX11) (N := 14) hx hb hts inX11 hown hK hP 0 rfl rfl 7 (by decide) (hts _ (gw kw_233 rfl)) (fun _ h9 => h9) rfl dX11_seat_25 ?_
        refine lv_iload_n hx hb dX11_seat_28 rfl (lv_at hl 1 rfl) ?_
        have h_8 : vp_in (nI j) 8 := by first | exact vp_in_nI (by omega) (by omega) | (unfold vp_in; decide) | (subst_vars; first | (unfold vp_in; decide) | exact vp_in_nI (by omega) (by omega))
        refine va_iald hx hb hK hP 1 0 rfl rfl h_8 dX11_seat_29 ?_
        refine lv_topi (fun x_9 e_9 => ?_)
        have hoj : x_9 = orf j := by rw [e_9, nI_clamp (by omega)]
        refine lv_istore_n (lv' := [(2, Value.int x_9), (0, Value.ref h0), (1, Value.int (nI j))]) hx hb dX11_seat_30 rfl hl (by decide) rfl (fun ls hl => ?_)
        refine lv_aload_n hx hb dX11_seat_31 rfl (lv_at hl 1 rfl) ?_
        refine va_get (D := (dC, dI)) (ci := 11) (v := Value.ref xn) (C := RX11) (T := TX11) (N := 14) hx hb hts inX11 hown hK hP 0 rfl rfl 2 (by decide) (hts _ (gw kw_228 rfl)) (fun _ h9 => h9) rfl dX11_seat_32 ?_
        refine lv_iload_n hx hb dX11_seat_35 rfl (lv_at hl 0 rfl) ?_
        have hpd9 := pdf_N (cx := [oX4 xn ek ef ew ep es (nI n) (nI sn) dn]) hP hD hS hA [8] (by decide) rfl
        have hPc := hpd9.1
        have hDc := hpd9.2.1
        have hFc := hpd9.2.2
        clear hpd9
        refine va_calli (va_runV (As := [Value.int x_9]) (rest := []) ⟨hx, hb, hml, hown, hts⟩ (c_X4_has l dC dI aC H.size xn ek ef ew ep es (nI n) (nI sn) dn x_9 ) ⟨(callB_of 1 hts (gG kw_340) rfl rfl rfl (hts _ (gw kw_2 rfl)) (hts _ (gw kw_337 rfl)) hd_X4_has ⟨Nat.le_of_ble_eq_true rfl, Nat.le_of_ble_eq_true rfl⟩), (hts _ (gw kw_338 rfl)), (hts _ (gw kw_339 rfl))⟩ ⟨fb_std, va_recv (q := (RX4, TX4, 8)) hK hPc (ci := 4) (q0 := 0) rfl rfl, pre_std hPc hK hDc hN⟩ rfl rfl hl.1 rfl (lv_room (Nat.le_of_ble_eq_true rfl)) dX11_seat_36 ⟨Nat.le_of_ble_eq_true rfl, Nat.le_of_ble_eq_true rfl⟩) hS (fun q _ h => hFc q h) hFc (fun x_10 u9 t9 H1 locs ht hvm hw_10 hB hz1 hk1 hS => ?_)
        obtain ⟨hP1, hK1, hD1⟩ := hB
        rw [ht] at hP1
        clear hK1
        try dsimp only at hw_10
        have hpd9 : PDx (dC, dI) classes A H1 [oX11 h0 xp xtp xn xt xk xl xc xo xto xr xch ts ik st, cI aC xo 8 orf, oX4 xt tek tef tew tep tes (nI n) (nI sn) dn, cI aC tek 8 tkc, cI aC tef 8 tfc, cI aC tew 8 twc, cI aC tep 8 u_5, cI aC tes 5 u_6, cI aC ek 8 kf, cI aC ef 8 ff, cI aC ew 8 wf, cI aC ep 8 pf, cI aC es 5 stf, oX4 xn ek ef ew ep es (nI n) (nI sn) dn] := jn_N (wr := [oX11 h0 xp xtp xn xt xk xl xc xo xto xr xch ts ik st, cI aC xo 8 orf, oX4 xt tek tef tew tep tes (nI n) (nI sn) dn, cI aC tek 8 tkc, cI aC tef 8 tfc, cI aC tew 8 twc, cI aC tep 8 u_5, cI aC tes 5 u_6, cI aC ek 8 kf, cI aC ef 8 ff, cI aC ew 8 wf, cI aC ep 8 pf, cI aC es 5 stf]) hFc hk1 hP1 hD1 hP hD [8] [0, 1, 2, 3, 4, 5, 6, 7, 9, 10, 11, 12, 13] rfl rfl (by decide) (by decide)
        have hP := hpd9.1
        have hD := hpd9.2
        clear hpd9
        generalize H1 = H at hP hS ⊢
        clear hPc hDc hFc hz1 hk1 hP1 hD1 ht hvm
        have hz_36 := hw_10
        refine lv_if_eq (tgt := 96) hx hb dX11_seat_39 (by decide) (fun c_11 => ?_) (fun c_11 => ?_)
        · have hsg : sg n orf j = j := sg_n (by rw [← hoj]; exact has_n hz_36 c_11)
          have hs0 : ∀ q, q < 8 → tkc q = if q < j + 1 then kf (sg n orf q) else kf q := fun q hq => by
            rw [hk0 q hq]
            by_cases e : q = j
            · subst e; rw [if_neg (Nat.lt_irrefl _), if_pos (Nat.lt_succ_self _), hsg]
            · by_cases e2 : q < j
              · rw [if_pos e2, if_pos (by omega)]
              · rw [if_neg e2, if_neg (by omega)]
          have hs1 : ∀ q, q < 8 → tfc q = if q < j + 1 then ff (sg n orf q) else ff q := fun q hq => by
            rw [hk1 q hq]
            by_cases e : q = j
            · subst e; rw [if_neg (Nat.lt_irrefl _), if_pos (Nat.lt_succ_self _), hsg]
            · by_cases e2 : q < j
              · rw [if_pos e2, if_pos (by omega)]
              · rw [if_neg e2, if_neg (by omega)]
          have hs2 : ∀ q, q < 8 → twc q = if q < j + 1 then wf (sg n orf q) else wf q := fun q hq => by
            rw [hk2 q hq]
            by_cases e : q = j
            · subst e; rw [if_neg (Nat.lt_irrefl _), if_pos (Nat.lt_succ_self _), hsg]
            · by_cases e2 : q < j
              · rw [if_pos e2, if_pos (by omega)]
              · rw [if_neg e2, if_neg (by omega)]
          obtain ⟨x_12, e_12⟩ : ∃ y : Int32, y = (nI j) + 1 := ⟨_, rfl⟩
          refine lv_iinc (v := x_12) (lv' := [(1, Value.int x_12), (2, Value.int x_9), (0, Value.ref h0)]) hx hb dX11_seat_96 hl (k := 2) rfl (by rw [e_12]; rfl) (by decide) rfl (fun ls hl => ?_)
          have h9 : x_12 = nI (j + 1) := by rw [e_12, nI_1]
          subst h9
          refine lv_goto (tgt := 13) hx hb dX11_seat_99 (by decide) ?_
          exact ih_13 (j + 1) tkc tfc twc (ms_lt hlt hfu) (by omega) (hs0) (hs1) (hs2) _ _ _ (hP.sub [0, 1, 2, 3, 4, 5, 6, 7, 13, 8, 9, 10, 11, 12] rfl) (hD.sub [0, 1, 2, 3, 4, 5, 6, 7, 13, 8, 9, 10, 11, 12] (by decide) rfl) hS (lv_sub hl [2, 0] rfl)
        · obtain ⟨a, ha8, ha9⟩ := OKI_ix hn8 (has_y hz_36 c_11)
          have h9 : x_9 = nI a := ha9
          subst h9
          refine lv_aload_n hx hb dX11_seat_42 rfl (lv_at hl 1 rfl) ?_
          refine va_get (D := (dC, dI)) (ci := 11) (v := Value.ref xt) (C := RX11) (T := TX11) (N := 14) hx hb hts inX11 hown hK hP 0 rfl rfl 3 (by decide) (hts _ (gw kw_229 rfl)) (fun _ h9 => h9) rfl dX11_seat_43 ?_
          refine va_get (D := (dC, dI)) (ci := 4) (v := Value.ref tek) (C := RX4) (T := TX4) (N := 8) hx hb hts inX4 hown hK hP 2 rfl rfl 0 (by decide) (hts _ (gw kw_34 rfl)) (fun _ h9 => h9) rfl dX11_seat_46 ?_
          refine lv_iload_n hx hb dX11_seat_49 rfl (lv_at hl 2 rfl) ?_
          refine lv_aload_n hx hb dX11_seat_50 rfl (lv_at hl 1 rfl) ?_
          refine va_get (D := (dC, dI)) (ci := 11) (v := Value.ref xn) (C := RX11) (T := TX11) (N := 14) hx hb hts inX11 hown hK hP 0 rfl rfl 2 (by decide) (hts _ (gw kw_228 rfl)) (fun _ h9 => h9) rfl dX11_seat_51 ?_
          refine va_get (D := (dC, dI)) (ci := 4) (v := Value.ref ek) (C := RX4) (T := TX4) (N := 8) hx hb hts inX4 hown hK hP 13 rfl rfl 0 (by decide) (hts _ (gw kw_34 rfl)) (fun _ h9 => h9) rfl dX11_seat_54 ?_
          refine lv_iload_n hx hb dX11_seat_57 rfl (lv_at hl 0 rfl) ?_
          have h_13 : vp_in (nI a) 8 := by first | exact vp_in_nI (by omega) (by omega) | (unfold vp_in; decide) | (subst_vars; first | (unfold vp_in; decide) | exact vp_in_nI (by omega) (by omega))
          refine va_iald hx hb hK hP 8 0 rfl rfl h_13 dX11_seat_58 ?_
          refine lv_topi (fun x_14 e_14 => ?_)
          have h_15 : vp_in (nI j) 8 := by first | exact vp_in_nI (by omega) (by omega) | (unfold vp_in; decide) | (subst_vars; first | (unfold vp_in; decide) | exact vp_in_nI (by omega) (by omega))
          refine va_iast hx hb hK hP hD hS 3 0 rfl rfl h_15 dX11_seat_59 (fun H locs hP hD hS => ?_)
          obtain ⟨f_16, e_f_16⟩ : ∃ y : Nat → Int32, y = upd tkc (nI j : Int32).toNatClampNeg x_14 := ⟨_, rfl⟩
          have hpd9 : PDx (dC, dI) classes A H [oX11 h0 xp xtp xn xt xk xl xc xo xto xr xch ts ik st, cI aC xo 8 orf, oX4 xt tek tef tew tep tes (nI n) (nI sn) dn, cI aC tek 8 f_16, cI aC tef 8 tfc, cI aC tew 8 twc, cI aC tep 8 u_5, cI aC tes 5 u_6, cI aC ek 8 kf, cI aC ef 8 ff, cI aC ew 8 wf, cI aC ep 8 pf, cI aC es 5 stf, oX4 xn ek ef ew ep es (nI n) (nI sn) dn] := by rw [e_f_16]; exact ⟨hP, hD⟩
          have hP := hpd9.1
          have hD := hpd9.2
          clear hpd9
          refine lv_aload_n hx hb dX11_seat_60 rfl (lv_at hl 1 rfl) ?_
          refine va_get (D := (dC, dI)) (ci := 11) (v := Value.ref xt) (C := RX11) (T := TX11) (N := 14) hx hb hts inX11 hown hK hP 0 rfl rfl 3 (by decide) (hts _ (gw kw_229 rfl)) (fun _ h9 => h9) rfl dX11_seat_61 ?_
          refine va_get (D := (dC, dI)) (ci := 4) (v := Value.ref tef) (C := RX4) (T := TX4) (N := 8) hx hb hts inX4 hown hK hP 2 rfl rfl 1 (by decide) (hts _ (gw kw_37 rfl)) (fun _ h9 => h9) rfl dX11_seat_64 ?_
          refine lv_iload_n hx hb dX11_seat_67 rfl (lv_at hl 2 rfl) ?_
          refine lv_aload_n hx hb dX11_seat_68 rfl (lv_at hl 1 rfl) ?_
          refine va_get (D := (dC, dI)) (ci := 11) (v := Value.ref xn) (C := RX11) (T := TX11) (N := 14) hx hb hts inX11 hown hK hP 0 rfl rfl 2 (by decide) (hts _ (gw kw_228 rfl)) (fun _ h9 => h9) rfl dX11_seat_69 ?_
          refine va_get (D := (dC, dI)) (ci := 4) (v := Value.ref ef) (C := RX4) (T := TX4) (N := 8) hx hb hts inX4 hown hK hP 13 rfl rfl 1 (by decide) (hts _ (gw kw_37 rfl)) (fun _ h9 => h9) rfl dX11_seat_72 ?_
          refine lv_iload_n hx hb dX11_seat_75 rfl (lv_at hl 0 rfl) ?_
          have h_17 : vp_in (nI a) 8 := by first | exact vp_in_nI (by omega) (by omega) | (unfold vp_in; decide) | (subst_vars; first | (unfold vp_in; decide) | exact vp_in_nI (by omega) (by omega))
          refine va_iald hx hb hK hP 9 0 rfl rfl h_17 dX11_seat_76 ?_
          refine lv_topi (fun x_18 e_18 => ?_)
          have h_19 : vp_in (nI j) 8 := by first | exact vp_in_nI (by omega) (by omega) | (unfold vp_in; decide) | (subst_vars; first | (unfold vp_in; decide) | exact vp_in_nI (by omega) (by omega))
          refine va_iast hx hb hK hP hD hS 4 0 rfl rfl h_19 dX11_seat_77 (fun H locs hP hD hS => ?_)
          obtain ⟨f_20, e_f_20⟩ : ∃ y : Nat → Int32, y = upd tfc (nI j : Int32).toNatClampNeg x_18 := ⟨_, rfl⟩
          have hpd9 : PDx (dC, dI) classes A H [oX11 h0 xp xtp xn xt xk xl xc xo xto xr xch ts ik st, cI aC xo 8 orf, oX4 xt tek tef tew tep tes (nI n) (nI sn) dn, cI aC tek 8 f_16, cI aC tef 8 f_20, cI aC tew 8 twc, cI aC tep 8 u_5, cI aC tes 5 u_6, cI aC ek 8 kf, cI aC ef 8 ff, cI aC ew 8 wf, cI aC ep 8 pf, cI aC es 5 stf, oX4 xn ek ef ew ep es (nI n) (nI sn) dn] := by rw [e_f_20]; exact ⟨hP, hD⟩
          have hP := hpd9.1
          have hD := hpd9.2
          clear hpd9
          refine lv_aload_n hx hb dX11_seat_78 rfl (lv_at hl 1 rfl) ?_
          refine va_get (D := (dC, dI)) (ci := 11) (v := Value.ref xt) (C := RX11) (T := TX11) (N := 14) hx hb hts inX11 hown hK hP 0 rfl rfl 3 (by decide) (hts _ (gw kw_229 rfl)) (fun _ h9 => h9) rfl dX11_seat_79 ?_
          refine va_get (D := (dC, dI)) (ci := 4) (v := Value.ref tew) (C := RX4) (T := TX4) (N := 8) hx hb hts inX4 hown hK hP 2 rfl rfl 2 (by decide) (hts _ (gw kw_39 rfl)) (fun _ h9 => h9) rfl dX11_seat_82 ?_
          refine lv_iload_n hx hb dX11_seat_85 rfl (lv_at hl 2 rfl) ?_
          refine lv_aload_n hx hb dX11_seat_86 rfl (lv_at hl 1 rfl) ?_
          refine va_get (D := (dC, dI)) (ci := 11) (v := Value.ref xn) (C := RX11) (T := TX11) (N := 14) hx hb hts inX11 hown hK hP 0 rfl rfl 2 (by decide) (hts _ (gw kw_228 rfl)) (fun _ h9 => h9) rfl dX11_seat_87 ?_
          refine va_get (D := (dC, dI)) (ci := 4) (v := Value.ref ew) (C := RX4) (T := TX4) (N := 8) hx hb hts inX4 hown hK hP 13 rfl rfl 2 (by decide) (hts _ (gw kw_39 rfl)) (fun _ h9 => h9) rfl dX11_seat_90 ?_
          refine lv_iload_n hx hb dX11_seat_93 rfl (lv_at hl 0 rfl) ?_
          have h_21 : vp_in (nI a) 8 := by first | exact vp_in_nI (by omega) (by omega) | (unfold vp_in; decide) | (subst_vars; first | (unfold vp_in; decide) | exact vp_in_nI (by omega) (by omega))
          refine va_iald hx hb hK hP 10 0 rfl rfl h_21 dX11_seat_94 ?_
          refine lv_topi (fun x_22 e_22 => ?_)
          have h_23 : vp_in (nI j) 8 := by first | exact vp_in_nI (by omega) (by omega) | (unfold vp_in; decide) | (subst_vars; first | (unfold vp_in; decide) | exact vp_in_nI (by omega) (by omega))
          refine va_iast hx hb hK hP hD hS 5 0 rfl rfl h_23 dX11_seat_95 (fun H locs hP hD hS => ?_)
          obtain ⟨f_24, e_f_24⟩ : ∃ y : Nat → Int32, y = upd twc (nI j : Int32).toNatClampNeg x_22 := ⟨_, rfl⟩
          have hpd9 : PDx (dC, dI) classes A H [oX11 h0 xp xtp xn xt xk xl xc xo xto xr xch ts ik st, cI aC xo 8 orf, oX4 xt tek tef tew tep tes (nI n) (nI sn) dn, cI aC tek 8 f_16, cI aC tef 8 f_20, cI aC tew 8 f_24, cI aC tep 8 u_5, cI aC tes 5 u_6, cI aC ek 8 kf, cI aC ef 8 ff, cI aC ew 8 wf, cI aC ep 8 pf, cI aC es 5 stf, oX4 xn ek ef ew ep es (nI n) (nI sn) dn] := by rw [e_f_24]; exact ⟨hP, hD⟩
          have hP := hpd9.1
          have hD := hpd9.2
          clear hpd9
          have hsg : sg n orf j = a := by rw [sg_y (by rw [← hoj]; exact OKI_nI hn8 ha8), ← hoj, nI_clamp (by omega)]
          have hs0 : ∀ q, q < 8 → f_16 q = if q < j + 1 then kf (sg n orf q) else kf q := fun q hq => by
            rw [e_f_16, nI_clamp (by omega)]
            by_cases e : q = j
            · subst e; rw [pk_us, if_pos (Nat.lt_succ_self _), hsg, e_14, nI_clamp (by omega)]
            · rw [pk_un e, hk0 q hq]
              by_cases e2 : q < j
              · rw [if_pos e2, if_pos (by omega)]
              · rw [if_neg e2, if_neg (by omega)]
          have hs1 : ∀ q, q < 8 → f_20 q = if q < j + 1 then ff (sg n orf q) else ff q := fun q hq => by
            rw [e_f_20, nI_clamp (by omega)]
            by_cases e : q = j
            · subst e; rw [pk_us, if_pos (Nat.lt_succ_self _), hsg, e_18, nI_clamp (by omega)]
            · rw [pk_un e, hk1 q hq]
              by_cases e2 : q < j
              · rw [if_pos e2, if_pos (by omega)]
              · rw [if_neg e2, if_neg (by omega)]
          have hs2 : ∀ q, q < 8 → f_24 q = if q < j + 1 then wf (sg n orf q) else wf q := fun q hq => by
            rw [e_f_24, nI_clamp (by omega)]
            by_cases e : q = j
            · subst e; rw [pk_us, if_pos (Nat.lt_succ_self _), hsg, e_22, nI_clamp (by omega)]
            · rw [pk_un e, hk2 q hq]
              by_cases e2 : q < j
              · rw [if_pos e2, if_pos (by omega)]
              · rw [if_neg e2, if_neg (by omega)]
          obtain ⟨x_25, e_25⟩ : ∃ y : Int32, y = (nI j) + 1 := ⟨_, rfl⟩
          refine lv_iinc (v := x_25) (lv' := [(1, Value.int x_25), (2, Value.int (nI a)), (0, Value.ref h0)]) hx hb dX11_seat_96 hl (k := 2) rfl (by rw [e_25]; rfl) (by decide) rfl (fun ls hl => ?_)
          have h9 : x_25 = nI (j + 1) := by rw [e_25, nI_1]
          subst h9
          refine lv_goto (tgt := 13) hx hb dX11_seat_99 (by decide) ?_
          exact ih_13 (j + 1) f_16 f_20 f_24 (ms_lt hlt hfu) (by omega) (hs0) (hs1) (hs2) _ _ _ (hP.sub [0, 1, 2, 3, 4, 5, 6, 7, 13, 8, 9, 10, 11, 12] rfl) (hD.sub [0, 1, 2, 3, 4, 5, 6, 7, 13, 8, 9, 10, 11, 12] (by decide) rfl) hS (lv_sub hl [2, 0] rfl)
  exact lp_13 ((n - 0) + 1) 0 u_2 u_3 u_4 (Nat.lt_succ_self _) (by omega) (fun q hq => by rw [if_neg (by omega)]; exact hc9.1 q hq) (fun q hq => by rw [if_neg (by omega)]; exact hc9.2.1 q hq) (fun q hq => by rw [if_neg (by omega)]; exact hc9.2.2.1 q hq) _ _ _ (hP.sub [0, 1, 2, 3, 4, 5, 6, 7, 8, 9, 10, 11, 12, 13] rfl) (hD.sub [0, 1, 2, 3, 4, 5, 6, 7, 8, 9, 10, 11, 12, 13] (by decide) rfl) hS (lv_sub hl [1, 0] rfl)
