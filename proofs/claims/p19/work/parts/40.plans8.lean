set_option maxHeartbeats 1000000 in
set_option maxRecDepth 100000 in
/-- X0_tell -/
theorem c_X0_tell (l : Launch) (dC : Nat → ClassId) (dI : Nat → Nat → Nat) (aC : Nat → ClassId) (sz : Nat) (kx : Nat) (h1 : Nat) (po : Nat) (pp : Nat) (ps : Nat) (pa : Nat) (pe : Nat) (pb : Nat) (pv : Nat) (pk : Nat) (pu : Nat) (pw : Nat) (pq : Nat) (pt : Nat) (un : Int32) (fw : Int32) (ek : Nat) (ef : Nat) (ew : Nat) (ep : Nat) (es : Nat) (n : Nat) (sy : Int32) (dn : Int32) (wf : Nat → Int32) (stf : Nat → Int32) (W0 : Nat → Nat) (i : Nat) (cq : Nat) (O : Nat → Nat) (Pq : Nat → Nat) (uf : Nat → Int32) (vf : Nat → Int32) (qf : Nat → Int32) (tf : Nat → Int32) (bf : Nat → Int32) (L : List Nat) (g : Nat → Nat → Int32) (fo : Nat → Option Nat) (fp : Nat → Option Nat) (fs : Nat → Option Nat) (ro : Nat → Nat) (rp : Nat → Nat) (rs : Nat → Nat) (hgr : GRD L fo fp fs ro rp rs) (hw : n ≤ 8 ∧ ∀ j, j < n → wf j = nI (W0 j) ∧ W0 j ≤ 9) (hi : i < n) (hcq : stf 0 = nI cq ∧ cq ≤ 99) (hO : ∀ q, q < 8 → g (ro i) q = nI (O q)) (hO9 : ∀ q, O q ≤ 99) (hOc : O i = cq) (hPq : ∀ q, i < q → q < n → g (rp i) q = nI (Pq q) ∧ Pq q ≤ 110) : Met l yX0_tell (wW yX0_tell cX0_tell 3 (none : Option FieldType)) ({ frames := 4, cells := 0, slots := 0, locals := 87 } : Room) (va_Pc [Value.ref kx, Value.ref h1, Value.int (nI i)] (fun U => U.heap.size = sz ∧ va_P (dC, dI) classes (wp [oX9 h1 po pp ps pa pe pb pv pk pu pw pq pt un fw, oX4 pv ek ef ew ep es (nI n) sy dn, cI aC ew 8 wf, cI aC es 5 stf, cA aC pp 8 fp, cA aC po 8 fo, cI aC pb 8 bf, cI aC pu 7 uf, cI aC pw 7 vf, cI aC pq 128 qf, cI aC pt 128 tf] (va_pl L (plE aC g))) U.heap ∧ va_K (dC, dI) classes (TY aC) U ∧ va_D (fun _ => True) (wp [oX9 h1 po pp ps pa pe pb pv pk pu pw pq pt un fw, oX4 pv ek ef ew ep es (nI n) sy dn, cI aC ew 8 wf, cI aC es 5 stf, cA aC pp 8 fp, cA aC po 8 fo, cI aC pb 8 bf, cI aC pu 7 uf, cI aC pw 7 vf, cI aC pq 128 qf, cI aC pt 128 tf] (va_pl L (plE aC g))) ∧ NX U)) (va_Qv (fun (u : Int32 × Int32 × (Nat → Int32) × (Nat → Int32) × (Nat → Int32) × (Nat → Int32) × (Nat → Int32) × (Nat → Nat → Int32) × Int32) => match u with | (un2, fw2, ug, vg, qg, tg, bg, g2, rb) => BST (fun z => nd (stf 1) (sumr W0 i (n - i)) ≤ W0 i + sumr (frf (stf 3) n i Pq W0) 0 (n - 1 - i) + cst (uwf (stf 3) n i Pq W0) z) (cst (fun u => Pq (mu (stf 3) n i u))) (2 ^ (n - 1 - i)) rb ∧ (∀ b, b < 2 ^ (n - 1 - i) → rb = nI b → cst (fun u => Pq (mu (stf 3) n i u)) b ≤ cq → (∀ q, q < 32 → bt (bg i) q = mb (stf 3) n i b (n - 1 - i) q) ∧ ∀ q, q < 8 → g2 (ro i) q = nI (if q = i then O i - cst (fun u => Pq (mu (stf 3) n i u)) b else if mb (stf 3) n i b (n - 1 - i) q = true then Pq q else O q)) ∧ ((rb = -9 ∨ ∃ b, b < 2 ^ (n - 1 - i) ∧ rb = nI b ∧ cq < cst (fun u => Pq (mu (stf 3) n i u)) b) → bg i = bf i ∧ ∀ q, q < 8 → g2 (ro i) q = g (ro i) q) ∧ (∀ q, q ≠ i → bg q = bf q) ∧ ∀ a, a ≠ ro i → g2 a = g a) (fun (u : Int32 × Int32 × (Nat → Int32) × (Nat → Int32) × (Nat → Int32) × (Nat → Int32) × (Nat → Int32) × (Nat → Nat → Int32) × Int32) (t : State) => match u with | (un2, fw2, ug, vg, qg, tg, bg, g2, rb) => va_P (dC, dI) classes (wp [oX9 h1 po pp ps pa pe pb pv pk pu pw pq pt un2 fw2, oX4 pv ek ef ew ep es (nI n) sy dn, cI aC ew 8 wf, cI aC es 5 stf, cA aC pp 8 fp, cA aC po 8 fo, cI aC pb 8 bg, cI aC pu 7 ug, cI aC pw 7 vg, cI aC pq 128 qg, cI aC pt 128 tg] (va_pl L (plE aC g2))) t.heap ∧ va_K (dC, dI) classes (TY aC) t ∧ va_D (va_A (wp [oX9 h1 po pp ps pa pe pb pv pk pu pw pq pt un fw, oX4 pv ek ef ew ep es (nI n) sy dn, cI aC ew 8 wf, cI aC es 5 stf, cA aC pp 8 fp, cA aC po 8 fo, cI aC pb 8 bf, cI aC pu 7 uf, cI aC pw 7 vf, cI aC pq 128 qf, cI aC pt 128 tf] (va_pl L (plE aC g))) sz) (wp [oX9 h1 po pp ps pa pe pb pv pk pu pw pq pt un2 fw2, oX4 pv ek ef ew ep es (nI n) sy dn, cI aC ew 8 wf, cI aC es 5 stf, cA aC pp 8 fp, cA aC po 8 fo, cI aC pb 8 bg, cI aC pu 7 ug, cI aC pw 7 vg, cI aC pq 128 qg, cI aC pt 128 tg] (va_pl L (plE aC g2)))) (va_A (wp [oX9 h1 po pp ps pa pe pb pv pk pu pw pq pt un fw, oX4 pv ek ef ew ep es (nI n) sy dn, cI aC ew 8 wf, cI aC es 5 stf, cA aC pp 8 fp, cA aC po 8 fo, cI aC pb 8 bf, cI aC pu 7 uf, cI aC pw 7 vf, cI aC pq 128 qf, cI aC pt 128 tf] (va_pl L (plE aC g))) sz)) 0 0 (va_A (wp [oX9 h1 po pp ps pa pe pb pv pk pu pw pq pt un fw, oX4 pv ek ef ew ep es (nI n) sy dn, cI aC ew 8 wf, cI aC es 5 stf, cA aC pp 8 fp, cA aC po 8 fo, cI aC pb 8 bf, cI aC pu 7 uf, cI aC pw 7 vf, cI aC pq 128 qf, cI aC pt 128 tf] (va_pl L (plE aC g))) sz) := by
  refine Met.ofW (cc := cX0_tell) (maxL := 3) (ret := (none : Option FieldType)) (by decide) rfl ?_
  intro p e s m args below meth c s₁ B hml hv
  obtain ⟨rfl, hsz, hP, hK, hD0, hN⟩ := hv
  have hx := B.exec
  have hb := B.bytes
  have hr := B.returns
  have hts0 := atoms_spec (ws := (wW yX0_tell cX0_tell 3 (none : Option FieldType))) B.pre
  have hts : ∀ w9 ∈ lw_G, w9.before ([Value.ref kx, Value.ref h1, Value.int (nI i)] : List Value).toArray s = true := fun w9 h9 => hts0 w9 (List.mem_cons_of_mem _ h9)
  have hown : s.vm.findClass RX0 = some m.cls := findClass_of_methodNamed (x := yX0_tell) B.named
  have hlocks := B.notSynchronized
  subst hsz
  have hD := hD0.self (sz := s.heap.size)
  generalize hAe : va_A (wp [oX9 h1 po pp ps pa pe pb pv pk pu pw pq pt un fw, oX4 pv ek ef ew ep es (nI n) sy dn, cI aC ew 8 wf, cI aC es 5 stf, cA aC pp 8 fp, cA aC po 8 fo, cI aC pb 8 bf, cI aC pu 7 uf, cI aC pw 7 vf, cI aC pq 128 qf, cI aC pt 128 tf] (va_pl L (plE aC g))) s.heap.size = A at hD ⊢
  have hA : ∀ q : Nat, s.heap.size ≤ q → A q := fun q h => by rw [← hAe]; exact Or.inr h
  obtain ⟨H, hHe⟩ : ∃ H : Heap, H = s.heap := ⟨_, rfl⟩
  have hS : va_S A s.heap H [] := by rw [hHe]; exact va_S.rf
  have hP : va_P (dC, dI) classes (wp [oX9 h1 po pp ps pa pe pb pv pk pu pw pq pt un fw, oX4 pv ek ef ew ep es (nI n) sy dn, cI aC ew 8 wf, cI aC es 5 stf, cA aC pp 8 fp, cA aC po 8 fo, cI aC pb 8 bf, cI aC pu 7 uf, cI aC pw 7 vf, cI aC pq 128 qf, cI aC pt 128 tf] (va_pl L (plE aC g))) H := by rw [hHe]; exact hP
  have hl := lv_entry ([Value.ref kx, Value.ref h1, Value.int (nI i)]) (n := 3) (Nat.le_of_ble_eq_true rfl)
  rw [lg_entry_eq]
  generalize (lg_sl ([Value.ref kx, Value.ref h1, Value.int (nI i)]) ++ List.replicate (3 - (lg_sl ([Value.ref kx, Value.ref h1, Value.int (nI i)])).length) Slot.unset).toArray = ls at hl ⊢
  have hl : lv_has ls 3 [(0, Value.ref kx), (1, Value.ref h1), (2, Value.int (nI i))] := hl
  rw [← hHe]
  refine lv_aload_n hx hb dX0_tell_0 rfl (lv_at hl 1 rfl) ?_
  refine lv_iload_n hx hb dX0_tell_1 rfl (lv_at hl 2 rfl) ?_
  have hpd9 := pdf_P (cx := [oX9 h1 po pp ps pa pe pb pv pk pu pw pq pt un fw, oX4 pv ek ef ew ep es (nI n) sy dn, cI aC ew 8 wf, cI aC es 5 stf, cA aC pp 8 fp, cA aC po 8 fo, cI aC pb 8 bf, cI aC pu 7 uf, cI aC pw 7 vf, cI aC pq 128 qf, cI aC pt 128 tf]) hP hD hS hA [0, 1, 2, 3, 4, 5, 6, 7, 8, 9, 10] (by decide) rfl
  have hPc := hpd9.1
  have hDc := hpd9.2.1
  have hFc := hpd9.2.2
  clear hpd9
  refine va_callv (va_runV (As := [Value.int (nI i)]) (rest := []) ⟨hx, hb, hml, hown, hts⟩ (c_X9_buyCheapest l dC dI aC H.size h1 po pp ps pa pe pb pv pk pu pw pq pt un fw ek ef ew ep es n sy dn wf stf W0 i cq O Pq uf vf qf tf bf L g fo fp fs ro rp rs (hgr) (hw) (hi) (hcq) (hO) (hO9) (hOc) (hPq)) ⟨(callB_of 1 hts (gG kw_441) rfl rfl rfl (hts _ (gw kw_11 rfl)) (hts _ (gw kw_438 rfl)) hd_X9_buyCheapest ⟨Nat.le_of_ble_eq_true rfl, Nat.le_of_ble_eq_true rfl⟩), (hts _ (gw kw_439 rfl)), (hts _ (gw kw_440 rfl))⟩ ⟨fb_std, va_recv (q := (RX9, TX9, 14)) hK hPc (ci := 9) (q0 := 0) rfl rfl, pre_std hPc hK hDc hN⟩ rfl rfl hl.1 rfl (lv_room (Nat.le_of_ble_eq_true rfl)) dX0_tell_2 ⟨Nat.le_of_ble_eq_true rfl, Nat.le_of_ble_eq_true rfl⟩) hS (fun q _ h => hFc q h) hFc (fun u9 t9 H1 locs ht hvm hw_1 hB hz1 hk1 hS => ?_)
  obtain ⟨u_2, u_3, u_4, u_5, u_6, u_7, u_8, u_9, u_10⟩ := u9
  obtain ⟨hP1, hK1, hD1⟩ := hB
  rw [ht] at hP1
  clear hK1
  try dsimp only at hw_1
  have hpd9 : PDx (dC, dI) classes A H1 (wp [oX9 h1 po pp ps pa pe pb pv pk pu pw pq pt u_2 u_3, oX4 pv ek ef ew ep es (nI n) sy dn, cI aC ew 8 wf, cI aC es 5 stf, cA aC pp 8 fp, cA aC po 8 fo, cI aC pb 8 u_8, cI aC pu 7 u_4, cI aC pw 7 u_5, cI aC pq 128 u_6, cI aC pt 128 u_7] (va_pl L (plE aC u_9))) := jn_P (wr := []) hFc hk1 hP1 hD1 hP hD [0, 1, 2, 3, 4, 5, 6, 7, 8, 9, 10] [] rfl rfl (by decide) (by decide)
  have hP := hpd9.1
  have hD := hpd9.2
  clear hpd9
  generalize H1 = H at hP hS ⊢
  clear hPc hDc hFc hz1 hk1 hP1 hD1 ht hvm
  have hfw9 := hw_1
  have hpd9 := pd_P (cx := [oX9 h1 po pp ps pa pe pb pv pk pu pw pq pt u_2 u_3, oX4 pv ek ef ew ep es (nI n) sy dn, cI aC ew 8 wf, cI aC es 5 stf, cA aC pp 8 fp, cA aC po 8 fo, cI aC pb 8 u_8, cI aC pu 7 u_4, cI aC pw 7 u_5, cI aC pq 128 u_6, cI aC pt 128 u_7]) hP hD [0, 1, 2, 3, 4, 5, 6, 7, 8, 9, 10] (by decide) rfl
  have hP9 := hpd9.1
  have hD9 := hpd9.2
  refine W.widen (k := 0) (n := 0) (by omega) (by omega) ?_
  exact W.vret hx hb hr (fun t ht hW => ⟨⟨(u_2, u_3, u_4, u_5, u_6, u_7, u_8, u_9, u_10), rfl, hfw9, by rw [ht]; exact hP9, va_K.moved hW.alike hK, hD9⟩, hS.F ht⟩) hS.2.2 dX0_tell_5

set_option maxHeartbeats 1000000 in
set_option maxRecDepth 100000 in
/-- X5_tell -/
theorem c_X5_tell (l : Launch) (dC : Nat → ClassId) (dI : Nat → Nat → Nat) (aC : Nat → ClassId) (sz : Nat) (kx : Nat) (h1 : Nat) (po : Nat) (pp : Nat) (ps : Nat) (pa : Nat) (pe : Nat) (pb : Nat) (pv : Nat) (pk : Nat) (pu : Nat) (pw : Nat) (pq : Nat) (pt : Nat) (un : Int32) (fw : Int32) (ek : Nat) (ef : Nat) (ew : Nat) (ep : Nat) (es : Nat) (n : Nat) (sy : Int32) (dn : Int32) (stf : Nat → Int32) (L : List Nat) (g : Nat → Nat → Int32) (fo : Nat → Option Nat) (fp : Nat → Option Nat) (fs : Nat → Option Nat) (ro : Nat → Nat) (rp : Nat → Nat) (rs : Nat → Nat) (i : Nat) (cq : Nat) (O : Nat → Nat) (hgr : GRD L fo fp fs ro rp rs) (hi : i < n ∧ n ≤ 8) (hcq : stf 0 = nI cq) (hcq9 : cq ≤ 99) (hO : ∀ q, q < 8 → g (ro i) q = nI (O q)) (hO9 : ∀ q, O q ≤ 99) : Met l yX5_tell (wW yX5_tell cX5_tell 3 (none : Option FieldType)) ({ frames := 2, cells := 0, slots := 0, locals := 47 } : Room) (va_Pc [Value.ref kx, Value.ref h1, Value.int (nI i)] (fun U => U.heap.size = sz ∧ va_P (dC, dI) classes (wp [oX9 h1 po pp ps pa pe pb pv pk pu pw pq pt un fw, oX4 pv ek ef ew ep es (nI n) sy dn, cI aC es 5 stf, cA aC po 8 fo] (va_pl L (plE aC g))) U.heap ∧ va_K (dC, dI) classes (TY aC) U ∧ va_D (fun _ => True) (wp [oX9 h1 po pp ps pa pe pb pv pk pu pw pq pt un fw, oX4 pv ek ef ew ep es (nI n) sy dn, cI aC es 5 stf, cA aC po 8 fo] (va_pl L (plE aC g))) ∧ NX U)) (va_Qv (fun (g2 : Nat → Nat → Int32) => (∀ q, q < 8 → g2 (ro i) q = nI (sE O i (cq / (n - i)) (n - 1 - i) q)) ∧ ∀ a, a ≠ ro i → g2 a = g a) (fun (g2 : Nat → Nat → Int32) (t : State) => va_P (dC, dI) classes (wp [oX9 h1 po pp ps pa pe pb pv pk pu pw pq pt un fw, oX4 pv ek ef ew ep es (nI n) sy dn, cI aC es 5 stf, cA aC po 8 fo] (va_pl L (plE aC g2))) t.heap ∧ va_K (dC, dI) classes (TY aC) t ∧ va_D (va_A (wp [oX9 h1 po pp ps pa pe pb pv pk pu pw pq pt un fw, oX4 pv ek ef ew ep es (nI n) sy dn, cI aC es 5 stf, cA aC po 8 fo] (va_pl L (plE aC g))) sz) (wp [oX9 h1 po pp ps pa pe pb pv pk pu pw pq pt un fw, oX4 pv ek ef ew ep es (nI n) sy dn, cI aC es 5 stf, cA aC po 8 fo] (va_pl L (plE aC g2)))) (va_A (wp [oX9 h1 po pp ps pa pe pb pv pk pu pw pq pt un fw, oX4 pv ek ef ew ep es (nI n) sy dn, cI aC es 5 stf, cA aC po 8 fo] (va_pl L (plE aC g))) sz)) 0 0 (va_A (wp [oX9 h1 po pp ps pa pe pb pv pk pu pw pq pt un fw, oX4 pv ek ef ew ep es (nI n) sy dn, cI aC es 5 stf, cA aC po 8 fo] (va_pl L (plE aC g))) sz) := by
  refine Met.ofW (cc := cX5_tell) (maxL := 3) (ret := (none : Option FieldType)) (by decide) rfl ?_
  intro p e s m args below meth c s₁ B hml hv
  obtain ⟨rfl, hsz, hP, hK, hD0, hN⟩ := hv
  have hx := B.exec
  have hb := B.bytes
  have hr := B.returns
  have hts0 := atoms_spec (ws := (wW yX5_tell cX5_tell 3 (none : Option FieldType))) B.pre
  have hts : ∀ w9 ∈ lw_G, w9.before ([Value.ref kx, Value.ref h1, Value.int (nI i)] : List Value).toArray s = true := fun w9 h9 => hts0 w9 (List.mem_cons_of_mem _ h9)
  have hown : s.vm.findClass RX5 = some m.cls := findClass_of_methodNamed (x := yX5_tell) B.named
  have hlocks := B.notSynchronized
  subst hsz
  have hD := hD0.self (sz := s.heap.size)
  generalize hAe : va_A (wp [oX9 h1 po pp ps pa pe pb pv pk pu pw pq pt un fw, oX4 pv ek ef ew ep es (nI n) sy dn, cI aC es 5 stf, cA aC po 8 fo] (va_pl L (plE aC g))) s.heap.size = A at hD ⊢
  have hA : ∀ q : Nat, s.heap.size ≤ q → A q := fun q h => by rw [← hAe]; exact Or.inr h
  obtain ⟨H, hHe⟩ : ∃ H : Heap, H = s.heap := ⟨_, rfl⟩
  have hS : va_S A s.heap H [] := by rw [hHe]; exact va_S.rf
  have hP : va_P (dC, dI) classes (wp [oX9 h1 po pp ps pa pe pb pv pk pu pw pq pt un fw, oX4 pv ek ef ew ep es (nI n) sy dn, cI aC es 5 stf, cA aC po 8 fo] (va_pl L (plE aC g))) H := by rw [hHe]; exact hP
  have hl := lv_entry ([Value.ref kx, Value.ref h1, Value.int (nI i)]) (n := 3) (Nat.le_of_ble_eq_true rfl)
  rw [lg_entry_eq]
  generalize (lg_sl ([Value.ref kx, Value.ref h1, Value.int (nI i)]) ++ List.replicate (3 - (lg_sl ([Value.ref kx, Value.ref h1, Value.int (nI i)])).length) Slot.unset).toArray = ls at hl ⊢
  have hl : lv_has ls 3 [(0, Value.ref kx), (1, Value.ref h1), (2, Value.int (nI i))] := hl
  rw [← hHe]
  refine lv_aload_n hx hb dX5_tell_0 rfl (lv_at hl 1 rfl) ?_
  refine lv_iload_n hx hb dX5_tell_1 rfl (lv_at hl 2 rfl) ?_
  have hpd9 := pdf_P (cx := [oX9 h1 po pp ps pa pe pb pv pk pu pw pq pt un fw, oX4 pv ek ef ew ep es (nI n) sy dn, cI aC es 5 stf, cA aC po 8 fo]) hP hD hS hA [0, 1, 2, 3] (by decide) rfl
  have hPc := hpd9.1
  have hDc := hpd9.2.1
  have hFc := hpd9.2.2
  clear hpd9
  refine va_callv (va_runV (As := [Value.int (nI i)]) (rest := []) ⟨hx, hb, hml, hown, hts⟩ (c_X9_shareFairly l dC dI aC H.size h1 po pp ps pa pe pb pv pk pu pw pq pt un fw ek ef ew ep es n sy dn stf L g fo fp fs ro rp rs i cq O (hgr) (hi) (hcq) (hcq9) (hO) (hO9)) ⟨(callB_of 1 hts (gG kw_412) rfl rfl rfl (hts _ (gw kw_11 rfl)) (hts _ (gw kw_409 rfl)) hd_X9_shareFairly ⟨Nat.le_of_ble_eq_true rfl, Nat.le_of_ble_eq_true rfl⟩), (hts _ (gw kw_410 rfl)), (hts _ (gw kw_411 rfl))⟩ ⟨fb_std, va_recv (q := (RX9, TX9, 14)) hK hPc (ci := 9) (q0 := 0) rfl rfl, pre_std hPc hK hDc hN⟩ rfl rfl hl.1 rfl (lv_room (Nat.le_of_ble_eq_true rfl)) dX5_tell_2 ⟨Nat.le_of_ble_eq_true rfl, Nat.le_of_ble_eq_true rfl⟩) hS (fun q _ h => hFc q h) hFc (fun u9 t9 H1 locs ht hvm hw_1 hB hz1 hk1 hS => ?_)
  obtain ⟨u_2, rfl⟩ : ∃ z, z = u9 := ⟨_, rfl⟩
  obtain ⟨hP1, hK1, hD1⟩ := hB
  rw [ht] at hP1
  clear hK1
  try dsimp only at hw_1
  have hpd9 : PDx (dC, dI) classes A H1 (wp [oX9 h1 po pp ps pa pe pb pv pk pu pw pq pt un fw, oX4 pv ek ef ew ep es (nI n) sy dn, cI aC es 5 stf, cA aC po 8 fo] (va_pl L (plE aC u_2))) := jn_P (wr := []) hFc hk1 hP1 hD1 hP hD [0, 1, 2, 3] [] rfl rfl (by decide) (by decide)
  have hP := hpd9.1
  have hD := hpd9.2
  clear hpd9
  generalize H1 = H at hP hS ⊢
  clear hPc hDc hFc hz1 hk1 hP1 hD1 ht hvm
  have hfw9 := hw_1
  have hpd9 := pd_P (cx := [oX9 h1 po pp ps pa pe pb pv pk pu pw pq pt un fw, oX4 pv ek ef ew ep es (nI n) sy dn, cI aC es 5 stf, cA aC po 8 fo]) hP hD [0, 1, 2, 3] (by decide) rfl
  have hP9 := hpd9.1
  have hD9 := hpd9.2
  refine W.widen (k := 0) (n := 0) (by omega) (by omega) ?_
  exact W.vret hx hb hr (fun t ht hW => ⟨⟨(u_2), rfl, hfw9, by rw [ht]; exact hP9, va_K.moved hW.alike hK, hD9⟩, hS.F ht⟩) hS.2.2 dX5_tell_5

set_option maxHeartbeats 1000000 in
set_option maxRecDepth 100000 in
/-- X6_tell -/
theorem c_X6_tell (l : Launch) (dC : Nat → ClassId) (dI : Nat → Nat → Nat) (aC : Nat → ClassId) (sz : Nat) (kx : Nat) (h1 : Nat) (po : Nat) (pp : Nat) (ps : Nat) (pa : Nat) (pe : Nat) (pb : Nat) (pv : Nat) (pk : Nat) (pu : Nat) (pw : Nat) (pq : Nat) (pt : Nat) (un : Int32) (fw : Int32) (ek : Nat) (ef : Nat) (ew : Nat) (ep : Nat) (es : Nat) (n : Nat) (sy : Int32) (dn : Int32) (L : List Nat) (g : Nat → Nat → Int32) (fo : Nat → Option Nat) (fp : Nat → Option Nat) (fs : Nat → Option Nat) (ro : Nat → Nat) (rp : Nat → Nat) (rs : Nat → Nat) (i : Nat) (cf : Nat) (O : Nat → Nat) (ff : Nat → Int32) (hgr : GRD L fo fp fs ro rp rs) (hi : i < n ∧ n ≤ 8) (hc : cf ≤ 99) (hO : ∀ q, q < 8 → g (ro i) q = nI (O q)) (hO9 : ∀ q, O q ≤ 99) (hfi : ff i = nI cf) : Met l yX6_tell (wW yX6_tell cX6_tell 3 (none : Option FieldType)) ({ frames := 2, cells := 0, slots := 0, locals := 46 } : Room) (va_Pc [Value.ref kx, Value.ref h1, Value.int (nI i)] (fun U => U.heap.size = sz ∧ va_P (dC, dI) classes (wp [oX9 h1 po pp ps pa pe pb pv pk pu pw pq pt un fw, oX4 pv ek ef ew ep es (nI n) sy dn, cI aC ef 8 ff, cA aC po 8 fo] (va_pl L (plE aC g))) U.heap ∧ va_K (dC, dI) classes (TY aC) U ∧ va_D (fun _ => True) (wp [oX9 h1 po pp ps pa pe pb pv pk pu pw pq pt un fw, oX4 pv ek ef ew ep es (nI n) sy dn, cI aC ef 8 ff, cA aC po 8 fo] (va_pl L (plE aC g))) ∧ NX U)) (va_Qv (fun (g2 : Nat → Nat → Int32) => (∀ q, q < 8 → g2 (ro i) q = nI (sE O i cf (n - 1 - i) q)) ∧ ∀ a, a ≠ ro i → g2 a = g a) (fun (g2 : Nat → Nat → Int32) (t : State) => va_P (dC, dI) classes (wp [oX9 h1 po pp ps pa pe pb pv pk pu pw pq pt un fw, oX4 pv ek ef ew ep es (nI n) sy dn, cI aC ef 8 ff, cA aC po 8 fo] (va_pl L (plE aC g2))) t.heap ∧ va_K (dC, dI) classes (TY aC) t ∧ va_D (va_A (wp [oX9 h1 po pp ps pa pe pb pv pk pu pw pq pt un fw, oX4 pv ek ef ew ep es (nI n) sy dn, cI aC ef 8 ff, cA aC po 8 fo] (va_pl L (plE aC g))) sz) (wp [oX9 h1 po pp ps pa pe pb pv pk pu pw pq pt un fw, oX4 pv ek ef ew ep es (nI n) sy dn, cI aC ef 8 ff, cA aC po 8 fo] (va_pl L (plE aC g2)))) (va_A (wp [oX9 h1 po pp ps pa pe pb pv pk pu pw pq pt un fw, oX4 pv ek ef ew ep es (nI n) sy dn, cI aC ef 8 ff, cA aC po 8 fo] (va_pl L (plE aC g))) sz)) 0 0 (va_A (wp [oX9 h1 po pp ps pa pe pb pv pk pu pw pq pt un fw, oX4 pv ek ef ew ep es (nI n) sy dn, cI aC ef 8 ff, cA aC po 8 fo] (va_pl L (plE aC g))) sz) := by
  refine Met.ofW (cc := cX6_tell) (maxL := 3) (ret := (none : Option FieldType)) (by decide) rfl ?_
  intro p e s m args below meth c s₁ B hml hv
  obtain ⟨rfl, hsz, hP, hK, hD0, hN⟩ := hv
  have hx := B.exec
  have hb := B.bytes
  have hr := B.returns
  have hts0 := atoms_spec (ws := (wW yX6_tell cX6_tell 3 (none : Option FieldType))) B.pre
  have hts : ∀ w9 ∈ lw_G, w9.before ([Value.ref kx, Value.ref h1, Value.int (nI i)] : List Value).toArray s = true := fun w9 h9 => hts0 w9 (List.mem_cons_of_mem _ h9)
  have hown : s.vm.findClass RX6 = some m.cls := findClass_of_methodNamed (x := yX6_tell) B.named
  have hlocks := B.notSynchronized
  subst hsz
  have hD := hD0.self (sz := s.heap.size)
  generalize hAe : va_A (wp [oX9 h1 po pp ps pa pe pb pv pk pu pw pq pt un fw, oX4 pv ek ef ew ep es (nI n) sy dn, cI aC ef 8 ff, cA aC po 8 fo] (va_pl L (plE aC g))) s.heap.size = A at hD ⊢
  have hA : ∀ q : Nat, s.heap.size ≤ q → A q := fun q h => by rw [← hAe]; exact Or.inr h
  obtain ⟨H, hHe⟩ : ∃ H : Heap, H = s.heap := ⟨_, rfl⟩
  have hS : va_S A s.heap H [] := by rw [hHe]; exact va_S.rf
  have hP : va_P (dC, dI) classes (wp [oX9 h1 po pp ps pa pe pb pv pk pu pw pq pt un fw, oX4 pv ek ef ew ep es (nI n) sy dn, cI aC ef 8 ff, cA aC po 8 fo] (va_pl L (plE aC g))) H := by rw [hHe]; exact hP
  have hl := lv_entry ([Value.ref kx, Value.ref h1, Value.int (nI i)]) (n := 3) (Nat.le_of_ble_eq_true rfl)
  rw [lg_entry_eq]
  generalize (lg_sl ([Value.ref kx, Value.ref h1, Value.int (nI i)]) ++ List.replicate (3 - (lg_sl ([Value.ref kx, Value.ref h1, Value.int (nI i)])).length) Slot.unset).toArray = ls at hl ⊢
  have hl : lv_has ls 3 [(0, Value.ref kx), (1, Value.ref h1), (2, Value.int (nI i))] := hl
  rw [← hHe]
  refine lv_aload_n hx hb dX6_tell_0 rfl (lv_at hl 1 rfl) ?_
  refine lv_iload_n hx hb dX6_tell_1 rfl (lv_at hl 2 rfl) ?_
  refine lv_aload_n hx hb dX6_tell_2 rfl (lv_at hl 1 rfl) ?_
  refine lv_iload_n hx hb dX6_tell_3 rfl (lv_at hl 2 rfl) ?_
  have hpd9 := pdf_N (cx := [oX9 h1 po pp ps pa pe pb pv pk pu pw pq pt un fw, oX4 pv ek ef ew ep es (nI n) sy dn, cI aC ef 8 ff]) hP hD hS hA [0, 1, 2] (by decide) rfl
  have hPc := hpd9.1
  have hDc := hpd9.2.1
  have hFc := hpd9.2.2
  clear hpd9
  refine va_calli (va_runV (As := [Value.int (nI i)]) (rest := [Value.int (nI i), Value.ref h1]) ⟨hx, hb, hml, hown, hts⟩ (c_X9_figureOf l dC dI aC H.size h1 po pp ps pa pe pb pv pk pu pw pq pt un fw ek ef ew ep es n sy dn ff i cf (by omega) (hfi)) ⟨(callB_of 1 hts (gG kw_423) rfl rfl rfl (hts _ (gw kw_11 rfl)) (hts _ (gw kw_420 rfl)) hd_X9_figureOf ⟨Nat.le_of_ble_eq_true rfl, Nat.le_of_ble_eq_true rfl⟩), (hts _ (gw kw_421 rfl)), (hts _ (gw kw_422 rfl))⟩ ⟨fb_std, va_recv (q := (RX9, TX9, 14)) hK hPc (ci := 9) (q0 := 0) rfl rfl, pre_std hPc hK hDc hN⟩ rfl rfl hl.1 rfl (lv_room (Nat.le_of_ble_eq_true rfl)) dX6_tell_4 ⟨Nat.le_of_ble_eq_true rfl, Nat.le_of_ble_eq_true rfl⟩) hS (fun q _ h => hFc q h) hFc (fun x_1 u9 t9 H1 locs ht hvm hw_1 hB hz1 hk1 hS => ?_)
  obtain ⟨hP1, hK1, hD1⟩ := hB
  rw [ht] at hP1
  clear hK1
  try dsimp only at hw_1
  have hpd9 : PDx (dC, dI) classes A H1 (wp [cA aC po 8 fo, oX9 h1 po pp ps pa pe pb pv pk pu pw pq pt un fw, oX4 pv ek ef ew ep es (nI n) sy dn, cI aC ef 8 ff] (va_pl L (plE aC g))) := jn_Q (wr := [cA aC po 8 fo]) hFc hk1 hP1 hD1 hP hD [0, 1, 2] [3] rfl rfl (by decide) (by decide)
  have hP := hpd9.1
  have hD := hpd9.2
  clear hpd9
  generalize H1 = H at hP hS ⊢
  clear hPc hDc hFc hz1 hk1 hP1 hD1 ht hvm
  have h9 : x_1 = nI cf := hw_1
  subst h9
  have hpd9 := pdf_P (cx := [oX9 h1 po pp ps pa pe pb pv pk pu pw pq pt un fw, oX4 pv ek ef ew ep es (nI n) sy dn, cA aC po 8 fo]) hP hD hS hA [1, 2, 0] (by decide) rfl
  have hPc := hpd9.1
  have hDc := hpd9.2.1
  have hFc := hpd9.2.2
  clear hpd9
  refine va_callv (va_runV (As := [Value.int (nI i), Value.int (nI cf)]) (rest := []) ⟨hx, hb, hml, hown, hts⟩ (c_X9_spreadFromEldest l dC dI aC H.size h1 po pp ps pa pe pb pv pk pu pw pq pt un fw ek ef ew ep es n sy dn L g fo fp fs ro rp rs i cf O (hgr) (hi) (hc) (hO) (hO9)) ⟨(callB_of 2 hts (gG kw_427) rfl rfl rfl (hts _ (gw kw_11 rfl)) (hts _ (gw kw_424 rfl)) hd_X9_spreadFromEldest ⟨Nat.le_of_ble_eq_true rfl, Nat.le_of_ble_eq_true rfl⟩), (hts _ (gw kw_425 rfl)), (hts _ (gw kw_426 rfl))⟩ ⟨fb_std, va_recv (q := (RX9, TX9, 14)) hK hPc (ci := 9) (q0 := 0) rfl rfl, pre_std hPc hK hDc hN⟩ rfl rfl hl.1 rfl (lv_room (Nat.le_of_ble_eq_true rfl)) dX6_tell_7 ⟨Nat.le_of_ble_eq_true rfl, Nat.le_of_ble_eq_true rfl⟩) hS (fun q _ h => hFc q h) hFc (fun u9 t9 H1 locs ht hvm hw_2 hB hz1 hk1 hS => ?_)
  obtain ⟨u_3, rfl⟩ : ∃ z, z = u9 := ⟨_, rfl⟩
  obtain ⟨hP1, hK1, hD1⟩ := hB
  rw [ht] at hP1
  clear hK1
  try dsimp only at hw_2
  have hpd9 : PDx (dC, dI) classes A H1 (wp [cI aC ef 8 ff, oX9 h1 po pp ps pa pe pb pv pk pu pw pq pt un fw, oX4 pv ek ef ew ep es (nI n) sy dn, cA aC po 8 fo] (va_pl L (plE aC u_3))) := jn_P (wr := [cI aC ef 8 ff]) hFc hk1 hP1 hD1 hP hD [1, 2, 0] [3] rfl rfl (by decide) (by decide)
  have hP := hpd9.1
  have hD := hpd9.2
  clear hpd9
  generalize H1 = H at hP hS ⊢
  clear hPc hDc hFc hz1 hk1 hP1 hD1 ht hvm
  have hfw9 := hw_2
  have hpd9 := pd_P (cx := [oX9 h1 po pp ps pa pe pb pv pk pu pw pq pt un fw, oX4 pv ek ef ew ep es (nI n) sy dn, cI aC ef 8 ff, cA aC po 8 fo]) hP hD [1, 2, 0, 3] (by decide) rfl
  have hP9 := hpd9.1
  have hD9 := hpd9.2
  refine W.widen (k := 0) (n := 0) (by omega) (by omega) ?_
  exact W.vret hx hb hr (fun t ht hW => ⟨⟨(u_3), rfl, hfw9, by rw [ht]; exact hP9, va_K.moved hW.alike hK, hD9⟩, hS.F ht⟩) hS.2.2 dX6_tell_10

set_option maxHeartbeats 1000000 in
set_option maxRecDepth 100000 in
/-- X8_tell -/
theorem c_X8_tell (l : Launch) (dC : Nat → ClassId) (dI : Nat → Nat → Nat) (aC : Nat → ClassId) (sz : Nat) (kx : Nat) (h1 : Nat) (po : Nat) (pp : Nat) (ps : Nat) (pa : Nat) (pe : Nat) (pb : Nat) (pv : Nat) (pk : Nat) (pu : Nat) (pw : Nat) (pq : Nat) (pt : Nat) (un : Int32) (fw : Int32) (ek : Nat) (ef : Nat) (ew : Nat) (ep : Nat) (es : Nat) (n : Nat) (sy : Int32) (dn : Int32) (L : List Nat) (g : Nat → Nat → Int32) (fo : Nat → Option Nat) (fp : Nat → Option Nat) (fs : Nat → Option Nat) (ro : Nat → Nat) (rp : Nat → Nat) (rs : Nat → Nat) (i : Nat) (cf : Nat) (O : Nat → Nat) (ff : Nat → Int32) (hgr : GRD L fo fp fs ro rp rs) (hi : i < n ∧ n ≤ 8) (hc : cf ≤ 99) (hO : ∀ q, q < 8 → g (ro i) q = nI (O q)) (hO9 : ∀ q, O q ≤ 99) (hfi : ff i = nI cf) : Met l yX8_tell (wW yX8_tell cX8_tell 3 (none : Option FieldType)) ({ frames := 2, cells := 0, slots := 0, locals := 46 } : Room) (va_Pc [Value.ref kx, Value.ref h1, Value.int (nI i)] (fun U => U.heap.size = sz ∧ va_P (dC, dI) classes (wp [oX9 h1 po pp ps pa pe pb pv pk pu pw pq pt un fw, oX4 pv ek ef ew ep es (nI n) sy dn, cI aC ef 8 ff, cA aC po 8 fo] (va_pl L (plE aC g))) U.heap ∧ va_K (dC, dI) classes (TY aC) U ∧ va_D (fun _ => True) (wp [oX9 h1 po pp ps pa pe pb pv pk pu pw pq pt un fw, oX4 pv ek ef ew ep es (nI n) sy dn, cI aC ef 8 ff, cA aC po 8 fo] (va_pl L (plE aC g))) ∧ NX U)) (va_Qv (fun (g2 : Nat → Nat → Int32) => (∀ q, q < 8 → g2 (ro i) q = nI (sY O n i cf (n - 1 - i) q)) ∧ ∀ a, a ≠ ro i → g2 a = g a) (fun (g2 : Nat → Nat → Int32) (t : State) => va_P (dC, dI) classes (wp [oX9 h1 po pp ps pa pe pb pv pk pu pw pq pt un fw, oX4 pv ek ef ew ep es (nI n) sy dn, cI aC ef 8 ff, cA aC po 8 fo] (va_pl L (plE aC g2))) t.heap ∧ va_K (dC, dI) classes (TY aC) t ∧ va_D (va_A (wp [oX9 h1 po pp ps pa pe pb pv pk pu pw pq pt un fw, oX4 pv ek ef ew ep es (nI n) sy dn, cI aC ef 8 ff, cA aC po 8 fo] (va_pl L (plE aC g))) sz) (wp [oX9 h1 po pp ps pa pe pb pv pk pu pw pq pt un fw, oX4 pv ek ef ew ep es (nI n) sy dn, cI aC ef 8 ff, cA aC po 8 fo] (va_pl L (plE aC g2)))) (va_A (wp [oX9 h1 po pp ps pa pe pb pv pk pu pw pq pt un fw, oX4 pv ek ef ew ep es (nI n) sy dn, cI aC ef 8 ff, cA aC po 8 fo] (va_pl L (plE aC g))) sz)) 0 0 (va_A (wp [oX9 h1 po pp ps pa pe pb pv pk pu pw pq pt un fw, oX4 pv ek ef ew ep es (nI n) sy dn, cI aC ef 8 ff, cA aC po 8 fo] (va_pl L (plE aC g))) sz) := by
  refine Met.ofW (cc := cX8_tell) (maxL := 3) (ret := (none : Option FieldType)) (by decide) rfl ?_
  intro p e s m args below meth c s₁ B hml hv
  obtain ⟨rfl, hsz, hP, hK, hD0, hN⟩ := hv
  have hx := B.exec
  have hb := B.bytes
  have hr := B.returns
  have hts0 := atoms_spec (ws := (wW yX8_tell cX8_tell 3 (none : Option FieldType))) B.pre
  have hts : ∀ w9 ∈ lw_G, w9.before ([Value.ref kx, Value.ref h1, Value.int (nI i)] : List Value).toArray s = true := fun w9 h9 => hts0 w9 (List.mem_cons_of_mem _ h9)
  have hown : s.vm.findClass RX8 = some m.cls := findClass_of_methodNamed (x := yX8_tell) B.named
  have hlocks := B.notSynchronized
  subst hsz
  have hD := hD0.self (sz := s.heap.size)
  generalize hAe : va_A (wp [oX9 h1 po pp ps pa pe pb pv pk pu pw pq pt un fw, oX4 pv ek ef ew ep es (nI n) sy dn, cI aC ef 8 ff, cA aC po 8 fo] (va_pl L (plE aC g))) s.heap.size = A at hD ⊢
  have hA : ∀ q : Nat, s.heap.size ≤ q → A q := fun q h => by rw [← hAe]; exact Or.inr h
  obtain ⟨H, hHe⟩ : ∃ H : Heap, H = s.heap := ⟨_, rfl⟩
  have hS : va_S A s.heap H [] := by rw [hHe]; exact va_S.rf
  have hP : va_P (dC, dI) classes (wp [oX9 h1 po pp ps pa pe pb pv pk pu pw pq pt un fw, oX4 pv ek ef ew ep es (nI n) sy dn, cI aC ef 8 ff, cA aC po 8 fo] (va_pl L (plE aC g))) H := by rw [hHe]; exact hP
  have hl := lv_entry ([Value.ref kx, Value.ref h1, Value.int (nI i)]) (n := 3) (Nat.le_of_ble_eq_true rfl)
  rw [lg_entry_eq]
  generalize (lg_sl ([Value.ref kx, Value.ref h1, Value.int (nI i)]) ++ List.replicate (3 - (lg_sl ([Value.ref kx, Value.ref h1, Value.int (nI i)])).length) Slot.unset).toArray = ls at hl ⊢
  have hl : lv_has ls 3 [(0, Value.ref kx), (1, Value.ref h1), (2, Value.int (nI i))] := hl
  rw [← hHe]
  refine lv_aload_n hx hb dX8_tell_0 rfl (lv_at hl 1 rfl) ?_
  refine lv_iload_n hx hb dX8_tell_1 rfl (lv_at hl 2 rfl) ?_
  refine lv_aload_n hx hb dX8_tell_2 rfl (lv_at hl 1 rfl) ?_
  refine lv_iload_n hx hb dX8_tell_3 rfl (lv_at hl 2 rfl) ?_
  have hpd9 := pdf_N (cx := [oX9 h1 po pp ps pa pe pb pv pk pu pw pq pt un fw, oX4 pv ek ef ew ep es (nI n) sy dn, cI aC ef 8 ff]) hP hD hS hA [0, 1, 2] (by decide) rfl
  have hPc := hpd9.1
  have hDc := hpd9.2.1
  have hFc := hpd9.2.2
  clear hpd9
  refine va_calli (va_runV (As := [Value.int (nI i)]) (rest := [Value.int (nI i), Value.ref h1]) ⟨hx, hb, hml, hown, hts⟩ (c_X9_figureOf l dC dI aC H.size h1 po pp ps pa pe pb pv pk pu pw pq pt un fw ek ef ew ep es n sy dn ff i cf (by omega) (hfi)) ⟨(callB_of 1 hts (gG kw_423) rfl rfl rfl (hts _ (gw kw_11 rfl)) (hts _ (gw kw_431 rfl)) hd_X9_figureOf ⟨Nat.le_of_ble_eq_true rfl, Nat.le_of_ble_eq_true rfl⟩), (hts _ (gw kw_421 rfl)), (hts _ (gw kw_422 rfl))⟩ ⟨fb_std, va_recv (q := (RX9, TX9, 14)) hK hPc (ci := 9) (q0 := 0) rfl rfl, pre_std hPc hK hDc hN⟩ rfl rfl hl.1 rfl (lv_room (Nat.le_of_ble_eq_true rfl)) dX8_tell_4 ⟨Nat.le_of_ble_eq_true rfl, Nat.le_of_ble_eq_true rfl⟩) hS (fun q _ h => hFc q h) hFc (fun x_1 u9 t9 H1 locs ht hvm hw_1 hB hz1 hk1 hS => ?_)
  obtain ⟨hP1, hK1, hD1⟩ := hB
  rw [ht] at hP1
  clear hK1
  try dsimp only at hw_1
  have hpd9 : PDx (dC, dI) classes A H1 (wp [cA aC po 8 fo, oX9 h1 po pp ps pa pe pb pv pk pu pw pq pt un fw, oX4 pv ek ef ew ep es (nI n) sy dn, cI aC ef 8 ff] (va_pl L (plE aC g))) := jn_Q (wr := [cA aC po 8 fo]) hFc hk1 hP1 hD1 hP hD [0, 1, 2] [3] rfl rfl (by decide) (by decide)
  have hP := hpd9.1
  have hD := hpd9.2
  clear hpd9
  generalize H1 = H at hP hS ⊢
  clear hPc hDc hFc hz1 hk1 hP1 hD1 ht hvm
  have h9 : x_1 = nI cf := hw_1
  subst h9
  have hpd9 := pdf_P (cx := [oX9 h1 po pp ps pa pe pb pv pk pu pw pq pt un fw, oX4 pv ek ef ew ep es (nI n) sy dn, cA aC po 8 fo]) hP hD hS hA [1, 2, 0] (by decide) rfl
  have hPc := hpd9.1
  have hDc := hpd9.2.1
  have hFc := hpd9.2.2
  clear hpd9
  refine va_callv (va_runV (As := [Value.int (nI i), Value.int (nI cf)]) (rest := []) ⟨hx, hb, hml, hown, hts⟩ (c_X9_spreadFromYoungest l dC dI aC H.size h1 po pp ps pa pe pb pv pk pu pw pq pt un fw ek ef ew ep es n sy dn L g fo fp fs ro rp rs i cf O (hgr) (hi) (hc) (hO) (hO9)) ⟨(callB_of 2 hts (gG kw_435) rfl rfl rfl (hts _ (gw kw_11 rfl)) (hts _ (gw kw_432 rfl)) hd_X9_spreadFromYoungest ⟨Nat.le_of_ble_eq_true rfl, Nat.le_of_ble_eq_true rfl⟩), (hts _ (gw kw_433 rfl)), (hts _ (gw kw_434 rfl))⟩ ⟨fb_std, va_recv (q := (RX9, TX9, 14)) hK hPc (ci := 9) (q0 := 0) rfl rfl, pre_std hPc hK hDc hN⟩ rfl rfl hl.1 rfl (lv_room (Nat.le_of_ble_eq_true rfl)) dX8_tell_7 ⟨Nat.le_of_ble_eq_true rfl, Nat.le_of_ble_eq_true rfl⟩) hS (fun q _ h => hFc q h) hFc (fun u9 t9 H1 locs ht hvm hw_2 hB hz1 hk1 hS => ?_)
  obtain ⟨u_3, rfl⟩ : ∃ z, z = u9 := ⟨_, rfl⟩
  obtain ⟨hP1, hK1, hD1⟩ := hB
  rw [ht] at hP1
  clear hK1
  try dsimp only at hw_2
  have hpd9 : PDx (dC, dI) classes A H1 (wp [cI aC ef 8 ff, oX9 h1 po pp ps pa pe pb pv pk pu pw pq pt un fw, oX4 pv ek ef ew ep es (nI n) sy dn, cA aC po 8 fo] (va_pl L (plE aC u_3))) := jn_P (wr := [cI aC ef 8 ff]) hFc hk1 hP1 hD1 hP hD [1, 2, 0] [3] rfl rfl (by decide) (by decide)
  have hP := hpd9.1
  have hD := hpd9.2
  clear hpd9
  generalize H1 = H at hP hS ⊢
  clear hPc hDc hFc hz1 hk1 hP1 hD1 ht hvm
  have hfw9 := hw_2
  have hpd9 := pd_P (cx := [oX9 h1 po pp ps pa pe pb pv pk pu pw pq pt un fw, oX4 pv ek ef ew ep es (nI n) sy dn, cI aC ef 8 ff, cA aC po 8 fo]) hP hD [1, 2, 0, 3] (by decide) rfl
  have hP9 := hpd9.1
  have hD9 := hpd9.2
  refine W.widen (k := 0) (n := 0) (by omega) (by omega) ?_
  exact W.vret hx hb hr (fun t ht hW => ⟨⟨(u_3), rfl, hfw9, by rw [ht]; exact hP9, va_K.moved hW.alike hK, hD9⟩, hS.F ht⟩) hS.2.2 dX8_tell_10
