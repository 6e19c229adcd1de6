section
/-! 40.plans8 -/
set_option maxHeartbeats 1000000 in
set_option maxRecDepth 100000 in
/-- X0_tell -/
theorem c_X0_tell (l : Launch) (dC : Nat → ClassId) (dI : Nat → Nat → Nat) (aC : Nat → ClassId) (sz : Nat) (kx : Nat) (h1 : Nat) (po : Nat) (pp : Nat) (ps : Nat) (pa : Nat) (pe : Nat) (pb : Nat) (pv : Nat) (pk : Nat) (pu : Nat) (pw : Nat) (pq : Nat) (pt : Nat) (un : Int32) (fw : Int32) (ek : Nat) (ef : Nat) (ew : Nat) (ep : Nat) (es : Nat) (n : Nat) (sy : Int32) (dn : Int32) (wf : Nat → Int32) (stf : Nat → Int32) (W0 : Nat → Nat) (i : Nat) (cq : Nat) (O : Nat → Nat) (Pq : Nat → Nat) (uf : Nat → Int32) (vf : Nat → Int32) (qf : Nat → Int32) (tf : Nat → Int32) (bf : Nat → Int32) (L : List Nat) (g : Nat → Nat → Int32) (fo : Nat → Option Nat) (fp : Nat → Option Nat) (fs : Nat → Option Nat) (ro : Nat → Nat) (rp : Nat → Nat) (rs : Nat → Nat) (hgr : GRD L fo fp fs ro rp rs) (hw : n ≤ 8 ∧ ∀ j, j < n → wf j = nI (W0 j) ∧ W0 j ≤ 9) (hi : i < n) (hcq : stf 0 = nI cq ∧ cq ≤ 99) (hO : ∀ q, q < 8 → g (ro i) q = nI (O q)) (hO9 : ∀ q, O q ≤ 99) (hOc : O i = cq) (hPq : ∀ q, i < q → q < n → g (rp i) q = nI (Pq q) ∧ Pq q ≤ 110) : Met l yX0_tell (wW yX0_tell cX0_tell 3 (none : Option FieldType)) ({ frames := 4, cells := 0, slots := 0, locals := 87 } : Room) (va_Pc [Value.ref kx, Value.ref h1, Value.int (nI i)] (fun U => U.heap.size = sz ∧ va_P (dC, dI) classes (wp [oX9 h1 po pp ps pa pe pb pv pk pu pw pq pt un fw, oX4 pv ek ef ew ep es (nI n) sy dn, cI aC ew 8 wf, cI aC es 5 stf, cA aC pp 8 fp, cA aC po 8 fo, cI aC pb 8 bf, cI aC pu 7 uf, cI aC pw 7 vf, cI aC pq 128 qf, cI aC pt 128 tf] (va_pl L (plE aC g))) U.heap ∧ va_K (dC, dI) classes (TY aC) U ∧ va_D (fun _ => True) (wp [oX9 h1 po pp ps pa pe pb pv pk pu pw pq pt un fw, oX4 pv ek ef ew ep es (nI n) sy dn, cI aC ew 8 wf, cI aC es 5 stf, cA aC pp 8 fp, cA aC po 8 fo, cI aC pb 8 bf, cI aC pu 7 uf, cI aC pw 7 vf, cI aC pq 128 qf, cI aC pt 128 tf] (va_pl L (plE aC g))) ∧ NX U)) (va_Qv (fun (u : Int32 × Int32 × (Nat → Int32) × (Nat → Int32) × (Nat → Int32) × (Nat → Int32) × (Nat → Int32) × (Nat → Nat → Int32) × Int32) => match u with | (un2, fw2, ug, vg, qg, tg, bg, g2, rb) => BST (fun z => nd (stf 1) (sumr W0 i (n - i)) ≤ W0 i + sumr (frf (stf 3) n i Pq W0) 0 (n - 1 - i) + cst (uwf (stf 3) n i Pq W0) z) (cst (fun u => Pq (mu (stf 3) n i u))) (2 ^ (n - 1 - i)) rb ∧ (∀ b, b < 2 ^ (n - 1 - i) → rb = nI b → cst (fun u => Pq (mu (stf 3) n i u)) b ≤ cq → (∀ q, q < 32 → bt (bg i) q = mb (stf 3) n i b (n - 1 - i) q) ∧ ∀ q, q < 8 → g2 (ro i) q = nI (if q = i then O i - cst (fun u => Pq (mu (stf 3) n i u)) b else if mb (stf 3) n i b (n - 1 - i) q = true then Pq q else O q)) ∧ ((rb = -9 ∨ ∃ b, b < 2 ^ (n - 1 - i) ∧ rb = nI b ∧ cq < cst (fun u => Pq (mu (stf 3) n i u)) b) → bg i = bf i ∧ ∀ q, q < 8 → g2 (ro i) q = g (ro i) q) ∧ (∀ q, q ≠ i → bg q = bf q) ∧ ∀ a, a ≠ ro i → g2 a = g a) (fun (u : Int32 × Int32 × (Nat → Int32) × (Nat → Int32) × (Nat → Int32) × (Nat → Int32) × (Nat → Int32) × (Nat → Nat → Int32) × Int32) (t : State) => match u with | (un2, fw2, ug, vg, qg, tg, bg, g2, rb) => va_P (dC, dI) classes (wp [oX9 h1 po pp ps pa pe pb pv pk pu pw pq pt un2 fw2, oX4 pv ek ef ew ep es (nI n) sy dn, cI aC ew 8 wf, cI aC es 5 stf, cA aC pp 8 fp, cA aC po 8 fo, cI aC pb 8 bg, cI aC pu 7 ug, cI aC pw 7 vg, cI aC pq 128 qg, cI aC pt 128 tg] (va_pl L (plE aC g2))) t.heap ∧ va_K (dC, dI) classes (TY aC) t ∧ va_D (va_A (wp [oX9 h1 po pp ps pa pe pb pv pk pu pw pq pt un fw, oX4 pv ek ef ew ep es (nI n) sy dn, cI aC ew 8 wf, cI aC es 5 stf, cA aC pp 8 fp, cA aC po 8 fo, cI aC pb 8 bf, cI aC pu 7 uf, cI aC pw 7 vf, cI aC pq 128 qf, cI aC pt 128 tf] (va_pl L (plE aC g))) sz) (wp [oX9 h1 po pp ps pa pe pb pv pk pu pw pq pt un2 fw2, oX4 pv ek ef ew ep es (nI n) sy dn, cI aC ew 8 wf, cI aC es 5 stf, cA aC pp 8 fp, cA aC po 8 fo, cI aC pb 8 bg, cI aC pu 7 ug, cI aC pw 7 vg, cI aC pq 128 qg, cI aC pt 128 tg] (va_pl L (plE aC g2)))) (va_A (wp [oX9 h1 po pp ps pa pe pb pv pk pu pw pq pt un fw, oX4 pv ek ef ew ep es (nI n) sy dn, cI aC ew 8 wf, cI aC es 5 stf, cA aC pp 8 fp, cA aC po 8 fo, cI aC pb 8 bf, cI aC pu 7 uf, cI aC pw 7 vf, cI aC pq 128 qf, cI aC pt 128 tf] (va_pl L (plE aC g))) sz)) 0 0 (va_A (wp [oX9 h1 po pp ps pa pe pb pv pk pu pw pq pt un fw, oX4 pv ek ef ew ep es (nI n) sy dn, cI aC ew 8 wf, cI aC es 5 stf, cA aC pp 8 fp, cA aC po 8 fo, cI aC pb 8 bf, cI aC pu 7 uf, cI aC pw 7 vf, cI aC pq 128 qf, cI aC pt 128 tf] (va_pl L (plE aC g))) sz) := by
  refine Met.ofW (cc := cX0_tell) (maxL := 3) (ret := (none : Option FieldType)) (by decide) rfl ?_
  intro p e s m args below meth c s₁ B hml hv
  obtain ⟨rfl, hsz, hP, hK, hD0, hN⟩ := hv
  have hx := B.exec
  have hb := B.bytes
  have hr := B.returns
  have hts0 := atoms_spec (ws := (wW yX0_tell cX0_tell 3 (none : Option FieldType))) B.pre
  have hts : ∀ w9 ∈ lw_G, w9.before ([Value.ref kx, Value.ref h1, Value.int (nI i)] : List Value).toArray s = true := fun w9 h9 => hts0 w9 (List.mem_cons_of_mem _ h9)
  have hown : s.vm.findClass RX0 = some m.cls := findClass_of_methodNamed (x := yX0_tell) B.named
  have hlocks := B.notSynchronized
  subst hsz
  have hD := hD0.self (sz := s.heap.size)
  generalize hAe : va_A (wp [oX9 h1 po pp ps pa pe pb pv pk pu pw pq pt un fw, oX4 pv ek ef ew ep es (nI n) sy dn, cI aC ew 8 wf, cI aC es 5 stf, cA aC pp 8 fp, cA aC po 8 fo, cI aC pb 8 bf, cI aC pu 7 uf, cI aC pw 7 vf, cI aC pq 128 qf, cI aC pt 128 tf] (va_pl L (plE aC g))) s.heap.size = A at hD ⊢
  have hA : ∀ q : Nat, s.heap.size ≤ q → A q := fun q h => by rw [← hAe]; exact Or.inr h
  obtain ⟨H, hHe⟩ : ∃ H : Heap, H = s.heap := ⟨_, rfl⟩
  have hS : va_S A s.heap H [] := by rw [hHe]; exact va_S.rf
  have hP : va_P (dC, dI) classes (wp [oX9 h1 po pp ps pa pe pb pv pk pu pw pq pt un fw, oX4 pv ek ef ew ep es (nI n) sy dn, cI aC ew 8 wf, cI aC es 5 stf, cA aC pp 8 fp, cA aC po 8 fo, cI aC pb 8 bf, cI aC pu 7 uf, cI aC pw 7 vf, cI aC pq 128 qf, cI aC pt 128 tf] (va_pl L (plE aC g))) H := by rw [hHe]; exact hP
  have hl := lv_entry ([Value.ref kx, Value.ref h1, Value.int (nI i)]) (n := 3) (Nat.le_of_ble_eq_true rfl)
  rw [lg_entry_eq]
  generalize (lg_sl ([Value.ref kx, Value.ref h1, Value.int (nI i)]) ++ List.replicate (3 - (lg_sl ([Value.ref kx, Value.ref h1, Value.int (nI i)])).length) Slot.unset).toArray = ls at hl ⊢
  have hl : lv_has ls 3 [(0, Value.ref kx), (1, Value.ref h1), (2, Value.int (nI i))] := hl
  rw [← hHe]
  refine lv_aload_n hx hb dX0_tell_0 rfl (lv_at hl 1 rfl) ?_
  refine lv_iload_n hx hb dX0_tell_1 rfl (lv_at hl 2 rfl) ?_
  have hpd9 := pdf_P (cx := [oX9 h1 po pp ps pa pe pb pv pk pu pw pq pt un fw, oX4 pv ek ef ew ep es (nI n) sy dn, cI aC ew 8 wf, cI aC es 5 stf, cA aC pp 8 fp, cA aC po 8 fo, cI aC pb 8 bf, cI aC pu 7 uf, cI aC pw 7 vf, cI aC pq 128 qf, cI aC pt 128 tf]) hP hD hS hA [0, 1, 2, 3, 4, 5, 6, 7, 8, 9, 10] (by decide) rfl
  have hPc := hpd9.1
  have hDc := hpd9.2.1
  have hFc := hpd9.2.2
  clear hpd9
  refine va_callv (va_runV (As := [Value.int (nI i)]) (rest := []) ⟨hx, hb, hml, hown, hts⟩ (c_X9_buyCheapest l dC dI aC H.size h1 po pp ps pa pe pb pv pk pu pw pq pt un fw ek ef ew ep es n sy dn wf stf W0 i cq O Pq uf vf qf tf bf L g fo fp fs ro rp rs (hgr) (hw) (hi) (hcq) (hO) (hO9) (hOc) (hPq)) ⟨(callB_of 1 hts (gG kw_441) rfl rfl rfl (hts _ (gw kw_11 rfl)) (hts _ (gw kw_438 rfl)) hd_X9_buyCheapest ⟨Nat.le_of_ble_eq_true rfl, Nat.le_of_ble_eq_true rfl⟩), (hts _ (gw kw_439 rfl)), (hts _ (gw kw_440 rfl))⟩ ⟨fb_std, va_recv (q := (RX9, TX9, 14)) hK hPc (ci := 9) (q0 := 0) rfl rfl, pre_std hPc hK hDc hN⟩ rfl rfl hl.1 rfl (lv_room (Nat.le_of_ble_eq_true rfl)) dX0_tell_2 ⟨Nat.le_of_ble_eq_true rfl, Nat.le_of_ble_eq_true rfl⟩) hS (fun q _ h => hFc q h) hFc (fun u9 t9 H1 locs ht hvm hw_1 hB hz1 hk1 hS => ?_)
  obtain ⟨u_2, u_3, u_4, u_5, u_6, u_7, u_8, u_9, u_10⟩ := u9
  obtain ⟨hP1, hK1, hD1⟩ := hB
  rw [ht] at hP1
  clear hK1
  try dsimp only at hw_1
  have hpd9 : PDx (dC, dI) classes A H1 (wp [oX9 h1 po pp ps pa pe pb pv pk pu pw pq pt u_2 u_3, oX4 pv ek ef ew ep es (nI n) sy dn, cI aC ew 8 wf, cI aC es 5 stf, cA aC pp 8 fp, cA aC po 8 fo, cI aC pb 8 u_8, cI aC pu 7 u_4, cI aC pw 7 u_5, cI aC pq 128 u_6, cI aC pt 128 u_7] (va_pl L (plE aC u_9))) := jn_P (wr := []) hFc hk1 hP1 hD1 hP hD [0, 1, 2, 3, 4, 5, 6, 7, 8, 9, 10] [] rfl rfl (by decide) (by decide)
  have hP := hpd9.1
  have hD := hpd9.2
  clear hpd9
  generalize H1 = H at hP hS ⊢
  clear hPc hDc hFc hz1 hk1 hP1 hD1 ht hvm
  have hfw9 := hw_1
  have hpd9 := pd_P (cx := [oX9 h1 po pp ps pa pe pb pv pk pu pw pq pt u_2 u_3, oX4 pv ek ef ew ep es (nI n) sy dn, cI aC ew 8 wf, cI aC es 5 stf, cA aC pp 8 fp, cA aC po 8 fo, cI aC pb 8 u_8, cI aC pu 7 u_4, cI aC pw 7 u_5, cI aC pq 128 u_6, cI aC pt 128 u_7]) hP hD [0, 1, 2, 3, 4, 5, 6, 7, 8, 9, 10] (by decide) rfl
  have hP9 := hpd9.1
  have hD9 := hpd9.2
  refine W.widen (k := 0) (n := 0) (by omega) (by omega) ?_
  exact W.vret hx hb hr (fun t ht hW => ⟨⟨(u_2, u_3, u_4, u_5, u_6, u_7, u_8, u_9, u_10), rfl, hfw9, by rw [ht]; exact hP9, va_K.moved hW.alike hK, hD9⟩, hS.F ht⟩) hS.2.2 dX0_tell_5

set_option maxHeartbeats 1000000 in
set_option maxRecDepth 100000 in
/-- X5_tell -/
theorem c_X5_tell (l : Launch) (dC : Nat → ClassId) (dI : Nat → Nat → Nat) (aC : Nat → ClassId) (sz : Nat) (kx : Nat) (h1 : Nat) (po : Nat) (pp : Nat) (ps : Nat) (pa : Nat) (pe : Nat) (pb : Nat) (pv : Nat) (pk : Nat) (pu : Nat) (pw : Nat) (pq : Nat) (pt : Nat) (un : Int32) (fw : Int32) (ek : Nat) (ef : Nat) (ew : Nat) (ep : Nat) (es : Nat) (n : Nat) (sy : Int32) (dn : Int32) (stf : Nat → Int32) (L : List Nat) (g : Nat → Nat → Int32) (fo : Nat → Option Nat) (fp : Nat → Option Nat) (fs : Nat → Option Nat) (ro : Nat → Nat) (rp : Nat → Nat) (rs : Nat → Nat) (i : Nat) (cq : Nat) (O : Nat → Nat) (hgr : GRD L fo fp fs ro rp rs) (hi : i < n ∧ n ≤ 8) (hcq : stf 0 = nI cq) (hcq9 : cq ≤ 99) (hO : ∀ q, q < 8 → g (ro i) q = nI (O q)) (hO9 : ∀ q, O q ≤ 99) : Met l yX5_tell (wW yX5_tell cX5_tell 3 (none : Option FieldType)) ({ frames := 2, cells := 0, slots := 0, locals := 47 } : Room) (va_Pc [Value.ref kx, Value.ref h1, Value.int (nI i)] (fun U => U.heap.size = sz ∧ va_P (dC, dI) classes (wp [oX9 h1 po pp ps pa pe pb pv pk pu pw pq pt un fw, oX4 pv ek ef ew ep es (nI n) sy dn, cI aC es 5 stf, cA aC po 8 fo] (va_pl L (plE aC g))) U.heap ∧ va_K (dC, dI) classes (TY aC) U ∧ va_D (fun _ => True) (wp [oX9 h1 po pp ps pa pe pb pv pk pu pw pq pt un fw, oX4 pv ek ef ew ep es (nI n) sy dn, cI aC es 5 stf, cA aC po 8 fo] (va_pl L (plE aC g))) ∧ NX U)) (va_Qv (fun (g2 : Nat → Nat → Int32) => (∀ q, q < 8 → g2 (ro i) q = nI (sE O i (cq / (n - i)) (n - 1 - i) q)) ∧ ∀ a, a ≠ ro i → g2 a = g a) (fun (g2 : Nat → Nat → Int32) (t : State) => va_P (dC, dI) classes (wp [oX9 h1 po pp ps pa pe pb pv pk pu pw pq pt un fw, oX4 pv ek ef ew ep es (nI n) sy dn, cI aC es 5 stf, cA aC po 8 fo] (va_pl L (plE aC g2))) t.heap ∧ va_K (dC, dI) classes (TY aC) t ∧ va_D (va_A (wp [oX9 h1 po pp ps pa pe pb pv pk pu pw pq pt un fw, oX4 pv ek ef ew ep es (nI n) sy dn, cI aC es 5 stf, cA aC po 8 fo] (va_pl L (plE aC g))) sz) (wp [oX9 h1 po pp ps pa pe pb pv pk pu pw pq pt un fw, oX4 pv ek ef ew ep es (nI n) sy dn, cI aC es 5 stf, cA aC po 8 fo] (va_pl L (plE aC g2)))) (va_A (wp [oX9 h1 po pp ps pa pe pb pv pk pu pw pq pt un fw, oX4 pv ek ef ew ep es (nI n) sy dn, cI aC es 5 stf, cA aC po 8 fo] (va_pl L (plE aC g))) sz)) 0 0 (va_A (wp [oX9 h1 po pp ps pa pe pb pv pk pu pw pq pt un fw, oX4 pv ek ef ew ep es (nI n) sy dn, cI aC es 5 stf, cA aC po 8 fo] (va_pl L (plE aC g))) sz) := by
  refine Met.ofW (cc := cX5_tell) (maxL := 3) (ret := (none : Option FieldType)) (by decide) rfl ?_
  intro p e s m args below meth c s₁ B hml hv
  obtain ⟨rfl, hsz, hP, hK, hD0, hN⟩ := hv
  have hx := B.exec
  have hb := B.bytes
  have hr := B.returns
  have hts0 := atoms_spec (ws := (wW yX5_tell cX5_tell 3 (none : Option FieldType))) B.pre
  have hts : ∀ w9 ∈ lw_G, w9.before ([Value.ref kx, Value.ref h1, Value.int (nI i)] : List Value).toArray s = true := fun w9 h9 => hts0 w9 (List.mem_cons_of_mem _ h9)
  have hown : s.vm.findClass RX5 = some m.cls := findClass_of_methodNamed (x := yX5_tell) B.named
  have hlocks := B.notSynchronized
  subst hsz
  have hD := hD0.self (sz := s.heap.size)
  generalize hAe : va_A (wp [oX9 h1 po pp ps pa pe pb pv pk pu pw pq pt un fw, oX4 pv ek ef ew ep es (nI n) sy dn, cI aC es 5 stf, cA aC po 8 fo] (va_pl L (plE aC g))) s.heap.size = A at hD ⊢
  have hA : ∀ q : Nat, s.heap.size ≤ q → A q := fun q h => by rw [← hAe]; exact Or.inr h
  obtain ⟨H, hHe⟩ : ∃ H : Heap, H = s.heap := ⟨_, rfl⟩
  have hS : va_S A s.heap H [] := by rw [hHe]; exact va_S.rf
  have hP : va_P (dC, dI) classes (wp [oX9 h1 po pp ps pa pe pb pv pk pu pw pq pt un fw, oX4 pv ek ef ew ep es (nI n) sy dn, cI aC es 5 stf, cA aC po 8 fo] (va_pl L (plE aC g))) H := by rw [hHe]; exact hP
  have hl := lv_entry ([Value.ref kx, Value.ref h1, Value.int (nI i)]) (n := 3) (Nat.le_of_ble_eq_true rfl)
  rw [lg_entry_eq]
  generalize (lg_sl ([Value.ref kx, Value.ref h1, Value.int (nI i)]) ++ List.replicate (3 - (lg_sl ([Value.ref kx, Value.ref h1, Value.int (nI i)])).length) Slot.unset).toArray = ls at hl ⊢
  have hl : lv_has ls 3 [(0, Value.ref kx), (1, Value.ref h1), (2, Value.int (nI i))] := hl
  rw [← hHe]
  refine lv_aload_n hx hb dX5_tell_0 rfl (lv_at hl 1 rfl) ?_
  refine lv_iload_n hx hb dX5_tell_1 rfl (lv_at hl 2 rfl) ?_
  have hpd9 := pdf_P (cx := [oX9 h1 po pp ps pa pe pb pv pk pu pw pq pt un fw, oX4 pv ek ef ew ep es (nI n) sy dn, cI aC es 5 stf, cA aC po 8 fo]) hP hD hS hA [0, 1, 2, 3] (by decide) rfl
  have hPc := hpd9.1
  have hDc := hpd9.2.1
  have hFc := hpd9.2.2
  clear hpd9
  refine va_callv (va_runV (As := [Value.int (nI i)]) (rest := []) ⟨hx, hb, hml, hown, hts⟩ (c_X9_shareFairly l dC dI aC H.size h1 po pp ps pa pe pb pv pk pu pw pq pt un fw ek ef ew ep es n sy dn stf L g fo fp fs ro rp rs i cq O (hgr) (hi) (hcq) (hcq9) (hO) (hO9)) ⟨(callB_of 1 hts (gG kw_412) rfl rfl rfl (hts _ (gw kw_11 rfl)) (hts _ (gw kw_409 rfl)) hd_X9_shareFairly ⟨Nat.le_of_ble_eq_true rfl, Nat.le_of_ble_eq_true rfl⟩), (hts _ (gw kw_410 rfl)), (hts _ (gw kw_411 rfl))⟩ ⟨fb_std, va_recv (q := (RX9, TX9, 14)) hK hPc (ci := 9) (q0 := 0) rfl rfl, pre_std hPc hK hDc hN⟩ rfl rfl hl.1 rfl (lv_room (Nat.le_of_ble_eq_true rfl)) dX5_tell_2 ⟨Nat.le_of_ble_eq_true rfl, Nat.le_of_ble_eq_true rfl⟩) hS (fun q _ h => hFc q h) hFc (fun u9 t9 H1 locs ht hvm hw_1 hB hz1 hk1 hS => ?_)
  obtain ⟨u_2, rfl⟩ : ∃ z, z = u9 := ⟨_, rfl⟩
  obtain ⟨hP1, hK1, hD1⟩ := hB
  rw [ht] at hP1
  clear hK1
  try dsimp only at hw_1
  have hpd9 : PDx (dC, dI) classes A H1 (wp [oX9 h1 po pp ps pa pe pb pv pk pu pw pq pt un fw, oX4 pv ek ef ew ep es (nI n) sy dn, cI aC es 5 stf, cA aC po 8 fo] (va_pl L (plE aC u_2))) := jn_P (wr := []) hFc hk1 hP1 hD1 hP hD [0, 1, 2, 3] [] rfl rfl (by decide) (by decide)
  have hP := hpd9.1
  have hD := hpd9.2
  clear hpd9
  generalize H1 = H at hP hS ⊢
  clear hPc hDc hFc hz1 hk1 hP1 hD1 ht hvm
  have hfw9 := hw_1
  have hpd9 := pd_P (cx := [oX9 h1 po pp ps pa pe pb pv pk pu pw pq pt un fw, oX4 pv ek ef ew ep es (nI n) sy dn, cI aC es 5 stf, cA aC po 8 fo]) hP hD [0, 1, 2, 3] (by decide) rfl
  have hP9 := hpd9.1
  have hD9 := hpd9.2
  refine W.widen (k := 0) (n := 0) (by omega) (by omega) ?_
  exact W.vret hx hb hr (fun t ht hW => ⟨⟨(u_2), rfl, hfw9, by rw [ht]; exact hP9, va_K.moved hW.alike hK, hD9⟩, hS.F ht⟩) hS.2.2 dX5_tell_5

set_option maxHeartbeats 1000000 in
set_option maxRecDepth 100000 in
/-- X6_tell -/
theorem c_X6_tell (l : Launch) (dC : Nat → ClassId) (dI : Nat → Nat → Nat) (aC : Nat → ClassId) (sz : Nat) (kx : Nat) (h1 : Nat) (po : Nat) (pp : Nat) (ps : Nat) (pa : Nat) (pe : Nat) (pb : Nat) (pv : Nat) (pk : Nat) (pu : Nat) (pw : Nat) (pq : Nat) (pt : Nat) (un : Int32) (fw : Int32) (ek : Nat) (ef : Nat) (ew : Nat) (ep : Nat) (es : Nat) (n : Nat) (sy : Int32) (dn : Int32) (L : List Nat) (g : Nat → Nat → Int32) (fo : Nat → Option Nat) (fp : Nat → Option Nat) (fs : Nat → Option Nat) (ro : Nat → Nat) (rp : Nat → Nat) (rs : Nat → Nat) (i : Nat) (cf : Nat) (O : Nat → Nat) (ff : Nat → Int32) (hgr : GRD L fo fp fs ro rp rs) (hi : i < n ∧ n ≤ 8) (hc : cf ≤ 99) (hO : ∀ q, q < 8 → g (ro i) q = nI (O q)) (hO9 : ∀ q, O q ≤ 99) (hfi : ff i = nI cf) : Met l yX6_tell (wW yX6_tell cX6_tell 3 (none : Option FieldType)) ({ frames := 2, cells := 0, slots := 0, locals := 46 } : Room) (va_Pc [Value.ref kx, Value.ref h1, Value.int (nI i)] (fun U => U.heap.size = sz ∧ va_P (dC, dI) classes (wp [oX9 h1 po pp ps pa pe pb pv pk pu pw pq pt un fw, oX4 pv ek ef ew ep es (nI n) sy dn, cI aC ef 8 ff, cA aC po 8 fo] (va_pl L (plE aC g))) U.heap ∧ va_K (dC, dI) classes (TY aC) U ∧ va_D (fun _ => True) (wp [oX9 h1 po pp ps pa pe pb pv pk pu pw pq pt un fw, oX4 pv ek ef ew ep es (nI n) sy dn, cI aC ef 8 ff, cA aC po 8 fo] (va_pl L (plE aC g))) ∧ NX U)) (va_Qv (fun (g2 : Nat → Nat → Int32) => (∀ q, q < 8 → g2 (ro i) q = nI (sE O i cf (n - 1 - i) q)) ∧ ∀ a, a ≠ ro i → g2 a = g a) (fun (g2 : Nat → Nat → Int32) (t : State) => va_P (dC, dI) classes (wp [oX9 h1 po pp ps pa pe pb pv pk pu pw pq pt un fw, oX4 pv ek ef ew ep es (nI n) sy dn, cI aC ef 8 ff, cA aC po 8 fo] (va_pl L (plE aC g2))) t.heap ∧ va_K (dC, dI) classes (TY aC) t ∧ va_D (va_A (wp [oX9 h1 po pp ps pa pe pb pv pk pu pw pq pt un fw, oX4 pv ek ef ew ep es (nI n) sy dn, cI aC ef 8 ff, cA aC po 8 fo] (va_pl L (plE aC g))) sz) (wp [oX9 h1 po pp ps pa pe pb pv pk pu pw pq pt un fw, oX4 pv ek ef ew ep es (nI n) sy dn, cI aC ef 8 ff, cA aC po 8 fo] (va_pl L (plE aC g2)))) (va_A (wp [oX9 h1 po pp ps pa pe pb pv pk pu pw pq pt un fw, oX4 pv ek ef ew ep es (nI n) sy dn, cI aC ef 8 ff, cA aC po 8 fo] (va_pl L (plE aC g))) sz)) 0 0 (va_A (wp [oX9 h1 po pp ps pa pe pb pv pk pu pw pq pt un fw, oX4 pv ek ef ew ep es (nI n) sy dn, cI aC ef 8 ff, cA aC po 8 fo] (va_pl L (plE aC g))) sz) := by
  refine Met.ofW (cc := cX6_tell) (maxL := 3) (ret := (none : Option FieldType)) (by decide) rfl ?_
  intro p e s m args below meth c s₁ B hml hv
  obtain ⟨rfl, hsz, hP, hK, hD0, hN⟩ := hv
  have hx := B.exec
  have hb := B.bytes
  have hr := B.returns
  have hts0 := atoms_spec (ws := (wW yX6_tell cX6_tell 3 (none : Option FieldType))) B.pre
  have hts : ∀ w9 ∈ lw_G, w9.before ([Value.ref kx, Value.ref h1, Value.int (nI i)] : List Value).toArray s = true := fun w9 h9 => hts0 w9 (List.mem_cons_of_mem _ h9)
  have hown : s.vm.findClass RX6 = some m.cls := findClass_of_methodNamed (x := yX6_tell) B.named
  have hlocks := B.notSynchronized
  subst hsz
  have hD := hD0.self (sz := s.heap.size)
  generalize hAe : va_A (wp [oX9 h1 po pp ps pa pe pb pv pk pu pw pq pt un fw, oX4 pv ek ef ew ep es (nI n) sy dn, cI aC ef 8 ff, cA aC po 8 fo] (va_pl L (plE aC g))) s.heap.size = A at hD ⊢
  have hA : ∀ q : Nat, s.heap.size ≤ q → A q := fun q h => by rw [← hAe]; exact Or.inr h
  obtain ⟨H, hHe⟩ : ∃ H : Heap, H = s.heap := ⟨_, rfl⟩
  have hS : va_S A s.heap H [] := by rw [hHe]; exact va_S.rf
  have hP : va_P (dC, dI) classes (wp [oX9 h1 po pp ps pa pe pb pv pk pu pw pq pt un fw, oX4 pv ek ef ew ep es (nI n) sy dn, cI aC ef 8 ff, cA aC po 8 fo] (va_pl L (plE aC g))) H := by rw [hHe]; exact hP
  have hl := lv_entry ([Value.ref kx, Value.ref h1, Value.int (nI i)]) (n := 3) (Nat.le_of_ble_eq_true rfl)
  rw [lg_entry_eq]
  generalize (lg_sl ([Value.ref kx, Value.ref h1, Value.int (nI i)]) ++ List.replicate (3 - (lg_sl ([Value.ref kx, Value.ref h1, Value.int (nI i)])).length) Slot.unset).toArray = ls at hl ⊢
  have hl : lv_has ls 3 [(0, Value.ref kx), (1, Value.ref h1), (2, Value.int (nI i))] := hl
  rw [← hHe]
  refine lv_aload_n hx hb dX6_tell_0 rfl (lv_at hl 1 rfl) ?_
  refine lv_iload_n hx hb dX6_tell_1 rfl (lv_at hl 2 rfl) ?_
  refine lv_aload_n hx hb dX6_tell_2 rfl (lv_at hl 1 rfl) ?_
  refine lv_iload_n hx hb dX6_tell_3 rfl (lv_at hl 2 rfl) ?_
  have hpd9 := pdf_N (cx := [oX9 h1 po pp ps pa pe pb pv pk pu pw pq pt un fw, oX4 pv ek ef ew ep es (nI n) sy dn, cI aC ef 8 ff]) hP hD hS hA [0, 1, 2] (by decide) rfl
  have hPc := hpd9.1
  have hDc := hpd9.2.1
  have hFc := hpd9.2.2
  clear hpd9
  refine va_calli (va_runV (As := [Value.int (nI i)]) (rest := [Value.int (nI i), Value.ref h1]) ⟨hx, hb, hml, hown, hts⟩ (c_X9_figureOf l dC dI aC H.size h1 po pp ps pa pe pb pv pk pu pw pq pt un fw ek ef ew ep es n sy dn ff i cf (by omega) (hfi)) ⟨(callB_of 1 hts (gG kw_423) rfl rfl rfl (hts _ (gw kw_11 rfl)) (hts _ (gw kw_420 rfl)) hd_X9_figureOf ⟨Nat.le_of_ble_eq_true rfl, Nat.le_of_ble_eq_true rfl⟩), (hts _ (gw kw_421 rfl)), (hts _ (gw kw_422 rfl))⟩ ⟨fb_std, va_recv (q := (RX9, TX9, 14)) hK hPc (ci := 9) (q0 := 0) rfl rfl, pre_std hPc hK hDc hN⟩ rfl rfl hl.1 rfl (lv_room (Nat.le_of_ble_eq_true rfl)) dX6_tell_4 ⟨Nat.le_of_ble_eq_true rfl, Nat.le_of_ble_eq_true rfl⟩) hS (fun q _ h => hFc q h) hFc (fun x_1 u9 t9 H1 locs ht hvm hw_1 hB hz1 hk1 hS => ?_)
  obtain ⟨hP1, hK1, hD1⟩ := hB
  rw [ht] at hP1
  clear hK1
  try dsimp only at hw_1
  have hpd9 : PDx (dC, dI) classes A H1 (wp [cA aC po 8 fo, oX9 h1 po pp ps pa pe pb pv pk pu pw pq pt un fw, oX4 pv ek ef ew ep es (nI n) sy dn, cI aC ef 8 ff] (va_pl L (plE aC g))) := jn_Q (wr := [cA aC po 8 fo]) hFc hk1 hP1 hD1 hP hD [0, 1, 2] [3] rfl rfl (by decide) (by decide)
  have hP := hpd9.1
  have hD := hpd9.2
  clear hpd9
  generalize H1 = H at hP hS ⊢
  clear hPc hDc hFc hz1 hk1 hP1 hD1 ht hvm
  have h9 : x_1 = nI cf := hw_1
  subst h9
  have hpd9 := pdf_P (cx := [oX9 h1 po pp ps pa pe pb pv pk pu pw pq pt un fw, oX4 pv ek ef ew ep es (nI n) sy dn, cA aC po 8 fo]) hP hD hS hA [1, 2, 0] (by decide) rfl
  have hPc := hpd9.1
  have hDc := hpd9.2.1
  have hFc := hpd9.2.2
  clear hpd9
  refine va_callv (va_runV (As := [Value.int (nI i), Value.int (nI cf)]) (rest := []) ⟨hx, hb, hml, hown, hts⟩ (c_X9_spreadFromEldest l dC dI aC H.size h1 po pp ps pa pe pb pv pk pu pw pq pt un fw ek ef ew ep es n sy dn L g fo fp fs ro rp rs i cf O (hgr) (hi) (hc) (hO) (hO9)) ⟨(callB_of 2 hts (gG kw_427) rfl rfl rfl (hts _ (gw kw_11 rfl)) (hts _ (gw kw_424 rfl)) hd_X9_spreadFromEldest ⟨Nat.le_of_ble_eq_true rfl, Nat.le_of_ble_eq_true rfl⟩), (hts _ (gw kw_425 rfl)), (hts _ (gw kw_426 rfl))⟩ ⟨fb_std, va_recv (q := (RX9, TX9, 14)) hK hPc (ci := 9) (q0 := 0) rfl rfl, pre_std hPc hK hDc hN⟩ rfl rfl hl.1 rfl (lv_room (Nat.le_of_ble_eq_true rfl)) dX6_tell_7 ⟨Nat.le_of_ble_eq_true rfl, Nat.le_of_ble_eq_true rfl⟩) hS (fun q _ h => hFc q h) hFc (fun u9 t9 H1 locs ht hvm hw_2 hB hz1 hk1 hS => ?_)
  obtain ⟨u_3, rfl⟩ : ∃ z, z = u9 := ⟨_, rfl⟩
  obtain ⟨hP1, hK1, hD1⟩ := hB
  rw [ht] at hP1
  clear hK1
  try dsimp only at hw_2
  have hpd9 : PDx (dC, dI) classes A H1 (wp [cI aC ef 8 ff, oX9 h1 po pp ps pa pe pb pv pk pu pw pq pt un fw, oX4 pv ek ef ew ep es (nI n) sy dn, cA aC po 8 fo] (va_pl L (plE aC u_3))) := jn_P (wr := [cI aC ef 8 ff]) hFc hk1 hP1 hD1 hP hD [1, 2, 0] [3] rfl rfl (by decide) (by decide)
  have hP := hpd9.1
  have hD := hpd9.2
  clear hpd9
  generalize H1 = H at hP hS ⊢
  clear hPc hDc hFc hz1 hk1 hP1 hD1 ht hvm
  have hfw9 := hw_2
  have hpd9 := pd_P (cx := [oX9 h1 po pp ps pa pe pb pv pk pu pw pq pt un fw, oX4 pv ek ef ew ep es (nI n) sy dn, cI aC ef 8 ff, cA aC po 8 fo]) hP hD [1, 2, 0, 3] (by decide) rfl
  have hP9 := hpd9.1
  have hD9 := hpd9.2
  refine W.widen (k := 0) (n := 0) (by omega) (by omega) ?_
  exact W.vret hx hb hr (fun t ht hW => ⟨⟨(u_3), rfl, hfw9, by rw [ht]; exact hP9, va_K.moved hW.alike hK, hD9⟩, hS.F ht⟩) hS.2.2 dX6_tell_10

set_option maxHeartbeats 1000000 in
set_option maxRecDepth 100000 in
/-- X8_tell -/
theorem c_X8_tell (l : Launch) (dC : Nat → ClassId) (dI : Nat → Nat → Nat) (aC : Nat → ClassId) (sz : Nat) (kx : Nat) (h1 : Nat) (po : Nat) (pp : Nat) (ps : Nat) (pa : Nat) (pe : Nat) (pb : Nat) (pv : Nat) (pk : Nat) (pu : Nat) (pw : Nat) (pq : Nat) (pt : Nat) (un : Int32) (fw : Int32) (ek : Nat) (ef : Nat) (ew : Nat) (ep : Nat) (es : Nat) (n : Nat) (sy : Int32) (dn : Int32) (L : List Nat) (g : Nat → Nat → Int32) (fo : Nat → Option Nat) (fp : Nat → Option Nat) (fs : Nat → Option Nat) (ro : Nat → Nat) (rp : Nat → Nat) (rs : Nat → Nat) (i : Nat) (cf : Nat) (O : Nat → Nat) (ff : Nat → Int32) (hgr : GRD L fo fp fs ro rp rs) (hi : i < n ∧ n ≤ 8) (hc : cf ≤ 99) (hO : ∀ q, q < 8 → g (ro i) q = nI (O q)) (hO9 : ∀ q, O q ≤ 99) (hfi : ff i = nI cf) : Met l yX8_tell (wW yX8_tell cX8_tell 3 (none : Option FieldType)) ({ frames := 2, cells := 0, slots := 0, locals := 46 } : Room) (va_Pc [Value.ref kx, Value.ref h1, Value.int (nI i)] (fun U => U.heap.size = sz ∧ va_P (dC, dI) classes (wp [oX9 h1 po pp ps pa pe pb pv pk pu pw pq pt un fw, oX4 pv ek ef ew ep es (nI n) sy dn, cI aC ef 8 ff, cA aC po 8 fo] (va_pl L (plE aC g))) U.heap ∧ va_K (dC, dI) classes (TY aC) U ∧ va_D (fun _ => True) (wp [oX9 h1 po pp ps pa pe pb pv pk pu pw pq pt un fw, oX4 pv ek ef ew ep es (nI n) sy dn, cI aC ef 8 ff, cA aC po 8 fo] (va_pl L (plE aC g))) ∧ NX U)) (va_Qv (fun (g2 : Nat → Nat → Int32) => (∀ q, q < 8 → g2 (ro i) q = nI (sY O n i cf (n - 1 - i) q)) ∧ ∀ a, a ≠ ro i → g2 a = g a) (fun (g2 : Nat → Nat → Int32) (t : State) => va_P (dC, dI) classes (wp [oX9 h1 po pp ps pa pe pb pv pk pu pw pq pt un fw, oX4 pv ek ef ew ep es (nI n) sy dn, cI aC ef 8 ff, cA aC po 8 fo] (va_pl L (plE aC g2))) t.heap ∧ va_K (dC, dI) classes (TY aC) t ∧ va_D (va_A (wp [oX9 h1 po pp ps pa pe pb pv pk pu pw pq pt un fw, oX4 pv ek ef ew ep es (nI n) sy dn, cI aC ef 8 ff, cA aC po 8 fo] (va_pl L (plE aC g))) sz) (wp [oX9 h1 po pp ps pa pe pb pv pk pu pw pq pt un fw, oX4 pv ek ef ew ep es (nI n) sy dn, cI aC ef 8 ff, cA aC po 8 fo] (va_pl L (plE aC g2)))) (va_A (wp [oX9 h1 po pp ps pa pe pb pv pk pu pw pq pt un fw, oX4 pv ek ef ew ep es (nI n) sy dn, cI aC ef 8 ff, cA aC po 8 fo] (va_pl L (plE aC g))) sz)) 0 0 (va_A (wp [oX9 h1 po pp ps pa pe pb pv pk pu pw pq pt un fw, oX4 pv ek ef ew ep es (nI n) sy dn, cI aC ef 8 ff, cA aC po 8 fo] (va_pl L (plE aC g))) sz) := by
  refine Met.ofW (cc := cX8_tell) (maxL := 3) (ret := (none : Option FieldType)) (by decide) rfl ?_
  intro p e s m args below meth c s₁ B hml hv
  obtain ⟨rfl, hsz, hP, hK, hD0, hN⟩ := hv
  have hx := B.exec
  have hb := B.bytes
  have hr := B.returns
  have hts0 := atoms_spec (ws := (wW yX8_tell cX8_tell 3 (none : Option FieldType))) B.pre
  have hts : ∀ w9 ∈ lw_G, w9.before ([Value.ref kx, Value.ref h1, Value.int (nI i)] : List Value).toArray s = true := fun w9 h9 => hts0 w9 (List.mem_cons_of_mem _ h9)
  have hown : s.vm.findClass RX8 = some m.cls := findClass_of_methodNamed (x := yX8_tell) B.named
  have hlocks := B.notSynchronized
  subst hsz
  have hD := hD0.self (sz := s.heap.size)
  generalize hAe : va_A (wp [oX9 h1 po pp ps pa pe pb pv pk pu pw pq pt un fw, oX4 pv ek ef ew ep es (nI n) sy dn, cI aC ef 8 ff, cA aC po 8 fo] (va_pl L (plE aC g))) s.heap.size = A at hD ⊢
  have hA : ∀ q : Nat, s.heap.size ≤ q → A q := fun q h => by rw [← hAe]; exact Or.inr h
  obtain ⟨H, hHe⟩ : ∃ H : Heap, H = s.heap := ⟨_, rfl⟩
  have hS : va_S A s.heap H [] := by rw [hHe]; exact va_S.rf
  have hP : va_P (dC, dI) classes (wp [oX9 h1 po pp ps pa pe pb pv pk pu pw pq pt un fw, oX4 pv ek ef ew ep es (nI n) sy dn, cI aC ef 8 ff, cA aC po 8 fo] (va_pl L (plE aC g))) H := by rw [hHe]; exact hP
  have hl := lv_entry ([Value.ref kx, Value.ref h1, Value.int (nI i)]) (n := 3) (Nat.le_of_ble_eq_true rfl)
  rw [lg_entry_eq]
  generalize (lg_sl ([Value.ref kx, Value.ref h1, Value.int (nI i)]) ++ List.replicate (3 - (lg_sl ([Value.ref kx, Value.ref h1, Value.int (nI i)])).length) Slot.unset).toArray = ls at hl ⊢
  have hl : lv_has ls 3 [(0, Value.ref kx), (1, Value.ref h1), (2, Value.int (nI i))] := hl
  rw [← hHe]
  refine lv_aload_n hx hb dX8_tell_0 rfl (lv_at hl 1 rfl) ?_
  refine lv_iload_n hx hb dX8_tell_1 rfl (lv_at hl 2 rfl) ?_
  refine lv_aload_n hx hb dX8_tell_2 rfl (lv_at hl 1 rfl) ?_
  refine lv_iload_n hx hb dX8_tell_3 rfl (lv_at hl 2 rfl) ?_
  have hpd9 := pdf_N (cx := [oX9 h1 po pp ps pa pe pb pv pk pu pw pq pt un fw, oX4 pv ek ef ew ep es (nI n) sy dn, cI aC ef 8 ff]) hP hD hS hA [0, 1, 2] (by decide) rfl
  have hPc := hpd9.1
  have hDc := hpd9.2.1
  have hFc := hpd9.2.2
  clear hpd9
  refine va_calli (va_runV (As := [Value.int (nI i)]) (rest := [Value.int (nI i), Value.ref h1]) ⟨hx, hb, hml, hown, hts⟩ (c_X9_figureOf l dC dI aC H.size h1 po pp ps pa pe pb pv pk pu pw pq pt un fw ek ef ew ep es n sy dn ff i cf (by omega) (hfi)) ⟨(callB_of 1 hts (gG kw_423) rfl rfl rfl (hts _ (gw kw_11 rfl)) (hts _ (gw kw_431 rfl)) hd_X9_figureOf ⟨Nat.le_of_ble_eq_true rfl, Nat.le_of_ble_eq_true rfl⟩), (hts _ (gw kw_421 rfl)), (hts _ (gw kw_422 rfl))⟩ ⟨fb_std, va_recv (q := (RX9, TX9, 14)) hK hPc (ci := 9) (q0 := 0) rfl rfl, pre_std hPc hK hDc hN⟩ rfl rfl hl.1 rfl (lv_room (Nat.le_of_ble_eq_true rfl)) dX8_tell_4 ⟨Nat.le_of_ble_eq_true rfl, Nat.le_of_ble_eq_true rfl⟩) hS (fun q _ h => hFc q h) hFc (fun x_1 u9 t9 H1 locs ht hvm hw_1 hB hz1 hk1 hS => ?_)
  obtain ⟨hP1, hK1, hD1⟩ := hB
  rw [ht] at hP1
  clear hK1
  try dsimp only at hw_1
  have hpd9 : PDx (dC, dI) classes A H1 (wp [cA aC po 8 fo, oX9 h1 po pp ps pa pe pb pv pk pu pw pq pt un fw, oX4 pv ek ef ew ep es (nI n) sy dn, cI aC ef 8 ff] (va_pl L (plE aC g))) := jn_Q (wr := [cA aC po 8 fo]) hFc hk1 hP1 hD1 hP hD [0, 1, 2] [3] rfl rfl (by decide) (by decide)
  have hP := hpd9.1
  have hD := hpd9.2
  clear hpd9
  generalize H1 = H at hP hS ⊢
  clear hPc hDc hFc hz1 hk1 hP1 hD1 ht hvm
  have h9 : x_1 = nI cf := hw_1
  subst h9
  have hpd9 := pdf_P (cx := [oX9 h1 po pp ps pa pe pb pv pk pu pw pq pt un fw, oX4 pv ek ef ew ep es (nI n) sy dn, cA aC po 8 fo]) hP hD hS hA [1, 2, 0] (by decide) rfl
  have hPc := hpd9.1
  have hDc := hpd9.2.1
  have hFc := hpd9.2.2
  clear hpd9
  refine va_callv (va_runV (As := [Value.int (nI i), Value.int (nI cf)]) (rest := []) ⟨hx, hb, hml, hown, hts⟩ (c_X9_spreadFromYoungest l dC dI aC H.size h1 po pp ps pa pe pb pv pk pu pw pq pt un fw ek ef ew ep es n sy dn L g fo fp fs ro rp rs i cf O (hgr) (hi) (hc) (hO) (hO9)) ⟨(callB_of 2 hts (gG kw_435) rfl rfl rfl (hts _ (gw kw_11 rfl)) (hts _ (gw kw_432 rfl)) hd_X9_spreadFromYoungest ⟨Nat.le_of_ble_eq_true rfl, Nat.le_of_ble_eq_true rfl⟩), (hts _ (gw kw_433 rfl)), (hts _ (gw kw_434 rfl))⟩ ⟨fb_std, va_recv (q := (RX9, TX9, 14)) hK hPc (ci := 9) (q0 := 0) rfl rfl, pre_std hPc hK hDc hN⟩ rfl rfl hl.1 rfl (lv_room (Nat.le_of_ble_eq_true rfl)) dX8_tell_7 ⟨Nat.le_of_ble_eq_true rfl, Nat.le_of_ble_eq_true rfl⟩) hS (fun q _ h => hFc q h) hFc (fun u9 t9 H1 locs ht hvm hw_2 hB hz1 hk1 hS => ?_)
  obtain ⟨u_3, rfl⟩ : ∃ z, z = u9 := ⟨_, rfl⟩
  obtain ⟨hP1, hK1, hD1⟩ := hB
  rw [ht] at hP1
  clear hK1
  try dsimp only at hw_2
  have hpd9 : PDx (dC, dI) classes A H1 (wp [cI aC ef 8 ff, oX9 h1 po pp ps pa pe pb pv pk pu pw pq pt un fw, oX4 pv ek ef ew ep es (nI n) sy dn, cA aC po 8 fo] (va_pl L (plE aC u_3))) := jn_P (wr := [cI aC ef 8 ff]) hFc hk1 hP1 hD1 hP hD [1, 2, 0] [3] rfl rfl (by decide) (by decide)
  have hP := hpd9.1
  have hD := hpd9.2
  clear hpd9
  generalize H1 = H at hP hS ⊢
  clear hPc hDc hFc hz1 hk1 hP1 hD1 ht hvm
  have hfw9 := hw_2
  have hpd9 := pd_P (cx := [oX9 h1 po pp ps pa pe pb pv pk pu pw pq pt un fw, oX4 pv ek ef ew ep es (nI n) sy dn, cI aC ef 8 ff, cA aC po 8 fo]) hP hD [1, 2, 0, 3] (by decide) rfl
  have hP9 := hpd9.1
  have hD9 := hpd9.2
  refine W.widen (k := 0) (n := 0) (by omega) (by omega) ?_
  exact W.vret hx hb hr (fun t ht hW => ⟨⟨(u_3), rfl, hfw9, by rw [ht]; exact hP9, va_K.moved hW.alike hK, hD9⟩, hS.F ht⟩) hS.2.2 dX8_tell_10

end

section
/-! 41.stage -/
def KO (cq i : Nat) : Nat → Nat := fun q => if q = i then cq else 0
theorem KO_le {cq i : Nat} (h : cq ≤ 99) : ∀ q, KO cq i q ≤ 99 := by
  intro q
  unfold KO
  split <;> omega
theorem sumr_mem {f : Nat → Nat} {a t : Nat} : ∀ {k : Nat}, a ≤ t → t < a + k → f t ≤ sumr f a k
  | 0, h1, h2 => by omega
  | k + 1, h1, h2 => by
    show f t ≤ sumr f a k + f (a + k)
    by_cases e : t = a + k
    · rw [e]; omega
    · have := sumr_mem (f := f) (a := a) (t := t) (k := k) h1 (by omega)
      omega
theorem mb_ex {fst : Int32} {n i b y q : Nat} (h : mb fst n i b y q = true) : ∃ u, u < y ∧ b.testBit u = true ∧ mu fst n i u = q := by
  induction y with
  | zero => exact absurd h Bool.false_ne_true
  | succ y ih =>
    rw [mb_s, Bool.or_eq_true] at h
    rcases h with h | h
    · obtain ⟨u, h1, h2⟩ := ih h
      exact ⟨u, by omega, h2⟩
    · rw [Bool.and_eq_true] at h
      exact ⟨y, by omega, h.1, of_decide_eq_true h.2⟩
/-- the sets of units with which it is carried -/
def ENf (n : Nat) (W : Nat → Nat) (law fst : Int32) (i : Nat) (Pq : Nat → Nat) : Nat → Prop := fun z => nd law (sumr W i (n - i)) ≤ W i + sumr (frf fst n i Pq W) 0 (n - 1 - i) + cst (uwf fst n i Pq W) z
/-- what a man who buys offers -/
def BUYS (n : Nat) (W : Nat → Nat) (cq : Nat) (law fst : Int32) (i : Nat) (Pq O : Nat → Nat) (B : Int32) : Prop := ∃ rb : Int32, BST (ENf n W law fst i Pq) (cst (fun u => Pq (mu fst n i u))) (2 ^ (n - 1 - i)) rb ∧
  (∀ b, b < 2 ^ (n - 1 - i) → rb = nI b → cst (fun u => Pq (mu fst n i u)) b ≤ cq → (∀ q, q < 32 → bt B q = mb fst n i b (n - 1 - i) q) ∧ ∀ q, q < 8 → O q = if q = i then cq - cst (fun u => Pq (mu fst n i u)) b else if mb fst n i b (n - 1 - i) q = true then Pq q else 0) ∧
  ((rb = -9 ∨ ∃ b, b < 2 ^ (n - 1 - i) ∧ rb = nI b ∧ cq < cst (fun u => Pq (mu fst n i u)) b) → B = -9 ∧ ∀ q, q < 8 → O q = KO cq i q)
def OFFER (n : Nat) (K F W : Nat → Nat) (cq : Nat) (law fst : Int32) (i : Nat) (Pq O : Nat → Nat) (B : Int32) : Prop :=
  ((K i = 0 ∨ K i = 1 ∨ K i = 2 ∨ K i = 5) → BUYS n W cq law fst i Pq O B) ∧
  (K i = 3 → B = -9 ∧ ∀ q, q < 8 → O q = sE (KO cq i) i (cq / (n - i)) (n - 1 - i) q) ∧
  (K i = 4 → B = -9 ∧ ∀ q, q < 8 → O q = sE (KO cq i) i (F i) (n - 1 - i) q) ∧
  (K i = 6 → B = -9 ∧ ∀ q, q < 8 → O q = sY (KO cq i) n i (F i) (n - 1 - i) q)
def CNDs (n : Nat) (W : Nat → Nat) (law : Int32) (i : Nat) (Y : Int32) : Prop := n ≤ i + 1 ∨ nd law (sumr W i (n - i)) ≤ yw W Y i (n - i)
/-- man i's plan, out of the plan of the next one -/
def STAGE (n : Nat) (K F W : Nat → Nat) (cq : Nat) (law tie fst : Int32) (i : Nat) (S1 : Nat → Int) (E1 : Int32) (Pq O : Nat → Nat) (B Y E : Int32) (S : Nat → Int) : Prop :=
  (∀ q, i < q → q < n → Pq q = pr (K q) (F q) tie (S1 q)) ∧ OFFER n K F W cq law fst i Pq O B ∧ (∀ b, b < 32 → bt Y b = decide (b = i ∨ (i < b ∧ b < n ∧ Pq b ≤ O b))) ∧
  (CNDs n W law i Y → E = nI i ∧ ∀ q, q < 8 → S q = (O q : Int)) ∧ (¬ CNDs n W law i Y → E = E1 ∧ ∀ q, q < 8 → S q = if q = i then -1 else S1 q)
theorem of_buy {n : Nat} {K F W : Nat → Nat} {cq : Nat} {law fst : Int32} {i : Nat} {Pq : Nat → Nat} {B rb : Int32} {r2 r1 : Nat → Int32} (hK : K i = 0 ∨ K i = 1 ∨ K i = 2 ∨ K i = 5) (hi : i < n ∧ n ≤ 8) (hcq : cq ≤ 99) (h1 : BST (ENf n W law fst i Pq) (cst (fun u => Pq (mu fst n i u))) (2 ^ (n - 1 - i)) rb)
    (h2 : ∀ b, b < 2 ^ (n - 1 - i) → rb = nI b → cst (fun u => Pq (mu fst n i u)) b ≤ cq → (∀ q, q < 32 → bt B q = mb fst n i b (n - 1 - i) q) ∧ ∀ q, q < 8 → r2 q = nI (if q = i then KO cq i i - cst (fun u => Pq (mu fst n i u)) b else if mb fst n i b (n - 1 - i) q = true then Pq q else KO cq i q))
    (h3 : (rb = -9 ∨ ∃ b, b < 2 ^ (n - 1 - i) ∧ rb = nI b ∧ cq < cst (fun u => Pq (mu fst n i u)) b) → B = -9 ∧ ∀ q, q < 8 → r2 q = r1 q) (hr1 : ∀ q, q < 8 → r1 q = nI (KO cq i q)) :
    ∃ O : Nat → Nat, (∀ q, q < 8 → r2 q = nI (O q)) ∧ (∀ q, O q ≤ 99) ∧ OFFER n K F W cq law fst i Pq O B := by
  have hp7 := p2_le (t := n - 1 - i) (by omega)
  have hoff : ∀ O, BUYS n W cq law fst i Pq O B → OFFER n K F W cq law fst i Pq O B := fun O h => ⟨fun _ => h, fun q => by omega, fun q => by omega, fun q => by omega⟩
  by_cases hb : ∃ b, b < 2 ^ (n - 1 - i) ∧ rb = nI b ∧ cst (fun u => Pq (mu fst n i u)) b ≤ cq
  · obtain ⟨b, hb1, hb2, hb3⟩ := hb
    obtain ⟨q1, q2⟩ := h2 b hb1 hb2 hb3
    refine ⟨fun q => if q = i then cq - cst (fun u => Pq (mu fst n i u)) b else if mb fst n i b (n - 1 - i) q = true then Pq q else 0, fun q hq => ?_, fun q => ?_, hoff _ ⟨rb, h1, fun b' p1 p2 p3 => ?_, fun h => ?_⟩⟩
    · rw [q2 q hq]
      unfold KO
      dsimp only
      by_cases e : q = i
      · simp only [if_pos e, if_true]
      · simp only [if_neg e]
    · dsimp only
      split
      · omega
      · split
        · rename_i hm
          obtain ⟨u, p1, p2, p3⟩ := mb_ex hm
          have := sumr_mem (f := fun u => if b.testBit u = true then Pq (mu fst n i u) else 0) (a := 0) (t := u) (k := 7) (by omega) (by omega)
          rw [if_pos p2, p3] at this
          exact Nat.le_trans this (Nat.le_trans hb3 hcq)
        · omega
    · have e : b = b' := (nI_eq (by omega) (by omega)).mp (hb2.symm.trans p2)
      subst e
      exact ⟨q1, fun q _ => rfl⟩
    · exact (bc_none (ct := cst (fun u => Pq (mu fst n i u))) (by omega) h hb1 hb2 hb3).elim
  · have hnone : rb = -9 ∨ ∃ b, b < 2 ^ (n - 1 - i) ∧ rb = nI b ∧ cq < cst (fun u => Pq (mu fst n i u)) b := by
      rcases h1 with ⟨p1, -⟩ | ⟨b, p1, p2, -, -⟩
      · exact Or.inl p1
      · refine Or.inr ⟨b, p1, p2, ?_⟩
        rcases Nat.lt_or_ge cq (cst (fun u => Pq (mu fst n i u)) b) with q | q
        · exact q
        · exact absurd ⟨b, p1, p2, q⟩ hb
    obtain ⟨q1, q2⟩ := h3 hnone
    refine ⟨KO cq i, fun q hq => (q2 q hq).trans (hr1 q hq), KO_le hcq, hoff _ ⟨rb, h1, fun b p1 p2 p3 => absurd ⟨b, p1, p2, p3⟩ hb, fun _ => ⟨q1, fun q _ => rfl⟩⟩⟩
theorem of_3 {n : Nat} {K F W : Nat → Nat} {cq : Nat} {law fst : Int32} {i : Nat} {Pq : Nat → Nat} {B : Int32} (hK : K i = 3) (hB : B = -9) (hcq : cq ≤ 99) : (∀ q, sE (KO cq i) i (cq / (n - i)) (n - 1 - i) q ≤ 99) ∧ OFFER n K F W cq law fst i Pq (sE (KO cq i) i (cq / (n - i)) (n - 1 - i)) B :=
  ⟨sE_le (Nat.le_trans (Nat.div_le_self _ _) hcq) (KO_le hcq) _, fun q => by omega, fun _ => ⟨hB, fun q _ => rfl⟩, fun q => by omega, fun q => by omega⟩
theorem of_4 {n : Nat} {K F W : Nat → Nat} {cq : Nat} {law fst : Int32} {i : Nat} {Pq : Nat → Nat} {B : Int32} (hK : K i = 4) (hB : B = -9) (hcq : cq ≤ 99) (hF : F i ≤ 9) : (∀ q, sE (KO cq i) i (F i) (n - 1 - i) q ≤ 99) ∧ OFFER n K F W cq law fst i Pq (sE (KO cq i) i (F i) (n - 1 - i)) B :=
  ⟨sE_le (by omega) (KO_le hcq) _, fun q => by omega, fun q => by omega, fun _ => ⟨hB, fun q _ => rfl⟩, fun q => by omega⟩
theorem of_6 {n : Nat} {K F W : Nat → Nat} {cq : Nat} {law fst : Int32} {i : Nat} {Pq : Nat → Nat} {B : Int32} (hK : K i = 6) (hB : B = -9) (hcq : cq ≤ 99) (hF : F i ≤ 9) : (∀ q, sY (KO cq i) n i (F i) (n - 1 - i) q ≤ 99) ∧ OFFER n K F W cq law fst i Pq (sY (KO cq i) n i (F i) (n - 1 - i)) B :=
  ⟨sY_le (by omega) (KO_le hcq) _, fun q => by omega, fun q => by omega, fun q => by omega, fun _ => ⟨hB, fun q _ => rfl⟩⟩

end

section
/-! 42.plan -/
/-! the plan of an evening: one STAGE a man -/
abbrev PLT := (Nat → Nat → Nat) × (Nat → Nat → Nat) × (Nat → Int32) × (Nat → Int32) × (Nat → Int32) × (Nat → Nat → Int)
def zP (x : PLT) : Nat → Nat → Nat := x.1
def zO (x : PLT) : Nat → Nat → Nat := x.2.1
def zB (x : PLT) : Nat → Int32 := x.2.2.1
def zY (x : PLT) : Nat → Int32 := x.2.2.2.1
def zE (x : PLT) : Nat → Int32 := x.2.2.2.2.1
def zS (x : PLT) : Nat → Nat → Int := x.2.2.2.2.2
def PLAN (n : Nat) (K F W : Nat → Nat) (cq : Nat) (law tie fst : Int32) (pl : PLT) : Prop := ∀ i, i < n →
  STAGE n K F W cq law tie fst i (zS pl (i + 1)) (zE pl (i + 1)) (zP pl i) (zO pl i) (zB pl i) (zY pl i) (zE pl i) (zS pl i) ∧ (∀ q, zO pl i q ≤ 99) ∧ ∀ q, -1 ≤ zS pl i q ∧ zS pl i q ≤ 99
theorem BST_un {EN : Nat → Prop} {ct : Nat → Nat} {x : Nat} {a b : Int32} (ha : BST EN ct x a) (hb : BST EN ct x b) : a = b := by
  rcases ha with ⟨a1, a2⟩ | ⟨p, a1, a2, a3, a4⟩
  · rcases hb with ⟨b1, b2⟩ | ⟨q, b1, b2, b3, b4⟩
    · rw [a1, b1]
    · exact absurd b3 (a2 q b1)
  · rcases hb with ⟨b1, b2⟩ | ⟨q, b1, b2, b3, b4⟩
    · exact absurd a3 (b2 p a1)
    · have h1 := a4 q b1 b3
      have h2 := b4 p a1 a3
      have e : p = q := by omega
      rw [a2, b2, e]
theorem BUYS_un {n : Nat} {W : Nat → Nat} {cq : Nat} {law fst : Int32} {i : Nat} {Pq O O' : Nat → Nat} {B B' : Int32} (h : BUYS n W cq law fst i Pq O B) (h' : BUYS n W cq law fst i Pq O' B') : (∀ q, q < 8 → O q = O' q) ∧ B = B' := by
  obtain ⟨r, h1, h2, h3⟩ := h
  obtain ⟨r', h1', h2', h3'⟩ := h'
  have e := BST_un h1 h1'
  subst e
  by_cases hb : ∃ b, b < 2 ^ (n - 1 - i) ∧ r = nI b ∧ cst (fun u => Pq (mu fst n i u)) b ≤ cq
  · obtain ⟨b, p1, p2, p3⟩ := hb
    obtain ⟨q1, q2⟩ := h2 b p1 p2 p3
    obtain ⟨q1', q2'⟩ := h2' b p1 p2 p3
    exact ⟨fun q hq => (q2 q hq).trans (q2' q hq).symm, b_ext (fun k hk => (q1 k hk).trans (q1' k hk).symm)⟩
  · have hnone : r = -9 ∨ ∃ b, b < 2 ^ (n - 1 - i) ∧ r = nI b ∧ cq < cst (fun u => Pq (mu fst n i u)) b := by
      rcases h1 with ⟨p1, -⟩ | ⟨b, p1, p2, -, -⟩
      · exact Or.inl p1
      · refine Or.inr ⟨b, p1, p2, ?_⟩
        rcases Nat.lt_or_ge cq (cst (fun u => Pq (mu fst n i u)) b) with q | q
        · exact q
        · exact absurd ⟨b, p1, p2, q⟩ hb
    obtain ⟨q1, q2⟩ := h3 hnone
    obtain ⟨q1', q2'⟩ := h3' hnone
    exact ⟨fun q hq => (q2 q hq).trans (q2' q hq).symm, q1.trans q1'.symm⟩
theorem OFFER_un {n : Nat} {K F W : Nat → Nat} {cq : Nat} {law fst : Int32} {i : Nat} {Pq O O' : Nat → Nat} {B B' : Int32} (hK : K i ≤ 6) (h : OFFER n K F W cq law fst i Pq O B) (h' : OFFER n K F W cq law fst i Pq O' B') : (∀ q, q < 8 → O q = O' q) ∧ B = B' := by
  by_cases hb : K i = 0 ∨ K i = 1 ∨ K i = 2 ∨ K i = 5
  · exact BUYS_un (h.1 hb) (h'.1 hb)
  · have h3 : K i = 3 ∨ K i = 4 ∨ K i = 6 := by omega
    rcases h3 with e | e | e
    · exact ⟨fun q hq => ((h.2.1 e).2 q hq).trans ((h'.2.1 e).2 q hq).symm, (h.2.1 e).1.trans (h'.2.1 e).1.symm⟩
    · exact ⟨fun q hq => ((h.2.2.1 e).2 q hq).trans ((h'.2.2.1 e).2 q hq).symm, (h.2.2.1 e).1.trans (h'.2.2.1 e).1.symm⟩
    · exact ⟨fun q hq => ((h.2.2.2 e).2 q hq).trans ((h'.2.2.2 e).2 q hq).symm, (h.2.2.2 e).1.trans (h'.2.2.2 e).1.symm⟩
/-- what a class's arrays hold of man i's plan -/
def MAT (n : Nat) (pl : PLT) (ro rp rs : Nat → Nat) (g : Nat → Nat → Int32) (yf ef bf : Nat → Int32) (i : Nat) : Prop :=
  (∀ q, i < q → q < n → g (rp i) q = nI (zP pl i q)) ∧ (∀ q, q < 8 → g (ro i) q = nI (zO pl i q)) ∧ (∀ q, q < 8 → g (rs i) q = iI (zS pl i q)) ∧ yf i = zY pl i ∧ ef i = zE pl i ∧ bf i = zB pl i
/-- no row of this grid -/
def OFF (ro rp rs : Nat → Nat) (a : Nat) : Prop := ∀ q, q < 8 → a ≠ ro q ∧ a ≠ rp q ∧ a ≠ rs q
theorem zP_le {n : Nat} {K F W : Nat → Nat} {cq : Nat} {law tie fst : Int32} {pl : PLT} (h : PLAN n K F W cq law tie fst pl) (hF : ∀ j, j < n → F j ≤ 9) {i q : Nat} (h1 : i < q) (h2 : q < n) : zP pl i q ≤ 110 := by
  rw [(h i (by omega)).1.1 q h1 h2]
  refine pr_le (hF q h2) ?_
  by_cases e : i + 1 < n
  · exact ((h (i + 1) e).2.2 q).2
  · omega
theorem HW_of {n : Nat} {K F W : Nat → Nat} {cq : Nat} {kf ff wf stf : Nat → Int32} (h : EVH n K F W cq kf ff wf stf) : n ≤ 8 ∧ ∀ j, j < n → wf j = nI (W j) ∧ W j ≤ 9 := ⟨h.1, fun j hj => ⟨(h.2.2.2 j hj).2.2.1, (h.2.2.2 j hj).2.2.2.2⟩⟩
theorem HF_of {n : Nat} {K F W : Nat → Nat} {cq : Nat} {kf ff wf stf : Nat → Int32} (h : EVH n K F W cq kf ff wf stf) : ∀ j, j < n → F j ≤ 9 := fun j hj => (h.2.2.2 j hj).2.1.2
theorem of_fin {n : Nat} {K F W : Nat → Nat} {cq : Nat} {law tie fst : Int32} {pl : PLT} (h : PLAN n K F W cq law tie fst pl) {i : Nat} (hi : i < n) (hK : K i ≤ 6) {O : Nat → Nat} {B : Int32} {r2 : Nat → Int32} (hO : OFFER n K F W cq law fst i (zP pl i) O B) (hr : ∀ q, q < 8 → r2 q = nI (O q)) : (∀ q, q < 8 → r2 q = nI (zO pl i q)) ∧ B = zB pl i := by
  obtain ⟨h1, h2⟩ := OFFER_un hK hO (h i hi).1.2.1
  exact ⟨fun q hq => by rw [hr q hq, h1 q hq], h2⟩
theorem vt_fin {n : Nat} {K F W : Nat → Nat} {cq : Nat} {law tie fst : Int32} {pl : PLT} (h : PLAN n K F W cq law tie fst pl) {i : Nat} (hi : i < n) {y : Int32} (hy : ∀ b, b < 32 → bt y b = decide (b = i ∨ (i < b ∧ b < n ∧ zP pl i b ≤ zO pl i b))) : y = zY pl i :=
  b_ext (fun b hb => (hy b hb).trans ((h i hi).1.2.2.1 b hb).symm)
theorem en_fin {n : Nat} {K F W : Nat → Nat} {cq : Nat} {law tie fst : Int32} {pl : PLT} (h : PLAN n K F W cq law tie fst pl) {i : Nat} (hi : i < n) (hn : n ≤ 8) {E E1 Y : Int32} {r ro r1 : Nat → Int32} (hY : Y = zY pl i)
    (h1 : (n ≤ i + 1 ∨ nd law (sumr W i (n - i)) ≤ yw W Y i (n - i)) → E = nI i ∧ ∀ q, q < 8 → r q = ro q) (h2 : ¬ (n ≤ i + 1 ∨ nd law (sumr W i (n - i)) ≤ yw W Y i (n - i)) → E = E1 ∧ ∀ q, q < 8 → r q = if q = i then -1 else r1 q)
    (ho : ∀ q, q < 8 → ro q = nI (zO pl i q)) (hs : i + 1 < n → E1 = zE pl (i + 1) ∧ ∀ q, q < 8 → r1 q = iI (zS pl (i + 1) q)) : E = zE pl i ∧ ∀ q, q < 8 → r q = iI (zS pl i q) := by
  subst hY
  obtain ⟨-, -, -, c1, c2⟩ := (h i hi).1
  by_cases hc : n ≤ i + 1 ∨ nd law (sumr W i (n - i)) ≤ yw W (zY pl i) i (n - i)
  · obtain ⟨a1, a2⟩ := h1 hc
    obtain ⟨b1, b2⟩ := c1 hc
    exact ⟨a1.trans b1.symm, fun q hq => by rw [a2 q hq, ho q hq, b2 q hq, nI_iI]⟩
  · obtain ⟨a1, a2⟩ := h2 hc
    obtain ⟨b1, b2⟩ := c2 hc
    obtain ⟨s1, s2⟩ := hs (Nat.lt_of_not_le fun q => hc (Or.inl q))
    refine ⟨by rw [a1, s1, b1], fun q hq => ?_⟩
    rw [a2 q hq, b2 q hq]
    by_cases e : q = i
    · rw [if_pos e, if_pos e]; rfl
    · rw [if_neg e, if_neg e, s2 q hq]

end

section
/-! 43.solve -/
set_option maxHeartbeats 1000000 in
set_option maxRecDepth 100000 in
/-- X9_solve -/
theorem c_X9_solve (l : Launch) (dC : Nat → ClassId) (dI : Nat → Nat → Nat) (aC : Nat → ClassId) (sz : Nat) (h1 : Nat) (po : Nat) (pp : Nat) (ps : Nat) (pa : Nat) (pe : Nat) (pb : Nat) (pv : Nat) (pk : Nat) (pu : Nat) (pw : Nat) (pq : Nat) (pt : Nat) (un : Int32) (fw : Int32) (ek : Nat) (ef : Nat) (ew : Nat) (ep : Nat) (es : Nat) (n : Nat) (sy : Int32) (dn : Int32) (kf : Nat → Int32) (ff : Nat → Int32) (wf : Nat → Int32) (stf : Nat → Int32) (K : Nat → Nat) (F : Nat → Nat) (W0 : Nat → Nat) (cq : Nat) (L : List Nat) (g : Nat → Nat → Int32) (fo : Nat → Option Nat) (fp : Nat → Option Nat) (fs : Nat → Option Nat) (ro : Nat → Nat) (rp : Nat → Nat) (rs : Nat → Nat) (fk : Nat → Option Nat) (k0 : Nat) (k1 : Nat) (k2 : Nat) (k3 : Nat) (k4 : Nat) (k5 : Nat) (k6 : Nat) (pl : PLT) (i0 : Nat) (uf : Nat → Int32) (vf : Nat → Int32) (qf : Nat → Int32) (tf : Nat → Int32) (bf : Nat → Int32) (yf : Nat → Int32) (ef0 : Nat → Int32) (hgr : GRD L fo fp fs ro rp rs) (hev : EVH n K F W0 cq kf ff wf stf) (hkd : KDS fk k0 k1 k2 k3 k4 k5 k6) (hpl : PLAN n K F W0 cq (stf 1) (stf 2) (stf 3) pl) (hi0 : i0 ≤ 8) : Met l yX9_solve (wW yX9_solve cX9_solve 3 (none : Option FieldType)) ({ frames := 5, cells := 0, slots := 0, locals := 109 } : Room) (va_Pc [Value.ref h1, Value.int (nI i0)] (fun U => U.heap.size = sz ∧ va_P (dC, dI) classes (wp [oX9 h1 po pp ps pa pe pb pv pk pu pw pq pt un fw, oX4 pv ek ef ew ep es (nI n) sy dn, cI aC ek 8 kf, cI aC ef 8 ff, cI aC ew 8 wf, cI aC es 5 stf, cA aC po 8 fo, cA aC pp 8 fp, cA aC ps 8 fs, cK aC pk 7 fk, cO k0 0 [], cO k1 1 [], cO k2 3 [], cO k3 5 [], cO k4 6 [], cO k5 10 [], cO k6 8 [], cI aC pa 8 yf, cI aC pe 8 ef0, cI aC pb 8 bf, cI aC pu 7 uf, cI aC pw 7 vf, cI aC pq 128 qf, cI aC pt 128 tf] (va_pl L (plE aC g))) U.heap ∧ va_K (dC, dI) classes (TY aC) U ∧ va_D (fun _ => True) (wp [oX9 h1 po pp ps pa pe pb pv pk pu pw pq pt un fw, oX4 pv ek ef ew ep es (nI n) sy dn, cI aC ek 8 kf, cI aC ef 8 ff, cI aC ew 8 wf, cI aC es 5 stf, cA aC po 8 fo, cA aC pp 8 fp, cA aC ps 8 fs, cK aC pk 7 fk, cO k0 0 [], cO k1 1 [], cO k2 3 [], cO k3 5 [], cO k4 6 [], cO k5 10 [], cO k6 8 [], cI aC pa 8 yf, cI aC pe 8 ef0, cI aC pb 8 bf, cI aC pu 7 uf, cI aC pw 7 vf, cI aC pq 128 qf, cI aC pt 128 tf] (va_pl L (plE aC g))) ∧ NX U)) (va_Qv (fun (u : Int32 × Int32 × (Nat → Int32) × (Nat → Int32) × (Nat → Int32) × (Nat → Int32) × (Nat → Int32) × (Nat → Int32) × (Nat → Int32) × (Nat → Nat → Int32)) => match u with | (un2, fw2, ug, vg, qg, tg, bg, yg, eg, g2) => (∀ i, i0 ≤ i → i < n → MAT n pl ro rp rs g2 yg eg bg i) ∧ ∀ a, OFF ro rp rs a → g2 a = g a) (fun (u : Int32 × Int32 × (Nat → Int32) × (Nat → Int32) × (Nat → Int32) × (Nat → Int32) × (Nat → Int32) × (Nat → Int32) × (Nat → Int32) × (Nat → Nat → Int32)) (t : State) => match u with | (un2, fw2, ug, vg, qg, tg, bg, yg, eg, g2) => va_P (dC, dI) classes (wp [oX9 h1 po pp ps pa pe pb pv pk pu pw pq pt un2 fw2, oX4 pv ek ef ew ep es (nI n) sy dn, cI aC ek 8 kf, cI aC ef 8 ff, cI aC ew 8 wf, cI aC es 5 stf, cA aC po 8 fo, cA aC pp 8 fp, cA aC ps 8 fs, cK aC pk 7 fk, cO k0 0 [], cO k1 1 [], cO k2 3 [], cO k3 5 [], cO k4 6 [], cO k5 10 [], cO k6 8 [], cI aC pa 8 yg, cI aC pe 8 eg, cI aC pb 8 bg, cI aC pu 7 ug, cI aC pw 7 vg, cI aC pq 128 qg, cI aC pt 128 tg] (va_pl L (plE aC g2))) t.heap ∧ va_K (dC, dI) classes (TY aC) t ∧ va_D (va_A (wp [oX9 h1 po pp ps pa pe pb pv pk pu pw pq pt un fw, oX4 pv ek ef ew ep es (nI n) sy dn, cI aC ek 8 kf, cI aC ef 8 ff, cI aC ew 8 wf, cI aC es 5 stf, cA aC po 8 fo, cA aC pp 8 fp, cA aC ps 8 fs, cK aC pk 7 fk, cO k0 0 [], cO k1 1 [], cO k2 3 [], cO k3 5 [], cO k4 6 [], cO k5 10 [], cO k6 8 [], cI aC pa 8 yf, cI aC pe 8 ef0, cI aC pb 8 bf, cI aC pu 7 uf, cI aC pw 7 vf, cI aC pq 128 qf, cI aC pt 128 tf] (va_pl L (plE aC g))) sz) (wp [oX9 h1 po pp ps pa pe pb pv pk pu pw pq pt un2 fw2, oX4 pv ek ef ew ep es (nI n) sy dn, cI aC ek 8 kf, cI aC ef 8 ff, cI aC ew 8 wf, cI aC es 5 stf, cA aC po 8 fo, cA aC pp 8 fp, cA aC ps 8 fs, cK aC pk 7 fk, cO k0 0 [], cO k1 1 [], cO k2 3 [], cO k3 5 [], cO k4 6 [], cO k5 10 [], cO k6 8 [], cI aC pa 8 yg, cI aC pe 8 eg, cI aC pb 8 bg, cI aC pu 7 ug, cI aC pw 7 vg, cI aC pq 128 qg, cI aC pt 128 tg] (va_pl L (plE aC g2)))) (va_A (wp [oX9 h1 po pp ps pa pe pb pv pk pu pw pq pt un fw, oX4 pv ek ef ew ep es (nI n) sy dn, cI aC ek 8 kf, cI aC ef 8 ff, cI aC ew 8 wf, cI aC es 5 stf, cA aC po 8 fo, cA aC pp 8 fp, cA aC ps 8 fs, cK aC pk 7 fk, cO k0 0 [], cO k1 1 [], cO k2 3 [], cO k3 5 [], cO k4 6 [], cO k5 10 [], cO k6 8 [], cI aC pa 8 yf, cI aC pe 8 ef0, cI aC pb 8 bf, cI aC pu 7 uf, cI aC pw 7 vf, cI aC pq 128 qf, cI aC pt 128 tf] (va_pl L (plE aC g))) sz)) 0 0 (va_A (wp [oX9 h1 po pp ps pa pe pb pv pk pu pw pq pt un fw, oX4 pv ek ef ew ep es (nI n) sy dn, cI aC ek 8 kf, cI aC ef 8 ff, cI aC ew 8 wf, cI aC es 5 stf, cA aC po 8 fo, cA aC pp 8 fp, cA aC ps 8 fs, cK aC pk 7 fk, cO k0 0 [], cO k1 1 [], cO k2 3 [], cO k3 5 [], cO k4 6 [], cO k5 10 [], cO k6 8 [], cI aC pa 8 yf, cI aC pe 8 ef0, cI aC pb 8 bf, cI aC pu 7 uf, cI aC pw 7 vf, cI aC pq 128 qf, cI aC pt 128 tf] (va_pl L (plE aC g))) sz) := by
  refine Met.ofW (cc := cX9_solve) (maxL := 3) (ret := (none : Option FieldType)) (by decide) rfl ?_
  intro p e s m args below meth c s₁ B hml hv
  obtain ⟨rfl, hsz, hP, hK, hD0, hN⟩ := hv
  have hx := B.exec
  have hb := B.bytes
  have hr := B.returns
  have hts0 := atoms_spec (ws := (wW yX9_solve cX9_solve 3 (none : Option FieldType))) B.pre
  have hts : ∀ w9 ∈ lw_G, w9.before ([Value.ref h1, Value.int (nI i0)] : List Value).toArray s = true := fun w9 h9 => hts0 w9 (List.mem_cons_of_mem _ h9)
  have hown : s.vm.findClass RX9 = some m.cls := findClass_of_methodNamed (x := yX9_solve) B.named
  have hlocks := B.notSynchronized
  subst hsz
  have hD := hD0.self (sz := s.heap.size)
  generalize hAe : va_A (wp [oX9 h1 po pp ps pa pe pb pv pk pu pw pq pt un fw, oX4 pv ek ef ew ep es (nI n) sy dn, cI aC ek 8 kf, cI aC ef 8 ff, cI aC ew 8 wf, cI aC es 5 stf, cA aC po 8 fo, cA aC pp 8 fp, cA aC ps 8 fs, cK aC pk 7 fk, cO k0 0 [], cO k1 1 [], cO k2 3 [], cO k3 5 [], cO k4 6 [], cO k5 10 [], cO k6 8 [], cI aC pa 8 yf, cI aC pe 8 ef0, cI aC pb 8 bf, cI aC pu 7 uf, cI aC pw 7 vf, cI aC pq 128 qf, cI aC pt 128 tf] (va_pl L (plE aC g))) s.heap.size = A at hD ⊢
  have hA : ∀ q : Nat, s.heap.size ≤ q → A q := fun q h => by rw [← hAe]; exact Or.inr h
  obtain ⟨H, hHe⟩ : ∃ H : Heap, H = s.heap := ⟨_, rfl⟩
  have hS : va_S A s.heap H [] := by rw [hHe]; exact va_S.rf
  have hP : va_P (dC, dI) classes (wp [oX9 h1 po pp ps pa pe pb pv pk pu pw pq pt un fw, oX4 pv ek ef ew ep es (nI n) sy dn, cI aC ek 8 kf, cI aC ef 8 ff, cI aC ew 8 wf, cI aC es 5 stf, cA aC po 8 fo, cA aC pp 8 fp, cA aC ps 8 fs, cK aC pk 7 fk, cO k0 0 [], cO k1 1 [], cO k2 3 [], cO k3 5 [], cO k4 6 [], cO k5 10 [], cO k6 8 [], cI aC pa 8 yf, cI aC pe 8 ef0, cI aC pb 8 bf, cI aC pu 7 uf, cI aC pw 7 vf, cI aC pq 128 qf, cI aC pt 128 tf] (va_pl L (plE aC g))) H := by rw [hHe]; exact hP
  have hl := lv_entry ([Value.ref h1, Value.int (nI i0)]) (n := 3) (Nat.le_of_ble_eq_true rfl)
  rw [lg_entry_eq]
  generalize (lg_sl ([Value.ref h1, Value.int (nI i0)]) ++ List.replicate (3 - (lg_sl ([Value.ref h1, Value.int (nI i0)])).length) Slot.unset).toArray = ls at hl ⊢
  have hl : lv_has ls 3 [(0, Value.ref h1), (1, Value.int (nI i0))] := hl
  rw [← hHe]
  have hn88 := hev.1
  refine lv_aload_n hx hb dX9_solve_0 rfl (lv_at hl 0 rfl) ?_
  refine va_get (D := (dC, dI)) (ci := 9) (v := Value.ref pv) (C := RX9) (T := TX9) (N := 14) hx hb hts inX9 hown hK hP 0 rfl rfl 6 (by decide) (hts _ (gw kw_162 rfl)) (fun _ h9 => h9) rfl dX9_solve_1 ?_
  refine va_get (D := (dC, dI)) (ci := 4) (v := Value.int (nI n)) (C := RX4) (T := TX4) (N := 8) hx hb hts inX4 hown hK hP 1 rfl rfl 5 (by decide) (hts _ (gw kw_47 rfl)) (fun _ h9 => h9) rfl dX9_solve_4 ?_
  refine lv_iconst (v := 1) hx hb dX9_solve_7 (by decide) ?_
  refine lv_isub hx hb dX9_solve_8 ?_
  refine lv_topi (fun x_1 e_1 => ?_)
  refine lv_istore_n (lv' := [(2, Value.int x_1), (0, Value.ref h1), (1, Value.int (nI i0))]) hx hb dX9_solve_9 rfl hl (by decide) rfl (fun ls hl => ?_)
  have lp_10 : ∀ (fu : Nat) (k : Nat) (x2 : Int32) (unc : Int32) (fwc : Int32) (uc : Nat → Int32) (vc : Nat → Int32) (qc : Nat → Int32) (tc : Nat → Int32) (bc : Nat → Int32) (yc : Nat → Int32) (ec : Nat → Int32) (gc : Nat → Nat → Int32) (hfu : k < fu) (hk : k ≤ n) (hx2 : x2 = iI ((k : Int) - 1)) (hm : ∀ i, k ≤ i → i < n → MAT n pl ro rp rs gc yc ec bc i) (hof : ∀ a, OFF ro rp rs a → gc a = g a) (H : Heap) (locs : List Loc) (ls : Array Slot), va_P (dC, dI) classes (wp [oX9 h1 po pp ps pa pe pb pv pk pu pw pq pt unc fwc, oX4 pv ek ef ew ep es (nI n) sy dn, cI aC ek 8 kf, cI aC ef 8 ff, cI aC ew 8 wf, cI aC es 5 stf, cA aC po 8 fo, cA aC pp 8 fp, cA aC ps 8 fs, cK aC pk 7 fk, cO k0 0 [], cO k1 1 [], cO k2 3 [], cO k3 5 [], cO k4 6 [], cO k5 10 [], cO k6 8 [], cI aC pa 8 yc, cI aC pe 8 ec, cI aC pb 8 bc, cI aC pu 7 uc, cI aC pw 7 vc, cI aC pq 128 qc, cI aC pt 128 tc] (va_pl L (plE aC gc))) H → va_D A (wp [oX9 h1 po pp ps pa pe pb pv pk pu pw pq pt unc fwc, oX4 pv ek ef ew ep es (nI n) sy dn, cI aC ek 8 kf, cI aC ef 8 ff, cI aC ew 8 wf, cI aC es 5 stf, cA aC po 8 fo, cA aC pp 8 fp, cA aC ps 8 fs, cK aC pk 7 fk, cO k0 0 [], cO k1 1 [], cO k2 3 [], cO k3 5 [], cO k4 6 [], cO k5 10 [], cO k6 8 [], cI aC pa 8 yc, cI aC pe 8 ec, cI aC pb 8 bc, cI aC pu 7 uc, cI aC pw 7 vc, cI aC pq 128 qc, cI aC pt 128 tc] (va_pl L (plE aC gc))) → va_S A s.heap H locs → lv_has ls 3 [(0, Value.ref h1), (1, Value.int (nI i0)), (2, Value.int x2)] → W p l e (headSpec (wW yX9_solve cX9_solve 3 (none : Option FieldType)) ({ frames := 5, cells := 0, slots := 0, locals := 109 } : Room)).room s m ([Value.ref h1, Value.int (nI i0)] : List Value).toArray below meth c H locs 0 0 (MQ below (va_Qv (fun (u : Int32 × Int32 × (Nat → Int32) × (Nat → Int32) × (Nat → Int32) × (Nat → Int32) × (Nat → Int32) × (Nat → Int32) × (Nat → Int32) × (Nat → Nat → Int32)) => match u with | (un2, fw2, ug, vg, qg, tg, bg, yg, eg, g2) => (∀ i, i0 ≤ i → i < n → MAT n pl ro rp rs g2 yg eg bg i) ∧ ∀ a, OFF ro rp rs a → g2 a = g a) (fun (u : Int32 × Int32 × (Nat → Int32) × (Nat → Int32) × (Nat → Int32) × (Nat → Int32) × (Nat → Int32) × (Nat → Int32) × (Nat → Int32) × (Nat → Nat → Int32)) (t : State) => match u with | (un2, fw2, ug, vg, qg, tg, bg, yg, eg, g2) => va_P (dC, dI) classes (wp [oX9 h1 po pp ps pa pe pb pv pk pu pw pq pt un2 fw2, oX4 pv ek ef ew ep es (nI n) sy dn, cI aC ek 8 kf, cI aC ef 8 ff, cI aC ew 8 wf, cI aC es 5 stf, cA aC po 8 fo, cA aC pp 8 fp, cA aC ps 8 fs, cK aC pk 7 fk, cO k0 0 [], cO k1 1 [], cO k2 3 [], cO k3 5 [], cO k4 6 [], cO k5 10 [], cO k6 8 [], cI aC pa 8 yg, cI aC pe 8 eg, cI aC pb 8 bg, cI aC pu 7 ug, cI aC pw 7 vg, cI aC pq 128 qg, cI aC pt 128 tg] (va_pl L (plE aC g2))) t.heap ∧ va_K (dC, dI) classes (TY aC) t ∧ va_D A (wp [oX9 h1 po pp ps pa pe pb pv pk pu pw pq pt un2 fw2, oX4 pv ek ef ew ep es (nI n) sy dn, cI aC ek 8 kf, cI aC ef 8 ff, cI aC ew 8 wf, cI aC es 5 stf, cA aC po 8 fo, cA aC pp 8 fp, cA aC ps 8 fs, cK aC pk 7 fk, cO k0 0 [], cO k1 1 [], cO k2 3 [], cO k3 5 [], cO k4 6 [], cO k5 10 [], cO k6 8 [], cI aC pa 8 yg, cI aC pe 8 eg, cI aC pb 8 bg, cI aC pu 7 ug, cI aC pw 7 vg, cI aC pq 128 qg, cI aC pt 128 tg] (va_pl L (plE aC g2)))) A) ([Value.ref h1, Value.int (nI i0)] : List Value).toArray s 0 0 A) (F0 m 10 ls []) := by
    intro fu
    induction fu with
    | zero => intro k x2 unc fwc uc vc qc tc bc yc ec gc hfu; exact absurd hfu (Nat.not_lt_zero _)
    | succ fu ih_10 =>
      intro k x2 unc fwc uc vc qc tc bc yc ec gc hfu hk hx2 hm hof H locs ls hP hD hS hl
      refine lv_iload_n hx hb dX9_solve_10 rfl (lv_at hl 2 rfl) ?_
      refine lv_iload_n hx hb dX9_solve_11 rfl (lv_at hl 1 rfl) ?_
      refine lv_icmp_lt (tgt := 63) hx hb dX9_solve_12 (by decide) (fun c_2 => ?_) (fun c_2 => ?_)
      · have hpd9 := pd_P (cx := [oX9 h1 po pp ps pa pe pb pv pk pu pw pq pt unc fwc, oX4 pv ek ef ew ep es (nI n) sy dn, cI aC ek 8 kf, cI aC ef 8 ff, cI aC ew 8 wf, cI aC es 5 stf, cA aC po 8 fo, cA aC pp 8 fp, cA aC ps 8 fs, cK aC pk 7 fk, cO k0 0 [], cO k1 1 [], cO k2 3 [], cO k3 5 [], cO k4 6 [], cO k5 10 [], cO k6 8 [], cI aC pa 8 yc, cI aC pe 8 ec, cI aC pb 8 bc, cI aC pu 7 uc, cI aC pw 7 vc, cI aC pq 128 qc, cI aC pt 128 tc]) hP hD [0, 1, 2, 3, 4, 5, 6, 7, 8, 9, 10, 11, 12, 13, 14, 15, 16, 17, 18, 19, 20, 21, 22, 23] (by decide) rfl
        have hP9 := hpd9.1
        have hD9 := hpd9.2
        refine W.widen (k := 0) (n := 0) (by omega) (by omega) ?_
        exact W.vret hx hb hr (fun t ht hW => ⟨⟨(unc, fwc, uc, vc, qc, tc, bc, yc, ec, gc), rfl, ⟨fun i h1 h2 => hm i (by have h9 := c_2; rw [hx2, nI_iI, iI_lt (by unfold sm; omega) (by unfold sm; omega)] at h9; omega) h2, hof⟩, by rw [ht]; exact hP9, va_K.moved hW.alike hK, hD9⟩, hS.F ht⟩) hS.2.2 dX9_solve_63
      · refine lv_iload_n hx hb dX9_solve_15 rfl (lv_at hl 2 rfl) ?_
        refine lv_if_lt (tgt := 63) hx hb dX9_solve_16 (by decide) (fun c_3 => ?_) (fun c_3 => ?_)
        · have hpd9 := pd_P (cx := [oX9 h1 po pp ps pa pe pb pv pk pu pw pq pt unc fwc, oX4 pv ek ef ew ep es (nI n) sy dn, cI aC ek 8 kf, cI aC ef 8 ff, cI aC ew 8 wf, cI aC es 5 stf, cA aC po 8 fo, cA aC pp 8 fp, cA aC ps 8 fs, cK aC pk 7 fk, cO k0 0 [], cO k1 1 [], cO k2 3 [], cO k3 5 [], cO k4 6 [], cO k5 10 [], cO k6 8 [], cI aC pa 8 yc, cI aC pe 8 ec, cI aC pb 8 bc, cI aC pu 7 uc, cI aC pw 7 vc, cI aC pq 128 qc, cI aC pt 128 tc]) hP hD [0, 1, 2, 3, 4, 5, 6, 7, 8, 9, 10, 11, 12, 13, 14, 15, 16, 17, 18, 19, 20, 21, 22, 23] (by decide) rfl
          have hP9 := hpd9.1
          have hD9 := hpd9.2
          refine W.widen (k := 0) (n := 0) (by omega) (by omega) ?_
          exact W.vret hx hb hr (fun t ht hW => ⟨⟨(unc, fwc, uc, vc, qc, tc, bc, yc, ec, gc), rfl, ⟨fun i h1 h2 => hm i (by have h9 := c_3; rw [hx2, ← iI_0, iI_lt (by unfold sm; omega) sm0] at h9; omega) h2, hof⟩, by rw [ht]; exact hP9, va_K.moved hW.alike hK, hD9⟩, hS.F ht⟩) hS.2.2 dX9_solve_63
        · have hk1 : 1 ≤ k := by
            rcases Nat.eq_zero_or_pos k with q | q
            · subst q; exact absurd (by rw [hx2]; decide) c_3
            · exact q
          obtain ⟨i, hki⟩ : ∃ i, k = i + 1 := ⟨k - 1, by omega⟩
          subst hki
          have h9 : x2 = nI i := by rw [hx2, nI_iI]; congr 1; omega
          subst h9
          have hin : i < n := by omega
          have hn8 := hev.1
          obtain ⟨⟨hkf, hkle⟩, ⟨hff, hfle⟩, -⟩ := hev.2.2.2 i hin
          have hst := (hpl i hin).1
          have hPle : ∀ q, i < q → q < n → zP pl i q ≤ 110 := fun q h1 h2 => zP_le hpl (HF_of hev) h1 h2
          refine lv_aload_n hx hb dX9_solve_19 rfl (lv_at hl 0 rfl) ?_
          refine lv_iload_n hx hb dX9_solve_20 rfl (lv_at hl 2 rfl) ?_
          have hpd9 := pdf_P (cx := [oX9 h1 po pp ps pa pe pb pv pk pu pw pq pt unc fwc, oX4 pv ek ef ew ep es (nI n) sy dn, cI aC ek 8 kf, cI aC ef 8 ff, cI aC es 5 stf, cA aC pp 8 fp, cA aC ps 8 fs, cK aC pk 7 fk, cO k0 0 [], cO k1 1 [], cO k2 3 [], cO k3 5 [], cO k4 6 [], cO k5 10 [], cO k6 8 []]) hP hD hS hA [0, 1, 2, 3, 5, 7, 8, 9, 10, 11, 12, 13, 14, 15, 16] (by decide) rfl
          have hPc := hpd9.1
          have hDc := hpd9.2.1
          have hFc := hpd9.2.2
          clear hpd9
          refine va_callv (va_runV (As := [Value.int (nI i)]) (rest := []) ⟨hx, hb, hml, hown, hts⟩ (c_X9_askYounger l dC dI aC H.size h1 po pp ps pa pe pb pv pk pu pw pq pt unc fwc ek ef ew ep es n sy dn kf ff wf stf K F W0 cq L gc fo fp fs ro rp rs fk k0 k1 k2 k3 k4 k5 k6 i (zS pl (i + 1)) (hgr) (hev) (hkd) (hin) (fun q h1 h2 => ⟨(hm (i + 1) (Nat.le_refl _) (by omega)).2.2.1 q (by omega), (hpl (i + 1) (by omega)).2.2 q⟩)) ⟨(callB_of 1 hts (gG kw_361) rfl rfl rfl (hts _ (gw kw_11 rfl)) (hts _ (gw kw_358 rfl)) hd_X9_askYounger ⟨Nat.le_of_ble_eq_true rfl, Nat.le_of_ble_eq_true rfl⟩), (hts _ (gw kw_360 rfl)), (hts _ (gw ks_7 rfl))⟩ ⟨fb_std, va_recv (q := (RX9, TX9, 14)) hK hPc (ci := 9) (q0 := 0) rfl rfl, pre_std hPc hK hDc hN⟩ rfl rfl hl.1 rfl (lv_room (Nat.le_of_ble_eq_true rfl)) dX9_solve_21 ⟨Nat.le_of_ble_eq_true rfl, Nat.le_of_ble_eq_true rfl⟩) hS (fun q _ h => hFc q h) hFc (fun u9 t9 H1 locs ht hvm hw_4 hB hz1 hk1 hS => ?_)
          obtain ⟨u_5, rfl⟩ : ∃ z, z = u9 := ⟨_, rfl⟩
          obtain ⟨hP1, hK1, hD1⟩ := hB
          rw [ht] at hP1
          clear hK1
          try dsimp only at hw_4
          have hpd9 : PDx (dC, dI) classes A H1 (wp [cI aC ew 8 wf, cA aC po 8 fo, cI aC pa 8 yc, cI aC pe 8 ec, cI aC pb 8 bc, cI aC pu 7 uc, cI aC pw 7 vc, cI aC pq 128 qc, cI aC pt 128 tc, oX9 h1 po pp ps pa pe pb pv pk pu pw pq pt unc fwc, oX4 pv ek ef ew ep es (nI n) sy dn, cI aC ek 8 kf, cI aC ef 8 ff, cI aC es 5 stf, cA aC pp 8 fp, cA aC ps 8 fs, cK aC pk 7 fk, cO k0 0 [], cO k1 1 [], cO k2 3 [], cO k3 5 [], cO k4 6 [], cO k5 10 [], cO k6 8 []] (va_pl L (plE aC u_5))) := jn_P (wr := [cI aC ew 8 wf, cA aC po 8 fo, cI aC pa 8 yc, cI aC pe 8 ec, cI aC pb 8 bc, cI aC pu 7 uc, cI aC pw 7 vc, cI aC pq 128 qc, cI aC pt 128 tc]) hFc hk1 hP1 hD1 hP hD [0, 1, 2, 3, 5, 7, 8, 9, 10, 11, 12, 13, 14, 15, 16] [4, 6, 17, 18, 19, 20, 21, 22, 23] rfl rfl (by decide) (by decide)
          have hP := hpd9.1
          have hD := hpd9.2
          clear hpd9
          generalize H1 = H at hP hS ⊢
          clear hPc hDc hFc hz1 hk1 hP1 hD1 ht hvm
          obtain ⟨hp1, hp2⟩ := hw_4
          refine lv_aload_n hx hb dX9_solve_24 rfl (lv_at hl 0 rfl) ?_
          refine lv_iload_n hx hb dX9_solve_25 rfl (lv_at hl 2 rfl) ?_
          have hpd9 := pdf_P (cx := [oX9 h1 po pp ps pa pe pb pv pk pu pw pq pt unc fwc, oX4 pv ek ef ew ep es (nI n) sy dn, cI aC es 5 stf, cA aC po 8 fo]) hP hD hS hA [9, 10, 13, 1] (by decide) rfl
          have hPc := hpd9.1
          have hDc := hpd9.2.1
          have hFc := hpd9.2.2
          clear hpd9
          refine va_callv (va_runV (As := [Value.int (nI i)]) (rest := []) ⟨hx, hb, hml, hown, hts⟩ (c_X9_keepAll l dC dI aC H.size h1 po pp ps pa pe pb pv pk pu pw pq pt unc fwc ek ef ew ep es n sy dn stf L u_5 fo fp fs ro rp rs i cq (hgr) (by omega) (hev.2.2.1)) ⟨(callB_of 1 hts (gG kw_396) rfl rfl rfl (hts _ (gw kw_11 rfl)) (hts _ (gw kw_393 rfl)) hd_X9_keepAll ⟨Nat.le_of_ble_eq_true rfl, Nat.le_of_ble_eq_true rfl⟩), (hts _ (gw kw_395 rfl)), (hts _ (gw ks_9 rfl))⟩ ⟨fb_std, va_recv (q := (RX9, TX9, 14)) hK hPc (ci := 9) (q0 := 0) rfl rfl, pre_std hPc hK hDc hN⟩ rfl rfl hl.1 rfl (lv_room (Nat.le_of_ble_eq_true rfl)) dX9_solve_26 ⟨Nat.le_of_ble_eq_true rfl, Nat.le_of_ble_eq_true rfl⟩) hS (fun q _ h => hFc q h) hFc (fun u9 t9 H1 locs ht hvm hw_6 hB hz1 hk1 hS => ?_)
          obtain ⟨u_7, rfl⟩ : ∃ z, z = u9 := ⟨_, rfl⟩
          obtain ⟨hP1, hK1, hD1⟩ := hB
          rw [ht] at hP1
          clear hK1
          try dsimp only at hw_6
          have hpd9 : PDx (dC, dI) classes A H1 (wp [cI aC ew 8 wf, cI aC pa 8 yc, cI aC pe 8 ec, cI aC pb 8 bc, cI aC pu 7 uc, cI aC pw 7 vc, cI aC pq 128 qc, cI aC pt 128 tc, cI aC ek 8 kf, cI aC ef 8 ff, cA aC pp 8 fp, cA aC ps 8 fs, cK aC pk 7 fk, cO k0 0 [], cO k1 1 [], cO k2 3 [], cO k3 5 [], cO k4 6 [], cO k5 10 [], cO k6 8 [], oX9 h1 po pp ps pa pe pb pv pk pu pw pq pt unc fwc, oX4 pv ek ef ew ep es (nI n) sy dn, cI aC es 5 stf, cA aC po 8 fo] (va_pl L (plE aC u_7))) := jn_P (wr := [cI aC ew 8 wf, cI aC pa 8 yc, cI aC pe 8 ec, cI aC pb 8 bc, cI aC pu 7 uc, cI aC pw 7 vc, cI aC pq 128 qc, cI aC pt 128 tc, cI aC ek 8 kf, cI aC ef 8 ff, cA aC pp 8 fp, cA aC ps 8 fs, cK aC pk 7 fk, cO k0 0 [], cO k1 1 [], cO k2 3 [], cO k3 5 [], cO k4 6 [], cO k5 10 [], cO k6 8 []]) hFc hk1 hP1 hD1 hP hD [9, 10, 13, 1] [0, 2, 3, 4, 5, 6, 7, 8, 11, 12, 14, 15, 16, 17, 18, 19, 20, 21, 22, 23] rfl rfl (by decide) (by decide)
          have hP := hpd9.1
          have hD := hpd9.2
          clear hpd9
          generalize H1 = H at hP hS ⊢
          clear hPc hDc hFc hz1 hk1 hP1 hD1 ht hvm
          obtain ⟨hk1, hk2⟩ := hw_6
          have hO1 : ∀ q, q < 8 → u_7 (ro i) q = nI (KO cq i q) := hk1
          have hP1q : ∀ q, i < q → q < n → u_7 (rp i) q = nI (zP pl i q) := fun q h1 h2 => by rw [hk2 _ (fun z => (hgr.2 i i (by omega) (by omega)).2.2.2.1 z.symm), hp1 q h1 h2, hst.1 q h1 h2]
          refine lv_aload_n hx hb dX9_solve_29 rfl (lv_at hl 0 rfl) ?_
          refine va_get (D := (dC, dI)) (ci := 9) (v := Value.ref pb) (C := RX9) (T := TX9) (N := 14) hx hb hts inX9 hown hK hP 20 rfl rfl 5 (by decide) (hts _ (gw kw_160 rfl)) (fun _ h9 => h9) rfl dX9_solve_30 ?_
          refine lv_iload_n hx hb dX9_solve_33 rfl (lv_at hl 2 rfl) ?_
          refine lv_bipush (v := -9) hx hb dX9_solve_34 (by decide) ?_
          have h_8 : vp_in (nI i) 8 := vp_in_nI (by omega) (by omega)
          refine va_iast hx hb hK hP hD hS 3 0 rfl rfl h_8 dX9_solve_36 (fun H locs hP hD hS => ?_)
          obtain ⟨f_9, e_f_9⟩ : ∃ y : Nat → Int32, y = upd bc (nI i : Int32).toNatClampNeg (-9) := ⟨_, rfl⟩
          have hpd9 : PDx (dC, dI) classes A H (wp [cI aC ew 8 wf, cI aC pa 8 yc, cI aC pe 8 ec, cI aC pb 8 f_9, cI aC pu 7 uc, cI aC pw 7 vc, cI aC pq 128 qc, cI aC pt 128 tc, cI aC ek 8 kf, cI aC ef 8 ff, cA aC pp 8 fp, cA aC ps 8 fs, cK aC pk 7 fk, cO k0 0 [], cO k1 1 [], cO k2 3 [], cO k3 5 [], cO k4 6 [], cO k5 10 [], cO k6 8 [], oX9 h1 po pp ps pa pe pb pv pk pu pw pq pt unc fwc, oX4 pv ek ef ew ep es (nI n) sy dn, cI aC es 5 stf, cA aC po 8 fo] (va_pl L (plE aC u_7))) := by rw [e_f_9]; exact ⟨hP, hD⟩
          have hP := hpd9.1
          have hD := hpd9.2
          clear hpd9
          have hbi : f_9 i = -9 := by rw [e_f_9, nI_clamp (by omega), pk_us]
          have hbo : ∀ q, q ≠ i → f_9 q = bc q := fun q h => by rw [e_f_9, nI_clamp (by omega), pk_un h]
          have jp_47 : ∀ (unj : Int32) (fwj : Int32) (uj : Nat → Int32) (vj : Nat → Int32) (qj : Nat → Int32) (tj : Nat → Int32) (bj : Nat → Int32) (gj : Nat → Nat → Int32) (hj1 : ∀ q, q < 8 → gj (ro i) q = nI (zO pl i q)) (hj2 : bj i = zB pl i) (hj3 : ∀ q, q ≠ i → bj q = bc q) (hj4 : ∀ a, a ≠ ro i → gj a = u_7 a) (H : Heap) (locs : List Loc) (ls : Array Slot), va_P (dC, dI) classes (wp [cI aC ew 8 wf, cI aC pa 8 yc, cI aC pe 8 ec, cI aC pb 8 bj, cI aC pu 7 uj, cI aC pw 7 vj, cI aC pq 128 qj, cI aC pt 128 tj, cI aC ek 8 kf, cI aC ef 8 ff, cA aC pp 8 fp, cA aC ps 8 fs, cK aC pk 7 fk, cO k0 0 [], cO k1 1 [], cO k2 3 [], cO k3 5 [], cO k4 6 [], cO k5 10 [], cO k6 8 [], oX9 h1 po pp ps pa pe pb pv pk pu pw pq pt unj fwj, oX4 pv ek ef ew ep es (nI n) sy dn, cI aC es 5 stf, cA aC po 8 fo] (va_pl L (plE aC gj))) H → va_D A (wp [cI aC ew 8 wf, cI aC pa 8 yc, cI aC pe 8 ec, cI aC pb 8 bj, cI aC pu 7 uj, cI aC pw 7 vj, cI aC pq 128 qj, cI aC pt 128 tj, cI aC ek 8 kf, cI aC ef 8 ff, cA aC pp 8 fp, cA aC ps 8 fs, cK aC pk 7 fk, cO k0 0 [], cO k1 1 [], cO k2 3 [], cO k3 5 [], cO k4 6 [], cO k5 10 [], cO k6 8 [], oX9 h1 po pp ps pa pe pb pv pk pu pw pq pt unj fwj, oX4 pv ek ef ew ep es (nI n) sy dn, cI aC es 5 stf, cA aC po 8 fo] (va_pl L (plE aC gj))) → va_S A s.heap H locs → lv_has ls 3 [(0, Value.ref h1), (1, Value.int (nI i0)), (2, Value.int (nI i))] → W p l e (headSpec (wW yX9_solve cX9_solve 3 (none : Option FieldType)) ({ frames := 5, cells := 0, slots := 0, locals := 109 } : Room)).room s m ([Value.ref h1, Value.int (nI i0)] : List Value).toArray below meth c H locs 0 0 (MQ below (va_Qv (fun (u : Int32 × Int32 × (Nat → Int32) × (Nat → Int32) × (Nat → Int32) × (Nat → Int32) × (Nat → Int32) × (Nat → Int32) × (Nat → Int32) × (Nat → Nat → Int32)) => match u with | (un2, fw2, ug, vg, qg, tg, bg, yg, eg, g2) => (∀ i, i0 ≤ i → i < n → MAT n pl ro rp rs g2 yg eg bg i) ∧ ∀ a, OFF ro rp rs a → g2 a = g a) (fun (u : Int32 × Int32 × (Nat → Int32) × (Nat → Int32) × (Nat → Int32) × (Nat → Int32) × (Nat → Int32) × (Nat → Int32) × (Nat → Int32) × (Nat → Nat → Int32)) (t : State) => match u with | (un2, fw2, ug, vg, qg, tg, bg, yg, eg, g2) => va_P (dC, dI) classes (wp [oX9 h1 po pp ps pa pe pb pv pk pu pw pq pt un2 fw2, oX4 pv ek ef ew ep es (nI n) sy dn, cI aC ek 8 kf, cI aC ef 8 ff, cI aC ew 8 wf, cI aC es 5 stf, cA aC po 8 fo, cA aC pp 8 fp, cA aC ps 8 fs, cK aC pk 7 fk, cO k0 0 [], cO k1 1 [], cO k2 3 [], cO k3 5 [], cO k4 6 [], cO k5 10 [], cO k6 8 [], cI aC pa 8 yg, cI aC pe 8 eg, cI aC pb 8 bg, cI aC pu 7 ug, cI aC pw 7 vg, cI aC pq 128 qg, cI aC pt 128 tg] (va_pl L (plE aC g2))) t.heap ∧ va_K (dC, dI) classes (TY aC) t ∧ va_D A (wp [oX9 h1 po pp ps pa pe pb pv pk pu pw pq pt un2 fw2, oX4 pv ek ef ew ep es (nI n) sy dn, cI aC ek 8 kf, cI aC ef 8 ff, cI aC ew 8 wf, cI aC es 5 stf, cA aC po 8 fo, cA aC pp 8 fp, cA aC ps 8 fs, cK aC pk 7 fk, cO k0 0 [], cO k1 1 [], cO k2 3 [], cO k3 5 [], cO k4 6 [], cO k5 10 [], cO k6 8 [], cI aC pa 8 yg, cI aC pe 8 eg, cI aC pb 8 bg, cI aC pu 7 ug, cI aC pw 7 vg, cI aC pq 128 qg, cI aC pt 128 tg] (va_pl L (plE aC g2)))) A) ([Value.ref h1, Value.int (nI i0)] : List Value).toArray s 0 0 A) (F0 m 47 ls []) := by
            intro unj fwj uj vj qj tj bj gj hj1 hj2 hj3 hj4 H locs ls hP hD hS hl
            refine lv_aload_n hx hb dX9_solve_47 rfl (lv_at hl 0 rfl) ?_
            refine lv_iload_n hx hb dX9_solve_48 rfl (lv_at hl 2 rfl) ?_
            have hpd9 := pdf_P (cx := [oX9 h1 po pp ps pa pe pb pv pk pu pw pq pt unj fwj, oX4 pv ek ef ew ep es (nI n) sy dn, cI aC pa 8 yc, cA aC po 8 fo, cA aC pp 8 fp]) hP hD hS hA [20, 21, 1, 23, 10] (by decide) rfl
            have hPc := hpd9.1
            have hDc := hpd9.2.1
            have hFc := hpd9.2.2
            clear hpd9
            refine va_callv (va_runV (As := [Value.int (nI i)]) (rest := []) ⟨hx, hb, hml, hown, hts⟩ (c_X9_vote l dC dI aC H.size h1 po pp ps pa pe pb pv pk pu pw pq pt unj fwj ek ef ew ep es n sy dn L gj fo fp fs ro rp rs yc i (zO pl i) (zP pl i) (hgr) (⟨hin, hn8⟩) (fun q hq => ⟨hj1 q hq, by have := (hpl i hin).2.1 q; omega⟩) (fun q h1 h2 => ⟨by rw [hj4 _ (fun z => (hgr.2 i i (by omega) (by omega)).2.2.2.1 z.symm)]; exact hP1q q h1 h2, by have := hPle q h1 h2; omega⟩)) ⟨(callB_of 1 hts (gG kw_473) rfl rfl rfl (hts _ (gw kw_11 rfl)) (hts _ (gw kw_470 rfl)) hd_X9_vote ⟨Nat.le_of_ble_eq_true rfl, Nat.le_of_ble_eq_true rfl⟩), (hts _ (gw kw_472 rfl)), (hts _ (gw ks_16 rfl))⟩ ⟨fb_std, va_recv (q := (RX9, TX9, 14)) hK hPc (ci := 9) (q0 := 0) rfl rfl, pre_std hPc hK hDc hN⟩ rfl rfl hl.1 rfl (lv_room (Nat.le_of_ble_eq_true rfl)) dX9_solve_49 ⟨Nat.le_of_ble_eq_true rfl, Nat.le_of_ble_eq_true rfl⟩) hS (fun q _ h => hFc q h) hFc (fun u9 t9 H1 locs ht hvm hw_10 hB hz1 hk1 hS => ?_)
            obtain ⟨u_11, rfl⟩ : ∃ z, z = u9 := ⟨_, rfl⟩
            obtain ⟨hP1, hK1, hD1⟩ := hB
            rw [ht] at hP1
            clear hK1
            try dsimp only at hw_10
            have hpd9 : PDx (dC, dI) classes A H1 (wp [cI aC ew 8 wf, cI aC pe 8 ec, cI aC pb 8 bj, cI aC pu 7 uj, cI aC pw 7 vj, cI aC pq 128 qj, cI aC pt 128 tj, cI aC ek 8 kf, cI aC ef 8 ff, cA aC ps 8 fs, cK aC pk 7 fk, cO k0 0 [], cO k1 1 [], cO k2 3 [], cO k3 5 [], cO k4 6 [], cO k5 10 [], cO k6 8 [], cI aC es 5 stf, oX9 h1 po pp ps pa pe pb pv pk pu pw pq pt unj fwj, oX4 pv ek ef ew ep es (nI n) sy dn, cI aC pa 8 u_11, cA aC po 8 fo, cA aC pp 8 fp] (va_pl L (plE aC gj))) := jn_P (wr := [cI aC ew 8 wf, cI aC pe 8 ec, cI aC pb 8 bj, cI aC pu 7 uj, cI aC pw 7 vj, cI aC pq 128 qj, cI aC pt 128 tj, cI aC ek 8 kf, cI aC ef 8 ff, cA aC ps 8 fs, cK aC pk 7 fk, cO k0 0 [], cO k1 1 [], cO k2 3 [], cO k3 5 [], cO k4 6 [], cO k5 10 [], cO k6 8 [], cI aC es 5 stf]) hFc hk1 hP1 hD1 hP hD [20, 21, 1, 23, 10] [0, 2, 3, 4, 5, 6, 7, 8, 9, 11, 12, 13, 14, 15, 16, 17, 18, 19, 22] rfl rfl (by decide) (by decide)
            have hP := hpd9.1
            have hD := hpd9.2
            clear hpd9
            generalize H1 = H at hP hS ⊢
            clear hPc hDc hFc hz1 hk1 hP1 hD1 ht hvm
            obtain ⟨hv1, hv2⟩ := hw_10
            refine lv_aload_n hx hb dX9_solve_52 rfl (lv_at hl 0 rfl) ?_
            refine lv_iload_n hx hb dX9_solve_53 rfl (lv_at hl 2 rfl) ?_
            have hpd9 := pdf_P (cx := [oX9 h1 po pp ps pa pe pb pv pk pu pw pq pt unj fwj, oX4 pv ek ef ew ep es (nI n) sy dn, cI aC ew 8 wf, cI aC es 5 stf, cI aC pa 8 u_11, cI aC pe 8 ec, cA aC po 8 fo, cA aC ps 8 fs]) hP hD hS hA [19, 20, 0, 18, 21, 1, 22, 9] (by decide) rfl
            have hPc := hpd9.1
            have hDc := hpd9.2.1
            have hFc := hpd9.2.2
            clear hpd9
            refine va_callv (va_runV (As := [Value.int (nI i)]) (rest := []) ⟨hx, hb, hml, hown, hts⟩ (c_X9_end l dC dI aC H.size h1 po pp ps pa pe pb pv pk pu pw pq pt unj fwj ek ef ew ep es n sy dn wf stf u_11 ec L gj fo fp fs ro rp rs W0 i (hgr) (HW_of hev) (hin)) ⟨(callB_of 1 hts (gG kw_477) rfl rfl rfl (hts _ (gw kw_11 rfl)) (hts _ (gw kw_474 rfl)) hd_X9_end ⟨Nat.le_of_ble_eq_true rfl, Nat.le_of_ble_eq_true rfl⟩), (hts _ (gw kw_476 rfl)), (hts _ (gw ks_17 rfl))⟩ ⟨fb_std, va_recv (q := (RX9, TX9, 14)) hK hPc (ci := 9) (q0 := 0) rfl rfl, pre_std hPc hK hDc hN⟩ rfl rfl hl.1 rfl (lv_room (Nat.le_of_ble_eq_true rfl)) dX9_solve_54 ⟨Nat.le_of_ble_eq_true rfl, Nat.le_of_ble_eq_true rfl⟩) hS (fun q _ h => hFc q h) hFc (fun u9 t9 H1 locs ht hvm hw_12 hB hz1 hk1 hS => ?_)
            obtain ⟨u_13, u_14⟩ := u9
            obtain ⟨hP1, hK1, hD1⟩ := hB
            rw [ht] at hP1
            clear hK1
            try dsimp only at hw_12
            have hpd9 : PDx (dC, dI) classes A H1 (wp [cI aC pb 8 bj, cI aC pu 7 uj, cI aC pw 7 vj, cI aC pq 128 qj, cI aC pt 128 tj, cI aC ek 8 kf, cI aC ef 8 ff, cK aC pk 7 fk, cO k0 0 [], cO k1 1 [], cO k2 3 [], cO k3 5 [], cO k4 6 [], cO k5 10 [], cO k6 8 [], cA aC pp 8 fp, oX9 h1 po pp ps pa pe pb pv pk pu pw pq pt unj fwj, oX4 pv ek ef ew ep es (nI n) sy dn, cI aC ew 8 wf, cI aC es 5 stf, cI aC pa 8 u_11, cI aC pe 8 u_13, cA aC po 8 fo, cA aC ps 8 fs] (va_pl L (plE aC u_14))) := jn_P (wr := [cI aC pb 8 bj, cI aC pu 7 uj, cI aC pw 7 vj, cI aC pq 128 qj, cI aC pt 128 tj, cI aC ek 8 kf, cI aC ef 8 ff, cK aC pk 7 fk, cO k0 0 [], cO k1 1 [], cO k2 3 [], cO k3 5 [], cO k4 6 [], cO k5 10 [], cO k6 8 [], cA aC pp 8 fp]) hFc hk1 hP1 hD1 hP hD [19, 20, 0, 18, 21, 1, 22, 9] [2, 3, 4, 5, 6, 7, 8, 10, 11, 12, 13, 14, 15, 16, 17, 23] rfl rfl (by decide) (by decide)
            have hP := hpd9.1
            have hD := hpd9.2
            clear hpd9
            generalize H1 = H at hP hS ⊢
            clear hPc hDc hFc hz1 hk1 hP1 hD1 ht hvm
            obtain ⟨hE1, hE2, hE3, hE4⟩ := hw_12
            have hY := vt_fin hpl hin hv1
            have hne1 : ∀ q, q < 8 → rs q ≠ ro i ∧ rs q ≠ rp i := fun q hq => ⟨fun z => (hgr.2 i q (by omega) hq).2.2.2.2.1 z.symm, fun z => (hgr.2 i q (by omega) hq).2.2.2.2.2 z.symm⟩
            have hgb : ∀ a, a ≠ ro i → a ≠ rp i → gj a = gc a := fun a h1 h2 => by rw [hj4 a h1, hk2 a h1, hp2 a h2]
            obtain ⟨hF1, hF2⟩ := en_fin (r := u_14 (rs i)) (ro := gj (ro i)) (r1 := gj (rs (i + 1))) hpl hin hn8 hY hE1 hE2 hj1 (fun h => ⟨(hm (i + 1) (Nat.le_refl _) h).2.2.2.2.1, fun q hq => by rw [hgb _ (hne1 _ (by omega)).1 (hne1 _ (by omega)).2]; exact (hm (i + 1) (Nat.le_refl _) h).2.2.1 q hq⟩)
            have hga : ∀ a, a ≠ ro i → a ≠ rp i → a ≠ rs i → u_14 a = gc a := fun a h1 h2 h3 => by rw [hE4 a h3]; exact hgb a h1 h2
            have hm2 : ∀ j, i ≤ j → j < n → MAT n pl ro rp rs u_14 u_11 u_13 bj j := fun j h1 h2 => by
              by_cases ej : j = i
              · subst ej
                refine ⟨fun q q1 q2 => ?_, fun q hq => ?_, hF2, hY, hF1, hj2⟩
                · rw [hE4 _ (fun z => (hgr.2 j j (by omega) (by omega)).2.2.2.2.2 z), hj4 _ (fun z => (hgr.2 j j (by omega) (by omega)).2.2.2.1 z.symm)]; exact hP1q q q1 q2
                · rw [hE4 _ (fun z => (hgr.2 j j (by omega) (by omega)).2.2.2.2.1 z)]; exact hj1 q hq
              · obtain ⟨m1, m2, m3, m4, m5, m6⟩ := hm j (by omega) h2
                have w1 := hgr.2 j i (by omega) (by omega)
                have w2 := hgr.2 i j (by omega) (by omega)
                refine ⟨fun q q1 q2 => ?_, fun q hq => ?_, fun q hq => ?_, ?_, ?_, ?_⟩
                · rw [hga _ (fun z => w2.2.2.2.1 z.symm) (fun z => ej (w1.2.1 z)) w1.2.2.2.2.2]; exact m1 q q1 q2
                · rw [hga _ (fun z => ej (w1.1 z)) w1.2.2.2.1 w1.2.2.2.2.1]; exact m2 q hq
                · rw [hga _ (fun z => w2.2.2.2.2.1 z.symm) (fun z => w2.2.2.2.2.2 z.symm) (fun z => ej (w1.2.2.1 z))]; exact m3 q hq
                · rw [hv2 j ej]; exact m4
                · rw [hE3 j ej]; exact m5
                · rw [hj3 j ej]; exact m6
            have hof2 : ∀ a, OFF ro rp rs a → u_14 a = g a := fun a h => by
              have h3 := h i (by omega)
              rw [hga a h3.1 h3.2.1 h3.2.2]; exact hof a h
            obtain ⟨x_15, e_15⟩ : ∃ y : Int32, y = (nI i) + (-1) := ⟨_, rfl⟩
            refine lv_iinc (v := x_15) (lv' := [(2, Value.int x_15), (0, Value.ref h1), (1, Value.int (nI i0))]) hx hb dX9_solve_57 hl (k := 2) rfl (by rw [e_15]; rfl) (by decide) rfl (fun ls hl => ?_)
            refine lv_goto (tgt := 10) hx hb dX9_solve_60 (by decide) ?_
            exact ih_10 i x_15 unj fwj uj vj qj tj bj u_11 u_13 u_14 (by omega) (by omega) (by rw [e_15, nI_iI, show (-1 : Int32) = iI (-1) from rfl, iI_add]; rfl) (hm2) (hof2) _ _ _ (plP hP [16, 17, 5, 6, 18, 19, 22, 15, 23, 7, 8, 9, 10, 11, 12, 13, 14, 20, 21, 0, 1, 2, 3, 4] rfl) (plD hD [16, 17, 5, 6, 18, 19, 22, 15, 23, 7, 8, 9, 10, 11, 12, 13, 14, 20, 21, 0, 1, 2, 3, 4] (by decide) rfl) hS (lv_sub hl [1, 2, 0] rfl)
          refine lv_aload_n hx hb dX9_solve_37 rfl (lv_at hl 0 rfl) ?_
          refine lv_iload_n hx hb dX9_solve_38 rfl (lv_at hl 2 rfl) ?_
          rcases le6 hkle with hkk | hkk | hkk | hkk | hkk | hkk | hkk
          · have hkv : kf i = nI 0 := by rw [hkf, hkk]
            have hpd9 := pdf_N (cx := [oX9 h1 po pp ps pa pe pb pv pk pu pw pq pt unc fwc, oX4 pv ek ef ew ep es (nI n) sy dn, cI aC ek 8 kf, cK aC pk 7 fk]) hP hD hS hA [20, 21, 8, 12] (by decide) rfl
            have hPc := hpd9.1
            have hDc := hpd9.2.1
            have hFc := hpd9.2.2
            clear hpd9
            refine va_callr (va_runV (As := [Value.int (nI i)]) (rest := []) ⟨hx, hb, hml, hown, hts⟩ (c_X9_kindOf l dC dI aC H.size h1 po pp ps pa pe pb pv pk pu pw pq pt unc fwc ek ef ew ep es n sy dn kf fk i 0 k0 (by omega) (hkv) (by omega) (hkd.1)) ⟨(callB_of 1 hts (gG kw_365) rfl rfl rfl (hts _ (gw kw_11 rfl)) (hts _ (gw kw_362 rfl)) hd_X9_kindOf ⟨Nat.le_of_ble_eq_true rfl, Nat.le_of_ble_eq_true rfl⟩), (hts _ (gw kw_364 rfl)), (hts _ (gw ks_8 rfl))⟩ ⟨fb_std, va_recv (q := (RX9, TX9, 14)) hK hPc (ci := 9) (q0 := 0) rfl rfl, pre_std hPc hK hDc hN⟩ rfl rfl hl.1 rfl (lv_room (Nat.le_of_ble_eq_true rfl)) dX9_solve_39 ⟨Nat.le_of_ble_eq_true rfl, Nat.le_of_ble_eq_true rfl⟩) hS (fun q _ h => hFc q h) hFc (fun u9 q_16 t9 H1 locs ht hvm hw_16 hB hz1 hk1 hS => ?_)
            obtain ⟨q_16_e, hP1, hK1, hD1⟩ := hB
            rw [ht] at hP1
            clear hK1
            try dsimp only at hw_16
            have hpd9 : PDx (dC, dI) classes A H1 (wp [cI aC ew 8 wf, cI aC pa 8 yc, cI aC pe 8 ec, cI aC pb 8 f_9, cI aC pu 7 uc, cI aC pw 7 vc, cI aC pq 128 qc, cI aC pt 128 tc, cI aC ef 8 ff, cA aC pp 8 fp, cA aC ps 8 fs, cO k0 0 [], cO k1 1 [], cO k2 3 [], cO k3 5 [], cO k4 6 [], cO k5 10 [], cO k6 8 [], cI aC es 5 stf, cA aC po 8 fo, oX9 h1 po pp ps pa pe pb pv pk pu pw pq pt unc fwc, oX4 pv ek ef ew ep es (nI n) sy dn, cI aC ek 8 kf, cK aC pk 7 fk] (va_pl L (plE aC u_7))) := jn_Q (wr := [cI aC ew 8 wf, cI aC pa 8 yc, cI aC pe 8 ec, cI aC pb 8 f_9, cI aC pu 7 uc, cI aC pw 7 vc, cI aC pq 128 qc, cI aC pt 128 tc, cI aC ef 8 ff, cA aC pp 8 fp, cA aC ps 8 fs, cO k0 0 [], cO k1 1 [], cO k2 3 [], cO k3 5 [], cO k4 6 [], cO k5 10 [], cO k6 8 [], cI aC es 5 stf, cA aC po 8 fo]) hFc hk1 hP1 hD1 hP hD [20, 21, 8, 12] [0, 1, 2, 3, 4, 5, 6, 7, 9, 10, 11, 13, 14, 15, 16, 17, 18, 19, 22, 23] rfl rfl (by decide) (by decide)
            have hP := hpd9.1
            have hD := hpd9.2
            clear hpd9
            generalize H1 = H at hP hS ⊢
            clear hPc hDc hFc hz1 hk1 hP1 hD1 ht hvm
            have h9 := q_16_e.symm
            subst h9
            refine lv_aload_n hx hb dX9_solve_42 rfl (lv_at hl 0 rfl) ?_
            refine lv_iload_n hx hb dX9_solve_43 rfl (lv_at hl 2 rfl) ?_
            have hpd9 := pdf_P (cx := [oX9 h1 po pp ps pa pe pb pv pk pu pw pq pt unc fwc, oX4 pv ek ef ew ep es (nI n) sy dn, cI aC ew 8 wf, cI aC es 5 stf, cA aC pp 8 fp, cA aC po 8 fo, cI aC pb 8 f_9, cI aC pu 7 uc, cI aC pw 7 vc, cI aC pq 128 qc, cI aC pt 128 tc]) hP hD hS hA [20, 21, 0, 18, 9, 19, 3, 4, 5, 6, 7] (by decide) rfl
            have hPc := hpd9.1
            have hDc := hpd9.2.1
            have hFc := hpd9.2.2
            clear hpd9
            refine va_callv (va_runV (As := [Value.ref h1, Value.int (nI i)]) (rest := []) ⟨hx, hb, hml, hown, hts⟩ (c_X0_tell l dC dI aC H.size k0 h1 po pp ps pa pe pb pv pk pu pw pq pt unc fwc ek ef ew ep es n sy dn wf stf W0 i cq (KO cq i) (zP pl i) uc vc qc tc f_9 L u_7 fo fp fs ro rp rs (hgr) (HW_of hev) (hin) (⟨hev.2.2.1, hev.2.1⟩) (hO1) (KO_le hev.2.1) (if_pos rfl) (fun q h1 h2 => ⟨hP1q q h1 h2, hPle q h1 h2⟩)) ⟨(callB_of 2 hts (gG kw_437) rfl rfl rfl (hts _ (gw kw_4 rfl)) (hts _ (gw kw_400 rfl)) hd_X0_tell ⟨Nat.le_of_ble_eq_true rfl, Nat.le_of_ble_eq_true rfl⟩), (hts _ (gw kw_401 rfl)), (hts _ (gw kw_402 rfl))⟩ ⟨fb_std, va_recv (q := (RX0, TX0, 0)) hK hP (ci := 0) (q0 := 11) rfl rfl, pre_std hPc hK hDc hN⟩ rfl rfl hl.1 rfl (lv_room (Nat.le_of_ble_eq_true rfl)) dX9_solve_44 ⟨Nat.le_of_ble_eq_true rfl, Nat.le_of_ble_eq_true rfl⟩) hS (fun q _ h => hFc q h) hFc (fun u9 t9 H1 locs ht hvm hw_17 hB hz1 hk1 hS => ?_)
            obtain ⟨u_18, u_19, u_20, u_21, u_22, u_23, u_24, u_25, u_26⟩ := u9
            obtain ⟨hP1, hK1, hD1⟩ := hB
            rw [ht] at hP1
            clear hK1
            try dsimp only at hw_17
            have hpd9 : PDx (dC, dI) classes A H1 (wp [cI aC pa 8 yc, cI aC pe 8 ec, cI aC ef 8 ff, cA aC ps 8 fs, cO k0 0 [], cO k1 1 [], cO k2 3 [], cO k3 5 [], cO k4 6 [], cO k5 10 [], cO k6 8 [], cI aC ek 8 kf, cK aC pk 7 fk, oX9 h1 po pp ps pa pe pb pv pk pu pw pq pt u_18 u_19, oX4 pv ek ef ew ep es (nI n) sy dn, cI aC ew 8 wf, cI aC es 5 stf, cA aC pp 8 fp, cA aC po 8 fo, cI aC pb 8 u_24, cI aC pu 7 u_20, cI aC pw 7 u_21, cI aC pq 128 u_22, cI aC pt 128 u_23] (va_pl L (plE aC u_25))) := jn_P (wr := [cI aC pa 8 yc, cI aC pe 8 ec, cI aC ef 8 ff, cA aC ps 8 fs, cO k0 0 [], cO k1 1 [], cO k2 3 [], cO k3 5 [], cO k4 6 [], cO k5 10 [], cO k6 8 [], cI aC ek 8 kf, cK aC pk 7 fk]) hFc hk1 hP1 hD1 hP hD [20, 21, 0, 18, 9, 19, 3, 4, 5, 6, 7] [1, 2, 8, 10, 11, 12, 13, 14, 15, 16, 17, 22, 23] rfl rfl (by decide) (by decide)
            have hP := hpd9.1
            have hD := hpd9.2
            clear hpd9
            generalize H1 = H at hP hS ⊢
            clear hPc hDc hFc hz1 hk1 hP1 hD1 ht hvm
            have ht9 := hw_17
            obtain ⟨ht1, ht2, ht3, ht4, ht5⟩ := ht9
            obtain ⟨O9, ho1, -, ho3⟩ := of_buy (K := K) (F := F) (B := u_24 i) (r2 := u_25 (ro i)) (r1 := u_7 (ro i)) (by omega) ⟨hin, hn8⟩ hev.2.1 ht1 ht2 (fun h => ⟨(ht3 h).1.trans hbi, (ht3 h).2⟩) hO1
            obtain ⟨hj1, hj2⟩ := of_fin hpl hin hkle ho3 ho1
            have hj3 : ∀ q, q ≠ i → u_24 q = bc q := fun q h => (ht4 q h).trans (hbo q h)
            have hj4 := ht5
            exact jp_47 u_18 u_19 u_20 u_21 u_22 u_23 u_24 u_25 (by assumption) (by assumption) (by assumption) (by assumption) _ _ _ (plP hP [15, 0, 1, 19, 20, 21, 22, 23, 11, 2, 17, 3, 12, 4, 5, 6, 7, 8, 9, 10, 13, 14, 16, 18] rfl) (plD hD [15, 0, 1, 19, 20, 21, 22, 23, 11, 2, 17, 3, 12, 4, 5, 6, 7, 8, 9, 10, 13, 14, 16, 18] (by decide) rfl) hS (lv_sub hl [0, 1, 2] rfl)
          · have hkv : kf i = nI 1 := by rw [hkf, hkk]
            have hpd9 := pdf_N (cx := [oX9 h1 po pp ps pa pe pb pv pk pu pw pq pt unc fwc, oX4 pv ek ef ew ep es (nI n) sy dn, cI aC ek 8 kf, cK aC pk 7 fk]) hP hD hS hA [20, 21, 8, 12] (by decide) rfl
            have hPc := hpd9.1
            have hDc := hpd9.2.1
            have hFc := hpd9.2.2
            clear hpd9
            refine va_callr (va_runV (As := [Value.int (nI i)]) (rest := []) ⟨hx, hb, hml, hown, hts⟩ (c_X9_kindOf l dC dI aC H.size h1 po pp ps pa pe pb pv pk pu pw pq pt unc fwc ek ef ew ep es n sy dn kf fk i 1 k1 (by omega) (hkv) (by omega) (hkd.2.1)) ⟨(callB_of 1 hts (gG kw_365) rfl rfl rfl (hts _ (gw kw_11 rfl)) (hts _ (gw kw_362 rfl)) hd_X9_kindOf ⟨Nat.le_of_ble_eq_true rfl, Nat.le_of_ble_eq_true rfl⟩), (hts _ (gw kw_364 rfl)), (hts _ (gw ks_8 rfl))⟩ ⟨fb_std, va_recv (q := (RX9, TX9, 14)) hK hPc (ci := 9) (q0 := 0) rfl rfl, pre_std hPc hK hDc hN⟩ rfl rfl hl.1 rfl (lv_room (Nat.le_of_ble_eq_true rfl)) dX9_solve_39 ⟨Nat.le_of_ble_eq_true rfl, Nat.le_of_ble_eq_true rfl⟩) hS (fun q _ h => hFc q h) hFc (fun u9 q_27 t9 H1 locs ht hvm hw_27 hB hz1 hk1 hS => ?_)
            obtain ⟨q_27_e, hP1, hK1, hD1⟩ := hB
            rw [ht] at hP1
            clear hK1
            try dsimp only at hw_27
            have hpd9 : PDx (dC, dI) classes A H1 (wp [cI aC ew 8 wf, cI aC pa 8 yc, cI aC pe 8 ec, cI aC pb 8 f_9, cI aC pu 7 uc, cI aC pw 7 vc, cI aC pq 128 qc, cI aC pt 128 tc, cI aC ef 8 ff, cA aC pp 8 fp, cA aC ps 8 fs, cO k0 0 [], cO k1 1 [], cO k2 3 [], cO k3 5 [], cO k4 6 [], cO k5 10 [], cO k6 8 [], cI aC es 5 stf, cA aC po 8 fo, oX9 h1 po pp ps pa pe pb pv pk pu pw pq pt unc fwc, oX4 pv ek ef ew ep es (nI n) sy dn, cI aC ek 8 kf, cK aC pk 7 fk] (va_pl L (plE aC u_7))) := jn_Q (wr := [cI aC ew 8 wf, cI aC pa 8 yc, cI aC pe 8 ec, cI aC pb 8 f_9, cI aC pu 7 uc, cI aC pw 7 vc, cI aC pq 128 qc, cI aC pt 128 tc, cI aC ef 8 ff, cA aC pp 8 fp, cA aC ps 8 fs, cO k0 0 [], cO k1 1 [], cO k2 3 [], cO k3 5 [], cO k4 6 [], cO k5 10 [], cO k6 8 [], cI aC es 5 stf, cA aC po 8 fo]) hFc hk1 hP1 hD1 hP hD [20, 21, 8, 12] [0, 1, 2, 3, 4, 5, 6, 7, 9, 10, 11, 13, 14, 15, 16, 17, 18, 19, 22, 23] rfl rfl (by decide) (by decide)
            have hP := hpd9.1
            have hD := hpd9.2
            clear hpd9
            generalize H1 = H at hP hS ⊢
            clear hPc hDc hFc hz1 hk1 hP1 hD1 ht hvm
            have h9 := q_27_e.symm
            subst h9
            refine lv_aload_n hx hb dX9_solve_42 rfl (lv_at hl 0 rfl) ?_
            refine lv_iload_n hx hb dX9_solve_43 rfl (lv_at hl 2 rfl) ?_
            have hpd9 := pdf_P (cx := [oX9 h1 po pp ps pa pe pb pv pk pu pw pq pt unc fwc, oX4 pv ek ef ew ep es (nI n) sy dn, cI aC ew 8 wf, cI aC es 5 stf, cA aC pp 8 fp, cA aC po 8 fo, cI aC pb 8 f_9, cI aC pu 7 uc, cI aC pw 7 vc, cI aC pq 128 qc, cI aC pt 128 tc]) hP hD hS hA [20, 21, 0, 18, 9, 19, 3, 4, 5, 6, 7] (by decide) rfl
            have hPc := hpd9.1
            have hDc := hpd9.2.1
            have hFc := hpd9.2.2
            clear hpd9
            refine va_callv (va_runU (As := [Value.ref h1, Value.int (nI i)]) (rest := []) ⟨hx, hb, hml, hown, hts⟩ (c_X0_tell l dC dI aC H.size k1 h1 po pp ps pa pe pb pv pk pu pw pq pt unc fwc ek ef ew ep es n sy dn wf stf W0 i cq (KO cq i) (zP pl i) uc vc qc tc f_9 L u_7 fo fp fs ro rp rs (hgr) (HW_of hev) (hin) (⟨hev.2.2.1, hev.2.1⟩) (hO1) (KO_le hev.2.1) (if_pos rfl) (fun q h1 h2 => ⟨hP1q q h1 h2, hPle q h1 h2⟩)) (va_cwU (owner := "EldestSays$Clever") 2 hts (gcons (gw kw_400 rfl) (gcons (gw kw_403 rfl) (gcons (gw kw_404 rfl) (gcons (gw kw_401 rfl) (gcons (gw kw_4 rfl) (gG kw_437)))))) rfl rfl rfl rfl (by decide +kernel) ⟨Nat.le_of_ble_eq_true rfl, Nat.le_of_ble_eq_true rfl⟩) ⟨fb_std, va_recv (q := (RX1, TX1, 0)) hK hP (ci := 1) (q0 := 12) rfl rfl, pre_std hPc hK hDc hN⟩ rfl rfl hl.1 rfl (lv_room (Nat.le_of_ble_eq_true rfl)) dX9_solve_44 ⟨Nat.le_of_ble_eq_true rfl, Nat.le_of_ble_eq_true rfl⟩) hS (fun q _ h => hFc q h) hFc (fun u9 t9 H1 locs ht hvm hw_28 hB hz1 hk1 hS => ?_)
            obtain ⟨u_29, u_30, u_31, u_32, u_33, u_34, u_35, u_36, u_37⟩ := u9
            obtain ⟨hP1, hK1, hD1⟩ := hB
            rw [ht] at hP1
            clear hK1
            try dsimp only at hw_28
            have hpd9 : PDx (dC, dI) classes A H1 (wp [cI aC pa 8 yc, cI aC pe 8 ec, cI aC ef 8 ff, cA aC ps 8 fs, cO k0 0 [], cO k1 1 [], cO k2 3 [], cO k3 5 [], cO k4 6 [], cO k5 10 [], cO k6 8 [], cI aC ek 8 kf, cK aC pk 7 fk, oX9 h1 po pp ps pa pe pb pv pk pu pw pq pt u_29 u_30, oX4 pv ek ef ew ep es (nI n) sy dn, cI aC ew 8 wf, cI aC es 5 stf, cA aC pp 8 fp, cA aC po 8 fo, cI aC pb 8 u_35, cI aC pu 7 u_31, cI aC pw 7 u_32, cI aC pq 128 u_33, cI aC pt 128 u_34] (va_pl L (plE aC u_36))) := jn_P (wr := [cI aC pa 8 yc, cI aC pe 8 ec, cI aC ef 8 ff, cA aC ps 8 fs, cO k0 0 [], cO k1 1 [], cO k2 3 [], cO k3 5 [], cO k4 6 [], cO k5 10 [], cO k6 8 [], cI aC ek 8 kf, cK aC pk 7 fk]) hFc hk1 hP1 hD1 hP hD [20, 21, 0, 18, 9, 19, 3, 4, 5, 6, 7] [1, 2, 8, 10, 11, 12, 13, 14, 15, 16, 17, 22, 23] rfl rfl (by decide) (by decide)
            have hP := hpd9.1
            have hD := hpd9.2
            clear hpd9
            generalize H1 = H at hP hS ⊢
            clear hPc hDc hFc hz1 hk1 hP1 hD1 ht hvm
            have ht9 := hw_28
            obtain ⟨ht1, ht2, ht3, ht4, ht5⟩ := ht9
            obtain ⟨O9, ho1, -, ho3⟩ := of_buy (K := K) (F := F) (B := u_35 i) (r2 := u_36 (ro i)) (r1 := u_7 (ro i)) (by omega) ⟨hin, hn8⟩ hev.2.1 ht1 ht2 (fun h => ⟨(ht3 h).1.trans hbi, (ht3 h).2⟩) hO1
            obtain ⟨hj1, hj2⟩ := of_fin hpl hin hkle ho3 ho1
            have hj3 : ∀ q, q ≠ i → u_35 q = bc q := fun q h => (ht4 q h).trans (hbo q h)
            have hj4 := ht5
            exact jp_47 u_29 u_30 u_31 u_32 u_33 u_34 u_35 u_36 (by assumption) (by assumption) (by assumption) (by assumption) _ _ _ (plP hP [15, 0, 1, 19, 20, 21, 22, 23, 11, 2, 17, 3, 12, 4, 5, 6, 7, 8, 9, 10, 13, 14, 16, 18] rfl) (plD hD [15, 0, 1, 19, 20, 21, 22, 23, 11, 2, 17, 3, 12, 4, 5, 6, 7, 8, 9, 10, 13, 14, 16, 18] (by decide) rfl) hS (lv_sub hl [0, 1, 2] rfl)
          · have hkv : kf i = nI 2 := by rw [hkf, hkk]
            have hpd9 := pdf_N (cx := [oX9 h1 po pp ps pa pe pb pv pk pu pw pq pt unc fwc, oX4 pv ek ef ew ep es (nI n) sy dn, cI aC ek 8 kf, cK aC pk 7 fk]) hP hD hS hA [20, 21, 8, 12] (by decide) rfl
            have hPc := hpd9.1
            have hDc := hpd9.2.1
            have hFc := hpd9.2.2
            clear hpd9
            refine va_callr (va_runV (As := [Value.int (nI i)]) (rest := []) ⟨hx, hb, hml, hown, hts⟩ (c_X9_kindOf l dC dI aC H.size h1 po pp ps pa pe pb pv pk pu pw pq pt unc fwc ek ef ew ep es n sy dn kf fk i 2 k2 (by omega) (hkv) (by omega) (hkd.2.2.1)) ⟨(callB_of 1 hts (gG kw_365) rfl rfl rfl (hts _ (gw kw_11 rfl)) (hts _ (gw kw_362 rfl)) hd_X9_kindOf ⟨Nat.le_of_ble_eq_true rfl, Nat.le_of_ble_eq_true rfl⟩), (hts _ (gw kw_364 rfl)), (hts _ (gw ks_8 rfl))⟩ ⟨fb_std, va_recv (q := (RX9, TX9, 14)) hK hPc (ci := 9) (q0 := 0) rfl rfl, pre_std hPc hK hDc hN⟩ rfl rfl hl.1 rfl (lv_room (Nat.le_of_ble_eq_true rfl)) dX9_solve_39 ⟨Nat.le_of_ble_eq_true rfl, Nat.le_of_ble_eq_true rfl⟩) hS (fun q _ h => hFc q h) hFc (fun u9 q_38 t9 H1 locs ht hvm hw_38 hB hz1 hk1 hS => ?_)
            obtain ⟨q_38_e, hP1, hK1, hD1⟩ := hB
            rw [ht] at hP1
            clear hK1
            try dsimp only at hw_38
            have hpd9 : PDx (dC, dI) classes A H1 (wp [cI aC ew 8 wf, cI aC pa 8 yc, cI aC pe 8 ec, cI aC pb 8 f_9, cI aC pu 7 uc, cI aC pw 7 vc, cI aC pq 128 qc, cI aC pt 128 tc, cI aC ef 8 ff, cA aC pp 8 fp, cA aC ps 8 fs, cO k0 0 [], cO k1 1 [], cO k2 3 [], cO k3 5 [], cO k4 6 [], cO k5 10 [], cO k6 8 [], cI aC es 5 stf, cA aC po 8 fo, oX9 h1 po pp ps pa pe pb pv pk pu pw pq pt unc fwc, oX4 pv ek ef ew ep es (nI n) sy dn, cI aC ek 8 kf, cK aC pk 7 fk] (va_pl L (plE aC u_7))) := jn_Q (wr := [cI aC ew 8 wf, cI aC pa 8 yc, cI aC pe 8 ec, cI aC pb 8 f_9, cI aC pu 7 uc, cI aC pw 7 vc, cI aC pq 128 qc, cI aC pt 128 tc, cI aC ef 8 ff, cA aC pp 8 fp, cA aC ps 8 fs, cO k0 0 [], cO k1 1 [], cO k2 3 [], cO k3 5 [], cO k4 6 [], cO k5 10 [], cO k6 8 [], cI aC es 5 stf, cA aC po 8 fo]) hFc hk1 hP1 hD1 hP hD [20, 21, 8, 12] [0, 1, 2, 3, 4, 5, 6, 7, 9, 10, 11, 13, 14, 15, 16, 17, 18, 19, 22, 23] rfl rfl (by decide) (by decide)
            have hP := hpd9.1
            have hD := hpd9.2
            clear hpd9
            generalize H1 = H at hP hS ⊢
            clear hPc hDc hFc hz1 hk1 hP1 hD1 ht hvm
            have h9 := q_38_e.symm
            subst h9
            refine lv_aload_n hx hb dX9_solve_42 rfl (lv_at hl 0 rfl) ?_
            refine lv_iload_n hx hb dX9_solve_43 rfl (lv_at hl 2 rfl) ?_
            have hpd9 := pdf_P (cx := [oX9 h1 po pp ps pa pe pb pv pk pu pw pq pt unc fwc, oX4 pv ek ef ew ep es (nI n) sy dn, cI aC ew 8 wf, cI aC es 5 stf, cA aC pp 8 fp, cA aC po 8 fo, cI aC pb 8 f_9, cI aC pu 7 uc, cI aC pw 7 vc, cI aC pq 128 qc, cI aC pt 128 tc]) hP hD hS hA [20, 21, 0, 18, 9, 19, 3, 4, 5, 6, 7] (by decide) rfl
            have hPc := hpd9.1
            have hDc := hpd9.2.1
            have hFc := hpd9.2.2
            clear hpd9
            refine va_callv (va_runU (As := [Value.ref h1, Value.int (nI i)]) (rest := []) ⟨hx, hb, hml, hown, hts⟩ (c_X0_tell l dC dI aC H.size k2 h1 po pp ps pa pe pb pv pk pu pw pq pt unc fwc ek ef ew ep es n sy dn wf stf W0 i cq (KO cq i) (zP pl i) uc vc qc tc f_9 L u_7 fo fp fs ro rp rs (hgr) (HW_of hev) (hin) (⟨hev.2.2.1, hev.2.1⟩) (hO1) (KO_le hev.2.1) (if_pos rfl) (fun q h1 h2 => ⟨hP1q q h1 h2, hPle q h1 h2⟩)) (va_cwU (owner := "EldestSays$Clever") 2 hts (gcons (gw kw_400 rfl) (gcons (gw kw_403 rfl) (gcons (gw kw_405 rfl) (gcons (gw kw_401 rfl) (gcons (gw kw_4 rfl) (gG kw_437)))))) rfl rfl rfl rfl (by decide +kernel) ⟨Nat.le_of_ble_eq_true rfl, Nat.le_of_ble_eq_true rfl⟩) ⟨fb_std, va_recv (q := (RX3, TX3, 0)) hK hP (ci := 3) (q0 := 13) rfl rfl, pre_std hPc hK hDc hN⟩ rfl rfl hl.1 rfl (lv_room (Nat.le_of_ble_eq_true rfl)) dX9_solve_44 ⟨Nat.le_of_ble_eq_true rfl, Nat.le_of_ble_eq_true rfl⟩) hS (fun q _ h => hFc q h) hFc (fun u9 t9 H1 locs ht hvm hw_39 hB hz1 hk1 hS => ?_)
            obtain ⟨u_40, u_41, u_42, u_43, u_44, u_45, u_46, u_47, u_48⟩ := u9
            obtain ⟨hP1, hK1, hD1⟩ := hB
            rw [ht] at hP1
            clear hK1
            try dsimp only at hw_39
            have hpd9 : PDx (dC, dI) classes A H1 (wp [cI aC pa 8 yc, cI aC pe 8 ec, cI aC ef 8 ff, cA aC ps 8 fs, cO k0 0 [], cO k1 1 [], cO k2 3 [], cO k3 5 [], cO k4 6 [], cO k5 10 [], cO k6 8 [], cI aC ek 8 kf, cK aC pk 7 fk, oX9 h1 po pp ps pa pe pb pv pk pu pw pq pt u_40 u_41, oX4 pv ek ef ew ep es (nI n) sy dn, cI aC ew 8 wf, cI aC es 5 stf, cA aC pp 8 fp, cA aC po 8 fo, cI aC pb 8 u_46, cI aC pu 7 u_42, cI aC pw 7 u_43, cI aC pq 128 u_44, cI aC pt 128 u_45] (va_pl L (plE aC u_47))) := jn_P (wr := [cI aC pa 8 yc, cI aC pe 8 ec, cI aC ef 8 ff, cA aC ps 8 fs, cO k0 0 [], cO k1 1 [], cO k2 3 [], cO k3 5 [], cO k4 6 [], cO k5 10 [], cO k6 8 [], cI aC ek 8 kf, cK aC pk 7 fk]) hFc hk1 hP1 hD1 hP hD [20, 21, 0, 18, 9, 19, 3, 4, 5, 6, 7] [1, 2, 8, 10, 11, 12, 13, 14, 15, 16, 17, 22, 23] rfl rfl (by decide) (by decide)
            have hP := hpd9.1
            have hD := hpd9.2
            clear hpd9
            generalize H1 = H at hP hS ⊢
            clear hPc hDc hFc hz1 hk1 hP1 hD1 ht hvm
            have ht9 := hw_39
            obtain ⟨ht1, ht2, ht3, ht4, ht5⟩ := ht9
            obtain ⟨O9, ho1, -, ho3⟩ := of_buy (K := K) (F := F) (B := u_46 i) (r2 := u_47 (ro i)) (r1 := u_7 (ro i)) (by omega) ⟨hin, hn8⟩ hev.2.1 ht1 ht2 (fun h => ⟨(ht3 h).1.trans hbi, (ht3 h).2⟩) hO1
            obtain ⟨hj1, hj2⟩ := of_fin hpl hin hkle ho3 ho1
            have hj3 : ∀ q, q ≠ i → u_46 q = bc q := fun q h => (ht4 q h).trans (hbo q h)
            have hj4 := ht5
            exact jp_47 u_40 u_41 u_42 u_43 u_44 u_45 u_46 u_47 (by assumption) (by assumption) (by assumption) (by assumption) _ _ _ (plP hP [15, 0, 1, 19, 20, 21, 22, 23, 11, 2, 17, 3, 12, 4, 5, 6, 7, 8, 9, 10, 13, 14, 16, 18] rfl) (plD hD [15, 0, 1, 19, 20, 21, 22, 23, 11, 2, 17, 3, 12, 4, 5, 6, 7, 8, 9, 10, 13, 14, 16, 18] (by decide) rfl) hS (lv_sub hl [0, 1, 2] rfl)
          · have hkv : kf i = nI 3 := by rw [hkf, hkk]
            have hpd9 := pdf_N (cx := [oX9 h1 po pp ps pa pe pb pv pk pu pw pq pt unc fwc, oX4 pv ek ef ew ep es (nI n) sy dn, cI aC ek 8 kf, cK aC pk 7 fk]) hP hD hS hA [20, 21, 8, 12] (by decide) rfl
            have hPc := hpd9.1
            have hDc := hpd9.2.1
            have hFc := hpd9.2.2
            clear hpd9
            refine va_callr (va_runV (As := [Value.int (nI i)]) (rest := []) ⟨hx, hb, hml, hown, hts⟩ (c_X9_kindOf l dC dI aC H.size h1 po pp ps pa pe pb pv pk pu pw pq pt unc fwc ek ef ew ep es n sy dn kf fk i 3 k3 (by omega) (hkv) (by omega) (hkd.2.2.2.1)) ⟨(callB_of 1 hts (gG kw_365) rfl rfl rfl (hts _ (gw kw_11 rfl)) (hts _ (gw kw_362 rfl)) hd_X9_kindOf ⟨Nat.le_of_ble_eq_true rfl, Nat.le_of_ble_eq_true rfl⟩), (hts _ (gw kw_364 rfl)), (hts _ (gw ks_8 rfl))⟩ ⟨fb_std, va_recv (q := (RX9, TX9, 14)) hK hPc (ci := 9) (q0 := 0) rfl rfl, pre_std hPc hK hDc hN⟩ rfl rfl hl.1 rfl (lv_room (Nat.le_of_ble_eq_true rfl)) dX9_solve_39 ⟨Nat.le_of_ble_eq_true rfl, Nat.le_of_ble_eq_true rfl⟩) hS (fun q _ h => hFc q h) hFc (fun u9 q_49 t9 H1 locs ht hvm hw_49 hB hz1 hk1 hS => ?_)
            obtain ⟨q_49_e, hP1, hK1, hD1⟩ := hB
            rw [ht] at hP1
            clear hK1
            try dsimp only at hw_49
            have hpd9 : PDx (dC, dI) classes A H1 (wp [cI aC ew 8 wf, cI aC pa 8 yc, cI aC pe 8 ec, cI aC pb 8 f_9, cI aC pu 7 uc, cI aC pw 7 vc, cI aC pq 128 qc, cI aC pt 128 tc, cI aC ef 8 ff, cA aC pp 8 fp, cA aC ps 8 fs, cO k0 0 [], cO k1 1 [], cO k2 3 [], cO k3 5 [], cO k4 6 [], cO k5 10 [], cO k6 8 [], cI aC es 5 stf, cA aC po 8 fo, oX9 h1 po pp ps pa pe pb pv pk pu pw pq pt unc fwc, oX4 pv ek ef ew ep es (nI n) sy dn, cI aC ek 8 kf, cK aC pk 7 fk] (va_pl L (plE aC u_7))) := jn_Q (wr := [cI aC ew 8 wf, cI aC pa 8 yc, cI aC pe 8 ec, cI aC pb 8 f_9, cI aC pu 7 uc, cI aC pw 7 vc, cI aC pq 128 qc, cI aC pt 128 tc, cI aC ef 8 ff, cA aC pp 8 fp, cA aC ps 8 fs, cO k0 0 [], cO k1 1 [], cO k2 3 [], cO k3 5 [], cO k4 6 [], cO k5 10 [], cO k6 8 [], cI aC es 5 stf, cA aC po 8 fo]) hFc hk1 hP1 hD1 hP hD [20, 21, 8, 12] [0, 1, 2, 3, 4, 5, 6, 7, 9, 10, 11, 13, 14, 15, 16, 17, 18, 19, 22, 23] rfl rfl (by decide) (by decide)
            have hP := hpd9.1
            have hD := hpd9.2
            clear hpd9
            generalize H1 = H at hP hS ⊢
            clear hPc hDc hFc hz1 hk1 hP1 hD1 ht hvm
            have h9 := q_49_e.symm
            subst h9
            refine lv_aload_n hx hb dX9_solve_42 rfl (lv_at hl 0 rfl) ?_
            refine lv_iload_n hx hb dX9_solve_43 rfl (lv_at hl 2 rfl) ?_
            have hpd9 := pdf_P (cx := [oX9 h1 po pp ps pa pe pb pv pk pu pw pq pt unc fwc, oX4 pv ek ef ew ep es (nI n) sy dn, cI aC es 5 stf, cA aC po 8 fo]) hP hD hS hA [20, 21, 18, 19] (by decide) rfl
            have hPc := hpd9.1
            have hDc := hpd9.2.1
            have hFc := hpd9.2.2
            clear hpd9
            refine va_callv (va_runU (As := [Value.ref h1, Value.int (nI i)]) (rest := []) ⟨hx, hb, hml, hown, hts⟩ (c_X5_tell l dC dI aC H.size k3 h1 po pp ps pa pe pb pv pk pu pw pq pt unc fwc ek ef ew ep es n sy dn stf L u_7 fo fp fs ro rp rs i cq (KO cq i) (hgr) (⟨hin, hn8⟩) (hev.2.2.1) (hev.2.1) (hO1) (KO_le hev.2.1)) (va_cwO (owner := "EldestSays$Clever") 2 hts (gcons (gw kw_400 rfl) (gcons (gw kw_403 rfl) (gcons (gw kw_401 rfl) (gcons (gw kw_406 rfl) (gcons (gw kw_407 rfl) (gcons (gw kw_7 rfl) (gG kw_408))))))) rfl rfl rfl (gw kw_437 rfl) (by decide +kernel) ⟨Nat.le_of_ble_eq_true rfl, Nat.le_of_ble_eq_true rfl⟩) ⟨fb_std, va_recv (q := (RX5, TX5, 0)) hK hP (ci := 5) (q0 := 14) rfl rfl, pre_std hPc hK hDc hN⟩ rfl rfl hl.1 rfl (lv_room (Nat.le_of_ble_eq_true rfl)) dX9_solve_44 ⟨Nat.le_of_ble_eq_true rfl, Nat.le_of_ble_eq_true rfl⟩) hS (fun q _ h => hFc q h) hFc (fun u9 t9 H1 locs ht hvm hw_50 hB hz1 hk1 hS => ?_)
            obtain ⟨u_51, rfl⟩ : ∃ z, z = u9 := ⟨_, rfl⟩
            obtain ⟨hP1, hK1, hD1⟩ := hB
            rw [ht] at hP1
            clear hK1
            try dsimp only at hw_50
            have hpd9 : PDx (dC, dI) classes A H1 (wp [cI aC ew 8 wf, cI aC pa 8 yc, cI aC pe 8 ec, cI aC pb 8 f_9, cI aC pu 7 uc, cI aC pw 7 vc, cI aC pq 128 qc, cI aC pt 128 tc, cI aC ef 8 ff, cA aC pp 8 fp, cA aC ps 8 fs, cO k0 0 [], cO k1 1 [], cO k2 3 [], cO k3 5 [], cO k4 6 [], cO k5 10 [], cO k6 8 [], cI aC ek 8 kf, cK aC pk 7 fk, oX9 h1 po pp ps pa pe pb pv pk pu pw pq pt unc fwc, oX4 pv ek ef ew ep es (nI n) sy dn, cI aC es 5 stf, cA aC po 8 fo] (va_pl L (plE aC u_51))) := jn_P (wr := [cI aC ew 8 wf, cI aC pa 8 yc, cI aC pe 8 ec, cI aC pb 8 f_9, cI aC pu 7 uc, cI aC pw 7 vc, cI aC pq 128 qc, cI aC pt 128 tc, cI aC ef 8 ff, cA aC pp 8 fp, cA aC ps 8 fs, cO k0 0 [], cO k1 1 [], cO k2 3 [], cO k3 5 [], cO k4 6 [], cO k5 10 [], cO k6 8 [], cI aC ek 8 kf, cK aC pk 7 fk]) hFc hk1 hP1 hD1 hP hD [20, 21, 18, 19] [0, 1, 2, 3, 4, 5, 6, 7, 8, 9, 10, 11, 12, 13, 14, 15, 16, 17, 22, 23] rfl rfl (by decide) (by decide)
            have hP := hpd9.1
            have hD := hpd9.2
            clear hpd9
            generalize H1 = H at hP hS ⊢
            clear hPc hDc hFc hz1 hk1 hP1 hD1 ht hvm
            have ht9 := hw_50
            obtain ⟨ht1, ht5⟩ := ht9
            have ho3 := (of_3 (F := F) (n := n) (W := W0) (law := stf 1) (fst := stf 3) (Pq := zP pl i) hkk hbi hev.2.1).2
            obtain ⟨hj1, hj2⟩ := of_fin hpl hin hkle ho3 ht1
            have hj3 := hbo
            have hj4 := ht5
            exact jp_47 unc fwc uc vc qc tc f_9 u_51 (by assumption) (by assumption) (by assumption) (by assumption) _ _ _ (plP hP [0, 1, 2, 3, 4, 5, 6, 7, 18, 8, 9, 10, 19, 11, 12, 13, 14, 15, 16, 17, 20, 21, 22, 23] rfl) (plD hD [0, 1, 2, 3, 4, 5, 6, 7, 18, 8, 9, 10, 19, 11, 12, 13, 14, 15, 16, 17, 20, 21, 22, 23] (by decide) rfl) hS (lv_sub hl [0, 1, 2] rfl)
          · have hkv : kf i = nI 4 := by rw [hkf, hkk]
            have hpd9 := pdf_N (cx := [oX9 h1 po pp ps pa pe pb pv pk pu pw pq pt unc fwc, oX4 pv ek ef ew ep es (nI n) sy dn, cI aC ek 8 kf, cK aC pk 7 fk]) hP hD hS hA [20, 21, 8, 12] (by decide) rfl
            have hPc := hpd9.1
            have hDc := hpd9.2.1
            have hFc := hpd9.2.2
            clear hpd9
            refine va_callr (va_runV (As := [Value.int (nI i)]) (rest := []) ⟨hx, hb, hml, hown, hts⟩ (c_X9_kindOf l dC dI aC H.size h1 po pp ps pa pe pb pv pk pu pw pq pt unc fwc ek ef ew ep es n sy dn kf fk i 4 k4 (by omega) (hkv) (by omega) (hkd.2.2.2.2.1)) ⟨(callB_of 1 hts (gG kw_365) rfl rfl rfl (hts _ (gw kw_11 rfl)) (hts _ (gw kw_362 rfl)) hd_X9_kindOf ⟨Nat.le_of_ble_eq_true rfl, Nat.le_of_ble_eq_true rfl⟩), (hts _ (gw kw_364 rfl)), (hts _ (gw ks_8 rfl))⟩ ⟨fb_std, va_recv (q := (RX9, TX9, 14)) hK hPc (ci := 9) (q0 := 0) rfl rfl, pre_std hPc hK hDc hN⟩ rfl rfl hl.1 rfl (lv_room (Nat.le_of_ble_eq_true rfl)) dX9_solve_39 ⟨Nat.le_of_ble_eq_true rfl, Nat.le_of_ble_eq_true rfl⟩) hS (fun q _ h => hFc q h) hFc (fun u9 q_52 t9 H1 locs ht hvm hw_52 hB hz1 hk1 hS => ?_)
            obtain ⟨q_52_e, hP1, hK1, hD1⟩ := hB
            rw [ht] at hP1
            clear hK1
            try dsimp only at hw_52
            have hpd9 : PDx (dC, dI) classes A H1 (wp [cI aC ew 8 wf, cI aC pa 8 yc, cI aC pe 8 ec, cI aC pb 8 f_9, cI aC pu 7 uc, cI aC pw 7 vc, cI aC pq 128 qc, cI aC pt 128 tc, cI aC ef 8 ff, cA aC pp 8 fp, cA aC ps 8 fs, cO k0 0 [], cO k1 1 [], cO k2 3 [], cO k3 5 [], cO k4 6 [], cO k5 10 [], cO k6 8 [], cI aC es 5 stf, cA aC po 8 fo, oX9 h1 po pp ps pa pe pb pv pk pu pw pq pt unc fwc, oX4 pv ek ef ew ep es (nI n) sy dn, cI aC ek 8 kf, cK aC pk 7 fk] (va_pl L (plE aC u_7))) := jn_Q (wr := [cI aC ew 8 wf, cI aC pa 8 yc, cI aC pe 8 ec, cI aC pb 8 f_9, cI aC pu 7 uc, cI aC pw 7 vc, cI aC pq 128 qc, cI aC pt 128 tc, cI aC ef 8 ff, cA aC pp 8 fp, cA aC ps 8 fs, cO k0 0 [], cO k1 1 [], cO k2 3 [], cO k3 5 [], cO k4 6 [], cO k5 10 [], cO k6 8 [], cI aC es 5 stf, cA aC po 8 fo]) hFc hk1 hP1 hD1 hP hD [20, 21, 8, 12] [0, 1, 2, 3, 4, 5, 6, 7, 9, 10, 11, 13, 14, 15, 16, 17, 18, 19, 22, 23] rfl rfl (by decide) (by decide)
            have hP := hpd9.1
            have hD := hpd9.2
            clear hpd9
            generalize H1 = H at hP hS ⊢
            clear hPc hDc hFc hz1 hk1 hP1 hD1 ht hvm
            have h9 := q_52_e.symm
            subst h9
            refine lv_aload_n hx hb dX9_solve_42 rfl (lv_at hl 0 rfl) ?_
            refine lv_iload_n hx hb dX9_solve_43 rfl (lv_at hl 2 rfl) ?_
            have hpd9 := pdf_P (cx := [oX9 h1 po pp ps pa pe pb pv pk pu pw pq pt unc fwc, oX4 pv ek ef ew ep es (nI n) sy dn, cI aC ef 8 ff, cA aC po 8 fo]) hP hD hS hA [20, 21, 8, 19] (by decide) rfl
            have hPc := hpd9.1
            have hDc := hpd9.2.1
            have hFc := hpd9.2.2
            clear hpd9
            refine va_callv (va_runU (As := [Value.ref h1, Value.int (nI i)]) (rest := []) ⟨hx, hb, hml, hown, hts⟩ (c_X6_tell l dC dI aC H.size k4 h1 po pp ps pa pe pb pv pk pu pw pq pt unc fwc ek ef ew ep es n sy dn L u_7 fo fp fs ro rp rs i (F i) (KO cq i) ff (hgr) (⟨hin, hn8⟩) (by omega) (hO1) (KO_le hev.2.1) (hff)) (va_cwO (owner := "EldestSays$Clever") 2 hts (gcons (gw kw_400 rfl) (gcons (gw kw_403 rfl) (gcons (gw kw_401 rfl) (gcons (gw kw_417 rfl) (gcons (gw kw_418 rfl) (gcons (gw kw_8 rfl) (gG kw_419))))))) rfl rfl rfl (gw kw_437 rfl) (by decide +kernel) ⟨Nat.le_of_ble_eq_true rfl, Nat.le_of_ble_eq_true rfl⟩) ⟨fb_std, va_recv (q := (RX6, TX6, 0)) hK hP (ci := 6) (q0 := 15) rfl rfl, pre_std hPc hK hDc hN⟩ rfl rfl hl.1 rfl (lv_room (Nat.le_of_ble_eq_true rfl)) dX9_solve_44 ⟨Nat.le_of_ble_eq_true rfl, Nat.le_of_ble_eq_true rfl⟩) hS (fun q _ h => hFc q h) hFc (fun u9 t9 H1 locs ht hvm hw_53 hB hz1 hk1 hS => ?_)
            obtain ⟨u_54, rfl⟩ : ∃ z, z = u9 := ⟨_, rfl⟩
            obtain ⟨hP1, hK1, hD1⟩ := hB
            rw [ht] at hP1
            clear hK1
            try dsimp only at hw_53
            have hpd9 : PDx (dC, dI) classes A H1 (wp [cI aC ew 8 wf, cI aC pa 8 yc, cI aC pe 8 ec, cI aC pb 8 f_9, cI aC pu 7 uc, cI aC pw 7 vc, cI aC pq 128 qc, cI aC pt 128 tc, cA aC pp 8 fp, cA aC ps 8 fs, cO k0 0 [], cO k1 1 [], cO k2 3 [], cO k3 5 [], cO k4 6 [], cO k5 10 [], cO k6 8 [], cI aC es 5 stf, cI aC ek 8 kf, cK aC pk 7 fk, oX9 h1 po pp ps pa pe pb pv pk pu pw pq pt unc fwc, oX4 pv ek ef ew ep es (nI n) sy dn, cI aC ef 8 ff, cA aC po 8 fo] (va_pl L (plE aC u_54))) := jn_P (wr := [cI aC ew 8 wf, cI aC pa 8 yc, cI aC pe 8 ec, cI aC pb 8 f_9, cI aC pu 7 uc, cI aC pw 7 vc, cI aC pq 128 qc, cI aC pt 128 tc, cA aC pp 8 fp, cA aC ps 8 fs, cO k0 0 [], cO k1 1 [], cO k2 3 [], cO k3 5 [], cO k4 6 [], cO k5 10 [], cO k6 8 [], cI aC es 5 stf, cI aC ek 8 kf, cK aC pk 7 fk]) hFc hk1 hP1 hD1 hP hD [20, 21, 8, 19] [0, 1, 2, 3, 4, 5, 6, 7, 9, 10, 11, 12, 13, 14, 15, 16, 17, 18, 22, 23] rfl rfl (by decide) (by decide)
            have hP := hpd9.1
            have hD := hpd9.2
            clear hpd9
            generalize H1 = H at hP hS ⊢
            clear hPc hDc hFc hz1 hk1 hP1 hD1 ht hvm
            have ht9 := hw_53
            obtain ⟨ht1, ht5⟩ := ht9
            have ho3 := (of_4 (F := F) (n := n) (W := W0) (law := stf 1) (fst := stf 3) (Pq := zP pl i) hkk hbi hev.2.1 hfle).2
            obtain ⟨hj1, hj2⟩ := of_fin hpl hin hkle ho3 ht1
            have hj3 := hbo
            have hj4 := ht5
            exact jp_47 unc fwc uc vc qc tc f_9 u_54 (by assumption) (by assumption) (by assumption) (by assumption) _ _ _ (plP hP [0, 1, 2, 3, 4, 5, 6, 7, 18, 22, 8, 9, 19, 10, 11, 12, 13, 14, 15, 16, 20, 21, 17, 23] rfl) (plD hD [0, 1, 2, 3, 4, 5, 6, 7, 18, 22, 8, 9, 19, 10, 11, 12, 13, 14, 15, 16, 20, 21, 17, 23] (by decide) rfl) hS (lv_sub hl [0, 1, 2] rfl)
          · have hkv : kf i = nI 5 := by rw [hkf, hkk]
            have hpd9 := pdf_N (cx := [oX9 h1 po pp ps pa pe pb pv pk pu pw pq pt unc fwc, oX4 pv ek ef ew ep es (nI n) sy dn, cI aC ek 8 kf, cK aC pk 7 fk]) hP hD hS hA [20, 21, 8, 12] (by decide) rfl
            have hPc := hpd9.1
            have hDc := hpd9.2.1
            have hFc := hpd9.2.2
            clear hpd9
            refine va_callr (va_runV (As := [Value.int (nI i)]) (rest := []) ⟨hx, hb, hml, hown, hts⟩ (c_X9_kindOf l dC dI aC H.size h1 po pp ps pa pe pb pv pk pu pw pq pt unc fwc ek ef ew ep es n sy dn kf fk i 5 k5 (by omega) (hkv) (by omega) (hkd.2.2.2.2.2.1)) ⟨(callB_of 1 hts (gG kw_365) rfl rfl rfl (hts _ (gw kw_11 rfl)) (hts _ (gw kw_362 rfl)) hd_X9_kindOf ⟨Nat.le_of_ble_eq_true rfl, Nat.le_of_ble_eq_true rfl⟩), (hts _ (gw kw_364 rfl)), (hts _ (gw ks_8 rfl))⟩ ⟨fb_std, va_recv (q := (RX9, TX9, 14)) hK hPc (ci := 9) (q0 := 0) rfl rfl, pre_std hPc hK hDc hN⟩ rfl rfl hl.1 rfl (lv_room (Nat.le_of_ble_eq_true rfl)) dX9_solve_39 ⟨Nat.le_of_ble_eq_true rfl, Nat.le_of_ble_eq_true rfl⟩) hS (fun q _ h => hFc q h) hFc (fun u9 q_55 t9 H1 locs ht hvm hw_55 hB hz1 hk1 hS => ?_)
            obtain ⟨q_55_e, hP1, hK1, hD1⟩ := hB
            rw [ht] at hP1
            clear hK1
            try dsimp only at hw_55
            have hpd9 : PDx (dC, dI) classes A H1 (wp [cI aC ew 8 wf, cI aC pa 8 yc, cI aC pe 8 ec, cI aC pb 8 f_9, cI aC pu 7 uc, cI aC pw 7 vc, cI aC pq 128 qc, cI aC pt 128 tc, cI aC ef 8 ff, cA aC pp 8 fp, cA aC ps 8 fs, cO k0 0 [], cO k1 1 [], cO k2 3 [], cO k3 5 [], cO k4 6 [], cO k5 10 [], cO k6 8 [], cI aC es 5 stf, cA aC po 8 fo, oX9 h1 po pp ps pa pe pb pv pk pu pw pq pt unc fwc, oX4 pv ek ef ew ep es (nI n) sy dn, cI aC ek 8 kf, cK aC pk 7 fk] (va_pl L (plE aC u_7))) := jn_Q (wr := [cI aC ew 8 wf, cI aC pa 8 yc, cI aC pe 8 ec, cI aC pb 8 f_9, cI aC pu 7 uc, cI aC pw 7 vc, cI aC pq 128 qc, cI aC pt 128 tc, cI aC ef 8 ff, cA aC pp 8 fp, cA aC ps 8 fs, cO k0 0 [], cO k1 1 [], cO k2 3 [], cO k3 5 [], cO k4 6 [], cO k5 10 [], cO k6 8 [], cI aC es 5 stf, cA aC po 8 fo]) hFc hk1 hP1 hD1 hP hD [20, 21, 8, 12] [0, 1, 2, 3, 4, 5, 6, 7, 9, 10, 11, 13, 14, 15, 16, 17, 18, 19, 22, 23] rfl rfl (by decide) (by decide)
            have hP := hpd9.1
            have hD := hpd9.2
            clear hpd9
            generalize H1 = H at hP hS ⊢
            clear hPc hDc hFc hz1 hk1 hP1 hD1 ht hvm
            have h9 := q_55_e.symm
            subst h9
            refine lv_aload_n hx hb dX9_solve_42 rfl (lv_at hl 0 rfl) ?_
            refine lv_iload_n hx hb dX9_solve_43 rfl (lv_at hl 2 rfl) ?_
            have hpd9 := pdf_P (cx := [oX9 h1 po pp ps pa pe pb pv pk pu pw pq pt unc fwc, oX4 pv ek ef ew ep es (nI n) sy dn, cI aC ew 8 wf, cI aC es 5 stf, cA aC pp 8 fp, cA aC po 8 fo, cI aC pb 8 f_9, cI aC pu 7 uc, cI aC pw 7 vc, cI aC pq 128 qc, cI aC pt 128 tc]) hP hD hS hA [20, 21, 0, 18, 9, 19, 3, 4, 5, 6, 7] (by decide) rfl
            have hPc := hpd9.1
            have hDc := hpd9.2.1
            have hFc := hpd9.2.2
            clear hpd9
            refine va_callv (va_runU (As := [Value.ref h1, Value.int (nI i)]) (rest := []) ⟨hx, hb, hml, hown, hts⟩ (c_X0_tell l dC dI aC H.size k5 h1 po pp ps pa pe pb pv pk pu pw pq pt unc fwc ek ef ew ep es n sy dn wf stf W0 i cq (KO cq i) (zP pl i) uc vc qc tc f_9 L u_7 fo fp fs ro rp rs (hgr) (HW_of hev) (hin) (⟨hev.2.2.1, hev.2.1⟩) (hO1) (KO_le hev.2.1) (if_pos rfl) (fun q h1 h2 => ⟨hP1q q h1 h2, hPle q h1 h2⟩)) (va_cwU (owner := "EldestSays$Clever") 2 hts (gcons (gw kw_400 rfl) (gcons (gw kw_403 rfl) (gcons (gw kw_436 rfl) (gcons (gw kw_401 rfl) (gcons (gw kw_4 rfl) (gG kw_437)))))) rfl rfl rfl rfl (by decide +kernel) ⟨Nat.le_of_ble_eq_true rfl, Nat.le_of_ble_eq_true rfl⟩) ⟨fb_std, va_recv (q := (RX10, TX10, 0)) hK hP (ci := 10) (q0 := 16) rfl rfl, pre_std hPc hK hDc hN⟩ rfl rfl hl.1 rfl (lv_room (Nat.le_of_ble_eq_true rfl)) dX9_solve_44 ⟨Nat.le_of_ble_eq_true rfl, Nat.le_of_ble_eq_true rfl⟩) hS (fun q _ h => hFc q h) hFc (fun u9 t9 H1 locs ht hvm hw_56 hB hz1 hk1 hS => ?_)
            obtain ⟨u_57, u_58, u_59, u_60, u_61, u_62, u_63, u_64, u_65⟩ := u9
            obtain ⟨hP1, hK1, hD1⟩ := hB
            rw [ht] at hP1
            clear hK1
            try dsimp only at hw_56
            have hpd9 : PDx (dC, dI) classes A H1 (wp [cI aC pa 8 yc, cI aC pe 8 ec, cI aC ef 8 ff, cA aC ps 8 fs, cO k0 0 [], cO k1 1 [], cO k2 3 [], cO k3 5 [], cO k4 6 [], cO k5 10 [], cO k6 8 [], cI aC ek 8 kf, cK aC pk 7 fk, oX9 h1 po pp ps pa pe pb pv pk pu pw pq pt u_57 u_58, oX4 pv ek ef ew ep es (nI n) sy dn, cI aC ew 8 wf, cI aC es 5 stf, cA aC pp 8 fp, cA aC po 8 fo, cI aC pb 8 u_63, cI aC pu 7 u_59, cI aC pw 7 u_60, cI aC pq 128 u_61, cI aC pt 128 u_62] (va_pl L (plE aC u_64))) := jn_P (wr := [cI aC pa 8 yc, cI aC pe 8 ec, cI aC ef 8 ff, cA aC ps 8 fs, cO k0 0 [], cO k1 1 [], cO k2 3 [], cO k3 5 [], cO k4 6 [], cO k5 10 [], cO k6 8 [], cI aC ek 8 kf, cK aC pk 7 fk]) hFc hk1 hP1 hD1 hP hD [20, 21, 0, 18, 9, 19, 3, 4, 5, 6, 7] [1, 2, 8, 10, 11, 12, 13, 14, 15, 16, 17, 22, 23] rfl rfl (by decide) (by decide)
            have hP := hpd9.1
            have hD := hpd9.2
            clear hpd9
            generalize H1 = H at hP hS ⊢
            clear hPc hDc hFc hz1 hk1 hP1 hD1 ht hvm
            have ht9 := hw_56
            obtain ⟨ht1, ht2, ht3, ht4, ht5⟩ := ht9
            obtain ⟨O9, ho1, -, ho3⟩ := of_buy (K := K) (F := F) (B := u_63 i) (r2 := u_64 (ro i)) (r1 := u_7 (ro i)) (by omega) ⟨hin, hn8⟩ hev.2.1 ht1 ht2 (fun h => ⟨(ht3 h).1.trans hbi, (ht3 h).2⟩) hO1
            obtain ⟨hj1, hj2⟩ := of_fin hpl hin hkle ho3 ho1
            have hj3 : ∀ q, q ≠ i → u_63 q = bc q := fun q h => (ht4 q h).trans (hbo q h)
            have hj4 := ht5
            exact jp_47 u_57 u_58 u_59 u_60 u_61 u_62 u_63 u_64 (by assumption) (by assumption) (by assumption) (by assumption) _ _ _ (plP hP [15, 0, 1, 19, 20, 21, 22, 23, 11, 2, 17, 3, 12, 4, 5, 6, 7, 8, 9, 10, 13, 14, 16, 18] rfl) (plD hD [15, 0, 1, 19, 20, 21, 22, 23, 11, 2, 17, 3, 12, 4, 5, 6, 7, 8, 9, 10, 13, 14, 16, 18] (by decide) rfl) hS (lv_sub hl [0, 1, 2] rfl)
          · have hkv : kf i = nI 6 := by rw [hkf, hkk]
            have hpd9 := pdf_N (cx := [oX9 h1 po pp ps pa pe pb pv pk pu pw pq pt unc fwc, oX4 pv ek ef ew ep es (nI n) sy dn, cI aC ek 8 kf, cK aC pk 7 fk]) hP hD hS hA [20, 21, 8, 12] (by decide) rfl
            have hPc := hpd9.1
            have hDc := hpd9.2.1
            have hFc := hpd9.2.2
            clear hpd9
            refine va_callr (va_runV (As := [Value.int (nI i)]) (rest := []) ⟨hx, hb, hml, hown, hts⟩ (c_X9_kindOf l dC dI aC H.size h1 po pp ps pa pe pb pv pk pu pw pq pt unc fwc ek ef ew ep es n sy dn kf fk i 6 k6 (by omega) (hkv) (by omega) (hkd.2.2.2.2.2.2)) ⟨(callB_of 1 hts (gG kw_365) rfl rfl rfl (hts _ (gw kw_11 rfl)) (hts _ (gw kw_362 rfl)) hd_X9_kindOf ⟨Nat.le_of_ble_eq_true rfl, Nat.le_of_ble_eq_true rfl⟩), (hts _ (gw kw_364 rfl)), (hts _ (gw ks_8 rfl))⟩ ⟨fb_std, va_recv (q := (RX9, TX9, 14)) hK hPc (ci := 9) (q0 := 0) rfl rfl, pre_std hPc hK hDc hN⟩ rfl rfl hl.1 rfl (lv_room (Nat.le_of_ble_eq_true rfl)) dX9_solve_39 ⟨Nat.le_of_ble_eq_true rfl, Nat.le_of_ble_eq_true rfl⟩) hS (fun q _ h => hFc q h) hFc (fun u9 q_66 t9 H1 locs ht hvm hw_66 hB hz1 hk1 hS => ?_)
            obtain ⟨q_66_e, hP1, hK1, hD1⟩ := hB
            rw [ht] at hP1
            clear hK1
            try dsimp only at hw_66
            have hpd9 : PDx (dC, dI) classes A H1 (wp [cI aC ew 8 wf, cI aC pa 8 yc, cI aC pe 8 ec, cI aC pb 8 f_9, cI aC pu 7 uc, cI aC pw 7 vc, cI aC pq 128 qc, cI aC pt 128 tc, cI aC ef 8 ff, cA aC pp 8 fp, cA aC ps 8 fs, cO k0 0 [], cO k1 1 [], cO k2 3 [], cO k3 5 [], cO k4 6 [], cO k5 10 [], cO k6 8 [], cI aC es 5 stf, cA aC po 8 fo, oX9 h1 po pp ps pa pe pb pv pk pu pw pq pt unc fwc, oX4 pv ek ef ew ep es (nI n) sy dn, cI aC ek 8 kf, cK aC pk 7 fk] (va_pl L (plE aC u_7))) := jn_Q (wr := [cI aC ew 8 wf, cI aC pa 8 yc, cI aC pe 8 ec, cI aC pb 8 f_9, cI aC pu 7 uc, cI aC pw 7 vc, cI aC pq 128 qc, cI aC pt 128 tc, cI aC ef 8 ff, cA aC pp 8 fp, cA aC ps 8 fs, cO k0 0 [], cO k1 1 [], cO k2 3 [], cO k3 5 [], cO k4 6 [], cO k5 10 [], cO k6 8 [], cI aC es 5 stf, cA aC po 8 fo]) hFc hk1 hP1 hD1 hP hD [20, 21, 8, 12] [0, 1, 2, 3, 4, 5, 6, 7, 9, 10, 11, 13, 14, 15, 16, 17, 18, 19, 22, 23] rfl rfl (by decide) (by decide)
            have hP := hpd9.1
            have hD := hpd9.2
            clear hpd9
            generalize H1 = H at hP hS ⊢
            clear hPc hDc hFc hz1 hk1 hP1 hD1 ht hvm
            have h9 := q_66_e.symm
            subst h9
            refine lv_aload_n hx hb dX9_solve_42 rfl (lv_at hl 0 rfl) ?_
            refine lv_iload_n hx hb dX9_solve_43 rfl (lv_at hl 2 rfl) ?_
            have hpd9 := pdf_P (cx := [oX9 h1 po pp ps pa pe pb pv pk pu pw pq pt unc fwc, oX4 pv ek ef ew ep es (nI n) sy dn, cI aC ef 8 ff, cA aC po 8 fo]) hP hD hS hA [20, 21, 8, 19] (by decide) rfl
            have hPc := hpd9.1
            have hDc := hpd9.2.1
            have hFc := hpd9.2.2
            clear hpd9
            refine va_callv (va_runU (As := [Value.ref h1, Value.int (nI i)]) (rest := []) ⟨hx, hb, hml, hown, hts⟩ (c_X8_tell l dC dI aC H.size k6 h1 po pp ps pa pe pb pv pk pu pw pq pt unc fwc ek ef ew ep es n sy dn L u_7 fo fp fs ro rp rs i (F i) (KO cq i) ff (hgr) (⟨hin, hn8⟩) (by omega) (hO1) (KO_le hev.2.1) (hff)) (va_cwO (owner := "EldestSays$Clever") 2 hts (gcons (gw kw_400 rfl) (gcons (gw kw_403 rfl) (gcons (gw kw_401 rfl) (gcons (gw kw_428 rfl) (gcons (gw kw_429 rfl) (gcons (gw kw_10 rfl) (gG kw_430))))))) rfl rfl rfl (gw kw_437 rfl) (by decide +kernel) ⟨Nat.le_of_ble_eq_true rfl, Nat.le_of_ble_eq_true rfl⟩) ⟨fb_std, va_recv (q := (RX8, TX8, 0)) hK hP (ci := 8) (q0 := 17) rfl rfl, pre_std hPc hK hDc hN⟩ rfl rfl hl.1 rfl (lv_room (Nat.le_of_ble_eq_true rfl)) dX9_solve_44 ⟨Nat.le_of_ble_eq_true rfl, Nat.le_of_ble_eq_true rfl⟩) hS (fun q _ h => hFc q h) hFc (fun u9 t9 H1 locs ht hvm hw_67 hB hz1 hk1 hS => ?_)
            obtain ⟨u_68, rfl⟩ : ∃ z, z = u9 := ⟨_, rfl⟩
            obtain ⟨hP1, hK1, hD1⟩ := hB
            rw [ht] at hP1
            clear hK1
            try dsimp only at hw_67
            have hpd9 : PDx (dC, dI) classes A H1 (wp [cI aC ew 8 wf, cI aC pa 8 yc, cI aC pe 8 ec, cI aC pb 8 f_9, cI aC pu 7 uc, cI aC pw 7 vc, cI aC pq 128 qc, cI aC pt 128 tc, cA aC pp 8 fp, cA aC ps 8 fs, cO k0 0 [], cO k1 1 [], cO k2 3 [], cO k3 5 [], cO k4 6 [], cO k5 10 [], cO k6 8 [], cI aC es 5 stf, cI aC ek 8 kf, cK aC pk 7 fk, oX9 h1 po pp ps pa pe pb pv pk pu pw pq pt unc fwc, oX4 pv ek ef ew ep es (nI n) sy dn, cI aC ef 8 ff, cA aC po 8 fo] (va_pl L (plE aC u_68))) := jn_P (wr := [cI aC ew 8 wf, cI aC pa 8 yc, cI aC pe 8 ec, cI aC pb 8 f_9, cI aC pu 7 uc, cI aC pw 7 vc, cI aC pq 128 qc, cI aC pt 128 tc, cA aC pp 8 fp, cA aC ps 8 fs, cO k0 0 [], cO k1 1 [], cO k2 3 [], cO k3 5 [], cO k4 6 [], cO k5 10 [], cO k6 8 [], cI aC es 5 stf, cI aC ek 8 kf, cK aC pk 7 fk]) hFc hk1 hP1 hD1 hP hD [20, 21, 8, 19] [0, 1, 2, 3, 4, 5, 6, 7, 9, 10, 11, 12, 13, 14, 15, 16, 17, 18, 22, 23] rfl rfl (by decide) (by decide)
            have hP := hpd9.1
            have hD := hpd9.2
            clear hpd9
            generalize H1 = H at hP hS ⊢
            clear hPc hDc hFc hz1 hk1 hP1 hD1 ht hvm
            have ht9 := hw_67
            obtain ⟨ht1, ht5⟩ := ht9
            have ho3 := (of_6 (F := F) (n := n) (W := W0) (law := stf 1) (fst := stf 3) (Pq := zP pl i) hkk hbi hev.2.1 hfle).2
            obtain ⟨hj1, hj2⟩ := of_fin hpl hin hkle ho3 ht1
            have hj3 := hbo
            have hj4 := ht5
            exact jp_47 unc fwc uc vc qc tc f_9 u_68 (by assumption) (by assumption) (by assumption) (by assumption) _ _ _ (plP hP [0, 1, 2, 3, 4, 5, 6, 7, 18, 22, 8, 9, 19, 10, 11, 12, 13, 14, 15, 16, 20, 21, 17, 23] rfl) (plD hD [0, 1, 2, 3, 4, 5, 6, 7, 18, 22, 8, 9, 19, 10, 11, 12, 13, 14, 15, 16, 20, 21, 17, 23] (by decide) rfl) hS (lv_sub hl [0, 1, 2] rfl)
  exact lp_10 (n + 1) n x_1 un fw uf vf qf tf bf yf ef0 g (Nat.lt_succ_self _) (Nat.le_refl n) (by rw [e_1, nI_iI, ← iI_1, iI_sub]) (fun i q1 q2 => by omega) (fun a _ => rfl) _ _ _ (plP hP [0, 1, 2, 3, 4, 5, 6, 7, 8, 9, 10, 11, 12, 13, 14, 15, 16, 17, 18, 19, 20, 21, 22, 23] rfl) (plD hD [0, 1, 2, 3, 4, 5, 6, 7, 8, 9, 10, 11, 12, 13, 14, 15, 16, 17, 18, 19, 20, 21, 22, 23] (by decide) rfl) hS (lv_sub hl [1, 2, 0] rfl)

end

section
/-! 44.planex -/
/-! there is a plan for every evening -/
theorem bits_ex (f : Nat → Bool) : ∀ k, k ≤ 32 → ∃ x : Int32, ∀ b, b < 32 → bt x b = (decide (b < k) && f b)
  | 0, _ => ⟨0, fun b _ => by rw [b_0]; simp⟩
  | k + 1, h => by
    obtain ⟨x, hx⟩ := bits_ex f k (by omega)
    have h1 : ∀ k, k < 32 → ∃ y : Int32, ∀ b, b < 32 → bt y b = decide (b = k) := by
      intro k hk
      exact ⟨(1 : Int32) <<< nI k, (by decide +kernel : ∀ k, k < 32 → ∀ b, b < 32 → bt ((1 : Int32) <<< nI k) b = decide (b = k)) k hk⟩
    obtain ⟨y, hy⟩ := h1 k (by omega)
    by_cases e : f k = true
    · refine ⟨x ||| y, fun b hb => ?_⟩
      rw [b_or, hx b hb, hy b hb]
      by_cases e2 : b = k
      · subst e2
        simp [e]
      · have : decide (b < k + 1) = decide (b < k) := decide_eq_decide.mpr ⟨fun q => by omega, fun q => by omega⟩
        rw [this, decide_eq_false e2, Bool.or_false]
    · refine ⟨x, fun b hb => ?_⟩
      rw [hx b hb]
      by_cases e2 : b = k
      · subst e2
        simp [e]
      · have : decide (b < k + 1) = decide (b < k) := decide_eq_decide.mpr ⟨fun q => by omega, fun q => by omega⟩
        rw [this]
theorem bit_ex (f : Nat → Bool) : ∃ x : Int32, ∀ b, b < 32 → bt x b = f b := by
  obtain ⟨x, hx⟩ := bits_ex f 32 (Nat.le_refl _)
  exact ⟨x, fun b hb => by rw [hx b hb, decide_eq_true hb, Bool.true_and]⟩
theorem BST_ex (EN : Nat → Prop) (ct : Nat → Nat) : ∀ x, ∃ bl, BST EN ct x bl
  | 0 => ⟨-9, BST_0⟩
  | x + 1 => by
    obtain ⟨bl, h⟩ := BST_ex EN ct x
    by_cases e : EN x
    · rcases h with ⟨h1, h2⟩ | ⟨b, h1, h2, h3, h4⟩
      · exact ⟨_, BST_first h2 e⟩
      · rcases Nat.lt_or_ge (ct b) (ct x) with q | q
        · exact ⟨_, BST_dear h1 h2 h3 h4 q⟩
        · exact ⟨_, BST_take h1 h4 e q⟩
    · exact ⟨bl, BST_no h e⟩
theorem offer_ex {n : Nat} {K F W : Nat → Nat} {cq : Nat} {law fst : Int32} {i : Nat} {Pq : Nat → Nat} (hi : i < n ∧ n ≤ 8) (hcq : cq ≤ 99) (hF : F i ≤ 9) (hK : K i ≤ 6) : ∃ (O : Nat → Nat) (B : Int32), (∀ q, O q ≤ 99) ∧ OFFER n K F W cq law fst i Pq O B := by
  by_cases hb : K i = 0 ∨ K i = 1 ∨ K i = 2 ∨ K i = 5
  · obtain ⟨rb, h1⟩ := BST_ex (ENf n W law fst i Pq) (cst (fun u => Pq (mu fst n i u))) (2 ^ (n - 1 - i))
    by_cases hc : ∃ b, b < 2 ^ (n - 1 - i) ∧ rb = nI b ∧ cst (fun u => Pq (mu fst n i u)) b ≤ cq
    · obtain ⟨b, hb1, hb2, hb3⟩ := hc
      have hp7 := p2_le (t := n - 1 - i) (by omega)
      obtain ⟨B, hB⟩ := bit_ex (fun q => mb fst n i b (n - 1 - i) q)
      obtain ⟨O, h3, h4, h5⟩ := of_buy (K := K) (F := F) (W := W) (law := law) (cq := cq) (B := B) (r2 := fun q => nI (if q = i then KO cq i i - cst (fun u => Pq (mu fst n i u)) b else if mb fst n i b (n - 1 - i) q = true then Pq q else KO cq i q)) (r1 := fun q => nI (KO cq i q)) hb hi hcq h1
        (fun b' p1 p2 p3 => by
          have e : b = b' := (nI_eq (by omega) (by omega)).mp (hb2.symm.trans p2)
          subst e
          exact ⟨hB, fun q _ => rfl⟩) (fun h => (bc_none (ct := cst (fun u => Pq (mu fst n i u))) (by omega) h hb1 hb2 hb3).elim) (fun q _ => rfl)
      exact ⟨O, B, h4, h5⟩
    · obtain ⟨O, h3, h4, h5⟩ := of_buy (K := K) (F := F) (W := W) (law := law) (cq := cq) (B := -9) (r2 := fun q => nI (KO cq i q)) (r1 := fun q => nI (KO cq i q)) hb hi hcq h1
        (fun b' p1 p2 p3 => absurd ⟨b', p1, p2, p3⟩ hc) (fun h => ⟨rfl, fun q _ => rfl⟩) (fun q _ => rfl)
      exact ⟨O, -9, h4, h5⟩
  · have h3 : K i = 3 ∨ K i = 4 ∨ K i = 6 := by omega
    rcases h3 with e | e | e
    · exact ⟨_, -9, of_3 e rfl hcq⟩
    · exact ⟨_, -9, of_4 e rfl hcq hF⟩
    · exact ⟨_, -9, of_6 e rfl hcq hF⟩
theorem stage_ex {n : Nat} {K F W : Nat → Nat} {cq : Nat} {law tie fst : Int32} {i : Nat} (hi : i < n ∧ n ≤ 8) (hcq : cq ≤ 99) (hF : F i ≤ 9) (hK : K i ≤ 6) (S1 : Nat → Int) (E1 : Int32) (hS : ∀ q, -1 ≤ S1 q ∧ S1 q ≤ 99) :
    ∃ Pq O B Y E S, STAGE n K F W cq law tie fst i S1 E1 Pq O B Y E S ∧ (∀ q, O q ≤ 99) ∧ ∀ q, -1 ≤ S q ∧ S q ≤ 99 := by
  obtain ⟨O, B, h1, h2⟩ := offer_ex (K := K) (F := F) (W := W) (law := law) (fst := fst) (Pq := fun q => pr (K q) (F q) tie (S1 q)) hi hcq hF hK
  obtain ⟨Y, hY⟩ := bit_ex (fun b => decide (b = i ∨ (i < b ∧ b < n ∧ pr (K b) (F b) tie (S1 b) ≤ O b)))
  by_cases hc : CNDs n W law i Y
  · exact ⟨_, O, B, Y, nI i, fun q => O q, ⟨fun q _ _ => rfl, h2, hY, fun _ => ⟨rfl, fun q _ => rfl⟩, fun h => absurd hc h⟩, h1, fun q => by have := h1 q; dsimp only; omega⟩
  · refine ⟨_, O, B, Y, E1, fun q => if q = i then -1 else S1 q, ⟨fun q _ _ => rfl, h2, hY, fun h => absurd h hc, fun _ => ⟨rfl, fun q _ => rfl⟩⟩, h1, fun q => ?_⟩
    have := hS q
    dsimp only
    split <;> omega
theorem plan_ex {n : Nat} {K F W : Nat → Nat} {cq : Nat} {law tie fst : Int32} (hn : n ≤ 8) (hcq : cq ≤ 99) (hF : ∀ j, j < n → F j ≤ 9) (hK : ∀ j, j < n → K j ≤ 6) : ∃ pl, PLAN n K F W cq law tie fst pl := by
  have key : ∀ k, k ≤ n → ∃ pl : PLT, (∀ i, n - k ≤ i → i < n → STAGE n K F W cq law tie fst i (zS pl (i + 1)) (zE pl (i + 1)) (zP pl i) (zO pl i) (zB pl i) (zY pl i) (zE pl i) (zS pl i) ∧ (∀ q, zO pl i q ≤ 99) ∧ ∀ q, -1 ≤ zS pl i q ∧ zS pl i q ≤ 99) ∧ ∀ q, -1 ≤ zS pl (n - k) q ∧ zS pl (n - k) q ≤ 99 := by
    intro k
    induction k with
    | zero => exact fun _ => ⟨(fun _ _ => 0, fun _ _ => 0, fun _ => 0, fun _ => 0, fun _ => 0, fun _ _ => 0), fun i h1 h2 => by omega, fun q => by show (-1 : Int) ≤ 0 ∧ (0 : Int) ≤ 99; omega⟩
    | succ k ih =>
      intro hk
      obtain ⟨pl, h1, h2⟩ := ih (by omega)
      obtain ⟨i, hi⟩ : ∃ i, i = n - (k + 1) := ⟨_, rfl⟩
      have hik : i + 1 = n - k := by omega
      rw [← hik] at h2
      obtain ⟨Pq, O, B, Y, E, S, q1, q2, q3⟩ := stage_ex (n := n) (K := K) (F := F) (W := W) (law := law) (tie := tie) (fst := fst) (i := i) ⟨by omega, hn⟩ hcq (hF i (by omega)) (hK i (by omega)) (zS pl (i + 1)) (zE pl (i + 1)) h2
      refine ⟨(fun j => if j = i then Pq else zP pl j, fun j => if j = i then O else zO pl j, fun j => if j = i then B else zB pl j, fun j => if j = i then Y else zY pl j, fun j => if j = i then E else zE pl j, fun j => if j = i then S else zS pl j), fun j hj1 hj2 => ?_, fun q => ?_⟩
      · show STAGE n K F W cq law tie fst j (if j + 1 = i then S else zS pl (j + 1)) (if j + 1 = i then E else zE pl (j + 1)) (if j = i then Pq else zP pl j) (if j = i then O else zO pl j) (if j = i then B else zB pl j) (if j = i then Y else zY pl j) (if j = i then E else zE pl j) (if j = i then S else zS pl j) ∧ (∀ q, (if j = i then O else zO pl j) q ≤ 99) ∧ ∀ q, -1 ≤ (if j = i then S else zS pl j) q ∧ (if j = i then S else zS pl j) q ≤ 99
        rw [if_neg (by omega : ¬ j + 1 = i), if_neg (by omega : ¬ j + 1 = i)]
        by_cases e : j = i
        · subst e
          simp only [if_true]
          exact ⟨q1, q2, q3⟩
        · simp only [if_neg e]
          exact h1 j (by omega) hj2
      · show -1 ≤ (if n - (k + 1) = i then S else zS pl (n - (k + 1))) q ∧ (if n - (k + 1) = i then S else zS pl (n - (k + 1))) q ≤ 99
        rw [if_pos hi.symm]
        exact q3 q
  obtain ⟨pl, h, -⟩ := key n (Nat.le_refl n)
  exact ⟨pl, fun i hi => h i (by omega) hi⟩

end

section
/-! 45.sets -/
/-! sums over men and over units; sets of men -/
theorem sumr_add {f g : Nat → Nat} {a : Nat} : ∀ {k : Nat}, sumr f a k + sumr g a k = sumr (fun j => f j + g j) a k
  | 0 => rfl
  | k + 1 => by
    show sumr f a k + f (a + k) + (sumr g a k + g (a + k)) = sumr (fun j => f j + g j) a k + (f (a + k) + g (a + k))
    rw [← sumr_add (f := f) (g := g) (a := a) (k := k)]
    omega
theorem sumr_split {f : Nat → Nat} {a k : Nat} : ∀ {d : Nat}, sumr f a (k + d) = sumr f a k + sumr f (a + k) d
  | 0 => rfl
  | d + 1 => by
    show sumr f a (k + d) + f (a + (k + d)) = sumr f a k + (sumr f (a + k) d + f (a + k + d))
    rw [sumr_split (f := f) (a := a) (k := k) (d := d), Nat.add_assoc a k d]
    omega
theorem sumr_cons {f : Nat → Nat} {a k : Nat} : sumr f a (k + 1) = f a + sumr f (a + 1) k := by
  rw [show k + 1 = 1 + k by omega, sumr_split]
  show 0 + f (a + 0) + _ = _
  rw [Nat.zero_add, Nat.add_zero]
theorem sumr_sh {f : Nat → Nat} {a b : Nat} : ∀ {k : Nat}, sumr (fun u => f (a + u)) b k = sumr f (a + b) k
  | 0 => rfl
  | k + 1 => by
    show sumr (fun u => f (a + u)) b k + f (a + (b + k)) = sumr f (a + b) k + f (a + b + k)
    rw [sumr_sh (f := f) (a := a) (b := b) (k := k), Nat.add_assoc]
theorem sumr_rev {f : Nat → Nat} {a : Nat} : ∀ (k : Nat), sumr (fun u => f (a + k - 1 - u)) 0 k = sumr f a k
  | 0 => rfl
  | k + 1 => by
    rw [sumr_cons]
    show f (a + (k + 1) - 1 - 0) + sumr (fun u => f (a + (k + 1) - 1 - u)) 1 k = sumr f a k + f (a + k)
    have h := sumr_sh (f := fun u => f (a + (k + 1) - 1 - u)) (a := 1) (b := 0) (k := k)
    have h2 := sumr_rev (f := f) (a := a) k
    rw [Nat.add_zero] at h
    rw [← h, ← h2, show a + (k + 1) - 1 - 0 = a + k by omega, Nat.add_comm]
    congr 1
    exact sumr_congr (fun j h1 h2 => by congr 1; omega)
theorem sumr_mu {f : Nat → Nat} {fst : Int32} {n i : Nat} (h : i < n) : sumr (fun u => f (mu fst n i u)) 0 (n - 1 - i) = sumr f (i + 1) (n - 1 - i) := by
  unfold mu
  by_cases e : fst = 0
  · simp only [if_pos e]
    rw [← sumr_rev (f := f) (a := i + 1) (n - 1 - i)]
    exact sumr_congr (fun j h1 h2 => by congr 1; omega)
  · simp only [if_neg e]
    exact sumr_sh (f := f) (a := i + 1) (b := 0)
theorem sumr_ext0 {f : Nat → Nat} {a k d : Nat} (h : ∀ j, a + k ≤ j → j < a + k + d → f j = 0) : sumr f a (k + d) = sumr f a k := by
  rw [sumr_split, sumr_zero h, Nat.add_zero]
def num (f : Nat → Bool) : Nat → Nat
  | 0 => 0
  | y + 1 => num f y + (if f y = true then 2 ^ y else 0)
theorem num_lt {f : Nat → Bool} : ∀ y, num f y < 2 ^ y
  | 0 => Nat.one_pos
  | y + 1 => by
    have h := num_lt (f := f) y
    show num f y + (if f y = true then 2 ^ y else 0) < 2 ^ (y + 1)
    rw [Nat.pow_succ]
    split <;> omega
theorem num_bit {f : Nat → Bool} {u : Nat} : ∀ y, (num f y).testBit u = (decide (u < y) && f u)
  | 0 => by show (0 : Nat).testBit u = _; simp
  | y + 1 => by
    have h := num_bit (f := f) (u := u) y
    have hl := num_lt (f := f) y
    show (num f y + (if f y = true then 2 ^ y else 0)).testBit u = _
    by_cases e : f y = true
    · rw [if_pos e, Nat.add_comm]
      rcases Nat.lt_trichotomy u y with q | q | q
      · rw [Nat.testBit_two_pow_add_gt q, h, decide_eq_true q, decide_eq_true (by omega : u < y + 1)]
      · subst q
        rw [Nat.testBit_two_pow_add_eq, Nat.testBit_lt_two_pow hl, decide_eq_true (by omega : u < u + 1), e]
        rfl
      · rw [Nat.testBit_lt_two_pow (Nat.lt_of_lt_of_le (by rw [Nat.pow_succ]; omega : 2 ^ y + num f y < 2 ^ (y + 1)) (Nat.pow_le_pow_right (by omega) q)), decide_eq_false (by omega : ¬ u < y + 1)]
        rfl
    · rw [if_neg e, Nat.add_zero, h]
      by_cases q : u = y
      · subst q
        rw [decide_eq_false (by omega : ¬ u < u), decide_eq_true (by omega : u < u + 1)]
        simp [e]
      · rw [decide_eq_decide.mpr (⟨fun z => by omega, fun z => by omega⟩ : u < y ↔ u < y + 1)]
/-- the units of a set of men; the men of a set of units -/
def us (fst : Int32) (n i s : Nat) : Nat := num (fun u => s.testBit (mu fst n i u)) (n - 1 - i)
def BND (n i s : Nat) : Prop := ∀ q, s.testBit q = true → i < q ∧ q < n
def un (fst : Int32) (n i q : Nat) : Nat := if fst = 0 then n - 1 - q else q - (i + 1)
theorem mu_un {fst : Int32} {n i q : Nat} (h : i < q ∧ q < n) : mu fst n i (un fst n i q) = q ∧ un fst n i q < n - 1 - i := by
  unfold mu un
  by_cases e : fst = 0
  · simp only [if_pos e]; omega
  · simp only [if_neg e]; omega
theorem un_mu {fst : Int32} {n i u : Nat} (h : u < n - 1 - i) : un fst n i (mu fst n i u) = u := by
  unfold mu un
  by_cases e : fst = 0
  · simp only [if_pos e]; omega
  · simp only [if_neg e]; omega
theorem us_lt {fst : Int32} {n i s : Nat} : us fst n i s < 2 ^ (n - 1 - i) := num_lt _
theorem us_bit {fst : Int32} {n i s u : Nat} : (us fst n i s).testBit u = (decide (u < n - 1 - i) && s.testBit (mu fst n i u)) := num_bit _
def ms (fst : Int32) (n i z : Nat) : Nat := num (fun q => decide (i < q) && z.testBit (un fst n i q)) n
theorem ms_bit {fst : Int32} {n i z q : Nat} : (ms fst n i z).testBit q = (decide (q < n) && (decide (i < q) && z.testBit (un fst n i q))) := num_bit _
theorem msl {fst : Int32} {n i z : Nat} : ms fst n i z < 2 ^ n := num_lt _
theorem ms_bnd {fst : Int32} {n i z : Nat} : BND n i (ms fst n i z) := by
  intro q h
  rw [ms_bit] at h
  simp only [Bool.and_eq_true, decide_eq_true_eq] at h
  exact ⟨h.2.1, h.1⟩
theorem us_ms {fst : Int32} {n i z : Nat} (hi : i < n) (h : z < 2 ^ (n - 1 - i)) : us fst n i (ms fst n i z) = z := by
  apply Nat.eq_of_testBit_eq
  intro u
  rw [us_bit, ms_bit]
  by_cases e : u < n - 1 - i
  · have h2 := mu_in (fst := fst) (n := n) (i := i) (u := u) (by omega)
    rw [decide_eq_true e, decide_eq_true h2.1, decide_eq_true h2.2, un_mu e]
    simp
  · have h3 : z.testBit u = false := Nat.testBit_lt_two_pow (Nat.lt_of_lt_of_le h (Nat.pow_le_pow_right (by omega) (by omega)))
    rw [decide_eq_false e, h3]
    rfl
/-- the cost of a set of men -/
def cstm (Pq : Nat → Nat) (n i s : Nat) : Nat := sumr (fun q => if s.testBit q = true then Pq q else 0) (i + 1) (n - 1 - i)
theorem cst_cut {f : Nat → Nat} {s y : Nat} (hs : s < 2 ^ y) (hy : y ≤ 7) : cst f s = sumr (fun u => if s.testBit u = true then f u else 0) 0 y := by
  unfold cst
  rw [show 7 = y + (7 - y) by omega]
  refine sumr_ext0 (fun j h1 h2 => ?_)
  rw [Nat.testBit_lt_two_pow (Nat.lt_of_lt_of_le hs (Nat.pow_le_pow_right (by omega) (by omega)))]
  rfl
theorem cst_us {Pq : Nat → Nat} {fst : Int32} {n i s : Nat} (hi : i < n) (hn : n ≤ 8) : cst (fun u => Pq (mu fst n i u)) (us fst n i s) = cstm Pq n i s := by
  rw [cst_cut us_lt (by omega)]
  unfold cstm
  rw [← sumr_mu (fst := fst) hi]
  refine sumr_congr (fun u h1 h2 => ?_)
  rw [us_bit, decide_eq_true (by omega : u < n - 1 - i), Bool.true_and]
theorem wt_us {W Pq : Nat → Nat} {fst : Int32} {n i s : Nat} {x : Int32} (hi : i < n) (hn : n ≤ 8) (hs : BND n i s) (hx : ∀ q, q < n → bt x q = (decide (q = i) || decide (i < q ∧ Pq q = 0) || s.testBit q)) :
    yw W x 0 n = W i + sumr (frf fst n i Pq W) 0 (n - 1 - i) + cst (uwf fst n i Pq W) (us fst n i s) := by
  rw [cst_cut us_lt (by omega)]
  have e1 : sumr (frf fst n i Pq W) 0 (n - 1 - i) = sumr (fun q => if 0 < Pq q then 0 else W q) (i + 1) (n - 1 - i) := (sumr_mu (f := fun q => if 0 < Pq q then 0 else W q) (fst := fst) hi)
  have e2 : sumr (fun u => if (us fst n i s).testBit u = true then uwf fst n i Pq W u else 0) 0 (n - 1 - i) = sumr (fun q => if s.testBit q = true then (if 0 < Pq q then W q else 0) else 0) (i + 1) (n - 1 - i) := by
    rw [← sumr_mu (fst := fst) hi]
    refine sumr_congr (fun u h1 h2 => ?_)
    rw [us_bit, decide_eq_true (by omega : u < n - 1 - i), Bool.true_and]
    rfl
  rw [e1, e2, Nat.add_assoc, sumr_add]
  unfold yw
  have e3 : n = i + (1 + (n - 1 - i)) := by omega
  have e4 : sumr (fun j => if bt x j = true then W j else 0) 0 n = sumr (fun j => if bt x j = true then W j else 0) 0 (i + (1 + (n - 1 - i))) := congrArg _ e3
  rw [e4, sumr_split, sumr_split, sumr_zero (fun j h1 h2 => ?_)]
  · show 0 + (0 + (if bt x (0 + i + 0) = true then W (0 + i + 0) else 0) + sumr _ (0 + i + 1) (n - 1 - i)) = _
    rw [show 0 + i + 0 = i by omega, show 0 + i + 1 = i + 1 by omega, hx i hi, decide_eq_true (rfl : i = i)]
    simp only [Bool.true_or, if_true, Nat.zero_add]
    congr 1
    refine sumr_congr (fun q h1 h2 => ?_)
    rw [hx q (by omega), decide_eq_false (by omega : ¬ q = i), Bool.false_or]
    by_cases e5 : Pq q = 0
    · rw [decide_eq_true (⟨by omega, e5⟩ : i < q ∧ Pq q = 0), if_neg (by omega : ¬ 0 < Pq q), if_neg (by omega : ¬ 0 < Pq q)]
      simp
    · rw [decide_eq_false (fun z => e5 z.2 : ¬ (i < q ∧ Pq q = 0)), if_pos (by omega : 0 < Pq q), if_pos (by omega : 0 < Pq q), Bool.false_or, Nat.zero_add]
  · rw [hx j (by omega), decide_eq_false (by omega : ¬ j = i), decide_eq_false (by omega : ¬ (i < j ∧ Pq j = 0))]
    have : s.testBit j = false := Bool.eq_false_iff.mpr (fun z => by have := hs j z; omega)
    rw [this]
    rfl
theorem yw_from {W : Nat → Nat} {y : Int32} {i n : Nat} (hi : i ≤ n) (h : ∀ q, q < i → bt y q = false) : yw W y 0 n = yw W y i (n - i) := by
  unfold yw
  have e3 : n = i + (n - i) := by omega
  have e4 : sumr (fun j => if bt y j = true then W j else 0) 0 n = sumr (fun j => if bt y j = true then W j else 0) 0 (i + (n - i)) := congrArg _ e3
  rw [e4, sumr_split, sumr_zero (fun j _ h2 => by rw [h j (by omega)]; rfl), Nat.zero_add, Nat.zero_add]
theorem yw_left {W : Nat → Nat} {y : Int32} {i n : Nat} (hi : i ≤ n) (hn : n ≤ 8) (h : ∀ b, b < 32 → bt y b = decide (i ≤ b ∧ b < n)) : yw W y 0 n = sumr W i (n - i) := by
  rw [yw_from hi (fun q hq => by rw [h q (by omega), decide_eq_false (by omega)])]
  refine sumr_congr (fun j h1 h2 => ?_)
  rw [h j (by omega), decide_eq_true (by omega)]
  rfl
theorem left_bits : ∀ n, n < 9 → ∀ i, i < n + 1 → ∀ b, b < 32 → bt ((1 : Int32) <<< (nI n &&& 31) - (1 : Int32) <<< (nI i &&& 31)) b = decide (i ≤ b ∧ b < n) := by decide +kernel
theorem lt_tb {x y : Nat} (i : Nat) (hx : x.testBit i = false) (hy : y.testBit i = true) (h : ∀ j, i < j → x.testBit j = y.testBit j) : x < y := by
  have h1 : x / 2 ^ (i + 1) = y / 2 ^ (i + 1) := by
    apply Nat.eq_of_testBit_eq
    intro u
    rw [Nat.testBit_div_two_pow, Nat.testBit_div_two_pow]
    exact h _ (by omega)
  rw [Nat.testBit_eq_decide_div_mod_eq] at hx hy
  have hx := of_decide_eq_false hx
  have hy := of_decide_eq_true hy
  rw [Nat.pow_succ, ← Nat.div_div_eq_div_mul, ← Nat.div_div_eq_div_mul] at h1
  rcases Nat.lt_or_ge x y with q | q
  · exact q
  · have := Nat.div_le_div_right (c := 2 ^ i) q
    omega
/-- who of two sets of men is ahead: the one with the greater units -/
theorem ah_lt {fst : Int32} {n i x y q : Nat} (hq : i < q ∧ q < n) (hx : x.testBit q = false) (hy : y.testBit q = true) (h : ∀ p, i < p → p < n → (if fst = 0 then p < q else q < p) → x.testBit p = y.testBit p) : us fst n i x < us fst n i y := by
  have hm := mu_un (fst := fst) hq
  refine lt_tb (un fst n i q) ?_ ?_ ?_
  · rw [us_bit, hm.1, hx, Bool.and_false]
  · rw [us_bit, hm.1, hy, decide_eq_true hm.2]; rfl
  · intro u hu
    rw [us_bit, us_bit]
    by_cases e : u < n - 1 - i
    · have h2 := mu_in (fst := fst) (n := n) (i := i) (u := u) (by omega)
      rw [h (mu fst n i u) h2.1 h2.2]
      unfold un at hu
      unfold mu
      by_cases e2 : fst = 0
      · rw [if_pos e2] at hu ⊢
        rw [if_pos e2]
        omega
      · rw [if_neg e2] at hu ⊢
        rw [if_neg e2]
        omega
    · rw [decide_eq_false e]; rfl
theorem ah_eq {fst : Int32} {n i x y : Nat} (hi : i < n) (h : ∀ p, i < p → p < n → x.testBit p = y.testBit p) : us fst n i x = us fst n i y := by
  apply Nat.eq_of_testBit_eq
  intro u
  rw [us_bit, us_bit]
  by_cases e : u < n - 1 - i
  · have h2 := mu_in (fst := fst) (n := n) (i := i) (u := u) (by omega)
    rw [h _ h2.1 h2.2]
  · rw [decide_eq_false e]; rfl
/-- the best of the sets of men below x -/
def BSM (C : Nat → Prop) (ct u : Nat → Nat) (x : Nat) (bl : Int32) : Prop := (bl = -9 ∧ ∀ z, z < x → ¬ C z) ∨ ∃ b, b < x ∧ bl = nI b ∧ C b ∧ ∀ z, z < x → C z → ct b < ct z ∨ (ct b = ct z ∧ u z ≤ u b)
theorem BSM_0 {C : Nat → Prop} {ct u : Nat → Nat} : BSM C ct u 0 (-9) := Or.inl ⟨rfl, fun z h => absurd h (Nat.not_lt_zero z)⟩
theorem BSM_no {C : Nat → Prop} {ct u : Nat → Nat} {x : Nat} {bl : Int32} (h : BSM C ct u x bl) (hx : ¬ C x) : BSM C ct u (x + 1) bl := by
  rcases h with ⟨h1, h2⟩ | ⟨b, h1, h2, h3, h4⟩
  · refine Or.inl ⟨h1, fun z hz => ?_⟩
    by_cases e : z = x
    · rw [e]; exact hx
    · exact h2 z (by omega)
  · refine Or.inr ⟨b, by omega, h2, h3, fun z hz hE => ?_⟩
    by_cases e : z = x
    · rw [e] at hE; exact absurd hE hx
    · exact h4 z (by omega) hE
theorem BSM_dear {C : Nat → Prop} {ct u : Nat → Nat} {x b : Nat} {bl : Int32} (h1 : b < x) (h2 : bl = nI b) (h3 : C b) (h4 : ∀ z, z < x → C z → ct b < ct z ∨ (ct b = ct z ∧ u z ≤ u b)) (hx : ct b < ct x ∨ (ct b = ct x ∧ u x ≤ u b)) : BSM C ct u (x + 1) bl := by
  refine Or.inr ⟨b, by omega, h2, h3, fun z hz hE => ?_⟩
  by_cases e : z = x
  · rw [e]; exact hx
  · exact h4 z (by omega) hE
theorem BSM_first {C : Nat → Prop} {ct u : Nat → Nat} {x : Nat} (h : ∀ z, z < x → ¬ C z) (hx : C x) : BSM C ct u (x + 1) (nI x) := by
  refine Or.inr ⟨x, by omega, rfl, hx, fun z hz hE => ?_⟩
  by_cases e : z = x
  · rw [e]; exact Or.inr ⟨rfl, Nat.le_refl _⟩
  · exact absurd hE (h z (by omega))
theorem BSM_take {C : Nat → Prop} {ct u : Nat → Nat} {x b : Nat} (h4 : ∀ z, z < x → C z → ct b < ct z ∨ (ct b = ct z ∧ u z ≤ u b)) (hx : C x) (hc : ct x < ct b ∨ (ct x = ct b ∧ u b ≤ u x)) : BSM C ct u (x + 1) (nI x) := by
  refine Or.inr ⟨x, by omega, rfl, hx, fun z hz hE => ?_⟩
  by_cases e : z = x
  · rw [e]; exact Or.inr ⟨rfl, Nat.le_refl _⟩
  · rcases h4 z (by omega) hE with h | ⟨h, h'⟩
    · exact Or.inl (by omega)
    · omega
/-- a set of men with which it is carried -/
def CM (n : Nat) (W : Nat → Nat) (law fst : Int32) (i : Nat) (Pq : Nat → Nat) (s : Nat) : Prop := BND n i s ∧ ENf n W law fst i Pq (us fst n i s)
theorem bm_fin {n : Nat} {W : Nat → Nat} {law fst : Int32} {i : Nat} {Pq : Nat → Nat} {bl : Int32} (hi : i < n) (hn : n ≤ 8) (h : BSM (CM n W law fst i Pq) (cstm Pq n i) (us fst n i) (2 ^ n) bl) :
    (bl = -9 ∧ BST (ENf n W law fst i Pq) (cst (fun u => Pq (mu fst n i u))) (2 ^ (n - 1 - i)) (-9)) ∨ ∃ b, b < 2 ^ n ∧ bl = nI b ∧ BND n i b ∧ BST (ENf n W law fst i Pq) (cst (fun u => Pq (mu fst n i u))) (2 ^ (n - 1 - i)) (nI (us fst n i b)) := by
  rcases h with ⟨h1, h2⟩ | ⟨b, h1, h2, h3, h4⟩
  · refine Or.inl ⟨h1, Or.inl ⟨rfl, fun z hz hE => h2 (ms fst n i z) msl ⟨ms_bnd, ?_⟩⟩⟩
    rw [us_ms hi hz]; exact hE
  · refine Or.inr ⟨b, h1, h2, h3.1, Or.inr ⟨us fst n i b, us_lt, rfl, h3.2, fun z hz hE => ?_⟩⟩
    have h5 := h4 (ms fst n i z) msl ⟨ms_bnd, by rw [us_ms hi hz]; exact hE⟩
    rw [← cst_us (fst := fst) hi hn, ← cst_us (fst := fst) hi hn, us_ms hi hz] at h5
    exact h5
theorem mb_us {fst : Int32} {n i b q : Nat} (hi : i < n) (hb : BND n i b) : mb fst n i (us fst n i b) (n - 1 - i) q = b.testBit q := by
  cases h : b.testBit q with
  | true =>
    have h1 := hb q h
    have h2 := mu_un (fst := fst) h1
    unfold mb
    rw [List.any_eq_true]
    refine ⟨un fst n i q, List.mem_range.mpr h2.2, ?_⟩
    rw [us_bit, h2.1, h, decide_eq_true h2.2, decide_eq_true (rfl : q = q)]
    rfl
  | false =>
    rw [Bool.eq_false_iff]
    intro h2
    obtain ⟨u, p1, p2, p3⟩ := mb_ex h2
    rw [us_bit, p3, h, Bool.and_false] at p2
    exact absurd p2 Bool.false_ne_true

end

