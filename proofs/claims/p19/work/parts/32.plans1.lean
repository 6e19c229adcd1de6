set_option maxHeartbeats 1000000 in
set_option maxRecDepth 100000 in
/-- X9_kindOf -/
theorem c_X9_kindOf (l : Launch) (dC : Nat → ClassId) (dI : Nat → Nat → Nat) (aC : Nat → ClassId) (sz : Nat) (h1 : Nat) (po : Nat) (pp : Nat) (ps : Nat) (pa : Nat) (pe : Nat) (pb : Nat) (pv : Nat) (pk : Nat) (pu : Nat) (pw : Nat) (pq : Nat) (pt : Nat) (un : Int32) (fw : Int32) (ek : Nat) (ef : Nat) (ew : Nat) (ep : Nat) (es : Nat) (n : Nat) (sy : Int32) (dn : Int32) (kf : Nat → Int32) (fk : Nat → Option Nat) (j : Nat) (kk : Nat) (ka : Nat) (hj : j < 8) (hkj : kf j = nI kk) (hkk : kk ≤ 6) (hka : fk kk = some ka) : Met l yX9_kindOf (wW yX9_kindOf cX9_kindOf 3 (some (.object "EldestSays$Clever"))) ({ frames := 0, cells := 0, slots := 0, locals := 0 } : Room) (va_Pc [Value.ref h1, Value.int (nI j)] (fun U => U.heap.size = sz ∧ va_P (dC, dI) classes [oX9 h1 po pp ps pa pe pb pv pk pu pw pq pt un fw, oX4 pv ek ef ew ep es (nI n) sy dn, cI aC ek 8 kf, cK aC pk 7 fk] U.heap ∧ va_K (dC, dI) classes (TY aC) U ∧ va_D (fun _ => True) [oX9 h1 po pp ps pa pe pb pv pk pu pw pq pt un fw, oX4 pv ek ef ew ep es (nI n) sy dn, cI aC ek 8 kf, cK aC pk 7 fk] ∧ NX U)) (va_Qr (fun (_ : Unit) => True) (fun (_ : Unit) (ra : Nat) (t : State) => ra = ka ∧ va_P (dC, dI) classes [oX9 h1 po pp ps pa pe pb pv pk pu pw pq pt un fw, oX4 pv ek ef ew ep es (nI n) sy dn, cI aC ek 8 kf, cK aC pk 7 fk] t.heap ∧ va_K (dC, dI) classes (TY aC) t ∧ va_D (va_A [oX9 h1 po pp ps pa pe pb pv pk pu pw pq pt un fw, oX4 pv ek ef ew ep es (nI n) sy dn, cI aC ek 8 kf, cK aC pk 7 fk] sz) [oX9 h1 po pp ps pa pe pb pv pk pu pw pq pt un fw, oX4 pv ek ef ew ep es (nI n) sy dn, cI aC ek 8 kf, cK aC pk 7 fk]) (va_A [oX9 h1 po pp ps pa pe pb pv pk pu pw pq pt un fw, oX4 pv ek ef ew ep es (nI n) sy dn, cI aC ek 8 kf, cK aC pk 7 fk] sz)) 0 0 (va_A [oX9 h1 po pp ps pa pe pb pv pk pu pw pq pt un fw, oX4 pv ek ef ew ep es (nI n) sy dn, cI aC ek 8 kf, cK aC pk 7 fk] sz) := by
  refine Met.ofW (cc := cX9_kindOf) (maxL := 3) (ret := (some (.object "EldestSays$Clever"))) (by decide) rfl ?_
  intro p e s m args below meth c s₁ B hml hv
  obtain ⟨rfl, hsz, hP, hK, hD0, hN⟩ := hv
  have hx := B.exec
  have hb := B.bytes
  have hr := B.returns
  have hts0 := atoms_spec (ws := (wW yX9_kindOf cX9_kindOf 3 (some (.object "EldestSays$Clever")))) B.pre
  have hts : ∀ w9 ∈ lw_G, w9.before ([Value.ref h1, Value.int (nI j)] : List Value).toArray s = true := fun w9 h9 => hts0 w9 (List.mem_cons_of_mem _ h9)
  have hown : s.vm.findClass RX9 = some m.cls := findClass_of_methodNamed (x := yX9_kindOf) B.named
  have hlocks := B.notSynchronized
  subst hsz
  have hD := hD0.self (sz := s.heap.size)
  generalize hAe : va_A [oX9 h1 po pp ps pa pe pb pv pk pu pw pq pt un fw, oX4 pv ek ef ew ep es (nI n) sy dn, cI aC ek 8 kf, cK aC pk 7 fk] s.heap.size = A at hD ⊢
  have hA : ∀ q : Nat, s.heap.size ≤ q → A q := fun q h => by rw [← hAe]; exact Or.inr h
  obtain ⟨H, hHe⟩ : ∃ H : Heap, H = s.heap := ⟨_, rfl⟩
  have hS : va_S A s.heap H [] := by rw [hHe]; exact va_S.rf
  have hP : va_P (dC, dI) classes [oX9 h1 po pp ps pa pe pb pv pk pu pw pq pt un fw, oX4 pv ek ef ew ep es (nI n) sy dn, cI aC ek 8 kf, cK aC pk 7 fk] H := by rw [hHe]; exact hP
  have hl := lv_entry ([Value.ref h1, Value.int (nI j)]) (n := 3) (Nat.le_of_ble_eq_true rfl)
  rw [lg_entry_eq]
  generalize (lg_sl ([Value.ref h1, Value.int (nI j)]) ++ List.replicate (3 - (lg_sl ([Value.ref h1, Value.int (nI j)])).length) Slot.unset).toArray = ls at hl ⊢
  have hl : lv_has ls 3 [(0, Value.ref h1), (1, Value.int (nI j))] := hl
  rw [← hHe]
  refine lv_aload_n hx hb dX9_kindOf_0 rfl (lv_at hl 0 rfl) ?_
  refine va_get (D := (dC, dI)) (ci := 9) (v := Value.ref pv) (C := RX9) (T := TX9) (N := 14) hx hb hts inX9 hown hK hP 0 rfl rfl 6 (by decide) (hts _ (gw kw_162 rfl)) (fun _ h9 => h9) rfl dX9_kindOf_1 ?_
  refine va_get (D := (dC, dI)) (ci := 4) (v := Value.ref ek) (C := RX4) (T := TX4) (N := 8) hx hb hts inX4 hown hK hP 1 rfl rfl 0 (by decide) (hts _ (gw kw_33 rfl)) (fun _ h9 => h9) rfl dX9_kindOf_4 ?_
  refine lv_iload_n hx hb dX9_kindOf_7 rfl (lv_at hl 1 rfl) ?_
  have h_1 : vp_in (nI j) 8 := vp_in_nI (by omega) (by omega)
  refine va_iald hx hb hK hP 2 0 rfl rfl h_1 dX9_kindOf_8 ?_
  refine lv_topi (fun x_2 e_2 => ?_)
  have h9 : x_2 = nI kk := by rw [e_2, nI_clamp (by omega)]; exact hkj
  subst h9
  refine lv_istore_n (lv' := [(2, Value.int (nI kk)), (0, Value.ref h1), (1, Value.int (nI j))]) hx hb dX9_kindOf_9 rfl hl (by decide) rfl (fun ls hl => ?_)
  refine lv_aload_n hx hb dX9_kindOf_10 rfl (lv_at hl 1 rfl) ?_
  refine va_get (D := (dC, dI)) (ci := 9) (v := Value.ref pk) (C := RX9) (T := TX9) (N := 14) hx hb hts inX9 hown hK hP 0 rfl rfl 7 (by decide) (hts _ (gw kw_164 rfl)) (fun _ h9 => h9) rfl dX9_kindOf_11 ?_
  refine lv_iload_n hx hb dX9_kindOf_14 rfl (lv_at hl 0 rfl) ?_
  refine lv_if_lt (tgt := 31) hx hb dX9_kindOf_15 (by decide) (fun c_3 => ?_) (fun c_3 => ?_)
  · exact absurd c_3 (nI_pos (by omega))
  · refine lv_iload_n hx hb dX9_kindOf_18 rfl (lv_at hl 0 rfl) ?_
    refine lv_aload_n hx hb dX9_kindOf_19 rfl (lv_at hl 1 rfl) ?_
    refine va_get (D := (dC, dI)) (ci := 9) (v := Value.ref pk) (C := RX9) (T := TX9) (N := 14) hx hb hts inX9 hown hK hP 0 rfl rfl 7 (by decide) (hts _ (gw kw_164 rfl)) (fun _ h9 => h9) rfl dX9_kindOf_20 ?_
    refine va_alen (v := 7) hx hb hK hP 3 3 rfl rfl rfl dX9_kindOf_23 ?_
    refine lv_icmp_ge (tgt := 31) hx hb dX9_kindOf_24 (by decide) (fun c_4 => ?_) (fun c_4 => ?_)
    · exact absurd ((nI_leI (a := 7) (b := kk) (by omega) (by omega)).mp c_4) (by omega)
    · refine lv_iload_n hx hb dX9_kindOf_27 rfl (lv_at hl 0 rfl) ?_
      refine lv_goto (tgt := 32) hx hb dX9_kindOf_28 (by decide) ?_
      have hka9 : fk (nI kk).toNatClampNeg = some ka := by rw [nI_clamp (by omega)]; exact hka
      have h_5 : vp_in (nI kk) 7 := vp_in_nI (by omega) (by omega)
      refine va_aldk (r := ka) hx hb hK hP 3 rfl h_5 (hka9) dX9_kindOf_32 ?_
      have hpd9 := pd_N (cx := [oX9 h1 po pp ps pa pe pb pv pk pu pw pq pt un fw, oX4 pv ek ef ew ep es (nI n) sy dn, cI aC ek 8 kf, cK aC pk 7 fk]) hP hD [0, 1, 2, 3] (by decide) rfl
      have hP9 := hpd9.1
      have hD9 := hpd9.2
      refine W.widen (k := 0) (n := 0) (by omega) (by omega) ?_
      exact W.aret (v := Value.ref ka) hx hb hr (Or.inl ⟨_, rfl⟩) (Or.inr ⟨_, rfl⟩) (fun t ht hW => ⟨⟨(), ka, rfl, trivial, rfl, by rw [ht]; exact hP9, va_K.moved hW.alike hK, hD9⟩, hS.F ht⟩) hS.2.2 dX9_kindOf_33

set_option maxHeartbeats 1000000 in
set_option maxRecDepth 100000 in
/-- X9_askYounger -/
theorem c_X9_askYounger (l : Launch) (dC : Nat → ClassId) (dI : Nat → Nat → Nat) (aC : Nat → ClassId) (sz : Nat) (h1 : Nat) (po : Nat) (pp : Nat) (ps : Nat) (pa : Nat) (pe : Nat) (pb : Nat) (pv : Nat) (pk : Nat) (pu : Nat) (pw : Nat) (pq : Nat) (pt : Nat) (un : Int32) (fw : Int32) (ek : Nat) (ef : Nat) (ew : Nat) (ep : Nat) (es : Nat) (n : Nat) (sy : Int32) (dn : Int32) (kf : Nat → Int32) (ff : Nat → Int32) (wf : Nat → Int32) (stf : Nat → Int32) (K : Nat → Nat) (F : Nat → Nat) (W0 : Nat → Nat) (cq : Nat) (L : List Nat) (g : Nat → Nat → Int32) (fo : Nat → Option Nat) (fp : Nat → Option Nat) (fs : Nat → Option Nat) (ro : Nat → Nat) (rp : Nat → Nat) (rs : Nat → Nat) (fk : Nat → Option Nat) (k0 : Nat) (k1 : Nat) (k2 : Nat) (k3 : Nat) (k4 : Nat) (k5 : Nat) (k6 : Nat) (i : Nat) (S : Nat → Int) (hgr : GRD L fo fp fs ro rp rs) (hev : EVH n K F W0 cq kf ff wf stf) (hkd : KDS fk k0 k1 k2 k3 k4 k5 k6) (hi : i < n) (hSj : ∀ q, i < q → q < n → g (rs (i + 1)) q = iI (S q) ∧ -1 ≤ S q ∧ S q ≤ 99) : Met l yX9_askYounger (wW yX9_askYounger cX9_askYounger 4 (none : Option FieldType)) ({ frames := 3, cells := 0, slots := 0, locals := 71 } : Room) (va_Pc [Value.ref h1, Value.int (nI i)] (fun U => U.heap.size = sz ∧ va_P (dC, dI) classes (wp [oX9 h1 po pp ps pa pe pb pv pk pu pw pq pt un fw, oX4 pv ek ef ew ep es (nI n) sy dn, cI aC ek 8 kf, cI aC ef 8 ff, cI aC es 5 stf, cA aC pp 8 fp, cA aC ps 8 fs, cK aC pk 7 fk, cO k0 0 [], cO k1 1 [], cO k2 3 [], cO k3 5 [], cO k4 6 [], cO k5 10 [], cO k6 8 []] (va_pl L (plE aC g))) U.heap ∧ va_K (dC, dI) classes (TY aC) U ∧ va_D (fun _ => True) (wp [oX9 h1 po pp ps pa pe pb pv pk pu pw pq pt un fw, oX4 pv ek ef ew ep es (nI n) sy dn, cI aC ek 8 kf, cI aC ef 8 ff, cI aC es 5 stf, cA aC pp 8 fp, cA aC ps 8 fs, cK aC pk 7 fk, cO k0 0 [], cO k1 1 [], cO k2 3 [], cO k3 5 [], cO k4 6 [], cO k5 10 [], cO k6 8 []] (va_pl L (plE aC g))) ∧ NX U)) (va_Qv (fun (g2 : Nat → Nat → Int32) => (∀ q, i < q → q < n → g2 (rp i) q = nI (pr (K q) (F q) (stf 2) (S q))) ∧ ∀ a, a ≠ rp i → g2 a = g a) (fun (g2 : Nat → Nat → Int32) (t : State) => va_P (dC, dI) classes (wp [oX9 h1 po pp ps pa pe pb pv pk pu pw pq pt un fw, oX4 pv ek ef ew ep es (nI n) sy dn, cI aC ek 8 kf, cI aC ef 8 ff, cI aC es 5 stf, cA aC pp 8 fp, cA aC ps 8 fs, cK aC pk 7 fk, cO k0 0 [], cO k1 1 [], cO k2 3 [], cO k3 5 [], cO k4 6 [], cO k5 10 [], cO k6 8 []] (va_pl L (plE aC g2))) t.heap ∧ va_K (dC, dI) classes (TY aC) t ∧ va_D (va_A (wp [oX9 h1 po pp ps pa pe pb pv pk pu pw pq pt un fw, oX4 pv ek ef ew ep es (nI n) sy dn, cI aC ek 8 kf, cI aC ef 8 ff, cI aC es 5 stf, cA aC pp 8 fp, cA aC ps 8 fs, cK aC pk 7 fk, cO k0 0 [], cO k1 1 [], cO k2 3 [], cO k3 5 [], cO k4 6 [], cO k5 10 [], cO k6 8 []] (va_pl L (plE aC g))) sz) (wp [oX9 h1 po pp ps pa pe pb pv pk pu pw pq pt un fw, oX4 pv ek ef ew ep es (nI n) sy dn, cI aC ek 8 kf, cI aC ef 8 ff, cI aC es 5 stf, cA aC pp 8 fp, cA aC ps 8 fs, cK aC pk 7 fk, cO k0 0 [], cO k1 1 [], cO k2 3 [], cO k3 5 [], cO k4 6 [], cO k5 10 [], cO k6 8 []] (va_pl L (plE aC g2)))) (va_A (wp [oX9 h1 po pp ps pa pe pb pv pk pu pw pq pt un fw, oX4 pv ek ef ew ep es (nI n) sy dn, cI aC ek 8 kf, cI aC ef 8 ff, cI aC es 5 stf, cA aC pp 8 fp, cA aC ps 8 fs, cK aC pk 7 fk, cO k0 0 [], cO k1 1 [], cO k2 3 [], cO k3 5 [], cO k4 6 [], cO k5 10 [], cO k6 8 []] (va_pl L (plE aC g))) sz)) 0 0 (va_A (wp [oX9 h1 po pp ps pa pe pb pv pk pu pw pq pt un fw, oX4 pv ek ef ew ep es (nI n) sy dn, cI aC ek 8 kf, cI aC ef 8 ff, cI aC es 5 stf, cA aC pp 8 fp, cA aC ps 8 fs, cK aC pk 7 fk, cO k0 0 [], cO k1 1 [], cO k2 3 [], cO k3 5 [], cO k4 6 [], cO k5 10 [], cO k6 8 []] (va_pl L (plE aC g))) sz) := by
  refine Met.ofW (cc := cX9_askYounger) (maxL := 4) (ret := (none : Option FieldType)) (by decide) rfl ?_
  intro p e s m args below meth c s₁ B hml hv
  obtain ⟨rfl, hsz, hP, hK, hD0, hN⟩ := hv
  have hx := B.exec
  have hb := B.bytes
  have hr := B.returns
  have hts0 := atoms_spec (ws := (wW yX9_askYounger cX9_askYounger 4 (none : Option FieldType))) B.pre
  have hts : ∀ w9 ∈ lw_G, w9.before ([Value.ref h1, Value.int (nI i)] : List Value).toArray s = true := fun w9 h9 => hts0 w9 (List.mem_cons_of_mem _ h9)
  have hown : s.vm.findClass RX9 = some m.cls := findClass_of_methodNamed (x := yX9_askYounger) B.named
  have hlocks := B.notSynchronized
  subst hsz
  have hD := hD0.self (sz := s.heap.size)
  generalize hAe : va_A (wp [oX9 h1 po pp ps pa pe pb pv pk pu pw pq pt un fw, oX4 pv ek ef ew ep es (nI n) sy dn, cI aC ek 8 kf, cI aC ef 8 ff, cI aC es 5 stf, cA aC pp 8 fp, cA aC ps 8 fs, cK aC pk 7 fk, cO k0 0 [], cO k1 1 [], cO k2 3 [], cO k3 5 [], cO k4 6 [], cO k5 10 [], cO k6 8 []] (va_pl L (plE aC g))) s.heap.size = A at hD ⊢
  have hA : ∀ q : Nat, s.heap.size ≤ q → A q := fun q h => by rw [← hAe]; exact Or.inr h
  obtain ⟨H, hHe⟩ : ∃ H : Heap, H = s.heap := ⟨_, rfl⟩
  have hS : va_S A s.heap H [] := by rw [hHe]; exact va_S.rf
  have hP : va_P (dC, dI) classes (wp [oX9 h1 po pp ps pa pe pb pv pk pu pw pq pt un fw, oX4 pv ek ef ew ep es (nI n) sy dn, cI aC ek 8 kf, cI aC ef 8 ff, cI aC es 5 stf, cA aC pp 8 fp, cA aC ps 8 fs, cK aC pk 7 fk, cO k0 0 [], cO k1 1 [], cO k2 3 [], cO k3 5 [], cO k4 6 [], cO k5 10 [], cO k6 8 []] (va_pl L (plE aC g))) H := by rw [hHe]; exact hP
  have hl := lv_entry ([Value.ref h1, Value.int (nI i)]) (n := 4) (Nat.le_of_ble_eq_true rfl)
  rw [lg_entry_eq]
  generalize (lg_sl ([Value.ref h1, Value.int (nI i)]) ++ List.replicate (4 - (lg_sl ([Value.ref h1, Value.int (nI i)])).length) Slot.unset).toArray = ls at hl ⊢
  have hl : lv_has ls 4 [(0, Value.ref h1), (1, Value.int (nI i))] := hl
  rw [← hHe]
  have hn8 := hev.1
  refine lv_iload_n hx hb dX9_askYounger_0 rfl (lv_at hl 1 rfl) ?_
  refine lv_iconst (v := 1) hx hb dX9_askYounger_1 (by decide) ?_
  refine lv_iadd hx hb dX9_askYounger_2 ?_
  refine lv_topi (fun x_1 e_1 => ?_)
  refine lv_istore_n (lv' := [(2, Value.int x_1), (0, Value.ref h1), (1, Value.int (nI i))]) hx hb dX9_askYounger_3 rfl hl (by decide) rfl (fun ls hl => ?_)
  have h9 : x_1 = nI (i + 1) := by rw [e_1, nI_1]
  subst h9
  have lp_4 : ∀ (fu : Nat) (j : Nat) (gc : Nat → Nat → Int32) (hfu : n - j < fu) (hj : i < j ∧ j ≤ n) (hg1 : ∀ q, i < q → q < j → gc (rp i) q = nI (pr (K q) (F q) (stf 2) (S q))) (hg2 : ∀ a, a ≠ rp i → gc a = g a) (H : Heap) (locs : List Loc) (ls : Array Slot), va_P (dC, dI) classes (wp [oX9 h1 po pp ps pa pe pb pv pk pu pw pq pt un fw, oX4 pv ek ef ew ep es (nI n) sy dn, cI aC ek 8 kf, cI aC ef 8 ff, cI aC es 5 stf, cA aC pp 8 fp, cA aC ps 8 fs, cK aC pk 7 fk, cO k0 0 [], cO k1 1 [], cO k2 3 [], cO k3 5 [], cO k4 6 [], cO k5 10 [], cO k6 8 []] (va_pl L (plE aC gc))) H → va_D A (wp [oX9 h1 po pp ps pa pe pb pv pk pu pw pq pt un fw, oX4 pv ek ef ew ep es (nI n) sy dn, cI aC ek 8 kf, cI aC ef 8 ff, cI aC es 5 stf, cA aC pp 8 fp, cA aC ps 8 fs, cK aC pk 7 fk, cO k0 0 [], cO k1 1 [], cO k2 3 [], cO k3 5 [], cO k4 6 [], cO k5 10 [], cO k6 8 []] (va_pl L (plE aC gc))) → va_S A s.heap H locs → lv_has ls 4 [(0, Value.ref h1), (1, Value.int (nI i)), (2, Value.int (nI j))] → W p l e (headSpec (wW yX9_askYounger cX9_askYounger 4 (none : Option FieldType)) ({ frames := 3, cells := 0, slots := 0, locals := 71 } : Room)).room s m ([Value.ref h1, Value.int (nI i)] : List Value).toArray below meth c H locs 0 0 (MQ below (va_Qv (fun (g2 : Nat → Nat → Int32) => (∀ q, i < q → q < n → g2 (rp i) q = nI (pr (K q) (F q) (stf 2) (S q))) ∧ ∀ a, a ≠ rp i → g2 a = g a) (fun (g2 : Nat → Nat → Int32) (t : State) => va_P (dC, dI) classes (wp [oX9 h1 po pp ps pa pe pb pv pk pu pw pq pt un fw, oX4 pv ek ef ew ep es (nI n) sy dn, cI aC ek 8 kf, cI aC ef 8 ff, cI aC es 5 stf, cA aC pp 8 fp, cA aC ps 8 fs, cK aC pk 7 fk, cO k0 0 [], cO k1 1 [], cO k2 3 [], cO k3 5 [], cO k4 6 [], cO k5 10 [], cO k6 8 []] (va_pl L (plE aC g2))) t.heap ∧ va_K (dC, dI) classes (TY aC) t ∧ va_D A (wp [oX9 h1 po pp ps pa pe pb pv pk pu pw pq pt un fw, oX4 pv ek ef ew ep es (nI n) sy dn, cI aC ek 8 kf, cI aC ef 8 ff, cI aC es 5 stf, cA aC pp 8 fp, cA aC ps 8 fs, cK aC pk 7 fk, cO k0 0 [], cO k1 1 [], cO k2 3 [], cO k3 5 [], cO k4 6 [], cO k5 10 [], cO k6 8 []] (va_pl L (plE aC g2)))) A) ([Value.ref h1, Value.int (nI i)] : List Value).toArray s 0 0 A) (F0 m 4 ls []) := by
    intro fu
    induction fu with
    | zero => intro j gc hfu; exact absurd hfu (Nat.not_lt_zero _)
    | succ fu ih_4 =>
      intro j gc hfu hj hg1 hg2 H locs ls hP hD hS hl
      refine lv_iload_n hx hb dX9_askYounger_4 rfl (lv_at hl 2 rfl) ?_
      refine lv_aload_n hx hb dX9_askYounger_5 rfl (lv_at hl 0 rfl) ?_
      refine va_get (D := (dC, dI)) (ci := 9) (v := Value.ref pv) (C := RX9) (T := TX9) (N := 14) hx hb hts inX9 hown hK hP 0 rfl rfl 6 (by decide) (hts _ (gw kw_162 rfl)) (fun _ h9 => h9) rfl dX9_askYounger_6 ?_
      refine va_get (D := (dC, dI)) (ci := 4) (v := Value.int (nI n)) (C := RX4) (T := TX4) (N := 8) hx hb hts inX4 hown hK hP 1 rfl rfl 5 (by decide) (hts _ (gw kw_47 rfl)) (fun _ h9 => h9) rfl dX9_askYounger_9 ?_
      refine lv_icmp_ge (tgt := 67) hx hb dX9_askYounger_12 (by decide) (fun c_2 => ?_) (fun c_2 => ?_)
      · have hjn : j = n := by
          rcases Nat.lt_or_ge j n with q | q
          · exact absurd c_2 (nI_ge q (by omega))
          · omega
        have hpd9 := pd_P (cx := [oX9 h1 po pp ps pa pe pb pv pk pu pw pq pt un fw, oX4 pv ek ef ew ep es (nI n) sy dn, cI aC ek 8 kf, cI aC ef 8 ff, cI aC es 5 stf, cA aC pp 8 fp, cA aC ps 8 fs, cK aC pk 7 fk, cO k0 0 [], cO k1 1 [], cO k2 3 [], cO k3 5 [], cO k4 6 [], cO k5 10 [], cO k6 8 []]) hP hD [0, 1, 2, 3, 4, 5, 6, 7, 8, 9, 10, 11, 12, 13, 14] (by decide) rfl
        have hP9 := hpd9.1
        have hD9 := hpd9.2
        refine W.widen (k := 0) (n := 0) (by omega) (by omega) ?_
        exact W.vret hx hb hr (fun t ht hW => ⟨⟨(gc), rfl, ⟨fun q h1 h2 => hg1 q h1 (by omega), hg2⟩, by rw [ht]; exact hP9, va_K.moved hW.alike hK, hD9⟩, hS.F ht⟩) hS.2.2 dX9_askYounger_67
      · have hlt : j < n := by
          rcases Nat.lt_or_ge j n with q | q
          · exact q
          · exact absurd (nI_le q (by omega)) c_2
        obtain ⟨hs1, hs2⟩ := hSj j hj.1 hlt
        obtain ⟨⟨hkf, hkle⟩, ⟨hff, hfle⟩, -⟩ := hev.2.2.2 j hlt
        refine lv_aload_n hx hb dX9_askYounger_15 rfl (lv_at hl 0 rfl) ?_
        refine va_get (D := (dC, dI)) (ci := 9) (v := Value.ref ps) (C := RX9) (T := TX9) (N := 14) hx hb hts inX9 hown hK hP 0 rfl rfl 2 (by decide) (hts _ (gw kw_154 rfl)) (fun _ h9 => h9) rfl dX9_askYounger_16 ?_
        refine lv_iload_n hx hb dX9_askYounger_19 rfl (lv_at hl 1 rfl) ?_
        refine lv_iconst (v := 1) hx hb dX9_askYounger_20 (by decide) ?_
        refine lv_iadd hx hb dX9_askYounger_21 ?_
        refine lv_topi (fun x_3 e_3 => ?_)
        have h9 : x_3 = nI (i + 1) := by rw [e_3, nI_1]
        subst h9
        have h_4 : vp_in (nI (i + 1)) 8 := by first | exact vp_in_nI (by omega) (by omega) | (unfold vp_in; decide) | (subst_vars; first | (unfold vp_in; decide) | exact vp_in_nI (by omega) (by omega))
        refine va_alda (r := rs (i + 1)) hx hb hK hP 6 rfl h_4 (by rw [nI_clamp (by omega)]; exact (hgr.1 (i + 1) (by omega)).2.2.1) dX9_askYounger_22 ?_
        refine lv_iload_n hx hb dX9_askYounger_23 rfl (lv_at hl 2 rfl) ?_
        have h_5 : vp_in (nI j) 8 := by first | exact vp_in_nI (by omega) (by omega) | (unfold vp_in; decide) | (subst_vars; first | (unfold vp_in; decide) | exact vp_in_nI (by omega) (by omega))
        refine pl_iald hx hb hK hP ((hgr.1 (i + 1) (by omega)).2.2.2) h_5 dX9_askYounger_24 ?_
        refine lv_topi (fun x_6 e_6 => ?_)
        have h9 : x_6 = iI (S j) := by rw [e_6, nI_clamp (by omega), hg2 _ (fun q => (hgr.2 i (i + 1) (by omega) (by omega)).2.2.2.2.2 q.symm)]; exact hs1
        subst h9
        refine lv_istore_n (lv' := [(3, Value.int (iI (S j))), (0, Value.ref h1), (1, Value.int (nI i)), (2, Value.int (nI j))]) hx hb dX9_askYounger_25 rfl hl (by decide) rfl (fun ls hl => ?_)
        refine lv_aload_n hx hb dX9_askYounger_26 rfl (lv_at hl 1 rfl) ?_
        refine va_get (D := (dC, dI)) (ci := 9) (v := Value.ref pp) (C := RX9) (T := TX9) (N := 14) hx hb hts inX9 hown hK hP 0 rfl rfl 1 (by decide) (hts _ (gw kw_152 rfl)) (fun _ h9 => h9) rfl dX9_askYounger_27 ?_
        refine lv_iload_n hx hb dX9_askYounger_30 rfl (lv_at hl 2 rfl) ?_
        have h_7 : vp_in (nI i) 8 := by first | exact vp_in_nI (by omega) (by omega) | (unfold vp_in; decide) | (subst_vars; first | (unfold vp_in; decide) | exact vp_in_nI (by omega) (by omega))
        refine va_alda (r := rp i) hx hb hK hP 5 rfl h_7 (by rw [nI_clamp (by omega)]; exact (hgr.1 i (by omega)).2.1.1) dX9_askYounger_31 ?_
        refine lv_iload_n hx hb dX9_askYounger_32 rfl (lv_at hl 3 rfl) ?_
        rcases le6 hkle with hkk | hkk | hkk | hkk | hkk | hkk | hkk
        · have hkv : kf j = nI 0 := by rw [hkf, hkk]
          refine lv_aload_n hx hb dX9_askYounger_33 rfl (lv_at hl 1 rfl) ?_
          refine lv_iload_n hx hb dX9_askYounger_34 rfl (lv_at hl 3 rfl) ?_
          have hpd9 := pdf_N (cx := [oX9 h1 po pp ps pa pe pb pv pk pu pw pq pt un fw, oX4 pv ek ef ew ep es (nI n) sy dn, cI aC ek 8 kf, cK aC pk 7 fk]) hP hD hS hA [0, 1, 2, 7] (by decide) rfl
          have hPc := hpd9.1
          have hDc := hpd9.2.1
          have hFc := hpd9.2.2
          clear hpd9
          refine va_callr (va_runV (As := [Value.int (nI j)]) (rest := [Value.int (nI j), Value.ref (rp i)]) ⟨hx, hb, hml, hown, hts⟩ (c_X9_kindOf l dC dI aC H.size h1 po pp ps pa pe pb pv pk pu pw pq pt un fw ek ef ew ep es n sy dn kf fk j 0 k0 (by omega) (hkv) (by omega) (hkd.1)) ⟨(callB_of 1 hts (gG kw_365) rfl rfl rfl (hts _ (gw kw_11 rfl)) (hts _ (gw kw_362 rfl)) hd_X9_kindOf ⟨Nat.le_of_ble_eq_true rfl, Nat.le_of_ble_eq_true rfl⟩), (hts _ (gw kw_364 rfl)), (hts _ (gw ks_8 rfl))⟩ ⟨fb_std, va_recv (q := (RX9, TX9, 14)) hK hPc (ci := 9) (q0 := 0) rfl rfl, pre_std hPc hK hDc hN⟩ rfl rfl hl.1 rfl (lv_room (Nat.le_of_ble_eq_true rfl)) dX9_askYounger_35 ⟨Nat.le_of_ble_eq_true rfl, Nat.le_of_ble_eq_true rfl⟩) hS (fun q _ h => hFc q h) hFc (fun u9 q_8 t9 H1 locs ht hvm hw_8 hB hz1 hk1 hS => ?_)
          obtain ⟨q_8_e, hP1, hK1, hD1⟩ := hB
          rw [ht] at hP1
          clear hK1
          try dsimp only at hw_8
          have hpd9 : PDx (dC, dI) classes A H1 (wp [cI aC ef 8 ff, cI aC es 5 stf, cA aC pp 8 fp, cA aC ps 8 fs, cO k0 0 [], cO k1 1 [], cO k2 3 [], cO k3 5 [], cO k4 6 [], cO k5 10 [], cO k6 8 [], oX9 h1 po pp ps pa pe pb pv pk pu pw pq pt un fw, oX4 pv ek ef ew ep es (nI n) sy dn, cI aC ek 8 kf, cK aC pk 7 fk] (va_pl L (plE aC gc))) := jn_Q (wr := [cI aC ef 8 ff, cI aC es 5 stf, cA aC pp 8 fp, cA aC ps 8 fs, cO k0 0 [], cO k1 1 [], cO k2 3 [], cO k3 5 [], cO k4 6 [], cO k5 10 [], cO k6 8 []]) hFc hk1 hP1 hD1 hP hD [0, 1, 2, 7] [3, 4, 5, 6, 8, 9, 10, 11, 12, 13, 14] rfl rfl (by decide) (by decide)
          have hP := hpd9.1
          have hD := hpd9.2
          clear hpd9
          generalize H1 = H at hP hS ⊢
          clear hPc hDc hFc hz1 hk1 hP1 hD1 ht hvm
          have h9 := q_8_e.symm
          subst h9
          refine lv_iload_n hx hb dX9_askYounger_38 rfl (lv_at hl 0 rfl) ?_
          refine lv_aload_n hx hb dX9_askYounger_39 rfl (lv_at hl 1 rfl) ?_
          refine va_get (D := (dC, dI)) (ci := 9) (v := Value.ref pv) (C := RX9) (T := TX9) (N := 14) hx hb hts inX9 hown hK hP 11 rfl rfl 6 (by decide) (hts _ (gw kw_162 rfl)) (fun _ h9 => h9) rfl dX9_askYounger_40 ?_
          refine va_get (D := (dC, dI)) (ci := 4) (v := Value.ref ef) (C := RX4) (T := TX4) (N := 8) hx hb hts inX4 hown hK hP 12 rfl rfl 1 (by decide) (hts _ (gw kw_36 rfl)) (fun _ h9 => h9) rfl dX9_askYounger_43 ?_
          refine lv_iload_n hx hb dX9_askYounger_46 rfl (lv_at hl 3 rfl) ?_
          have h_9 : vp_in (nI j) 8 := by first | exact vp_in_nI (by omega) (by omega) | (unfold vp_in; decide) | (subst_vars; first | (unfold vp_in; decide) | exact vp_in_nI (by omega) (by omega))
          refine va_iald hx hb hK hP 0 0 rfl rfl h_9 dX9_askYounger_47 ?_
          refine lv_topi (fun x_10 e_10 => ?_)
          have h9 : x_10 = nI (F j) := by rw [e_10, nI_clamp (by omega)]; exact hff
          subst h9
          refine lv_aload_n hx hb dX9_askYounger_48 rfl (lv_at hl 1 rfl) ?_
          refine va_get (D := (dC, dI)) (ci := 9) (v := Value.ref pv) (C := RX9) (T := TX9) (N := 14) hx hb hts inX9 hown hK hP 11 rfl rfl 6 (by decide) (hts _ (gw kw_162 rfl)) (fun _ h9 => h9) rfl dX9_askYounger_49 ?_
          refine va_get (D := (dC, dI)) (ci := 4) (v := Value.ref es) (C := RX4) (T := TX4) (N := 8) hx hb hts inX4 hown hK hP 12 rfl rfl 4 (by decide) (hts _ (gw kw_44 rfl)) (fun _ h9 => h9) rfl dX9_askYounger_52 ?_
          refine lv_iconst (v := 2) hx hb dX9_askYounger_55 (by decide) ?_
          have h_11 : vp_in 2 5 := by first | exact vp_in_nI (by omega) (by omega) | (unfold vp_in; decide) | (subst_vars; first | (unfold vp_in; decide) | exact vp_in_nI (by omega) (by omega))
          refine va_iald hx hb hK hP 1 0 rfl rfl h_11 dX9_askYounger_56 ?_
          refine lv_topi (fun x_12 e_12 => ?_)
          have h9 : x_12 = (stf 2) := by rw [e_12]; rfl
          subst h9
          have hpd9 := pdf_N (cx := []) hP hD hS hA [] (by decide) rfl
          have hPc := hpd9.1
          have hDc := hpd9.2.1
          have hFc := hpd9.2.2
          clear hpd9
          refine va_calli (va_runV (As := [Value.int (iI (S j)), Value.int (nI (F j)), Value.int (stf 2)]) (rest := [Value.int (nI j), Value.ref (rp i)]) ⟨hx, hb, hml, hown, hts⟩ (c_X0_ask l dC dI aC H.size k0 (S j) (F j) (stf 2) (hs2) (hfle)) ⟨(callB_of 3 hts (gG kw_392) rfl rfl rfl (hts _ (gw kw_4 rfl)) (hts _ (gw kw_366 rfl)) hd_X0_ask ⟨Nat.le_of_ble_eq_true rfl, Nat.le_of_ble_eq_true rfl⟩), (hts _ (gw kw_367 rfl)), (hts _ (gw kw_368 rfl))⟩ ⟨fb_std, va_recv (q := (RX0, TX0, 0)) hK hP (ci := 0) (q0 := 4) rfl rfl, pre_std hPc hK hDc hN⟩ rfl rfl hl.1 rfl (lv_room (Nat.le_of_ble_eq_true rfl)) dX9_askYounger_57 ⟨Nat.le_of_ble_eq_true rfl, Nat.le_of_ble_eq_true rfl⟩) hS (fun q _ h => hFc q h) hFc (fun x_13 u9 t9 H1 locs ht hvm hw_13 hB hz1 hk1 hS => ?_)
          obtain ⟨hP1, hK1, hD1⟩ := hB
          rw [ht] at hP1
          clear hK1
          try dsimp only at hw_13
          have hpd9 : PDx (dC, dI) classes A H1 (wp [cI aC ef 8 ff, cI aC es 5 stf, cA aC pp 8 fp, cA aC ps 8 fs, cO k0 0 [], cO k1 1 [], cO k2 3 [], cO k3 5 [], cO k4 6 [], cO k5 10 [], cO k6 8 [], oX9 h1 po pp ps pa pe pb pv pk pu pw pq pt un fw, oX4 pv ek ef ew ep es (nI n) sy dn, cI aC ek 8 kf, cK aC pk 7 fk] (va_pl L (plE aC gc))) := jn_Q (wr := [cI aC ef 8 ff, cI aC es 5 stf, cA aC pp 8 fp, cA aC ps 8 fs, cO k0 0 [], cO k1 1 [], cO k2 3 [], cO k3 5 [], cO k4 6 [], cO k5 10 [], cO k6 8 [], oX9 h1 po pp ps pa pe pb pv pk pu pw pq pt un fw, oX4 pv ek ef ew ep es (nI n) sy dn, cI aC ek 8 kf, cK aC pk 7 fk]) hFc hk1 hP1 hD1 hP hD [] [0, 1, 2, 3, 4, 5, 6, 7, 8, 9, 10, 11, 12, 13, 14] rfl rfl (by decide) (by decide)
          have hP := hpd9.1
          have hD := hpd9.2
          clear hpd9
          generalize H1 = H at hP hS ⊢
          clear hPc hDc hFc hz1 hk1 hP1 hD1 ht hvm
          have h9 : x_13 = nI (pr (K j) (F j) (stf 2) (S j)) := by rw [hw_13]; unfold pr; rw [hkk]; rfl
          subst h9
          have h_14 : vp_in (nI j) 8 := by first | exact vp_in_nI (by omega) (by omega) | (unfold vp_in; decide) | (subst_vars; first | (unfold vp_in; decide) | exact vp_in_nI (by omega) (by omega))
          refine pl_iast hx hb hK hP hD hS ((hgr.1 i (by omega)).2.1.2) h_14 dX9_askYounger_60 (fun H locs hP hD hS => ?_)
          obtain ⟨g_15, e_g_15⟩ : ∃ y : Nat → Nat → Int32, y = va_up gc (rp i) (upd (gc (rp i)) (nI j : Int32).toNatClampNeg (nI (pr (K j) (F j) (stf 2) (S j)))) := ⟨_, rfl⟩
          have hpd9 : PDx (dC, dI) classes A H (wp [cI aC ef 8 ff, cI aC es 5 stf, cA aC pp 8 fp, cA aC ps 8 fs, cO k0 0 [], cO k1 1 [], cO k2 3 [], cO k3 5 [], cO k4 6 [], cO k5 10 [], cO k6 8 [], oX9 h1 po pp ps pa pe pb pv pk pu pw pq pt un fw, oX4 pv ek ef ew ep es (nI n) sy dn, cI aC ek 8 kf, cK aC pk 7 fk] (va_pl L (plE aC g_15))) := by rw [e_g_15]; exact ⟨hP, hD⟩
          have hP := hpd9.1
          have hD := hpd9.2
          clear hpd9
          have hb1 : ∀ q, i < q → q < j + 1 → g_15 (rp i) q = nI (pr (K q) (F q) (stf 2) (S q)) := fun q h1 h2 => by
            rw [e_g_15, nI_clamp (by omega)]
            rw [show ∀ (u : Nat → Int32), va_up gc (rp i) u (rp i) = u from fun u => if_pos rfl]
            by_cases e : q = j
            · rw [e, pk_us]
            · rw [pk_un e]; exact hg1 q h1 (by omega)
          have hb2 : ∀ a, a ≠ rp i → g_15 a = g a := fun a h => by
            rw [e_g_15, show ∀ (u : Nat → Int32), va_up gc (rp i) u a = gc a from fun u => if_neg h]
            exact hg2 a h
          obtain ⟨x_16, e_16⟩ : ∃ y : Int32, y = (nI j) + 1 := ⟨_, rfl⟩
          refine lv_iinc (v := x_16) (lv' := [(2, Value.int x_16), (3, Value.int (iI (S j))), (0, Value.ref h1), (1, Value.int (nI i))]) hx hb dX9_askYounger_61 hl (k := 3) rfl (by rw [e_16]; rfl) (by decide) rfl (fun ls hl => ?_)
          have h9 : x_16 = nI (j + 1) := by rw [e_16, nI_1]
          subst h9
          refine lv_goto (tgt := 4) hx hb dX9_askYounger_64 (by decide) ?_
          exact ih_4 (j + 1) g_15 (ms_lt hlt hfu) (by omega) (hb1) (hb2) _ _ _ (plP hP [11, 12, 13, 0, 1, 2, 3, 14, 4, 5, 6, 7, 8, 9, 10] rfl) (plD hD [11, 12, 13, 0, 1, 2, 3, 14, 4, 5, 6, 7, 8, 9, 10] (by decide) rfl) hS (lv_sub hl [2, 3, 0] rfl)
        · have hkv : kf j = nI 1 := by rw [hkf, hkk]
          refine lv_aload_n hx hb dX9_askYounger_33 rfl (lv_at hl 1 rfl) ?_
          refine lv_iload_n hx hb dX9_askYounger_34 rfl (lv_at hl 3 rfl) ?_
          have hpd9 := pdf_N (cx := [oX9 h1 po pp ps pa pe pb pv pk pu pw pq pt un fw, oX4 pv ek ef ew ep es (nI n) sy dn, cI aC ek 8 kf, cK aC pk 7 fk]) hP hD hS hA [0, 1, 2, 7] (by decide) rfl
          have hPc := hpd9.1
          have hDc := hpd9.2.1
          have hFc := hpd9.2.2
          clear hpd9
          refine va_callr (va_runV (As := [Value.int (nI j)]) (rest := [Value.int (nI j), Value.ref (rp i)]) ⟨hx, hb, hml, hown, hts⟩ (c_X9_kindOf l dC dI aC H.size h1 po pp ps pa pe pb pv pk pu pw pq pt un fw ek ef ew ep es n sy dn kf fk j 1 k1 (by omega) (hkv) (by omega) (hkd.2.1)) ⟨(callB_of 1 hts (gG kw_365) rfl rfl rfl (hts _ (gw kw_11 rfl)) (hts _ (gw kw_362 rfl)) hd_X9_kindOf ⟨Nat.le_of_ble_eq_true rfl, Nat.le_of_ble_eq_true rfl⟩), (hts _ (gw kw_364 rfl)), (hts _ (gw ks_8 rfl))⟩ ⟨fb_std, va_recv (q := (RX9, TX9, 14)) hK hPc (ci := 9) (q0 := 0) rfl rfl, pre_std hPc hK hDc hN⟩ rfl rfl hl.1 rfl (lv_room (Nat.le_of_ble_eq_true rfl)) dX9_askYounger_35 ⟨Nat.le_of_ble_eq_true rfl, Nat.le_of_ble_eq_true rfl⟩) hS (fun q _ h => hFc q h) hFc (fun u9 q_17 t9 H1 locs ht hvm hw_17 hB hz1 hk1 hS => ?_)
          obtain ⟨q_17_e, hP1, hK1, hD1⟩ := hB
          rw [ht] at hP1
          clear hK1
          try dsimp only at hw_17
          have hpd9 : PDx (dC, dI) classes A H1 (wp [cI aC ef 8 ff, cI aC es 5 stf, cA aC pp 8 fp, cA aC ps 8 fs, cO k0 0 [], cO k1 1 [], cO k2 3 [], cO k3 5 [], cO k4 6 [], cO k5 10 [], cO k6 8 [], oX9 h1 po pp ps pa pe pb pv pk pu pw pq pt un fw, oX4 pv ek ef ew ep es (nI n) sy dn, cI aC ek 8 kf, cK aC pk 7 fk] (va_pl L (plE aC gc))) := jn_Q (wr := [cI aC ef 8 ff, cI aC es 5 stf, cA aC pp 8 fp, cA aC ps 8 fs, cO k0 0 [], cO k1 1 [], cO k2 3 [], cO k3 5 [], cO k4 6 [], cO k5 10 [], cO k6 8 []]) hFc hk1 hP1 hD1 hP hD [0, 1, 2, 7] [3, 4, 5, 6, 8, 9, 10, 11, 12, 13, 14] rfl rfl (by decide) (by decide)
          have hP := hpd9.1
          have hD := hpd9.2
          clear hpd9
          generalize H1 = H at hP hS ⊢
          clear hPc hDc hFc hz1 hk1 hP1 hD1 ht hvm
          have h9 := q_17_e.symm
          subst h9
          refine lv_iload_n hx hb dX9_askYounger_38 rfl (lv_at hl 0 rfl) ?_
          refine lv_aload_n hx hb dX9_askYounger_39 rfl (lv_at hl 1 rfl) ?_
          refine va_get (D := (dC, dI)) (ci := 9) (v := Value.ref pv) (C := RX9) (T := TX9) (N := 14) hx hb hts inX9 hown hK hP 11 rfl rfl 6 (by decide) (hts _ (gw kw_162 rfl)) (fun _ h9 => h9) rfl dX9_askYounger_40 ?_
          refine va_get (D := (dC, dI)) (ci := 4) (v := Value.ref ef) (C := RX4) (T := TX4) (N := 8) hx hb hts inX4 hown hK hP 12 rfl rfl 1 (by decide) (hts _ (gw kw_36 rfl)) (fun _ h9 => h9) rfl dX9_askYounger_43 ?_
          refine lv_iload_n hx hb dX9_askYounger_46 rfl (lv_at hl 3 rfl) ?_
          have h_18 : vp_in (nI j) 8 := by first | exact vp_in_nI (by omega) (by omega) | (unfold vp_in; decide) | (subst_vars; first | (unfold vp_in; decide) | exact vp_in_nI (by omega) (by omega))
          refine va_iald hx hb hK hP 0 0 rfl rfl h_18 dX9_askYounger_47 ?_
          refine lv_topi (fun x_19 e_19 => ?_)
          have h9 : x_19 = nI (F j) := by rw [e_19, nI_clamp (by omega)]; exact hff
          subst h9
          refine lv_aload_n hx hb dX9_askYounger_48 rfl (lv_at hl 1 rfl) ?_
          refine va_get (D := (dC, dI)) (ci := 9) (v := Value.ref pv) (C := RX9) (T := TX9) (N := 14) hx hb hts inX9 hown hK hP 11 rfl rfl 6 (by decide) (hts _ (gw kw_162 rfl)) (fun _ h9 => h9) rfl dX9_askYounger_49 ?_
          refine va_get (D := (dC, dI)) (ci := 4) (v := Value.ref es) (C := RX4) (T := TX4) (N := 8) hx hb hts inX4 hown hK hP 12 rfl rfl 4 (by decide) (hts _ (gw kw_44 rfl)) (fun _ h9 => h9) rfl dX9_askYounger_52 ?_
          refine lv_iconst (v := 2) hx hb dX9_askYounger_55 (by decide) ?_
          have h_20 : vp_in 2 5 := by first | exact vp_in_nI (by omega) (by omega) | (unfold vp_in; decide) | (subst_vars; first | (unfold vp_in; decide) | exact vp_in_nI (by omega) (by omega))
          refine va_iald hx hb hK hP 1 0 rfl rfl h_20 dX9_askYounger_56 ?_
          refine lv_topi (fun x_21 e_21 => ?_)
          have h9 : x_21 = (stf 2) := by rw [e_21]; rfl
          subst h9
          have hpd9 := pdf_N (cx := []) hP hD hS hA [] (by decide) rfl
          have hPc := hpd9.1
          have hDc := hpd9.2.1
          have hFc := hpd9.2.2
          clear hpd9
          refine va_calli (va_runU (As := [Value.int (iI (S j)), Value.int (nI (F j)), Value.int (stf 2)]) (rest := [Value.int (nI j), Value.ref (rp i)]) ⟨hx, hb, hml, hown, hts⟩ (c_X1_ask l dC dI aC H.size k1 (S j) (F j) (stf 2) (hs2) (hfle)) (va_cwO (owner := "EldestSays$Clever") 3 hts (gcons (gw kw_366 rfl) (gcons (gw kw_369 rfl) (gcons (gw kw_367 rfl) (gcons (gw kw_370 rfl) (gcons (gw kw_371 rfl) (gcons (gw kw_5 rfl) (gG kw_372))))))) rfl rfl rfl (gw kw_392 rfl) (by decide +kernel) ⟨Nat.le_of_ble_eq_true rfl, Nat.le_of_ble_eq_true rfl⟩) ⟨fb_std, va_recv (q := (RX1, TX1, 0)) hK hP (ci := 1) (q0 := 5) rfl rfl, pre_std hPc hK hDc hN⟩ rfl rfl hl.1 rfl (lv_room (Nat.le_of_ble_eq_true rfl)) dX9_askYounger_57 ⟨Nat.le_of_ble_eq_true rfl, Nat.le_of_ble_eq_true rfl⟩) hS (fun q _ h => hFc q h) hFc (fun x_22 u9 t9 H1 locs ht hvm hw_22 hB hz1 hk1 hS => ?_)
          obtain ⟨hP1, hK1, hD1⟩ := hB
          rw [ht] at hP1
          clear hK1
          try dsimp only at hw_22
          have hpd9 : PDx (dC, dI) classes A H1 (wp [cI aC ef 8 ff, cI aC es 5 stf, cA aC pp 8 fp, cA aC ps 8 fs, cO k0 0 [], cO k1 1 [], cO k2 3 [], cO k3 5 [], cO k4 6 [], cO k5 10 [], cO k6 8 [], oX9 h1 po pp ps pa pe pb pv pk pu pw pq pt un fw, oX4 pv ek ef ew ep es (nI n) sy dn, cI aC ek 8 kf, cK aC pk 7 fk] (va_pl L (plE aC gc))) := jn_Q (wr := [cI aC ef 8 ff, cI aC es 5 stf, cA aC pp 8 fp, cA aC ps 8 fs, cO k0 0 [], cO k1 1 [], cO k2 3 [], cO k3 5 [], cO k4 6 [], cO k5 10 [], cO k6 8 [], oX9 h1 po pp ps pa pe pb pv pk pu pw pq pt un fw, oX4 pv ek ef ew ep es (nI n) sy dn, cI aC ek 8 kf, cK aC pk 7 fk]) hFc hk1 hP1 hD1 hP hD [] [0, 1, 2, 3, 4, 5, 6, 7, 8, 9, 10, 11, 12, 13, 14] rfl rfl (by decide) (by decide)
          have hP := hpd9.1
          have hD := hpd9.2
          clear hpd9
          generalize H1 = H at hP hS ⊢
          clear hPc hDc hFc hz1 hk1 hP1 hD1 ht hvm
          have h9 : x_22 = nI (pr (K j) (F j) (stf 2) (S j)) := by rw [hw_22]; unfold pr; rw [hkk]; rfl
          subst h9
          have h_23 : vp_in (nI j) 8 := by first | exact vp_in_nI (by omega) (by omega) | (unfold vp_in; decide) | (subst_vars; first | (unfold vp_in; decide) | exact vp_in_nI (by omega) (by omega))
          refine pl_iast hx hb hK hP hD hS ((hgr.1 i (by omega)).2.1.2) h_23 dX9_askYounger_60 (fun H locs hP hD hS => ?_)
          obtain ⟨g_24, e_g_24⟩ : ∃ y : Nat → Nat → Int32, y = va_up gc (rp i) (upd (gc (rp i)) (nI j : Int32).toNatClampNeg (nI (pr (K j) (F j) (stf 2) (S j)))) := ⟨_, rfl⟩
          have hpd9 : PDx (dC, dI) classes A H (wp [cI aC ef 8 ff, cI aC es 5 stf, cA aC pp 8 fp, cA aC ps 8 fs, cO k0 0 [], cO k1 1 [], cO k2 3 [], cO k3 5 [], cO k4 6 [], cO k5 10 [], cO k6 8 [], oX9 h1 po pp ps pa pe pb pv pk pu pw pq pt un fw, oX4 pv ek ef ew ep es (nI n) sy dn, cI aC ek 8 kf, cK aC pk 7 fk] (va_pl L (plE aC g_24))) := by rw [e_g_24]; exact ⟨hP, hD⟩
          have hP := hpd9.1
          have hD := hpd9.2
          clear hpd9
          have hb1 : ∀ q, i < q → q < j + 1 → g_24 (rp i) q = nI (pr (K q) (F q) (stf 2) (S q)) := fun q h1 h2 => by
            rw [e_g_24, nI_clamp (by omega)]
            rw [show ∀ (u : Nat → Int32), va_up gc (rp i) u (rp i) = u from fun u => if_pos rfl]
            by_cases e : q = j
            · rw [e, pk_us]
            · rw [pk_un e]; exact hg1 q h1 (by omega)
          have hb2 : ∀ a, a ≠ rp i → g_24 a = g a := fun a h => by
            rw [e_g_24, show ∀ (u : Nat → Int32), va_up gc (rp i) u a = gc a from fun u => if_neg h]
            exact hg2 a h
          obtain ⟨x_25, e_25⟩ : ∃ y : Int32, y = (nI j) + 1 := ⟨_, rfl⟩
          refine lv_iinc (v := x_25) (lv' := [(2, Value.int x_25), (3, Value.int (iI (S j))), (0, Value.ref h1), (1, Value.int (nI i))]) hx hb dX9_askYounger_61 hl (k := 3) rfl (by rw [e_25]; rfl) (by decide) rfl (fun ls hl => ?_)
          have h9 : x_25 = nI (j + 1) := by rw [e_25, nI_1]
          subst h9
          refine lv_goto (tgt := 4) hx hb dX9_askYounger_64 (by decide) ?_
          exact ih_4 (j + 1) g_24 (ms_lt hlt hfu) (by omega) (hb1) (hb2) _ _ _ (plP hP [11, 12, 13, 0, 1, 2, 3, 14, 4, 5, 6, 7, 8, 9, 10] rfl) (plD hD [11, 12, 13, 0, 1, 2, 3, 14, 4, 5, 6, 7, 8, 9, 10] (by decide) rfl) hS (lv_sub hl [2, 3, 0] rfl)
        · have hkv : kf j = nI 2 := by rw [hkf, hkk]
          refine lv_aload_n hx hb dX9_askYounger_33 rfl (lv_at hl 1 rfl) ?_
          refine lv_iload_n hx hb dX9_askYounger_34 rfl (lv_at hl 3 rfl) ?_
          have hpd9 := pdf_N (cx := [oX9 h1 po pp ps pa pe pb pv pk pu pw pq pt un fw, oX4 pv ek ef ew ep es (nI n) sy dn, cI aC ek 8 kf, cK aC pk 7 fk]) hP hD hS hA [0, 1, 2, 7] (by decide) rfl
          have hPc := hpd9.1
          have hDc := hpd9.2.1
          have hFc := hpd9.2.2
          clear hpd9
          refine va_callr (va_runV (As := [Value.int (nI j)]) (rest := [Value.int (nI j), Value.ref (rp i)]) ⟨hx, hb, hml, hown, hts⟩ (c_X9_kindOf l dC dI aC H.size h1 po pp ps pa pe pb pv pk pu pw pq pt un fw ek ef ew ep es n sy dn kf fk j 2 k2 (by omega) (hkv) (by omega) (hkd.2.2.1)) ⟨(callB_of 1 hts (gG kw_365) rfl rfl rfl (hts _ (gw kw_11 rfl)) (hts _ (gw kw_362 rfl)) hd_X9_kindOf ⟨Nat.le_of_ble_eq_true rfl, Nat.le_of_ble_eq_true rfl⟩), (hts _ (gw kw_364 rfl)), (hts _ (gw ks_8 rfl))⟩ ⟨fb_std, va_recv (q := (RX9, TX9, 14)) hK hPc (ci := 9) (q0 := 0) rfl rfl, pre_std hPc hK hDc hN⟩ rfl rfl hl.1 rfl (lv_room (Nat.le_of_ble_eq_true rfl)) dX9_askYounger_35 ⟨Nat.le_of_ble_eq_true rfl, Nat.le_of_ble_eq_true rfl⟩) hS (fun q _ h => hFc q h) hFc (fun u9 q_26 t9 H1 locs ht hvm hw_26 hB hz1 hk1 hS => ?_)
          obtain ⟨q_26_e, hP1, hK1, hD1⟩ := hB
          rw [ht] at hP1
          clear hK1
          try dsimp only at hw_26
          have hpd9 : PDx (dC, dI) classes A H1 (wp [cI aC ef 8 ff, cI aC es 5 stf, cA aC pp 8 fp, cA aC ps 8 fs, cO k0 0 [], cO k1 1 [], cO k2 3 [], cO k3 5 [], cO k4 6 [], cO k5 10 [], cO k6 8 [], oX9 h1 po pp ps pa pe pb pv pk pu pw pq pt un fw, oX4 pv ek ef ew ep es (nI n) sy dn, cI aC ek 8 kf, cK aC pk 7 fk] (va_pl L (plE aC gc))) := jn_Q (wr := [cI aC ef 8 ff, cI aC es 5 stf, cA aC pp 8 fp, cA aC ps 8 fs, cO k0 0 [], cO k1 1 [], cO k2 3 [], cO k3 5 [], cO k4 6 [], cO k5 10 [], cO k6 8 []]) hFc hk1 hP1 hD1 hP hD [0, 1, 2, 7] [3, 4, 5, 6, 8, 9, 10, 11, 12, 13, 14] rfl rfl (by decide) (by decide)
          have hP := hpd9.1
          have hD := hpd9.2
          clear hpd9
          generalize H1 = H at hP hS ⊢
          clear hPc hDc hFc hz1 hk1 hP1 hD1 ht hvm
          have h9 := q_26_e.symm
          subst h9
          refine lv_iload_n hx hb dX9_askYounger_38 rfl (lv_at hl 0 rfl) ?_
          refine lv_aload_n hx hb dX9_askYounger_39 rfl (lv_at hl 1 rfl) ?_
          refine va_get (D := (dC, dI)) (ci := 9) (v := Value.ref pv) (C := RX9) (T := TX9) (N := 14) hx hb hts inX9 hown hK hP 11 rfl rfl 6 (by decide) (hts _ (gw kw_162 rfl)) (fun _ h9 => h9) rfl dX9_askYounger_40 ?_
          refine va_get (D := (dC, dI)) (ci := 4) (v := Value.ref ef) (C := RX4) (T := TX4) (N := 8) hx hb hts inX4 hown hK hP 12 rfl rfl 1 (by decide) (hts _ (gw kw_36 rfl)) (fun _ h9 => h9) rfl dX9_askYounger_43 ?_
          refine lv_iload_n hx hb dX9_askYounger_46 rfl (lv_at hl 3 rfl) ?_
          have h_27 : vp_in (nI j) 8 := by first | exact vp_in_nI (by omega) (by omega) | (unfold vp_in; decide) | (subst_vars; first | (unfold vp_in; decide) | exact vp_in_nI (by omega) (by omega))
          refine va_iald hx hb hK hP 0 0 rfl rfl h_27 dX9_askYounger_47 ?_
          refine lv_topi (fun x_28 e_28 => ?_)
          have h9 : x_28 = nI (F j) := by rw [e_28, nI_clamp (by omega)]; exact hff
          subst h9
          refine lv_aload_n hx hb dX9_askYounger_48 rfl (lv_at hl 1 rfl) ?_
          refine va_get (D := (dC, dI)) (ci := 9) (v := Value.ref pv) (C := RX9) (T := TX9) (N := 14) hx hb hts inX9 hown hK hP 11 rfl rfl 6 (by decide) (hts _ (gw kw_162 rfl)) (fun _ h9 => h9) rfl dX9_askYounger_49 ?_
          refine va_get (D := (dC, dI)) (ci := 4) (v := Value.ref es) (C := RX4) (T := TX4) (N := 8) hx hb hts inX4 hown hK hP 12 rfl rfl 4 (by decide) (hts _ (gw kw_44 rfl)) (fun _ h9 => h9) rfl dX9_askYounger_52 ?_
          refine lv_iconst (v := 2) hx hb dX9_askYounger_55 (by decide) ?_
          have h_29 : vp_in 2 5 := by first | exact vp_in_nI (by omega) (by omega) | (unfold vp_in; decide) | (subst_vars; first | (unfold vp_in; decide) | exact vp_in_nI (by omega) (by omega))
          refine va_iald hx hb hK hP 1 0 rfl rfl h_29 dX9_askYounger_56 ?_
          refine lv_topi (fun x_30 e_30 => ?_)
          have h9 : x_30 = (stf 2) := by rw [e_30]; rfl
          subst h9
          have hpd9 := pdf_N (cx := [cO k2 3 []]) hP hD hS hA [6] (by decide) rfl
          have hPc := hpd9.1
          have hDc := hpd9.2.1
          have hFc := hpd9.2.2
          clear hpd9
          refine va_calli (va_runU (As := [Value.int (iI (S j)), Value.int (nI (F j)), Value.int (stf 2)]) (rest := [Value.int (nI j), Value.ref (rp i)]) ⟨hx, hb, hml, hown, hts⟩ (c_X3_ask l dC dI aC H.size k2 (S j) (F j) (stf 2) (hs2) (hfle)) (va_cwO (owner := "EldestSays$Clever") 3 hts (gcons (gw kw_366 rfl) (gcons (gw kw_369 rfl) (gcons (gw kw_367 rfl) (gcons (gw kw_376 rfl) (gcons (gw kw_377 rfl) (gcons (gw kw_6 rfl) (gG kw_378))))))) rfl rfl rfl (gw kw_392 rfl) (by decide +kernel) ⟨Nat.le_of_ble_eq_true rfl, Nat.le_of_ble_eq_true rfl⟩) ⟨fb_std, va_recv (q := (RX3, TX3, 0)) hK hPc (ci := 3) (q0 := 0) rfl rfl, pre_std hPc hK hDc hN⟩ rfl rfl hl.1 rfl (lv_room (Nat.le_of_ble_eq_true rfl)) dX9_askYounger_57 ⟨Nat.le_of_ble_eq_true rfl, Nat.le_of_ble_eq_true rfl⟩) hS (fun q _ h => hFc q h) hFc (fun x_31 u9 t9 H1 locs ht hvm hw_31 hB hz1 hk1 hS => ?_)
          obtain ⟨hP1, hK1, hD1⟩ := hB
          rw [ht] at hP1
          clear hK1
          try dsimp only at hw_31
          have hpd9 : PDx (dC, dI) classes A H1 (wp [cI aC ef 8 ff, cI aC es 5 stf, cA aC pp 8 fp, cA aC ps 8 fs, cO k0 0 [], cO k1 1 [], cO k3 5 [], cO k4 6 [], cO k5 10 [], cO k6 8 [], oX9 h1 po pp ps pa pe pb pv pk pu pw pq pt un fw, oX4 pv ek ef ew ep es (nI n) sy dn, cI aC ek 8 kf, cK aC pk 7 fk, cO k2 3 []] (va_pl L (plE aC gc))) := jn_Q (wr := [cI aC ef 8 ff, cI aC es 5 stf, cA aC pp 8 fp, cA aC ps 8 fs, cO k0 0 [], cO k1 1 [], cO k3 5 [], cO k4 6 [], cO k5 10 [], cO k6 8 [], oX9 h1 po pp ps pa pe pb pv pk pu pw pq pt un fw, oX4 pv ek ef ew ep es (nI n) sy dn, cI aC ek 8 kf, cK aC pk 7 fk]) hFc hk1 hP1 hD1 hP hD [6] [0, 1, 2, 3, 4, 5, 7, 8, 9, 10, 11, 12, 13, 14] rfl rfl (by decide) (by decide)
          have hP := hpd9.1
          have hD := hpd9.2
          clear hpd9
          generalize H1 = H at hP hS ⊢
          clear hPc hDc hFc hz1 hk1 hP1 hD1 ht hvm
          have h9 : x_31 = nI (pr (K j) (F j) (stf 2) (S j)) := by rw [hw_31]; unfold pr; rw [hkk]; rfl
          subst h9
          have h_32 : vp_in (nI j) 8 := by first | exact vp_in_nI (by omega) (by omega) | (unfold vp_in; decide) | (subst_vars; first | (unfold vp_in; decide) | exact vp_in_nI (by omega) (by omega))
          refine pl_iast hx hb hK hP hD hS ((hgr.1 i (by omega)).2.1.2) h_32 dX9_askYounger_60 (fun H locs hP hD hS => ?_)
          obtain ⟨g_33, e_g_33⟩ : ∃ y : Nat → Nat → Int32, y = va_up gc (rp i) (upd (gc (rp i)) (nI j : Int32).toNatClampNeg (nI (pr (K j) (F j) (stf 2) (S j)))) := ⟨_, rfl⟩
          have hpd9 : PDx (dC, dI) classes A H (wp [cI aC ef 8 ff, cI aC es 5 stf, cA aC pp 8 fp, cA aC ps 8 fs, cO k0 0 [], cO k1 1 [], cO k3 5 [], cO k4 6 [], cO k5 10 [], cO k6 8 [], oX9 h1 po pp ps pa pe pb pv pk pu pw pq pt un fw, oX4 pv ek ef ew ep es (nI n) sy dn, cI aC ek 8 kf, cK aC pk 7 fk, cO k2 3 []] (va_pl L (plE aC g_33))) := by rw [e_g_33]; exact ⟨hP, hD⟩
          have hP := hpd9.1
          have hD := hpd9.2
          clear hpd9
          have hb1 : ∀ q, i < q → q < j + 1 → g_33 (rp i) q = nI (pr (K q) (F q) (stf 2) (S q)) := fun q h1 h2 => by
            rw [e_g_33, nI_clamp (by omega)]
            rw [show ∀ (u : Nat → Int32), va_up gc (rp i) u (rp i) = u from fun u => if_pos rfl]
            by_cases e : q = j
            · rw [e, pk_us]
            · rw [pk_un e]; exact hg1 q h1 (by omega)
          have hb2 : ∀ a, a ≠ rp i → g_33 a = g a := fun a h => by
            rw [e_g_33, show ∀ (u : Nat → Int32), va_up gc (rp i) u a = gc a from fun u => if_neg h]
            exact hg2 a h
          obtain ⟨x_34, e_34⟩ : ∃ y : Int32, y = (nI j) + 1 := ⟨_, rfl⟩
          refine lv_iinc (v := x_34) (lv' := [(2, Value.int x_34), (3, Value.int (iI (S j))), (0, Value.ref h1), (1, Value.int (nI i))]) hx hb dX9_askYounger_61 hl (k := 3) rfl (by rw [e_34]; rfl) (by decide) rfl (fun ls hl => ?_)
          have h9 : x_34 = nI (j + 1) := by rw [e_34, nI_1]
          subst h9
          refine lv_goto (tgt := 4) hx hb dX9_askYounger_64 (by decide) ?_
          exact ih_4 (j + 1) g_33 (ms_lt hlt hfu) (by omega) (hb1) (hb2) _ _ _ (plP hP [10, 11, 12, 0, 1, 2, 3, 13, 4, 5, 14, 6, 7, 8, 9] rfl) (plD hD [10, 11, 12, 0, 1, 2, 3, 13, 4, 5, 14, 6, 7, 8, 9] (by decide) rfl) hS (lv_sub hl [2, 3, 0] rfl)
        · have hkv : kf j = nI 3 := by rw [hkf, hkk]
          refine lv_aload_n hx hb dX9_askYounger_33 rfl (lv_at hl 1 rfl) ?_
          refine lv_iload_n hx hb dX9_askYounger_34 rfl (lv_at hl 3 rfl) ?_
          have hpd9 := pdf_N (cx := [oX9 h1 po pp ps pa pe pb pv pk pu pw pq pt un fw, oX4 pv ek ef ew ep es (nI n) sy dn, cI aC ek 8 kf, cK aC pk 7 fk]) hP hD hS hA [0, 1, 2, 7] (by decide) rfl
          have hPc := hpd9.1
          have hDc := hpd9.2.1
          have hFc := hpd9.2.2
          clear hpd9
          refine va_callr (va_runV (As := [Value.int (nI j)]) (rest := [Value.int (nI j), Value.ref (rp i)]) ⟨hx, hb, hml, hown, hts⟩ (c_X9_kindOf l dC dI aC H.size h1 po pp ps pa pe pb pv pk pu pw pq pt un fw ek ef ew ep es n sy dn kf fk j 3 k3 (by omega) (hkv) (by omega) (hkd.2.2.2.1)) ⟨(callB_of 1 hts (gG kw_365) rfl rfl rfl (hts _ (gw kw_11 rfl)) (hts _ (gw kw_362 rfl)) hd_X9_kindOf ⟨Nat.le_of_ble_eq_true rfl, Nat.le_of_ble_eq_true rfl⟩), (hts _ (gw kw_364 rfl)), (hts _ (gw ks_8 rfl))⟩ ⟨fb_std, va_recv (q := (RX9, TX9, 14)) hK hPc (ci := 9) (q0 := 0) rfl rfl, pre_std hPc hK hDc hN⟩ rfl rfl hl.1 rfl (lv_room (Nat.le_of_ble_eq_true rfl)) dX9_askYounger_35 ⟨Nat.le_of_ble_eq_true rfl, Nat.le_of_ble_eq_true rfl⟩) hS (fun q _ h => hFc q h) hFc (fun u9 q_35 t9 H1 locs ht hvm hw_35 hB hz1 hk1 hS => ?_)
          obtain ⟨q_35_e, hP1, hK1, hD1⟩ := hB
          rw [ht] at hP1
          clear hK1
          try dsimp only at hw_35
          have hpd9 : PDx (dC, dI) classes A H1 (wp [cI aC ef 8 ff, cI aC es 5 stf, cA aC pp 8 fp, cA aC ps 8 fs, cO k0 0 [], cO k1 1 [], cO k2 3 [], cO k3 5 [], cO k4 6 [], cO k5 10 [], cO k6 8 [], oX9 h1 po pp ps pa pe pb pv pk pu pw pq pt un fw, oX4 pv ek ef ew ep es (nI n) sy dn, cI aC ek 8 kf, cK aC pk 7 fk] (va_pl L (plE aC gc))) := jn_Q (wr := [cI aC ef 8 ff, cI aC es 5 stf, cA aC pp 8 fp, cA aC ps 8 fs, cO k0 0 [], cO k1 1 [], cO k2 3 [], cO k3 5 [], cO k4 6 [], cO k5 10 [], cO k6 8 []]) hFc hk1 hP1 hD1 hP hD [0, 1, 2, 7] [3, 4, 5, 6, 8, 9, 10, 11, 12, 13, 14] rfl rfl (by decide) (by decide)
          have hP := hpd9.1
          have hD := hpd9.2
          clear hpd9
          generalize H1 = H at hP hS ⊢
          clear hPc hDc hFc hz1 hk1 hP1 hD1 ht hvm
          have h9 := q_35_e.symm
          subst h9
          refine lv_iload_n hx hb dX9_askYounger_38 rfl (lv_at hl 0 rfl) ?_
          refine lv_aload_n hx hb dX9_askYounger_39 rfl (lv_at hl 1 rfl) ?_
          refine va_get (D := (dC, dI)) (ci := 9) (v := Value.ref pv) (C := RX9) (T := TX9) (N := 14) hx hb hts inX9 hown hK hP 11 rfl rfl 6 (by decide) (hts _ (gw kw_162 rfl)) (fun _ h9 => h9) rfl dX9_askYounger_40 ?_
          refine va_get (D := (dC, dI)) (ci := 4) (v := Value.ref ef) (C := RX4) (T := TX4) (N := 8) hx hb hts inX4 hown hK hP 12 rfl rfl 1 (by decide) (hts _ (gw kw_36 rfl)) (fun _ h9 => h9) rfl dX9_askYounger_43 ?_
          refine lv_iload_n hx hb dX9_askYounger_46 rfl (lv_at hl 3 rfl) ?_
          have h_36 : vp_in (nI j) 8 := by first | exact vp_in_nI (by omega) (by omega) | (unfold vp_in; decide) | (subst_vars; first | (unfold vp_in; decide) | exact vp_in_nI (by omega) (by omega))
          refine va_iald hx hb hK hP 0 0 rfl rfl h_36 dX9_askYounger_47 ?_
          refine lv_topi (fun x_37 e_37 => ?_)
          have h9 : x_37 = nI (F j) := by rw [e_37, nI_clamp (by omega)]; exact hff
          subst h9
          refine lv_aload_n hx hb dX9_askYounger_48 rfl (lv_at hl 1 rfl) ?_
          refine va_get (D := (dC, dI)) (ci := 9) (v := Value.ref pv) (C := RX9) (T := TX9) (N := 14) hx hb hts inX9 hown hK hP 11 rfl rfl 6 (by decide) (hts _ (gw kw_162 rfl)) (fun _ h9 => h9) rfl dX9_askYounger_49 ?_
          refine va_get (D := (dC, dI)) (ci := 4) (v := Value.ref es) (C := RX4) (T := TX4) (N := 8) hx hb hts inX4 hown hK hP 12 rfl rfl 4 (by decide) (hts _ (gw kw_44 rfl)) (fun _ h9 => h9) rfl dX9_askYounger_52 ?_
          refine lv_iconst (v := 2) hx hb dX9_askYounger_55 (by decide) ?_
          have h_38 : vp_in 2 5 := by first | exact vp_in_nI (by omega) (by omega) | (unfold vp_in; decide) | (subst_vars; first | (unfold vp_in; decide) | exact vp_in_nI (by omega) (by omega))
          refine va_iald hx hb hK hP 1 0 rfl rfl h_38 dX9_askYounger_56 ?_
          refine lv_topi (fun x_39 e_39 => ?_)
          have h9 : x_39 = (stf 2) := by rw [e_39]; rfl
          subst h9
          have hpd9 := pdf_N (cx := []) hP hD hS hA [] (by decide) rfl
          have hPc := hpd9.1
          have hDc := hpd9.2.1
          have hFc := hpd9.2.2
          clear hpd9
          refine va_calli (va_runU (As := [Value.int (iI (S j)), Value.int (nI (F j)), Value.int (stf 2)]) (rest := [Value.int (nI j), Value.ref (rp i)]) ⟨hx, hb, hml, hown, hts⟩ (c_X1_ask l dC dI aC H.size k3 (S j) (F j) (stf 2) (hs2) (hfle)) (va_cwO (owner := "EldestSays$Clever") 3 hts (gcons (gw kw_366 rfl) (gcons (gw kw_369 rfl) (gcons (gw kw_367 rfl) (gcons (gw kw_380 rfl) (gcons (gw kw_371 rfl) (gcons (gw kw_5 rfl) (gG kw_372))))))) rfl rfl rfl (gw kw_392 rfl) (by decide +kernel) ⟨Nat.le_of_ble_eq_true rfl, Nat.le_of_ble_eq_true rfl⟩) ⟨fb_std, va_recv (q := (RX5, TX5, 0)) hK hP (ci := 5) (q0 := 7) rfl rfl, pre_std hPc hK hDc hN⟩ rfl rfl hl.1 rfl (lv_room (Nat.le_of_ble_eq_true rfl)) dX9_askYounger_57 ⟨Nat.le_of_ble_eq_true rfl, Nat.le_of_ble_eq_true rfl⟩) hS (fun q _ h => hFc q h) hFc (fun x_40 u9 t9 H1 locs ht hvm hw_40 hB hz1 hk1 hS => ?_)
          obtain ⟨hP1, hK1, hD1⟩ := hB
          rw [ht] at hP1
          clear hK1
          try dsimp only at hw_40
          have hpd9 : PDx (dC, dI) classes A H1 (wp [cI aC ef 8 ff, cI aC es 5 stf, cA aC pp 8 fp, cA aC ps 8 fs, cO k0 0 [], cO k1 1 [], cO k2 3 [], cO k3 5 [], cO k4 6 [], cO k5 10 [], cO k6 8 [], oX9 h1 po pp ps pa pe pb pv pk pu pw pq pt un fw, oX4 pv ek ef ew ep es (nI n) sy dn, cI aC ek 8 kf, cK aC pk 7 fk] (va_pl L (plE aC gc))) := jn_Q (wr := [cI aC ef 8 ff, cI aC es 5 stf, cA aC pp 8 fp, cA aC ps 8 fs, cO k0 0 [], cO k1 1 [], cO k2 3 [], cO k3 5 [], cO k4 6 [], cO k5 10 [], cO k6 8 [], oX9 h1 po pp ps pa pe pb pv pk pu pw pq pt un fw, oX4 pv ek ef ew ep es (nI n) sy dn, cI aC ek 8 kf, cK aC pk 7 fk]) hFc hk1 hP1 hD1 hP hD [] [0, 1, 2, 3, 4, 5, 6, 7, 8, 9, 10, 11, 12, 13, 14] rfl rfl (by decide) (by decide)
          have hP := hpd9.1
          have hD := hpd9.2
          clear hpd9
          generalize H1 = H at hP hS ⊢
          clear hPc hDc hFc hz1 hk1 hP1 hD1 ht hvm
          have h9 : x_40 = nI (pr (K j) (F j) (stf 2) (S j)) := by rw [hw_40]; unfold pr; rw [hkk]; rfl
          subst h9
          have h_41 : vp_in (nI j) 8 := by first | exact vp_in_nI (by omega) (by omega) | (unfold vp_in; decide) | (subst_vars; first | (unfold vp_in; decide) | exact vp_in_nI (by omega) (by omega))
          refine pl_iast hx hb hK hP hD hS ((hgr.1 i (by omega)).2.1.2) h_41 dX9_askYounger_60 (fun H locs hP hD hS => ?_)
          obtain ⟨g_42, e_g_42⟩ : ∃ y : Nat → Nat → Int32, y = va_up gc (rp i) (upd (gc (rp i)) (nI j : Int32).toNatClampNeg (nI (pr (K j) (F j) (stf 2) (S j)))) := ⟨_, rfl⟩
          have hpd9 : PDx (dC, dI) classes A H (wp [cI aC ef 8 ff, cI aC es 5 stf, cA aC pp 8 fp, cA aC ps 8 fs, cO k0 0 [], cO k1 1 [], cO k2 3 [], cO k3 5 [], cO k4 6 [], cO k5 10 [], cO k6 8 [], oX9 h1 po pp ps pa pe pb pv pk pu pw pq pt un fw, oX4 pv ek ef ew ep es (nI n) sy dn, cI aC ek 8 kf, cK aC pk 7 fk] (va_pl L (plE aC g_42))) := by rw [e_g_42]; exact ⟨hP, hD⟩
          have hP := hpd9.1
          have hD := hpd9.2
          clear hpd9
          have hb1 : ∀ q, i < q → q < j + 1 → g_42 (rp i) q = nI (pr (K q) (F q) (stf 2) (S q)) := fun q h1 h2 => by
            rw [e_g_42, nI_clamp (by omega)]
            rw [show ∀ (u : Nat → Int32), va_up gc (rp i) u (rp i) = u from fun u => if_pos rfl]
            by_cases e : q = j
            · rw [e, pk_us]
            · rw [pk_un e]; exact hg1 q h1 (by omega)
          have hb2 : ∀ a, a ≠ rp i → g_42 a = g a := fun a h => by
            rw [e_g_42, show ∀ (u : Nat → Int32), va_up gc (rp i) u a = gc a from fun u => if_neg h]
            exact hg2 a h
          obtain ⟨x_43, e_43⟩ : ∃ y : Int32, y = (nI j) + 1 := ⟨_, rfl⟩
          refine lv_iinc (v := x_43) (lv' := [(2, Value.int x_43), (3, Value.int (iI (S j))), (0, Value.ref h1), (1, Value.int (nI i))]) hx hb dX9_askYounger_61 hl (k := 3) rfl (by rw [e_43]; rfl) (by decide) rfl (fun ls hl => ?_)
          have h9 : x_43 = nI (j + 1) := by rw [e_43, nI_1]
          subst h9
          refine lv_goto (tgt := 4) hx hb dX9_askYounger_64 (by decide) ?_
          exact ih_4 (j + 1) g_42 (ms_lt hlt hfu) (by omega) (hb1) (hb2) _ _ _ (plP hP [11, 12, 13, 0, 1, 2, 3, 14, 4, 5, 6, 7, 8, 9, 10] rfl) (plD hD [11, 12, 13, 0, 1, 2, 3, 14, 4, 5, 6, 7, 8, 9, 10] (by decide) rfl) hS (lv_sub hl [2, 3, 0] rfl)
        · have hkv : kf j = nI 4 := by rw [hkf, hkk]
          refine lv_aload_n hx hb dX9_askYounger_33 rfl (lv_at hl 1 rfl) ?_
          refine lv_iload_n hx hb dX9_askYounger_34 rfl (lv_at hl 3 rfl) ?_
          have hpd9 := pdf_N (cx := [oX9 h1 po pp ps pa pe pb pv pk pu pw pq pt un fw, oX4 pv ek ef ew ep es (nI n) sy dn, cI aC ek 8 kf, cK aC pk 7 fk]) hP hD hS hA [0, 1, 2, 7] (by decide) rfl
          have hPc := hpd9.1
          have hDc := hpd9.2.1
          have hFc := hpd9.2.2
          clear hpd9
          refine va_callr (va_runV (As := [Value.int (nI j)]) (rest := [Value.int (nI j), Value.ref (rp i)]) ⟨hx, hb, hml, hown, hts⟩ (c_X9_kindOf l dC dI aC H.size h1 po pp ps pa pe pb pv pk pu pw pq pt un fw ek ef ew ep es n sy dn kf fk j 4 k4 (by omega) (hkv) (by omega) (hkd.2.2.2.2.1)) ⟨(callB_of 1 hts (gG kw_365) rfl rfl rfl (hts _ (gw kw_11 rfl)) (hts _ (gw kw_362 rfl)) hd_X9_kindOf ⟨Nat.le_of_ble_eq_true rfl, Nat.le_of_ble_eq_true rfl⟩), (hts _ (gw kw_364 rfl)), (hts _ (gw ks_8 rfl))⟩ ⟨fb_std, va_recv (q := (RX9, TX9, 14)) hK hPc (ci := 9) (q0 := 0) rfl rfl, pre_std hPc hK hDc hN⟩ rfl rfl hl.1 rfl (lv_room (Nat.le_of_ble_eq_true rfl)) dX9_askYounger_35 ⟨Nat.le_of_ble_eq_true rfl, Nat.le_of_ble_eq_true rfl⟩) hS (fun q _ h => hFc q h) hFc (fun u9 q_44 t9 H1 locs ht hvm hw_44 hB hz1 hk1 hS => ?_)
          obtain ⟨q_44_e, hP1, hK1, hD1⟩ := hB
          rw [ht] at hP1
          clear hK1
          try dsimp only at hw_44
          have hpd9 : PDx (dC, dI) classes A H1 (wp [cI aC ef 8 ff, cI aC es 5 stf, cA aC pp 8 fp, cA aC ps 8 fs, cO k0 0 [], cO k1 1 [], cO k2 3 [], cO k3 5 [], cO k4 6 [], cO k5 10 [], cO k6 8 [], oX9 h1 po pp ps pa pe pb pv pk pu pw pq pt un fw, oX4 pv ek ef ew ep es (nI n) sy dn, cI aC ek 8 kf, cK aC pk 7 fk] (va_pl L (plE aC gc))) := jn_Q (wr := [cI aC ef 8 ff, cI aC es 5 stf, cA aC pp 8 fp, cA aC ps 8 fs, cO k0 0 [], cO k1 1 [], cO k2 3 [], cO k3 5 [], cO k4 6 [], cO k5 10 [], cO k6 8 []]) hFc hk1 hP1 hD1 hP hD [0, 1, 2, 7] [3, 4, 5, 6, 8, 9, 10, 11, 12, 13, 14] rfl rfl (by decide) (by decide)
          have hP := hpd9.1
          have hD := hpd9.2
          clear hpd9
          generalize H1 = H at hP hS ⊢
          clear hPc hDc hFc hz1 hk1 hP1 hD1 ht hvm
          have h9 := q_44_e.symm
          subst h9
          refine lv_iload_n hx hb dX9_askYounger_38 rfl (lv_at hl 0 rfl) ?_
          refine lv_aload_n hx hb dX9_askYounger_39 rfl (lv_at hl 1 rfl) ?_
          refine va_get (D := (dC, dI)) (ci := 9) (v := Value.ref pv) (C := RX9) (T := TX9) (N := 14) hx hb hts inX9 hown hK hP 11 rfl rfl 6 (by decide) (hts _ (gw kw_162 rfl)) (fun _ h9 => h9) rfl dX9_askYounger_40 ?_
          refine va_get (D := (dC, dI)) (ci := 4) (v := Value.ref ef) (C := RX4) (T := TX4) (N := 8) hx hb hts inX4 hown hK hP 12 rfl rfl 1 (by decide) (hts _ (gw kw_36 rfl)) (fun _ h9 => h9) rfl dX9_askYounger_43 ?_
          refine lv_iload_n hx hb dX9_askYounger_46 rfl (lv_at hl 3 rfl) ?_
          have h_45 : vp_in (nI j) 8 := by first | exact vp_in_nI (by omega) (by omega) | (unfold vp_in; decide) | (subst_vars; first | (unfold vp_in; decide) | exact vp_in_nI (by omega) (by omega))
          refine va_iald hx hb hK hP 0 0 rfl rfl h_45 dX9_askYounger_47 ?_
          refine lv_topi (fun x_46 e_46 => ?_)
          have h9 : x_46 = nI (F j) := by rw [e_46, nI_clamp (by omega)]; exact hff
          subst h9
          refine lv_aload_n hx hb dX9_askYounger_48 rfl (lv_at hl 1 rfl) ?_
          refine va_get (D := (dC, dI)) (ci := 9) (v := Value.ref pv) (C := RX9) (T := TX9) (N := 14) hx hb hts inX9 hown hK hP 11 rfl rfl 6 (by decide) (hts _ (gw kw_162 rfl)) (fun _ h9 => h9) rfl dX9_askYounger_49 ?_
          refine va_get (D := (dC, dI)) (ci := 4) (v := Value.ref es) (C := RX4) (T := TX4) (N := 8) hx hb hts inX4 hown hK hP 12 rfl rfl 4 (by decide) (hts _ (gw kw_44 rfl)) (fun _ h9 => h9) rfl dX9_askYounger_52 ?_
          refine lv_iconst (v := 2) hx hb dX9_askYounger_55 (by decide) ?_
          have h_47 : vp_in 2 5 := by first | exact vp_in_nI (by omega) (by omega) | (unfold vp_in; decide) | (subst_vars; first | (unfold vp_in; decide) | exact vp_in_nI (by omega) (by omega))
          refine va_iald hx hb hK hP 1 0 rfl rfl h_47 dX9_askYounger_56 ?_
          refine lv_topi (fun x_48 e_48 => ?_)
          have h9 : x_48 = (stf 2) := by rw [e_48]; rfl
          subst h9
          have hpd9 := pdf_N (cx := []) hP hD hS hA [] (by decide) rfl
          have hPc := hpd9.1
          have hDc := hpd9.2.1
          have hFc := hpd9.2.2
          clear hpd9
          refine va_calli (va_runU (As := [Value.int (iI (S j)), Value.int (nI (F j)), Value.int (stf 2)]) (rest := [Value.int (nI j), Value.ref (rp i)]) ⟨hx, hb, hml, hown, hts⟩ (c_X6_ask l dC dI aC H.size k4 (S j) (F j) (stf 2) (hs2) (hfle)) (va_cwO (owner := "EldestSays$Clever") 3 hts (gcons (gw kw_366 rfl) (gcons (gw kw_369 rfl) (gcons (gw kw_367 rfl) (gcons (gw kw_381 rfl) (gcons (gw kw_382 rfl) (gcons (gw kw_8 rfl) (gG kw_383))))))) rfl rfl rfl (gw kw_392 rfl) (by decide +kernel) ⟨Nat.le_of_ble_eq_true rfl, Nat.le_of_ble_eq_true rfl⟩) ⟨fb_std, va_recv (q := (RX6, TX6, 0)) hK hP (ci := 6) (q0 := 8) rfl rfl, pre_std hPc hK hDc hN⟩ rfl rfl hl.1 rfl (lv_room (Nat.le_of_ble_eq_true rfl)) dX9_askYounger_57 ⟨Nat.le_of_ble_eq_true rfl, Nat.le_of_ble_eq_true rfl⟩) hS (fun q _ h => hFc q h) hFc (fun x_49 u9 t9 H1 locs ht hvm hw_49 hB hz1 hk1 hS => ?_)
          obtain ⟨hP1, hK1, hD1⟩ := hB
          rw [ht] at hP1
          clear hK1
          try dsimp only at hw_49
          have hpd9 : PDx (dC, dI) classes A H1 (wp [cI aC ef 8 ff, cI aC es 5 stf, cA aC pp 8 fp, cA aC ps 8 fs, cO k0 0 [], cO k1 1 [], cO k2 3 [], cO k3 5 [], cO k4 6 [], cO k5 10 [], cO k6 8 [], oX9 h1 po pp ps pa pe pb pv pk pu pw pq pt un fw, oX4 pv ek ef ew ep es (nI n) sy dn, cI aC ek 8 kf, cK aC pk 7 fk] (va_pl L (plE aC gc))) := jn_Q (wr := [cI aC ef 8 ff, cI aC es 5 stf, cA aC pp 8 fp, cA aC ps 8 fs, cO k0 0 [], cO k1 1 [], cO k2 3 [], cO k3 5 [], cO k4 6 [], cO k5 10 [], cO k6 8 [], oX9 h1 po pp ps pa pe pb pv pk pu pw pq pt un fw, oX4 pv ek ef ew ep es (nI n) sy dn, cI aC ek 8 kf, cK aC pk 7 fk]) hFc hk1 hP1 hD1 hP hD [] [0, 1, 2, 3, 4, 5, 6, 7, 8, 9, 10, 11, 12, 13, 14] rfl rfl (by decide) (by decide)
          have hP := hpd9.1
          have hD := hpd9.2
          clear hpd9
          generalize H1 = H at hP hS ⊢
          clear hPc hDc hFc hz1 hk1 hP1 hD1 ht hvm
          have h9 : x_49 = nI (pr (K j) (F j) (stf 2) (S j)) := by rw [hw_49]; unfold pr; rw [hkk]; rfl
          subst h9
          have h_50 : vp_in (nI j) 8 := by first | exact vp_in_nI (by omega) (by omega) | (unfold vp_in; decide) | (subst_vars; first | (unfold vp_in; decide) | exact vp_in_nI (by omega) (by omega))
          refine pl_iast hx hb hK hP hD hS ((hgr.1 i (by omega)).2.1.2) h_50 dX9_askYounger_60 (fun H locs hP hD hS => ?_)
          obtain ⟨g_51, e_g_51⟩ : ∃ y : Nat → Nat → Int32, y = va_up gc (rp i) (upd (gc (rp i)) (nI j : Int32).toNatClampNeg (nI (pr (K j) (F j) (stf 2) (S j)))) := ⟨_, rfl⟩
          have hpd9 : PDx (dC, dI) classes A H (wp [cI aC ef 8 ff, cI aC es 5 stf, cA aC pp 8 fp, cA aC ps 8 fs, cO k0 0 [], cO k1 1 [], cO k2 3 [], cO k3 5 [], cO k4 6 [], cO k5 10 [], cO k6 8 [], oX9 h1 po pp ps pa pe pb pv pk pu pw pq pt un fw, oX4 pv ek ef ew ep es (nI n) sy dn, cI aC ek 8 kf, cK aC pk 7 fk] (va_pl L (plE aC g_51))) := by rw [e_g_51]; exact ⟨hP, hD⟩
          have hP := hpd9.1
          have hD := hpd9.2
          clear hpd9
          have hb1 : ∀ q, i < q → q < j + 1 → g_51 (rp i) q = nI (pr (K q) (F q) (stf 2) (S q)) := fun q h1 h2 => by
            rw [e_g_51, nI_clamp (by omega)]
            rw [show ∀ (u : Nat → Int32), va_up gc (rp i) u (rp i) = u from fun u => if_pos rfl]
            by_cases e : q = j
            · rw [e, pk_us]
            · rw [pk_un e]; exact hg1 q h1 (by omega)
          have hb2 : ∀ a, a ≠ rp i → g_51 a = g a := fun a h => by
            rw [e_g_51, show ∀ (u : Nat → Int32), va_up gc (rp i) u a = gc a from fun u => if_neg h]
            exact hg2 a h
          obtain ⟨x_52, e_52⟩ : ∃ y : Int32, y = (nI j) + 1 := ⟨_, rfl⟩
          refine lv_iinc (v := x_52) (lv' := [(2, Value.int x_52), (3, Value.int (iI (S j))), (0, Value.ref h1), (1, Value.int (nI i))]) hx hb dX9_askYounger_61 hl (k := 3) rfl (by rw [e_52]; rfl) (by decide) rfl (fun ls hl => ?_)
          have h9 : x_52 = nI (j + 1) := by rw [e_52, nI_1]
          subst h9
          refine lv_goto (tgt := 4) hx hb dX9_askYounger_64 (by decide) ?_
          exact ih_4 (j + 1) g_51 (ms_lt hlt hfu) (by omega) (hb1) (hb2) _ _ _ (plP hP [11, 12, 13, 0, 1, 2, 3, 14, 4, 5, 6, 7, 8, 9, 10] rfl) (plD hD [11, 12, 13, 0, 1, 2, 3, 14, 4, 5, 6, 7, 8, 9, 10] (by decide) rfl) hS (lv_sub hl [2, 3, 0] rfl)
        · have hkv : kf j = nI 5 := by rw [hkf, hkk]
          refine lv_aload_n hx hb dX9_askYounger_33 rfl (lv_at hl 1 rfl) ?_
          refine lv_iload_n hx hb dX9_askYounger_34 rfl (lv_at hl 3 rfl) ?_
          have hpd9 := pdf_N (cx := [oX9 h1 po pp ps pa pe pb pv pk pu pw pq pt un fw, oX4 pv ek ef ew ep es (nI n) sy dn, cI aC ek 8 kf, cK aC pk 7 fk]) hP hD hS hA [0, 1, 2, 7] (by decide) rfl
          have hPc := hpd9.1
          have hDc := hpd9.2.1
          have hFc := hpd9.2.2
          clear hpd9
          refine va_callr (va_runV (As := [Value.int (nI j)]) (rest := [Value.int (nI j), Value.ref (rp i)]) ⟨hx, hb, hml, hown, hts⟩ (c_X9_kindOf l dC dI aC H.size h1 po pp ps pa pe pb pv pk pu pw pq pt un fw ek ef ew ep es n sy dn kf fk j 5 k5 (by omega) (hkv) (by omega) (hkd.2.2.2.2.2.1)) ⟨(callB_of 1 hts (gG kw_365) rfl rfl rfl (hts _ (gw kw_11 rfl)) (hts _ (gw kw_362 rfl)) hd_X9_kindOf ⟨Nat.le_of_ble_eq_true rfl, Nat.le_of_ble_eq_true rfl⟩), (hts _ (gw kw_364 rfl)), (hts _ (gw ks_8 rfl))⟩ ⟨fb_std, va_recv (q := (RX9, TX9, 14)) hK hPc (ci := 9) (q0 := 0) rfl rfl, pre_std hPc hK hDc hN⟩ rfl rfl hl.1 rfl (lv_room (Nat.le_of_ble_eq_true rfl)) dX9_askYounger_35 ⟨Nat.le_of_ble_eq_true rfl, Nat.le_of_ble_eq_true rfl⟩) hS (fun q _ h => hFc q h) hFc (fun u9 q_53 t9 H1 locs ht hvm hw_53 hB hz1 hk1 hS => ?_)
          obtain ⟨q_53_e, hP1, hK1, hD1⟩ := hB
          rw [ht] at hP1
          clear hK1
          try dsimp only at hw_53
          have hpd9 : PDx (dC, dI) classes A H1 (wp [cI aC ef 8 ff, cI aC es 5 stf, cA aC pp 8 fp, cA aC ps 8 fs, cO k0 0 [], cO k1 1 [], cO k2 3 [], cO k3 5 [], cO k4 6 [], cO k5 10 [], cO k6 8 [], oX9 h1 po pp ps pa pe pb pv pk pu pw pq pt un fw, oX4 pv ek ef ew ep es (nI n) sy dn, cI aC ek 8 kf, cK aC pk 7 fk] (va_pl L (plE aC gc))) := jn_Q (wr := [cI aC ef 8 ff, cI aC es 5 stf, cA aC pp 8 fp, cA aC ps 8 fs, cO k0 0 [], cO k1 1 [], cO k2 3 [], cO k3 5 [], cO k4 6 [], cO k5 10 [], cO k6 8 []]) hFc hk1 hP1 hD1 hP hD [0, 1, 2, 7] [3, 4, 5, 6, 8, 9, 10, 11, 12, 13, 14] rfl rfl (by decide) (by decide)
          have hP := hpd9.1
          have hD := hpd9.2
          clear hpd9
          generalize H1 = H at hP hS ⊢
          clear hPc hDc hFc hz1 hk1 hP1 hD1 ht hvm
          have h9 := q_53_e.symm
          subst h9
          refine lv_iload_n hx hb dX9_askYounger_38 rfl (lv_at hl 0 rfl) ?_
          refine lv_aload_n hx hb dX9_askYounger_39 rfl (lv_at hl 1 rfl) ?_
          refine va_get (D := (dC, dI)) (ci := 9) (v := Value.ref pv) (C := RX9) (T := TX9) (N := 14) hx hb hts inX9 hown hK hP 11 rfl rfl 6 (by decide) (hts _ (gw kw_162 rfl)) (fun _ h9 => h9) rfl dX9_askYounger_40 ?_
          refine va_get (D := (dC, dI)) (ci := 4) (v := Value.ref ef) (C := RX4) (T := TX4) (N := 8) hx hb hts inX4 hown hK hP 12 rfl rfl 1 (by decide) (hts _ (gw kw_36 rfl)) (fun _ h9 => h9) rfl dX9_askYounger_43 ?_
          refine lv_iload_n hx hb dX9_askYounger_46 rfl (lv_at hl 3 rfl) ?_
          have h_54 : vp_in (nI j) 8 := by first | exact vp_in_nI (by omega) (by omega) | (unfold vp_in; decide) | (subst_vars; first | (unfold vp_in; decide) | exact vp_in_nI (by omega) (by omega))
          refine va_iald hx hb hK hP 0 0 rfl rfl h_54 dX9_askYounger_47 ?_
          refine lv_topi (fun x_55 e_55 => ?_)
          have h9 : x_55 = nI (F j) := by rw [e_55, nI_clamp (by omega)]; exact hff
          subst h9
          refine lv_aload_n hx hb dX9_askYounger_48 rfl (lv_at hl 1 rfl) ?_
          refine va_get (D := (dC, dI)) (ci := 9) (v := Value.ref pv) (C := RX9) (T := TX9) (N := 14) hx hb hts inX9 hown hK hP 11 rfl rfl 6 (by decide) (hts _ (gw kw_162 rfl)) (fun _ h9 => h9) rfl dX9_askYounger_49 ?_
          refine va_get (D := (dC, dI)) (ci := 4) (v := Value.ref es) (C := RX4) (T := TX4) (N := 8) hx hb hts inX4 hown hK hP 12 rfl rfl 4 (by decide) (hts _ (gw kw_44 rfl)) (fun _ h9 => h9) rfl dX9_askYounger_52 ?_
          refine lv_iconst (v := 2) hx hb dX9_askYounger_55 (by decide) ?_
          have h_56 : vp_in 2 5 := by first | exact vp_in_nI (by omega) (by omega) | (unfold vp_in; decide) | (subst_vars; first | (unfold vp_in; decide) | exact vp_in_nI (by omega) (by omega))
          refine va_iald hx hb hK hP 1 0 rfl rfl h_56 dX9_askYounger_56 ?_
          refine lv_topi (fun x_57 e_57 => ?_)
          have h9 : x_57 = (stf 2) := by rw [e_57]; rfl
          subst h9
          have hpd9 := pdf_N (cx := [cO k5 10 []]) hP hD hS hA [9] (by decide) rfl
          have hPc := hpd9.1
          have hDc := hpd9.2.1
          have hFc := hpd9.2.2
          clear hpd9
          refine va_calli (va_runU (As := [Value.int (iI (S j)), Value.int (nI (F j)), Value.int (stf 2)]) (rest := [Value.int (nI j), Value.ref (rp i)]) ⟨hx, hb, hml, hown, hts⟩ (c_X10_ask l dC dI aC H.size k5 (S j) (F j) (stf 2) (hs2) (hfle)) (va_cwO (owner := "EldestSays$Clever") 3 hts (gcons (gw kw_366 rfl) (gcons (gw kw_369 rfl) (gcons (gw kw_367 rfl) (gcons (gw kw_388 rfl) (gcons (gw kw_389 rfl) (gcons (gw kw_9 rfl) (gG kw_390))))))) rfl rfl rfl (gw kw_392 rfl) (by decide +kernel) ⟨Nat.le_of_ble_eq_true rfl, Nat.le_of_ble_eq_true rfl⟩) ⟨fb_std, va_recv (q := (RX10, TX10, 0)) hK hPc (ci := 10) (q0 := 0) rfl rfl, pre_std hPc hK hDc hN⟩ rfl rfl hl.1 rfl (lv_room (Nat.le_of_ble_eq_true rfl)) dX9_askYounger_57 ⟨Nat.le_of_ble_eq_true rfl, Nat.le_of_ble_eq_true rfl⟩) hS (fun q _ h => hFc q h) hFc (fun x_58 u9 t9 H1 locs ht hvm hw_58 hB hz1 hk1 hS => ?_)
          obtain ⟨hP1, hK1, hD1⟩ := hB
          rw [ht] at hP1
          clear hK1
          try dsimp only at hw_58
          have hpd9 : PDx (dC, dI) classes A H1 (wp [cI aC ef 8 ff, cI aC es 5 stf, cA aC pp 8 fp, cA aC ps 8 fs, cO k0 0 [], cO k1 1 [], cO k2 3 [], cO k3 5 [], cO k4 6 [], cO k6 8 [], oX9 h1 po pp ps pa pe pb pv pk pu pw pq pt un fw, oX4 pv ek ef ew ep es (nI n) sy dn, cI aC ek 8 kf, cK aC pk 7 fk, cO k5 10 []] (va_pl L (plE aC gc))) := jn_Q (wr := [cI aC ef 8 ff, cI aC es 5 stf, cA aC pp 8 fp, cA aC ps 8 fs, cO k0 0 [], cO k1 1 [], cO k2 3 [], cO k3 5 [], cO k4 6 [], cO k6 8 [], oX9 h1 po pp ps pa pe pb pv pk pu pw pq pt un fw, oX4 pv ek ef ew ep es (nI n) sy dn, cI aC ek 8 kf, cK aC pk 7 fk]) hFc hk1 hP1 hD1 hP hD [9] [0, 1, 2, 3, 4, 5, 6, 7, 8, 10, 11, 12, 13, 14] rfl rfl (by decide) (by decide)
          have hP := hpd9.1
          have hD := hpd9.2
          clear hpd9
          generalize H1 = H at hP hS ⊢
          clear hPc hDc hFc hz1 hk1 hP1 hD1 ht hvm
          have h9 : x_58 = nI (pr (K j) (F j) (stf 2) (S j)) := by rw [hw_58]; unfold pr; rw [hkk]; rfl
          subst h9
          have h_59 : vp_in (nI j) 8 := by first | exact vp_in_nI (by omega) (by omega) | (unfold vp_in; decide) | (subst_vars; first | (unfold vp_in; decide) | exact vp_in_nI (by omega) (by omega))
          refine pl_iast hx hb hK hP hD hS ((hgr.1 i (by omega)).2.1.2) h_59 dX9_askYounger_60 (fun H locs hP hD hS => ?_)
          obtain ⟨g_60, e_g_60⟩ : ∃ y : Nat → Nat → Int32, y = va_up gc (rp i) (upd (gc (rp i)) (nI j : Int32).toNatClampNeg (nI (pr (K j) (F j) (stf 2) (S j)))) := ⟨_, rfl⟩
          have hpd9 : PDx (dC, dI) classes A H (wp [cI aC ef 8 ff, cI aC es 5 stf, cA aC pp 8 fp, cA aC ps 8 fs, cO k0 0 [], cO k1 1 [], cO k2 3 [], cO k3 5 [], cO k4 6 [], cO k6 8 [], oX9 h1 po pp ps pa pe pb pv pk pu pw pq pt un fw, oX4 pv ek ef ew ep es (nI n) sy dn, cI aC ek 8 kf, cK aC pk 7 fk, cO k5 10 []] (va_pl L (plE aC g_60))) := by rw [e_g_60]; exact ⟨hP, hD⟩
          have hP := hpd9.1
          have hD := hpd9.2
          clear hpd9
          have hb1 : ∀ q, i < q → q < j + 1 → g_60 (rp i) q = nI (pr (K q) (F q) (stf 2) (S q)) := fun q h1 h2 => by
            rw [e_g_60, nI_clamp (by omega)]
            rw [show ∀ (u : Nat → Int32), va_up gc (rp i) u (rp i) = u from fun u => if_pos rfl]
            by_cases e : q = j
            · rw [e, pk_us]
            · rw [pk_un e]; exact hg1 q h1 (by omega)
          have hb2 : ∀ a, a ≠ rp i → g_60 a = g a := fun a h => by
            rw [e_g_60, show ∀ (u : Nat → Int32), va_up gc (rp i) u a = gc a from fun u => if_neg h]
            exact hg2 a h
          obtain ⟨x_61, e_61⟩ : ∃ y : Int32, y = (nI j) + 1 := ⟨_, rfl⟩
          refine lv_iinc (v := x_61) (lv' := [(2, Value.int x_61), (3, Value.int (iI (S j))), (0, Value.ref h1), (1, Value.int (nI i))]) hx hb dX9_askYounger_61 hl (k := 3) rfl (by rw [e_61]; rfl) (by decide) rfl (fun ls hl => ?_)
          have h9 : x_61 = nI (j + 1) := by rw [e_61, nI_1]
          subst h9
          refine lv_goto (tgt := 4) hx hb dX9_askYounger_64 (by decide) ?_
          exact ih_4 (j + 1) g_60 (ms_lt hlt hfu) (by omega) (hb1) (hb2) _ _ _ (plP hP [10, 11, 12, 0, 1, 2, 3, 13, 4, 5, 6, 7, 8, 14, 9] rfl) (plD hD [10, 11, 12, 0, 1, 2, 3, 13, 4, 5, 6, 7, 8, 14, 9] (by decide) rfl) hS (lv_sub hl [2, 3, 0] rfl)
        · have hkv : kf j = nI 6 := by rw [hkf, hkk]
          refine lv_aload_n hx hb dX9_askYounger_33 rfl (lv_at hl 1 rfl) ?_
          refine lv_iload_n hx hb dX9_askYounger_34 rfl (lv_at hl 3 rfl) ?_
          have hpd9 := pdf_N (cx := [oX9 h1 po pp ps pa pe pb pv pk pu pw pq pt un fw, oX4 pv ek ef ew ep es (nI n) sy dn, cI aC ek 8 kf, cK aC pk 7 fk]) hP hD hS hA [0, 1, 2, 7] (by decide) rfl
          have hPc := hpd9.1
          have hDc := hpd9.2.1
          have hFc := hpd9.2.2
          clear hpd9
          refine va_callr (va_runV (As := [Value.int (nI j)]) (rest := [Value.int (nI j), Value.ref (rp i)]) ⟨hx, hb, hml, hown, hts⟩ (c_X9_kindOf l dC dI aC H.size h1 po pp ps pa pe pb pv pk pu pw pq pt un fw ek ef ew ep es n sy dn kf fk j 6 k6 (by omega) (hkv) (by omega) (hkd.2.2.2.2.2.2)) ⟨(callB_of 1 hts (gG kw_365) rfl rfl rfl (hts _ (gw kw_11 rfl)) (hts _ (gw kw_362 rfl)) hd_X9_kindOf ⟨Nat.le_of_ble_eq_true rfl, Nat.le_of_ble_eq_true rfl⟩), (hts _ (gw kw_364 rfl)), (hts _ (gw ks_8 rfl))⟩ ⟨fb_std, va_recv (q := (RX9, TX9, 14)) hK hPc (ci := 9) (q0 := 0) rfl rfl, pre_std hPc hK hDc hN⟩ rfl rfl hl.1 rfl (lv_room (Nat.le_of_ble_eq_true rfl)) dX9_askYounger_35 ⟨Nat.le_of_ble_eq_true rfl, Nat.le_of_ble_eq_true rfl⟩) hS (fun q _ h => hFc q h) hFc (fun u9 q_62 t9 H1 locs ht hvm hw_62 hB hz1 hk1 hS => ?_)
          obtain ⟨q_62_e, hP1, hK1, hD1⟩ := hB
          rw [ht] at hP1
          clear hK1
          try dsimp only at hw_62
          have hpd9 : PDx (dC, dI) classes A H1 (wp [cI aC ef 8 ff, cI aC es 5 stf, cA aC pp 8 fp, cA aC ps 8 fs, cO k0 0 [], cO k1 1 [], cO k2 3 [], cO k3 5 [], cO k4 6 [], cO k5 10 [], cO k6 8 [], oX9 h1 po pp ps pa pe pb pv pk pu pw pq pt un fw, oX4 pv ek ef ew ep es (nI n) sy dn, cI aC ek 8 kf, cK aC pk 7 fk] (va_pl L (plE aC gc))) := jn_Q (wr := [cI aC ef 8 ff, cI aC es 5 stf, cA aC pp 8 fp, cA aC ps 8 fs, cO k0 0 [], cO k1 1 [], cO k2 3 [], cO k3 5 [], cO k4 6 [], cO k5 10 [], cO k6 8 []]) hFc hk1 hP1 hD1 hP hD [0, 1, 2, 7] [3, 4, 5, 6, 8, 9, 10, 11, 12, 13, 14] rfl rfl (by decide) (by decide)
          have hP := hpd9.1
          have hD := hpd9.2
          clear hpd9
          generalize H1 = H at hP hS ⊢
          clear hPc hDc hFc hz1 hk1 hP1 hD1 ht hvm
          have h9 := q_62_e.symm
          subst h9
          refine lv_iload_n hx hb dX9_askYounger_38 rfl (lv_at hl 0 rfl) ?_
          refine lv_aload_n hx hb dX9_askYounger_39 rfl (lv_at hl 1 rfl) ?_
          refine va_get (D := (dC, dI)) (ci := 9) (v := Value.ref pv) (C := RX9) (T := TX9) (N := 14) hx hb hts inX9 hown hK hP 11 rfl rfl 6 (by decide) (hts _ (gw kw_162 rfl)) (fun _ h9 => h9) rfl dX9_askYounger_40 ?_
          refine va_get (D := (dC, dI)) (ci := 4) (v := Value.ref ef) (C := RX4) (T := TX4) (N := 8) hx hb hts inX4 hown hK hP 12 rfl rfl 1 (by decide) (hts _ (gw kw_36 rfl)) (fun _ h9 => h9) rfl dX9_askYounger_43 ?_
          refine lv_iload_n hx hb dX9_askYounger_46 rfl (lv_at hl 3 rfl) ?_
          have h_63 : vp_in (nI j) 8 := by first | exact vp_in_nI (by omega) (by omega) | (unfold vp_in; decide) | (subst_vars; first | (unfold vp_in; decide) | exact vp_in_nI (by omega) (by omega))
          refine va_iald hx hb hK hP 0 0 rfl rfl h_63 dX9_askYounger_47 ?_
          refine lv_topi (fun x_64 e_64 => ?_)
          have h9 : x_64 = nI (F j) := by rw [e_64, nI_clamp (by omega)]; exact hff
          subst h9
          refine lv_aload_n hx hb dX9_askYounger_48 rfl (lv_at hl 1 rfl) ?_
          refine va_get (D := (dC, dI)) (ci := 9) (v := Value.ref pv) (C := RX9) (T := TX9) (N := 14) hx hb hts inX9 hown hK hP 11 rfl rfl 6 (by decide) (hts _ (gw kw_162 rfl)) (fun _ h9 => h9) rfl dX9_askYounger_49 ?_
          refine va_get (D := (dC, dI)) (ci := 4) (v := Value.ref es) (C := RX4) (T := TX4) (N := 8) hx hb hts inX4 hown hK hP 12 rfl rfl 4 (by decide) (hts _ (gw kw_44 rfl)) (fun _ h9 => h9) rfl dX9_askYounger_52 ?_
          refine lv_iconst (v := 2) hx hb dX9_askYounger_55 (by decide) ?_
          have h_65 : vp_in 2 5 := by first | exact vp_in_nI (by omega) (by omega) | (unfold vp_in; decide) | (subst_vars; first | (unfold vp_in; decide) | exact vp_in_nI (by omega) (by omega))
          refine va_iald hx hb hK hP 1 0 rfl rfl h_65 dX9_askYounger_56 ?_
          refine lv_topi (fun x_66 e_66 => ?_)
          have h9 : x_66 = (stf 2) := by rw [e_66]; rfl
          subst h9
          have hpd9 := pdf_N (cx := [cO k6 8 []]) hP hD hS hA [10] (by decide) rfl
          have hPc := hpd9.1
          have hDc := hpd9.2.1
          have hFc := hpd9.2.2
          clear hpd9
          refine va_calli (va_runU (As := [Value.int (iI (S j)), Value.int (nI (F j)), Value.int (stf 2)]) (rest := [Value.int (nI j), Value.ref (rp i)]) ⟨hx, hb, hml, hown, hts⟩ (c_X8_ask l dC dI aC H.size k6 (S j) (F j) (stf 2) (hs2) (hfle)) (va_cwO (owner := "EldestSays$Clever") 3 hts (gcons (gw kw_366 rfl) (gcons (gw kw_369 rfl) (gcons (gw kw_367 rfl) (gcons (gw kw_384 rfl) (gcons (gw kw_385 rfl) (gcons (gw kw_10 rfl) (gG kw_386))))))) rfl rfl rfl (gw kw_392 rfl) (by decide +kernel) ⟨Nat.le_of_ble_eq_true rfl, Nat.le_of_ble_eq_true rfl⟩) ⟨fb_std, va_recv (q := (RX8, TX8, 0)) hK hPc (ci := 8) (q0 := 0) rfl rfl, pre_std hPc hK hDc hN⟩ rfl rfl hl.1 rfl (lv_room (Nat.le_of_ble_eq_true rfl)) dX9_askYounger_57 ⟨Nat.le_of_ble_eq_true rfl, Nat.le_of_ble_eq_true rfl⟩) hS (fun q _ h => hFc q h) hFc (fun x_67 u9 t9 H1 locs ht hvm hw_67 hB hz1 hk1 hS => ?_)
          obtain ⟨hP1, hK1, hD1⟩ := hB
          rw [ht] at hP1
          clear hK1
          try dsimp only at hw_67
          have hpd9 : PDx (dC, dI) classes A H1 (wp [cI aC ef 8 ff, cI aC es 5 stf, cA aC pp 8 fp, cA aC ps 8 fs, cO k0 0 [], cO k1 1 [], cO k2 3 [], cO k3 5 [], cO k4 6 [], cO k5 10 [], oX9 h1 po pp ps pa pe pb pv pk pu pw pq pt un fw, oX4 pv ek ef ew ep es (nI n) sy dn, cI aC ek 8 kf, cK aC pk 7 fk, cO k6 8 []] (va_pl L (plE aC gc))) := jn_Q (wr := [cI aC ef 8 ff, cI aC es 5 stf, cA aC pp 8 fp, cA aC ps 8 fs, cO k0 0 [], cO k1 1 [], cO k2 3 [], cO k3 5 [], cO k4 6 [], cO k5 10 [], oX9 h1 po pp ps pa pe pb pv pk pu pw pq pt un fw, oX4 pv ek ef ew ep es (nI n) sy dn, cI aC ek 8 kf, cK aC pk 7 fk]) hFc hk1 hP1 hD1 hP hD [10] [0, 1, 2, 3, 4, 5, 6, 7, 8, 9, 11, 12, 13, 14] rfl rfl (by decide) (by decide)
          have hP := hpd9.1
          have hD := hpd9.2
          clear hpd9
          generalize H1 = H at hP hS ⊢
          clear hPc hDc hFc hz1 hk1 hP1 hD1 ht hvm
          have h9 : x_67 = nI (pr (K j) (F j) (stf 2) (S j)) := by rw [hw_67]; unfold pr; rw [hkk]; rfl
          subst h9
          have h_68 : vp_in (nI j) 8 := by first | exact vp_in_nI (by omega) (by omega) | (unfold vp_in; decide) | (subst_vars; first | (unfold vp_in; decide) | exact vp_in_nI (by omega) (by omega))
          refine pl_iast hx hb hK hP hD hS ((hgr.1 i (by omega)).2.1.2) h_68 dX9_askYounger_60 (fun H locs hP hD hS => ?_)
          obtain ⟨g_69, e_g_69⟩ : ∃ y : Nat → Nat → Int32, y = va_up gc (rp i) (upd (gc (rp i)) (nI j : Int32).toNatClampNeg (nI (pr (K j) (F j) (stf 2) (S j)))) := ⟨_, rfl⟩
          have hpd9 : PDx (dC, dI) classes A H (wp [cI aC ef 8 ff, cI aC es 5 stf, cA aC pp 8 fp, cA aC ps 8 fs, cO k0 0 [], cO k1 1 [], cO k2 3 [], cO k3 5 [], cO k4 6 [], cO k5 10 [], oX9 h1 po pp ps pa pe pb pv pk pu pw pq pt un fw, oX4 pv ek ef ew ep es (nI n) sy dn, cI aC ek 8 kf, cK aC pk 7 fk, cO k6 8 []] (va_pl L (plE aC g_69))) := by rw [e_g_69]; exact ⟨hP, hD⟩
          have hP := hpd9.1
          have hD := hpd9.2
          clear hpd9
          have hb1 : ∀ q, i < q → q < j + 1 → g_69 (rp i) q = nI (pr (K q) (F q) (stf 2) (S q)) := fun q h1 h2 => by
            rw [e_g_69, nI_clamp (by omega)]
            rw [show ∀ (u : Nat → Int32), va_up gc (rp i) u (rp i) = u from fun u => if_pos rfl]
            by_cases e : q = j
            · rw [e, pk_us]
            · rw [pk_un e]; exact hg1 q h1 (by omega)
          have hb2 : ∀ a, a ≠ rp i → g_69 a = g a := fun a h => by
            rw [e_g_69, show ∀ (u : Nat → Int32), va_up gc (rp i) u a = gc a from fun u => if_neg h]
            exact hg2 a h
          obtain ⟨x_70, e_70⟩ : ∃ y : Int32, y = (nI j) + 1 := ⟨_, rfl⟩
          refine lv_iinc (v := x_70) (lv' := [(2, Value.int x_70), (3, Value.int (iI (S j))), (0, Value.ref h1), (1, Value.int (nI i))]) hx hb dX9_askYounger_61 hl (k := 3) rfl (by rw [e_70]; rfl) (by decide) rfl (fun ls hl => ?_)
          have h9 : x_70 = nI (j + 1) := by rw [e_70, nI_1]
          subst h9
          refine lv_goto (tgt := 4) hx hb dX9_askYounger_64 (by decide) ?_
          exact ih_4 (j + 1) g_69 (ms_lt hlt hfu) (by omega) (hb1) (hb2) _ _ _ (plP hP [10, 11, 12, 0, 1, 2, 3, 13, 4, 5, 6, 7, 8, 9, 14] rfl) (plD hD [10, 11, 12, 0, 1, 2, 3, 13, 4, 5, 6, 7, 8, 9, 14] (by decide) rfl) hS (lv_sub hl [2, 3, 0] rfl)
  exact lp_4 ((n - (i + 1)) + 1) (i + 1) g (Nat.lt_succ_self _) (by omega) (fun q h1 h2 => by omega) (fun a _ => rfl) _ _ _ (plP hP [0, 1, 2, 3, 4, 5, 6, 7, 8, 9, 10, 11, 12, 13, 14] rfl) (plD hD [0, 1, 2, 3, 4, 5, 6, 7, 8, 9, 10, 11, 12, 13, 14] (by decide) rfl) hS (lv_sub hl [1, 2, 0] rfl)
