set_option maxHeartbeats 1000000 in
set_option maxRecDepth 100000 in
/-- X9_solve -/
theorem c_X9_solve (l : Launch) (dC : Nat → ClassId) (dI : Nat → Nat → Nat) (aC : Nat → ClassId) (sz : Nat) (h1 : Nat) (po : Nat) (pp : Nat) (ps : Nat) (pa : Nat) (pe : Nat) (pb : Nat) (pv : Nat) (pk : Nat) (pu : Nat) (pw : Nat) (pq : Nat) (pt : Nat) (un : Int32) (fw : Int32) (ek : Nat) (ef : Nat) (ew : Nat) (ep : Nat) (es : Nat) (n : Nat) (sy : Int32) (dn : Int32) (kf : Nat → Int32) (ff : Nat → Int32) (wf : Nat → Int32) (stf : Nat → Int32) (K : Nat → Nat) (F : Nat → Nat) (W0 : Nat → Nat) (cq : Nat) (L : List Nat) (g : Nat → Nat → Int32) (fo : Nat → Option Nat) (fp : Nat → Option Nat) (fs : Nat → Option Nat) (ro : Nat → Nat) (rp : Nat → Nat) (rs : Nat → Nat) (fk : Nat → Option Nat) (k0 : Nat) (k1 : Nat) (k2 : Nat) (k3 : Nat) (k4 : Nat) (k5 : Nat) (k6 : Nat) (pl : PLT) (i0 : Nat) (uf : Nat → Int32) (vf : Nat → Int32) (qf : Nat → Int32) (tf : Nat → Int32) (bf : Nat → Int32) (yf : Nat → Int32) (ef0 : Nat → Int32) (hgr : GRD L fo fp fs ro rp rs) (hev : EVH n K F W0 cq kf ff wf stf) (hkd : KDS fk k0 k1 k2 k3 k4 k5 k6) (hpl : PLAN n K F W0 cq (stf 1) (stf 2) (stf 3) pl) (hi0 : i0 ≤ 8) : Met l yX9_solve (wW yX9_solve cX9_solve 3 (none : Option FieldType)) ({ frames := 5, cells := 0, slots := 0, locals := 109 } : Room) (va_Pc [Value.ref h1, Value.int (nI i0)] (fun U => U.heap.size = sz ∧ va_P (dC, dI) classes (wp [oX9 h1 po pp ps pa pe pb pv pk pu pw pq pt un fw, oX4 pv ek ef ew ep es (nI n) sy dn, cI aC ek 8 kf, cI aC ef 8 ff, cI aC ew 8 wf, cI aC es 5 stf, cA aC po 8 fo, cA aC pp 8 fp, cA aC ps 8 fs, cK aC pk 7 fk, cO k0 0 [], cO k1 1 [], cO k2 3 [], cO k3 5 [], cO k4 6 [], cO k5 10 [], cO k6 8 [], cI aC pa 8 yf, cI aC pe 8 ef0, cI aC pb 8 bf, cI aC pu 7 uf, cI aC pw 7 vf, cI aC pq 128 qf, cI aC pt 128 tf] (va_pl L (plE aC g))) U.heap ∧ va_K (dC, dI) classes (TY aC) U ∧ va_D (fun _ => True) (wp [oX9 h1 po pp ps pa pe pb pv pk pu pw pq pt un fw, oX4 pv ek ef ew ep es (nI n) sy dn, cI aC ek 8 kf, cI aC ef 8 ff, cI aC ew 8 wf, cI aC es 5 stf, cA aC po 8 fo, cA aC pp 8 fp, cA aC ps 8 fs, cK aC pk 7 fk, cO k0 0 [], cO k1 1 [], cO k2 3 [], cO k3 5 [], cO k4 6 [], cO k5 10 [], cO k6 8 [], cI aC pa 8 yf, cI aC pe 8 ef0, cI aC pb 8 bf, cI aC pu 7 uf, cI aC pw 7 vf, cI aC pq 128 qf, cI aC pt 128 tf] (va_pl L (plE aC g))) ∧ NX U)) (va_Qv (fun (u : Int32 × Int32 × (Nat → Int32) × (Nat → Int32) × (Nat → Int32) × (Nat → Int32) × (Nat → Int32) × (Nat → Int32) × (Nat → Int32) × (Nat → Nat → Int32)) => match u with | (un2, fw2, ug, vg, qg, tg, bg, yg, eg, g2) => (∀ i, i0 ≤ i → i < n → MAT n pl ro rp rs g2 yg eg bg i) ∧ ∀ a, OFF ro rp rs a → g2 a = g a) (fun (u : Int32 × Int32 × (Nat → Int32) × (Nat → Int32) × (Nat → Int32) × (Nat → Int32) × (Nat → Int32) × (Nat → Int32) × (Nat → Int32) × (Nat → Nat → Int32)) (t : State) => match u with | (un2, fw2, ug, vg, qg, tg, bg, yg, eg, g2) => va_P (dC, dI) classes (wp [oX9 h1 po pp ps pa pe pb pv pk pu pw pq pt un2 fw2, oX4 pv ek ef ew ep es (nI n) sy dn, cI aC ek 8 kf, cI aC ef 8 ff, cI aC ew 8 wf, cI aC es 5 stf, cA aC po 8 fo, cA aC pp 8 fp, cA aC ps 8 fs, cK aC pk 7 fk, cO k0 0 [], cO k1 1 [], cO k2 3 [], cO k3 5 [], cO k4 6 [], cO k5 10 [], cO k6 8 [], cI aC pa 8 yg, cI aC pe 8 eg, cI aC pb 8 bg, cI aC pu 7 ug, cI aC pw 7 vg, cI aC pq 128 qg, cI aC pt 128 tg] (va_pl L (plE aC g2))) t.heap ∧ va_K (dC, dI) classes (TY aC) t ∧ va_D (va_A (wp [oX9 h1 po pp ps pa pe pb pv pk pu pw pq pt un fw, oX4 pv ek ef ew ep es (nI n) sy dn, cI aC ek 8 kf, cI aC ef 8 ff, cI aC ew 8 wf, cI aC es 5 stf, cA aC po 8 fo, cA aC pp 8 fp, cA aC ps 8 fs, cK aC pk 7 fk, cO k0 0 [], cO k1 1 [], cO k2 3 [], cO k3 5 [], cO k4 6 [], cO k5 10 [], cO k6 8 [], cI aC pa 8 yf, cI aC pe 8 ef0, cI aC pb 8 bf, cI aC pu 7 uf, cI aC pw 7 vf, cI aC pq 128 qf, cI aC pt 128 tf] (va_pl L (plE aC g))) sz) (wp [oX9 h1 po pp ps pa pe pb pv pk pu pw pq pt un2 fw2, oX4 pv ek ef ew ep es (nI n) sy dn, cI aC ek 8 kf, cI aC ef 8 ff, cI aC ew 8 wf, cI aC es 5 stf, cA aC po 8 fo, cA aC pp 8 fp, cA aC ps 8 fs, cK aC pk 7 fk, cO k0 0 [], cO k1 1 [], cO k2 3 [], cO k3 5 [], cO k4 6 [], cO k5 10 [], cO k6 8 [], cI aC pa 8 yg, cI aC pe 8 eg, cI aC pb 8 bg, cI aC pu 7 ug, cI aC pw 7 vg, cI aC pq 128 qg, cI aC pt 128 tg] (va_pl L (plE aC g2)))) (va_A (wp [oX9 h1 po pp ps pa pe pb pv pk pu pw pq pt un fw, oX4 pv ek ef ew ep es (nI n) sy dn, cI aC ek 8 kf, cI aC ef 8 ff, cI aC ew 8 wf, cI aC es 5 stf, cA aC po 8 fo, cA aC pp 8 fp, cA aC ps 8 fs, cK aC pk 7 fk, cO k0 0 [], cO k1 1 [], cO k2 3 [], cO k3 5 [], cO k4 6 [], cO k5 10 [], cO k6 8 [], cI aC pa 8 yf, cI aC pe 8 ef0, cI aC pb 8 bf, cI aC pu 7 uf, cI aC pw 7 vf, cI aC pq 128 qf, cI aC pt 128 tf] (va_pl L (plE aC g))) sz)) 0 0 (va_A (wp [oX9 h1 po pp ps pa pe pb pv pk pu pw pq pt un fw, oX4 pv ek ef ew ep es (nI n) sy dn, cI aC ek 8 kf, cI aC ef 8 ff, cI aC ew 8 wf, cI aC es 5 stf, cA aC po 8 fo, cA aC pp 8 fp, cA aC ps 8 fs, cK aC pk 7 fk, cO k0 0 [], cO k1 1 [], cO k2 3 [], cO k3 5 [], cO k4 6 [], cO k5 10 [], cO k6 8 [], cI aC pa 8 yf, cI aC pe 8 ef0, cI aC pb 8 bf, cI aC pu 7 uf, cI aC pw 7 vf, cI aC pq 128 qf, cI aC pt 128 tf] (va_pl L (plE aC g))) sz) := by
  refine Met.ofW (cc := cX9_solve) (maxL := 3) (ret := (none : Option FieldType)) (by decide) rfl ?_
  intro p e s m args below meth c s₁ B hml hv
  obtain ⟨rfl, hsz, hP, hK, hD0, hN⟩ := hv
  have hx := B.exec
  have hb := B.bytes
  have hr := B.returns
  have hts0 := atoms_spec (ws := (wW yX9_solve cX9_solve 3 (none : Option FieldType))) B.pre
  have hts : ∀ w9 ∈ lw_G, w9.before ([Value.ref h1, Value.int (nI i0)] : List Value).toArray s = true := fun w9 h9 => hts0 w9 (List.mem_cons_of_mem _ h9)
  have hown : s.vm.findClass RX9 = some m.cls := findClass_of_methodNamed (x := yX9_solve) B.named
  have hlocks := B.notSynchronized
  subst hsz
  have hD := hD0.self (sz := s.heap.size)
  generalize hAe : va_A (wp [oX9 h1 po pp ps pa pe pb pv pk pu pw pq pt un fw, oX4 pv ek ef ew ep es (nI n) sy dn, cI aC ek 8 kf, cI aC ef 8 ff, cI aC ew 8 wf, cI aC es 5 stf, cA aC po 8 fo, cA aC pp 8 fp, cA aC ps 8 fs, cK aC pk 7 fk, cO k0 0 [], cO k1 1 [], cO k2 3 [], cO k3 5 [], cO k4 6 [], cO k5 10 [], cO k6 8 [], cI aC pa 8 yf, cI aC pe 8 ef0, cI aC pb 8 bf, cI aC pu 7 uf, cI aC pw 7 vf, cI aC pq 128 qf, cI aC pt 128 tf] (va_pl L (plE aC g))) s.heap.size = A at hD ⊢
  have hA : ∀ q : Nat, s.heap.size ≤ q → A q := fun q h => by rw [← hAe]; exact Or.inr h
  obtain ⟨H, hHe⟩ : ∃ H : Heap, H = s.heap := ⟨_, rfl⟩
  have hS : va_S A s.heap H [] := by rw [hHe]; exact va_S.rf
  have hP : va_P (dC, dI) classes (wp [oX9 h1 po pp ps pa pe pb pv pk pu pw pq pt un fw, oX4 pv ek ef ew ep es (nI n) sy dn, cI aC ek 8 kf, cI aC ef 8 ff, cI aC ew 8 wf, cI aC es 5 stf, cA aC po 8 fo, cA aC pp 8 fp, cA aC ps 8 fs, cK aC pk 7 fk, cO k0 0 [], cO k1 1 [], cO k2 3 [], cO k3 5 [], cO k4 6 [], cO k5 10 [], cO k6 8 [], cI aC pa 8 yf, cI aC pe 8 ef0, cI aC pb 8 bf, cI aC pu 7 uf, cI aC pw 7 vf, cI aC pq 128 qf, cI aC pt 128 tf] (va_pl L (plE aC g))) H := by rw [hHe]; exact hP
  have hl := lv_entry ([Value.ref h1, Value.int (nI i0)]) (n := 3) (Nat.le_of_ble_eq_true rfl)
  rw [lg_entry_eq]
  generalize (lg_sl ([Value.ref h1, Value.int (nI i0)]) ++ List.replicate (3 - (lg_sl ([Value.ref h1, Value.int (nI i0)])).length) Slot.unset).toArray = ls at hl ⊢
  have hl : lv_has ls 3 [(0, Value.ref h1), (1, Value.int (nI i0))] := hl
  rw [← hHe]
  have hn88 := hev.1
  refine lv_aload_n hx hb dX9_solve_0 rfl (lv_at hl 0 rfl) ?_
  refine va_get (D := (dC, dI)) (ci := 9) (v := Value.ref pv) (C := RX9) (T := TX9) (N := 14) hx hb hts inX9 hown hK hP 0 rfl rfl 6 (by decide) (hts _ (gw kw_162 rfl)) (fun _ h9 => h9) rfl dX9_solve_1 ?_
  refine va_get (D := (dC, dI)) (ci := 4) (v := Value.int (nI n)) (C := RX4) (T := TX4) (N := 8) hx hb hts inX4 hown hK hP 1 rfl rfl 5 (by decide) (hts _ (gw kw_47 rfl)) (fun _ h9 => h9) rfl dX9_solve_4 ?_
  refine lv_iconst (v := 1) hx hb dX9_solve_7 (by decide) ?_
  refine lv_isub hx hb dX9_solve_8 ?_
  refine lv_topi (fun x_1 e_1 => ?_)
  refine lv_istore_n (lv' := [(2, Value.int x_1), (0, Value.ref h1), (1, Value.int (nI i0))]) hx hb dX9_solve_9 rfl hl (by decide) rfl (fun ls hl => ?_)
  have lp_10 : ∀ (fu : Nat) (k : Nat) (x2 : Int32) (unc : Int32) (fwc : Int32) (uc : Nat → Int32) (vc : Nat → Int32) (qc : Nat → Int32) (tc : Nat → Int32) (bc : Nat → Int32) (yc : Nat → Int32) (ec : Nat → Int32) (gc : Nat → Nat → Int32) (hfu : k < fu) (hk : k ≤ n) (hx2 : x2 = iI ((k : Int) - 1)) (hm : ∀ i, k ≤ i → i < n → MAT n pl ro rp rs gc yc ec bc i) (hof : ∀ a, OFF ro rp rs a → gc a = g a) (H : Heap) (locs : List Loc) (ls : Array Slot), va_P (dC, dI) classes (wp [oX9 h1 po pp ps pa pe pb pv pk pu pw pq pt unc fwc, oX4 pv ek ef ew ep es (nI n) sy dn, cI aC ek 8 kf, cI aC ef 8 ff, cI aC ew 8 wf, cI aC es 5 stf, cA aC po 8 fo, cA aC pp 8 fp, cA aC ps 8 fs, cK aC pk 7 fk, cO k0 0 [], cO k1 1 [], cO k2 3 [], cO k3 5 [], cO k4 6 [], cO k5 10 [], cO k6 8 [], cI aC pa 8 yc, cI aC pe 8 ec, cI aC pb 8 bc, cI aC pu 7 uc, cI aC pw 7 vc, cI aC pq 128 qc, cI aC pt 128 tc] (va_pl L (plE aC gc))) H → va_D A (wp [oX9 h1 po pp ps pa pe pb pv pk pu pw pq pt unc fwc, oX4 pv ek ef ew ep es (nI n) sy dn, cI aC ek 8 kf, cI aC ef 8 ff, cI aC ew 8 wf, cI aC es 5 stf, cA aC po 8 fo, cA aC pp 8 fp, cA aC ps 8 fs, cK aC pk 7 fk, cO k0 0 [], cO k1 1 [], cO k2 3 [], cO k3 5 [], cO k4 6 [], cO k5 10 [], cO k6 8 [], cI aC pa 8 yc, cI aC pe 8 ec, cI aC pb 8 bc, cI aC pu 7 uc, cI aC pw 7 vc, cI aC pq 128 qc, cI aC pt 128 tc] (va_pl L (plE aC gc))) → va_S A s.heap H locs → lv_has ls 3 [(0, Value.ref h1), (1, Value.int (nI i0)), (2, Value.int x2)] → W p l e (headSpec (wW yX9_solve cX9_solve 3 (none : Option FieldType)) ({ frames := 5, cells := 0, slots := 0, locals := 109 } : Room)).room s m ([Value.ref h1, Value.int (nI i0)] : List Value).toArray below meth c H locs 0 0 (MQ below (va_Qv (fun (u : Int32 × Int32 × (Nat → Int32) × (Nat → Int32) × (Nat → Int32) × (Nat → Int32) × (Nat → Int32) × (Nat → Int32) × (Nat → Int32) × (Nat → Nat → Int32)) => match u with | (un2, fw2, ug, vg, qg, tg, bg, yg, eg, g2) => (∀ i, i0 ≤ i → i < n → MAT n pl ro rp rs g2 yg eg bg i) ∧ ∀ a, OFF ro rp rs a → g2 a = g a) (fun (u : Int32 × Int32 × (Nat → Int32) × (Nat → Int32) × (Nat → Int32) × (Nat → Int32) × (Nat → Int32) × (Nat → Int32) × (Nat → Int32) × (Nat → Nat → Int32)) (t : State) => match u with | (un2, fw2, ug, vg, qg, tg, bg, yg, eg, g2) => va_P (dC, dI) classes (wp [oX9 h1 po pp ps pa pe pb pv pk pu pw pq pt un2 fw2, oX4 pv ek ef ew ep es (nI n) sy dn, cI aC ek 8 kf, cI aC ef 8 ff, cI aC ew 8 wf, cI aC es 5 stf, cA aC po 8 fo, cA aC pp 8 fp, cA aC ps 8 fs, cK aC pk 7 fk, cO k0 0 [], cO k1 1 [], cO k2 3 [], cO k3 5 [], cO k4 6 [], cO k5 10 [], cO k6 8 [], cI aC pa 8 yg, cI aC pe 8 eg, cI aC pb 8 bg, cI aC pu 7 ug, cI aC pw 7 vg, cI aC pq 128 qg, cI aC pt 128 tg] (va_pl L (plE aC g2))) t.heap ∧ va_K (dC, dI) classes (TY aC) t ∧ va_D A (wp [oX9 h1 po pp ps pa pe pb pv pk pu pw pq pt un2 fw2, oX4 pv ek ef ew ep es (nI n) sy dn, cI aC ek 8 kf, cI aC ef 8 ff, cI aC ew 8 wf, cI aC es 5 stf, cA aC po 8 fo, cA aC pp 8 fp, cA aC ps 8 fs, cK aC pk 7 fk, cO k0 0 [], cO k1 1 [], cO k2 3 [], cO k3 5 [], cO k4 6 [], cO k5 10 [], cO k6 8 [], cI aC pa 8 yg, cI aC pe 8 eg, cI aC pb 8 bg, cI aC pu 7 ug, cI aC pw 7 vg, cI aC pq 128 qg, cI aC pt 128 tg] (va_pl L (plE aC g2)))) A) ([Value.ref h1, Value.int (nI i0)] : List Value).toArray s 0 0 A) (F0 m 10 ls []) := by
    intro fu
    induction fu with
    | zero => intro k x2 unc fwc uc vc qc tc bc yc ec gc hfu; exact absurd hfu (Nat.not_lt_zero _)
    | succ fu ih_10 =>
      intro k x2 unc fwc uc vc qc tc bc yc ec gc hfu hk hx2 hm hof H locs ls hP hD hS hl
      refine lv_iload_n hx hb dX9_solve_10 rfl (lv_at hl 2 rfl) ?_
      refine lv_iload_n hx hb dX9_solve_11 rfl (lv_at hl 1 rfl) ?_
      refine lv_icmp_lt (tgt := 63) hx hb dX9_solve_12 (by decide) (fun c_2 => ?_) (fun c_2 => ?_)
      · have hpd9 := pd_P (cx := [oX9 h1 po pp ps pa pe pb pv pk pu pw pq pt unc fwc, oX4 pv ek ef ew ep es (nI n) sy dn, cI aC ek 8 kf, cI aC ef 8 ff, cI aC ew 8 wf, cI aC es 5 stf, cA aC po 8 fo, cA aC pp 8 fp, cA aC ps 8 fs, cK aC pk 7 fk, cO k0 0 [], cO k1 1 [], cO k2 3 [], cO k3 5 [], cO k4 6 [], cO k5 10 [], cO k6 8 [], cI aC pa 8 yc, cI aC pe 8 ec, cI aC pb 8 bc, cI aC pu 7 uc, cI aC pw 7 vc, cI aC pq 128 qc, cI aC pt 128 tc]) hP hD [0, 1, 2, 3, 4, 5, 6, 7, 8, 9, 10, 11, 12, 13, 14, 15, 16, 17, 18, 19, 20, 21, 22, 23] (by decide) rfl
        have hP9 := hpd9.1
        have hD9 := hpd9.2
        refine W.widen (k := 0) (n := 0) (by omega) (by omega) ?_
        exact W.vret hx hb hr (fun t ht hW => ⟨⟨(unc, fwc, uc, vc, qc, tc, bc, yc, ec, gc), rfl, ⟨fun i h1 h2 => hm i (by have h9 := c_2; rw [hx2, nI_iI, iI_lt (by unfold sm; omega) (by unfold sm; omega)] at h9; omega) h2, hof⟩, by rw [ht]; exact hP9, va_K.moved hW.alike hK, hD9⟩, hS.F ht⟩) hS.2.2 dX9_solve_63
      · refine lv_iload_n hx hb dX9_solve_15 rfl (lv_at hl 2 rfl) ?_
        refine lv_if_lt (tgt := 63) hx hb dX9_solve_16 (by decide) (fun c_3 => ?_) (fun c_3 => ?_)
        · have hpd9 := pd_P (cx := [oX9 h1 po pp ps pa pe pb pv pk pu pw pq pt unc fwc, oX4 pv ek ef ew ep es (nI n) sy dn, cI aC ek 8 kf, cI aC ef 8 ff, cI aC ew 8 wf, cI aC es 5 stf, cA aC po 8 fo, cA aC pp 8 fp, cA aC ps 8 fs, cK aC pk 7 fk, cO k0 0 [], cO k1 1 [], cO k2 3 [], cO k3 5 [], cO k4 6 [], cO k5 10 [], cO k6 8 [], cI aC pa 8 yc, cI aC pe 8 ec, cI aC pb 8 bc, cI aC pu 7 uc, cI aC pw 7 vc, cI aC pq 128 qc, cI aC pt 128 tc]) hP hD [0, 1, 2, 3, 4, 5, 6, 7, 8, 9, 10, 11, 12, 13, 14, 15, 16, 17, 18, 19, 20, 21, 22, 23] (by decide) rfl
          have hP9 := hpd9.1
          have hD9 := hpd9.2
          refine W.widen (k := 0) (n := 0) (by omega) (by omega) ?_
          exact W.vret hx hb hr (fun t ht hW => ⟨⟨(unc, fwc, uc, vc, qc, tc, bc, yc, ec, gc), rfl, ⟨fun i h1 h2 => hm i (by have h9 := c_3; rw [hx2, ← iI_0, iI_lt (by unfold sm; omega) sm0] at h9; omega) h2, hof⟩, by rw [ht]; exact hP9, va_K.moved hW.alike hK, hD9⟩, hS.F ht⟩) hS.2.2 dX9_solve_63
        · have hk1 : 1 ≤ k := by
            rcases Nat.eq_zero_or_pos k with q | q
            · subst q; exact absurd (by rw [hx2]; decide) c_3
            · exact q
          obtain ⟨i, hki⟩ : ∃ i, k = i + 1 := ⟨k - 1, by omega⟩
          subst hki
          have h9 : x2 = nI i := by rw [hx2, nI_iI]; congr 1; omega
          subst h9
          have hin : i < n := by omega
          have hn8 := hev.1
          obtain ⟨⟨hkf, hkle⟩, ⟨hff, hfle⟩, -⟩ := hev.2.2.2 i hin
          have hst := (hpl i hin).1
          have hPle : ∀ q, i < q → q < n → zP pl i q ≤ 110 := fun q h1 h2 => zP_le hpl (HF_of hev) h1 h2
          refine lv_aload_n hx hb dX9_solve_19 rfl (lv_at hl 0 rfl) ?_
          refine lv_iload_n hx hb dX9_solve_20 rfl (lv_at hl 2 rfl) ?_
          have hpd9 := pdf_P (cx := [oX9 h1 po pp ps pa pe pb pv pk pu pw pq pt unc fwc, oX4 pv ek ef ew ep es (nI n) sy dn, cI aC ek 8 kf, cI aC ef 8 ff, cI aC es 5 stf, cA aC pp 8 fp, cA aC ps 8 fs, cK aC pk 7 fk, cO k0 0 [], cO k1 1 [], cO k2 3 [], cO k3 5 [], cO k4 6 [], cO k5 10 [], cO k6 8 []]) hP hD hS hA [0, 1, 2, 3, 5, 7, 8, 9, 10, 11, 12, 13, 14, 15, 16] (by decide) rfl
          have hPc := hpd9.1
          have hDc := hpd9.2.1
          have hFc := hpd9.2.2
          clear hpd9
          refine va_callv (va_runV (As := [Value.int (nI i)]) (rest := []) ⟨hx, hb, hml, hown, hts⟩ (c_X9_askYounger l dC dI aC H.size h1 po pp ps pa pe pb pv pk pu pw pq pt unc fwc ek ef ew ep es n sy dn kf ff wf stf K F W0 cq L gc fo fp fs ro rp rs fk k0 k1 k2 k3 k4 k5 k6 i (zS pl (i + 1)) (hgr) (hev) (hkd) (hin) (fun q h1 h2 => ⟨(hm (i + 1) (Nat.le_refl _) (by omega)).2.2.1 q (by omega), (hpl (i + 1) (by omega)).2.2 q⟩)) ⟨(callB_of 1 hts (gG kw_361) rfl rfl rfl (hts _ (gw kw_11 rfl)) (hts _ (gw kw_358 rfl)) hd_X9_askYounger ⟨Nat.le_of_ble_eq_true rfl, Nat.le_of_ble_eq_true rfl⟩), (hts _ (gw kw_360 rfl)), (hts _ (gw ks_7 rfl))⟩ ⟨fb_std, va_recv (q := (RX9, TX9, 14)) hK hPc (ci := 9) (q0 := 0) rfl rfl, pre_std hPc hK hDc hN⟩ rfl rfl hl.1 rfl (lv_room (Nat.le_of_ble_eq_true rfl)) dX9_solve_21 ⟨Nat.le_of_ble_eq_true rfl, Nat.le_of_ble_eq_true rfl⟩) hS (fun q _ h => hFc q h) hFc (fun u9 t9 H1 locs ht hvm hw_4 hB hz1 hk1 hS => ?_)
          obtain ⟨u_5, rfl⟩ : ∃ z, z = u9 := ⟨_, rfl⟩
          obtain ⟨hP1, hK1, hD1⟩ := hB
          rw [ht] at hP1
          clear hK1
          try dsimp only at hw_4
          have hpd9 : PDx (dC, dI) classes A H1 (wp [cI aC ew 8 wf, cA aC po 8 fo, cI aC pa 8 yc, cI aC pe 8 ec, cI aC pb 8 bc, cI aC pu 7 uc, cI aC pw 7 vc, cI aC pq 128 qc, cI aC pt 128 tc, oX9 h1 po pp ps pa pe pb pv pk pu pw pq pt unc fwc, oX4 pv ek ef ew ep es (nI n) sy dn, cI aC ek 8 kf, cI aC ef 8 ff, cI aC es 5 stf, cA aC pp 8 fp, cA aC ps 8 fs, cK aC pk 7 fk, cO k0 0 [], cO k1 1 [], cO k2 3 [], cO k3 5 [], cO k4 6 [], cO k5 10 [], cO k6 8 []] (va_pl L (plE aC u_5))) := jn_P (wr := [cI aC ew 8 wf, cA aC po 8 fo, cI aC pa 8 yc, cI aC pe 8 ec, cI aC pb 8 bc, cI aC pu 7 uc, cI aC pw 7 vc, cI aC pq 128 qc, cI aC pt 128 tc]) hFc hk1 hP1 hD1 hP hD [0, 1, 2, 3, 5, 7, 8, 9, 10, 11, 12, 13, 14, 15, 16] [4, 6, 17, 18, 19, 20, 21, 22, 23] rfl rfl (by decide) (by decide)
          have hP := hpd9.1
          have hD := hpd9.2
          clear hpd9
          generalize H1 = H at hP hS ⊢
          clear hPc hDc hFc hz1 hk1 hP1 hD1 ht hvm
          obtain ⟨hp1, hp2⟩ := hw_4
          refine lv_aload_n hx hb dX9_solve_24 rfl (lv_at hl 0 rfl) ?_
          refine lv_iload_n hx hb dX9_solve_25 rfl (lv_at hl 2 rfl) ?_
          have hpd9 := pdf_P (cx := [oX9 h1 po pp ps pa pe pb pv pk pu pw pq pt unc fwc, oX4 pv ek ef ew ep es (nI n) sy dn, cI aC es 5 stf, cA aC po 8 fo]) hP hD hS hA [9, 10, 13, 1] (by decide) rfl
          have hPc := hpd9.1
          have hDc := hpd9.2.1
          have hFc := hpd9.2.2
          clear hpd9
          refine va_callv (va_runV (As := [Value.int (nI i)]) (rest := []) ⟨hx, hb, hml, hown, hts⟩ (c_X9_keepAll l dC dI aC H.size h1 po pp ps pa pe pb pv pk pu pw pq pt unc fwc ek ef ew ep es n sy dn stf L u_5 fo fp fs ro rp rs i cq (hgr) (by omega) (hev.2.2.1)) ⟨(callB_of 1 hts (gG kw_396) rfl rfl rfl (hts _ (gw kw_11 rfl)) (hts _ (gw kw_393 rfl)) hd_X9_keepAll ⟨Nat.le_of_ble_eq_true rfl, Nat.le_of_ble_eq_true rfl⟩), (hts _ (gw kw_395 rfl)), (hts _ (gw ks_9 rfl))⟩ ⟨fb_std, va_recv (q := (RX9, TX9, 14)) hK hPc (ci := 9) (q0 := 0) rfl rfl, pre_std hPc hK hDc hN⟩ rfl rfl hl.1 rfl (lv_room (Nat.le_of_ble_eq_true rfl)) dX9_solve_26 ⟨Nat.le_of_ble_eq_true rfl, Nat.le_of_ble_eq_true rfl⟩) hS (fun q _ h => hFc q h) hFc (fun u9 t9 H1 locs ht hvm hw_6 hB hz1 hk1 hS => ?_)
          obtain ⟨u_7, rfl⟩ : ∃ z, z = u9 := ⟨_, rfl⟩
          obtain ⟨hP1, hK1, hD1⟩ := hB
          rw [ht] at hP1
          clear hK1
          try dsimp only at hw_6
          have hpd9 : PDx (dC, dI) classes A H1 (wp [cI aC ew 8 wf, cI aC pa 8 yc, cI aC pe 8 ec, cI aC pb 8 bc, cI aC pu 7 uc, cI aC pw 7 vc, cI aC pq 128 qc, cI aC pt 128 tc, cI aC ek 8 kf, cI aC ef 8 ff, cA aC pp 8 fp, cA aC ps 8 fs, cK aC pk 7 fk, cO k0 0 [], cO k1 1 [], cO k2 3 [], cO k3 5 [], cO k4 6 [], cO k5 10 [], cO k6 8 [], oX9 h1 po pp ps pa pe pb pv pk pu pw pq pt unc fwc, oX4 pv ek ef ew ep es (nI n) sy dn, cI aC es 5 stf, cA aC po 8 fo] (va_pl L (plE aC u_7))) := jn_P (wr := [cI aC ew 8 wf, cI aC pa 8 yc, cI aC pe 8 ec, cI aC pb 8 bc, cI aC pu 7 uc, cI aC pw 7 vc, cI aC pq 128 qc, cI aC pt 128 tc, cI aC ek 8 kf, cI aC ef 8 ff, cA aC pp 8 fp, cA aC ps 8 fs, cK aC pk 7 fk, cO k0 0 [], cO k1 1 [], cO k2 3 [], cO k3 5 [], cO k4 6 [], cO k5 10 [], cO k6 8 []]) hFc hk1 hP1 hD1 hP hD [9, 10, 13, 1] [0, 2, 3, 4, 5, 6, 7, 8, 11, 12, 14, 15, 16, 17, 18, 19, 20, 21, 22, 23] rfl rfl (by decide) (by decide)
          have hP := hpd9.1
          have hD := hpd9.2
          clear hpd9
          generalize H1 = H at hP hS ⊢
          clear hPc hDc hFc hz1 hk1 hP1 hD1 ht hvm
          obtain ⟨hk1, hk2⟩ := hw_6
          have hO1 : ∀ q, q < 8 → u_7 (ro i) q = nI (KO cq i q) := hk1
          have hP1q : ∀ q, i < q → q < n → u_7 (rp i) q = nI (zP pl i q) := fun q h1 h2 => by rw [hk2 _ (fun z => (hgr.2 i i (by omega) (by omega)).2.2.2.1 z.symm), hp1 q h1 h2, hst.1 q h1 h2]
          refine lv_aload_n hx hb dX9_solve_29 rfl (lv_at hl 0 rfl) ?_
          refine va_get (D := (dC, dI)) (ci := 9) (v := Value.ref pb) (C := RX9) (T := TX9) (N := 14) hx hb hts inX9 hown hK hP 20 rfl rfl 5 (by decide) (hts _ (gw kw_160 rfl)) (fun _ h9 => h9) rfl dX9_solve_30 ?_
          refine lv_iload_n hx hb dX9_solve_33 rfl (lv_at hl 2 rfl) ?_
          refine lv_bipush (v := -9) hx hb dX9_solve_34 (by decide) ?_
          have h_8 : vp_in (nI i) 8 := vp_in_nI (by omega) (by omega)
          refine va_iast hx hb hK hP hD hS 3 0 rfl rfl h_8 dX9_solve_36 (fun H locs hP hD hS => ?_)
          obtain ⟨f_9, e_f_9⟩ : ∃ y : Nat → Int32, y = upd bc (nI i : Int32).toNatClampNeg (-9) := ⟨_, rfl⟩
          have hpd9 : PDx (dC, dI) classes A H (wp [cI aC ew 8 wf, cI aC pa 8 yc, cI aC pe 8 ec, cI aC pb 8 f_9, cI aC pu 7 uc, cI aC pw 7 vc, cI aC pq 128 qc, cI aC pt 128 tc, cI aC ek 8 kf, cI aC ef 8 ff, cA aC pp 8 fp, cA aC ps 8 fs, cK aC pk 7 fk, cO k0 0 [], cO k1 1 [], cO k2 3 [], cO k3 5 [], cO k4 6 [], cO k5 10 [], cO k6 8 [], oX9 h1 po pp ps pa pe pb pv pk pu pw pq pt unc fwc, oX4 pv ek ef ew ep es (nI n) sy dn, cI aC es 5 stf, cA aC po 8 fo] (va_pl L (plE aC u_7))) := by rw [e_f_9]; exact ⟨hP, hD⟩
          have hP := hpd9.1
          have hD := hpd9.2
          clear hpd9
          have hbi : f_9 i = -9 := by rw [e_f_9, nI_clamp (by omega), pk_us]
          have hbo : ∀ q, q ≠ i → f_9 q = bc q := fun q h => by rw [e_f_9, nI_clamp (by omega), pk_un h]
          have jp_47 : ∀ (unj : Int32) (fwj : Int32) (uj : Nat → Int32) (vj : Nat → Int32) (qj : Nat → Int32) (tj : Nat → Int32) (bj : Nat → Int32) (gj : Nat → Nat → Int32) (hj1 : ∀ q, q < 8 → gj (ro i) q = nI (zO pl i q)) (hj2 : bj i = zB pl i) (hj3 : ∀ q, q ≠ i → bj q = bc q) (hj4 : ∀ a, a ≠ ro i → gj a = u_7 a) (H : Heap) (locs : List Loc) (ls : Array Slot), va_P (dC, dI) classes (wp [cI aC ew 8 wf, cI aC pa 8 yc, cI aC pe 8 ec, cI aC pb 8 bj, cI aC pu 7 uj, cI aC pw 7 vj, cI aC pq 128 qj, cI aC pt 128 tj, cI aC ek 8 kf, cI aC ef 8 ff, cA aC pp 8 fp, cA aC ps 8 fs, cK aC pk 7 fk, cO k0 0 [], cO k1 1 [], cO k2 3 [], cO k3 5 [], cO k4 6 [], cO k5 10 [], cO k6 8 [], oX9 h1 po pp ps pa pe pb pv pk pu pw pq pt unj fwj, oX4 pv ek ef ew ep es (nI n) sy dn, cI aC es 5 stf, cA aC po 8 fo] (va_pl L (plE aC gj))) H → va_D A (wp [cI aC ew 8 wf, cI aC pa 8 yc, cI aC pe 8 ec, cI aC pb 8 bj, cI aC pu 7 uj, cI aC pw 7 vj, cI aC pq 128 qj, cI aC pt 128 tj, cI aC ek 8 kf, cI aC ef 8 ff, cA aC pp 8 fp, cA aC ps 8 fs, cK aC pk 7 fk, cO k0 0 [], cO k1 1 [], cO k2 3 [], cO k3 5 [], cO k4 6 [], cO k5 10 [], cO k6 8 [], oX9 h1 po pp ps pa pe pb pv pk pu pw pq pt unj fwj, oX4 pv ek ef ew ep es (nI n) sy dn, cI aC es 5 stf, cA aC po 8 fo] (va_pl L (plE aC gj))) → va_S A s.heap H locs → lv_has ls 3 [(0, Value.ref h1), (1, Value.int (nI i0)), (2, Value.int (nI i))] → W p l e (headSpec (wW yX9_solve cX9_solve 3 (none : Option FieldType)) ({ frames := 5, cells := 0, slots := 0, locals := 109 } : Room)).room s m ([Value.ref h1, Value.int (nI i0)] : List Value).toArray below meth c H locs 0 0 (MQ below (va_Qv (fun (u : Int32 × Int32 × (Nat → Int32) × (Nat → Int32) × (Nat → Int32) × (Nat → Int32) × (Nat → Int32) × (Nat → Int32) × (Nat → Int32) × (Nat → Nat → Int32)) => match u with | (un2, fw2, ug, vg, qg, tg, bg, yg, eg, g2) => (∀ i, i0 ≤ i → i < n → MAT n pl ro rp rs g2 yg eg bg i) ∧ ∀ a, OFF ro rp rs a → g2 a = g a) (fun (u : Int32 × Int32 × (Nat → Int32) × (Nat → Int32) × (Nat → Int32) × (Nat → Int32) × (Nat → Int32) × (Nat → Int32) × (Nat → Int32) × (Nat → Nat → Int32)) (t : State) => match u with | (un2, fw2, ug, vg, qg, tg, bg, yg, eg, g2) => va_P (dC, dI) classes (wp [oX9 h1 po pp ps pa pe pb pv pk pu pw pq pt un2 fw2, oX4 pv ek ef ew ep es (nI n) sy dn, cI aC ek 8 kf, cI aC ef 8 ff, cI aC ew 8 wf, cI aC es 5 stf, cA aC po 8 fo, cA aC pp 8 fp, cA aC ps 8 fs, cK aC pk 7 fk, cO k0 0 [], cO k1 1 [], cO k2 3 [], cO k3 5 [], cO k4 6 [], cO k5 10 [], cO k6 8 [], cI aC pa 8 yg, cI aC pe 8 eg, cI aC pb 8 bg, cI aC pu 7 ug, cI aC pw 7 vg, cI aC pq 128 qg, cI aC pt 128 tg] (va_pl L (plE aC g2))) t.heap ∧ va_K (dC, dI) classes (TY aC) t ∧ va_D A (wp [oX9 h1 po pp ps pa pe pb pv pk pu pw pq pt un2 fw2, oX4 pv ek ef ew ep es (nI n) sy dn, cI aC ek 8 kf, cI aC ef 8 ff, cI aC ew 8 wf, cI aC es 5 stf, cA aC po 8 fo, cA aC pp 8 fp, cA aC ps 8 fs, cK aC pk 7 fk, cO k0 0 [], cO k1 1 [], cO k2 3 [], cO k3 5 [], cO k4 6 [], cO k5 10 [], cO k6 8 [], cI aC pa 8 yg, cI aC pe 8 eg, cI aC pb 8 bg, cI aC pu 7 ug, cI aC pw 7 vg, cI aC pq 128 qg, cI aC pt 128 tg] (va_pl L (plE aC g2)))) A) ([Value.ref h1, Value.int (nI i0)] : List Value).toArray s 0 0 A) (F0 m 47 ls []) := by
            intro unj fwj uj vj qj tj bj gj hj1 hj2 hj3 hj4 H locs ls hP hD hS hl
            refine lv_aload_n hx hb dX9_solve_47 rfl (lv_at hl 0 rfl) ?_
            refine lv_iload_n hx hb dX9_solve_48 rfl (lv_at hl 2 rfl) ?_
            have hpd9 := pdf_P (cx := [oX9 h1 po pp ps pa pe pb pv pk pu pw pq pt unj fwj, oX4 pv ek ef ew ep es (nI n) sy dn, cI aC pa 8 yc, cA aC po 8 fo, cA aC pp 8 fp]) hP hD hS hA [20, 21, 1, 23, 10] (by decide) rfl
            have hPc := hpd9.1
            have hDc := hpd9.2.1
            have hFc := hpd9.2.2
            clear hpd9
            refine va_callv (va_runV (As := [Value.int (nI i)]) (rest := []) ⟨hx, hb, hml, hown, hts⟩ (c_X9_vote l dC dI aC H.size h1 po pp ps pa pe pb pv pk pu pw pq pt unj fwj ek ef ew ep es n sy dn L gj fo fp fs ro rp rs yc i (zO pl i) (zP pl i) (hgr) (⟨hin, hn8⟩) (fun q hq => ⟨hj1 q hq, by have := (hpl i hin).2.1 q; omega⟩) (fun q h1 h2 => ⟨by rw [hj4 _ (fun z => (hgr.2 i i (by omega) (by omega)).2.2.2.1 z.symm)]; exact hP1q q h1 h2, by have := hPle q h1 h2; omega⟩)) ⟨(callB_of 1 hts (gG kw_473) rfl rfl rfl (hts _ (gw kw_11 rfl)) (hts _ (gw kw_470 rfl)) hd_X9_vote ⟨Nat.le_of_ble_eq_true rfl, Nat.le_of_ble_eq_true rfl⟩), (hts _ (gw kw_472 rfl)), (hts _ (gw ks_16 rfl))⟩ ⟨fb_std, va_recv (q := (RX9, TX9, 14)) hK hPc (ci := 9) (q0 := 0) rfl rfl, pre_std hPc hK hDc hN⟩ rfl rfl hl.1 rfl (lv_room (Nat.le_of_ble_eq_true rfl)) dX9_solve_49 ⟨Nat.le_of_ble_eq_true rfl, Nat.le_of_ble_eq_true rfl⟩) hS (fun q _ h => hFc q h) hFc (fun u9 t9 H1 locs ht hvm hw_10 hB hz1 hk1 hS => ?_)
            obtain ⟨u_11, rfl⟩ : ∃ z, z = u9 := ⟨_, rfl⟩
            obtain ⟨hP1, hK1, hD1⟩ := hB
            rw [ht] at hP1
            clear hK1
            try dsimp only at hw_10
            have hpd9 : PDx (dC, dI) classes A H1 (wp [cI aC ew 8 wf, cI aC pe 8 ec, cI aC pb 8 bj, cI aC pu 7 uj, cI aC pw 7 vj, cI aC pq 128 qj, cI aC pt 128 tj, cI aC ek 8 kf, cI aC ef 8 ff, cA aC ps 8 fs, cK aC pk 7 fk, cO k0 0 [], cO k1 1 [], cO k2 3 [], cO k3 5 [], cO k4 6 [], cO k5 10 [], cO k6 8 [], cI aC es 5 stf, oX9 h1 po pp ps pa pe pb pv pk pu pw pq pt unj fwj, oX4 pv ek ef ew ep es (nI n) sy dn, cI aC pa 8 u_11, cA aC po 8 fo, cA aC pp 8 fp] (va_pl L (plE aC gj))) := jn_P (wr := [cI aC ew 8 wf, cI aC pe 8 ec, cI aC pb 8 bj, cI aC pu 7 uj, cI aC pw 7 vj, cI aC pq 128 qj, cI aC pt 128 tj, cI aC ek 8 kf, cI aC ef 8 ff, cA aC ps 8 fs, cK aC pk 7 fk, cO k0 0 [], cO k1 1 [], cO k2 3 [], cO k3 5 [], cO k4 6 [], cO k5 10 [], cO k6 8 [], cI aC es 5 stf]) hFc hk1 hP1 hD1 hP hD [20, 21, 1, 23, 10] [0, 2, 3, 4, 5, 6, 7, 8, 9, 11, 12, 13, 14, 15, 16, 17, 18, 19, 22] rfl rfl (by decide) (by decide)
            have hP := hpd9.1
            have hD := hpd9.2
            clear hpd9
            generalize H1 = H at hP hS ⊢
            clear hPc hDc hFc hz1 hk1 hP1 hD1 ht hvm
            obtain ⟨hv1, hv2⟩ := hw_10
            refine lv_aload_n hx hb dX9_solve_52 rfl (lv_at hl 0 rfl) ?_
            refine lv_iload_n hx hb dX9_solve_53 rfl (lv_at hl 2 rfl) ?_
            have hpd9 := pdf_P (cx := [oX9 h1 po pp ps pa pe pb pv pk pu pw pq pt unj fwj, oX4 pv ek ef ew ep es (nI n) sy dn, cI aC ew 8 wf, cI aC es 5 stf, cI aC pa 8 u_11, cI aC pe 8 ec, cA aC po 8 fo, cA aC ps 8 fs]) hP hD hS hA [19, 20, 0, 18, 21, 1, 22, 9] (by decide) rfl
            have hPc := hpd9.1
            have hDc := hpd9.2.1
            have hFc := hpd9.2.2
            clear hpd9
            refine va_callv (va_runV (As := [Value.int (nI i)]) (rest := []) ⟨hx, hb, hml, hown, hts⟩ (c_X9_end l dC dI aC H.size h1 po pp ps pa pe pb pv pk pu pw pq pt unj fwj ek ef ew ep es n sy dn wf stf u_11 ec L gj fo fp fs ro rp rs W0 i (hgr) (HW_of hev) (hin)) ⟨(callB_of 1 hts (gG kw_477) rfl rfl rfl (hts _ (gw kw_11 rfl)) (hts _ (gw kw_474 rfl)) hd_X9_end ⟨Nat.le_of_ble_eq_true rfl, Nat.le_of_ble_eq_true rfl⟩), (hts _ (gw kw_476 rfl)), (hts _ (gw ks_17 rfl))⟩ ⟨fb_std, va_recv (q := (RX9, TX9, 14)) hK hPc (ci := 9) (q0 := 0) rfl rfl, pre_std hPc hK hDc hN⟩ rfl rfl hl.1 rfl (lv_room (Nat.le_of_ble_eq_true rfl)) dX9_solve_54 ⟨Nat.le_of_ble_eq_true rfl, Nat.le_of_ble_eq_true rfl⟩) hS (fun q _ h => hFc q h) hFc (fun u9 t9 H1 locs ht hvm hw_12 hB hz1 hk1 hS => ?_)
            obtain ⟨u_13, u_14⟩ := u9
            obtain ⟨hP1, hK1, hD1⟩ := hB
            rw [ht] at hP1
            clear hK1
            try dsimp only at hw_12
            have hpd9 : PDx (dC, dI) classes A H1 (wp [cI aC pb 8 bj, cI aC pu 7 uj, cI aC pw 7 vj, cI aC pq 128 qj, cI aC pt 128 tj, cI aC ek 8 kf, cI aC ef 8 ff, cK aC pk 7 fk, cO k0 0 [], cO k1 1 [], cO k2 3 [], cO k3 5 [], cO k4 6 [], cO k5 10 [], cO k6 8 [], cA aC pp 8 fp, oX9 h1 po pp ps pa pe pb pv pk pu pw pq pt unj fwj, oX4 pv ek ef ew ep es (nI n) sy dn, cI aC ew 8 wf, cI aC es 5 stf, cI aC pa 8 u_11, cI aC pe 8 u_13, cA aC po 8 fo, cA aC ps 8 fs] (va_pl L (plE aC u_14))) := jn_P (wr := [cI aC pb 8 bj, cI aC pu 7 uj, cI aC pw 7 vj, cI aC pq 128 qj, cI aC pt 128 tj, cI aC ek 8 kf, cI aC ef 8 ff, cK aC pk 7 fk, cO k0 0 [], cO k1 1 [], cO k2 3 [], cO k3 5 [], cO k4 6 [], cO k5 10 [], cO k6 8 [], cA aC pp 8 fp]) hFc hk1 hP1 hD1 hP hD [19, 20, 0, 18, 21, 1, 22, 9] [2, 3, 4, 5, 6, 7, 8, 10, 11, 12, 13, 14, 15, 16, 17, 23] rfl rfl (by decide) (by decide)
            have hP := hpd9.1
            have hD := hpd9.2
            clear hpd9
            generalize H1 = H at hP hS ⊢
            clear hPc hDc hFc hz1 hk1 hP1 hD1 ht hvm
            obtain ⟨hE1, hE2, hE3, hE4⟩ := hw_12
            have hY := vt_fin hpl hin hv1
            have hne1 : ∀ q, q < 8 → rs q ≠ ro i ∧ rs q ≠ rp i := fun q hq => ⟨fun z => (hgr.2 i q (by omega) hq).2.2.2.2.1 z.symm, fun z => (hgr.2 i q (by omega) hq).2.2.2.2.2 z.symm⟩
            have hgb : ∀ a, a ≠ ro i → a ≠ rp i → gj a = gc a := fun a h1 h2 => by rw [hj4 a h1, hk2 a h1, hp2 a h2]
            obtain ⟨hF1, hF2⟩ := en_fin (r := u_14 (rs i)) (ro := gj (ro i)) (r1 := gj (rs (i + 1))) hpl hin hn8 hY hE1 hE2 hj1 (fun h => ⟨(hm (i + 1) (Nat.le_refl _) h).2.2.2.2.1, fun q hq => by rw [hgb _ (hne1 _ (by omega)).1 (hne1 _ (by omega)).2]; exact (hm (i + 1) (Nat.le_refl _) h).2.2.1 q hq⟩)
            have hga : ∀ a, a ≠ ro i → a ≠ rp i → a ≠ rs i → u_14 a = gc a := fun a h1 h2 h3 => by rw [hE4 a h3]; exact hgb a h1 h2
            have hm2 : ∀ j, i ≤ j → j < n → MAT n pl ro rp rs u_14 u_11 u_13 bj j := fun j h1 h2 => by
              by_cases ej : j = i
              · subst ej
                refine ⟨fun q q1 q2 => ?_, fun q hq => ?_, hF2, hY, hF1, hj2⟩
                · rw [hE4 _ (fun z => (hgr.2 j j (by omega) (by omega)).2.2.2.2.2 z), hj4 _ (fun z => (hgr.2 j j (by omega) (by omega)).2.2.2.1 z.symm)]; exact hP1q q q1 q2
                · rw [hE4 _ (fun z => (hgr.2 j j (by omega) (by omega)).2.2.2.2.1 z)]; exact hj1 q hq
              · obtain ⟨m1, m2, m3, m4, m5, m6⟩ := hm j (by omega) h2
                have w1 := hgr.2 j i (by omega) (by omega)
                have w2 := hgr.2 i j (by omega) (by omega)
                refine ⟨fun q q1 q2 => ?_, fun q hq => ?_, fun q hq => ?_, ?_, ?_, ?_⟩
                · rw [hga _ (fun z => w2.2.2.2.1 z.symm) (fun z => ej (w1.2.1 z)) w1.2.2.2.2.2]; exact m1 q q1 q2
                · rw [hga _ (fun z => ej (w1.1 z)) w1.2.2.2.1 w1.2.2.2.2.1]; exact m2 q hq
                · rw [hga _ (fun z => w2.2.2.2.2.1 z.symm) (fun z => w2.2.2.2.2.2 z.symm) (fun z => ej (w1.2.2.1 z))]; exact m3 q hq
                · rw [hv2 j ej]; exact m4
                · rw [hE3 j ej]; exact m5
                · rw [hj3 j ej]; exact m6
            have hof2 : ∀ a, OFF ro rp rs a → u_14 a = g a := fun a h => by
              have h3 := h i (by omega)
              rw [hga a h3.1 h3.2.1 h3.2.2]; exact hof a h
            obtain ⟨x_15, e_15⟩ : ∃ y : Int32, y = (nI i) + (-1) := ⟨_, rfl⟩
            refine lv_iinc (v := x_15) (lv' := [(2, Value.int x_15), (0, Value.ref h1), (1, Value.int (nI i0))]) hx hb dX9_solve_57 hl (k := 2) rfl (by rw [e_15]; rfl) (by decide) rfl (fun ls hl => ?_)
            refine lv_goto (tgt := 10) hx hb dX9_solve_60 (by decide) ?_
            exact ih_10 i x_15 unj fwj uj vj qj tj bj u_11 u_13 u_14 (by omega) (by omega) (by rw [e_15, nI_iI, show (-1 : Int32) = iI (-1) from rfl, iI_add]; rfl) (hm2) (hof2) _ _ _ (plP hP [16, 17, 5, 6, 18, 19, 22, 15, 23, 7, 8, 9, 10, 11, 12, 13, 14, 20, 21, 0, 1, 2, 3, 4] rfl) (plD hD [16, 17, 5, 6, 18, 19, 22, 15, 23, 7, 8, 9, 10, 11, 12, 13, 14, 20, 21, 0, 1, 2, 3, 4] (by decide) rfl) hS (lv_sub hl [1, 2, 0] rfl)
          refine lv_aload_n hx hb dX9_solve_37 rfl (lv_at hl 0 rfl) ?_
          refine lv_iload_n hx hb dX9_solve_38 rfl (lv_at hl 2 rfl) ?_
          rcases le6 hkle with hkk | hkk | hkk | hkk | hkk | hkk | hkk
          · have hkv : kf i = nI 0 := by rw [hkf, hkk]
            have hpd9 := pdf_N (cx := [oX9 h1 po pp ps pa pe pb pv pk pu pw pq pt unc fwc, oX4 pv ek ef ew ep es (nI n) sy dn, cI aC ek 8 kf, cK aC pk 7 fk]) hP hD hS hA [20, 21, 8, 12] (by decide) rfl
            have hPc := hpd9.1
            have hDc := hpd9.2.1
            have hFc := hpd9.2.2
            clear hpd9
            refine va_callr (va_runV (As := [Value.int (nI i)]) (rest := []) ⟨hx, hb, hml, hown, hts⟩ (c_X9_kindOf l dC dI aC H.size h1 po pp ps pa pe pb pv pk pu pw pq pt unc fwc ek ef ew ep es n sy dn kf fk i 0 k0 (by omega) (hkv) (by omega) (hkd.1)) ⟨(callB_of 1 hts (gG kw_365) rfl rfl rfl (hts _ (gw kw_11 rfl)) (hts _ (gw kw_362 rfl)) hd_X9_kindOf ⟨Nat.le_of_ble_eq_true rfl, Nat.le_of_ble_eq_true rfl⟩), (hts _ (gw kw_364 rfl)), (hts _ (gw ks_8 rfl))⟩ ⟨fb_std, va_recv (q := (RX9, TX9, 14)) hK hPc (ci := 9) (q0 := 0) rfl rfl, pre_std hPc hK hDc hN⟩ rfl rfl hl.1 rfl (lv_room (Nat.le_of_ble_eq_true rfl)) dX9_solve_39 ⟨Nat.le_of_ble_eq_true rfl, Nat.le_of_ble_eq_true rfl⟩) hS (fun q _ h => hFc q h) hFc (fun u9 q_16 t9 H1 locs ht hvm hw_16 hB hz1 hk1 hS => ?_)
            obtain ⟨q_16_e, hP1, hK1, hD1⟩ := hB
            rw [ht] at hP1
            clear hK1
            try dsimp only at hw_16
            have hpd9 : PDx (dC, dI) classes A H1 (wp [cI aC ew 8 wf, cI aC pa 8 yc, cI aC pe 8 ec, cI aC pb 8 f_9, cI aC pu 7 uc, cI aC pw 7 vc, cI aC pq 128 qc, cI aC pt 128 tc, cI aC ef 8 ff, cA aC pp 8 fp, cA aC ps 8 fs, cO k0 0 [], cO k1 1 [], cO k2 3 [], cO k3 5 [], cO k4 6 [], cO k5 10 [], cO k6 8 [], cI aC es 5 stf, cA aC po 8 fo, oX9 h1 po pp ps pa pe pb pv pk pu pw pq pt unc fwc, oX4 pv ek ef ew ep es (nI n) sy dn, cI aC ek 8 kf, cK aC pk 7 fk] (va_pl L (plE aC u_7))) := jn_Q (wr := [cI aC ew 8 wf, cI aC pa 8 yc, cI aC pe 8 ec, cI aC pb 8 f_9, cI aC pu 7 uc, cI aC pw 7 vc, cI aC pq 128 qc, cI aC pt 128 tc, cI aC ef 8 ff, cA aC pp 8 fp, cA aC ps 8 fs, cO k0 0 [], cO k1 1 [], cO k2 3 [], cO k3 5 [], cO k4 6 [], cO k5 10 [], cO k6 8 [], cI aC es 5 stf, cA aC po 8 fo]) hFc hk1 hP1 hD1 hP hD [20, 21, 8, 12] [0, 1, 2, 3, 4, 5, 6, 7, 9, 10, 11, 13, 14, 15, 16, 17, 18, 19, 22, 23] rfl rfl (by decide) (by decide)
            have hP := hpd9.1
            have hD := hpd9.2
            clear hpd9
            generalize H1 = H at hP hS ⊢
            clear hPc hDc hFc hz1 hk1 hP1 hD1 ht hvm
            have h9 := q_16_e.symm
            subst h9
            refine lv_aload_n hx hb dX9_solve_42 rfl (lv_at hl 0 rfl) ?_
            refine lv_iload_n hx hb dX9_solve_43 rfl (lv_at hl 2 rfl) ?_
            have hpd9 := pdf_P (cx := [oX9 h1 po pp ps pa pe pb pv pk pu pw pq pt unc fwc, oX4 pv ek ef ew ep es (nI n) sy dn, cI aC ew 8 wf, cI aC es 5 stf, cA aC pp 8 fp, cA aC po 8 fo, cI aC pb 8 f_9, cI aC pu 7 uc, cI aC pw 7 vc, cI aC pq 128 qc, cI aC pt 128 tc]) hP hD hS hA [20, 21, 0, 18, 9, 19, 3, 4, 5, 6, 7] (by decide) rfl
            have hPc := hpd9.1
            have hDc := hpd9.2.1
            have hFc := hpd9.2.2
            clear hpd9
            refine va_callv (va_runV (As := [Value.ref h1, Value.int (nI i)]) (rest := []) ⟨hx, hb, hml, hown, hts⟩ (c_X0_tell l dC dI aC H.size k0 h1 po pp ps pa pe pb pv pk pu pw pq pt unc fwc ek ef ew ep es n sy dn wf stf W0 i cq (KO cq i) (zP pl i) uc vc qc tc f_9 L u_7 fo fp fs ro rp rs (hgr) (HW_of hev) (hin) (⟨hev.2.2.1, hev.2.1⟩) (hO1) (KO_le hev.2.1) (if_pos rfl) (fun q h1 h2 => ⟨hP1q q h1 h2, hPle q h1 h2⟩)) ⟨(callB_of 2 hts (gG kw_437) rfl rfl rfl (hts _ (gw kw_4 rfl)) (hts _ (gw kw_400 rfl)) hd_X0_tell ⟨Nat.le_of_ble_eq_true rfl, Nat.le_of_ble_eq_true rfl⟩), (hts _ (gw kw_401 rfl)), (hts _ (gw kw_402 rfl))⟩ ⟨fb_std, va_recv (q := (RX0, TX0, 0)) hK hP (ci := 0) (q0 := 11) rfl rfl, pre_std hPc hK hDc hN⟩ rfl rfl hl.1 rfl (lv_room (Nat.le_of_ble_eq_true rfl)) dX9_solve_44 ⟨Nat.le_of_ble_eq_true rfl, Nat.le_of_ble_eq_true rfl⟩) hS (fun q _ h => hFc q h) hFc (fun u9 t9 H1 locs ht hvm hw_17 hB hz1 hk1 hS => ?_)
            obtain ⟨u_18, u_19, u_20, u_21, u_22, u_23, u_24, u_25, u_26⟩ := u9
            obtain ⟨hP1, hK1, hD1⟩ := hB
            rw [ht] at hP1
            clear hK1
            try dsimp only at hw_17
            have hpd9 : PDx (dC, dI) classes A H1 (wp [cI aC pa 8 yc, cI aC pe 8 ec, cI aC ef 8 ff, cA aC ps 8 fs, cO k0 0 [], cO k1 1 [], cO k2 3 [], cO k3 5 [], cO k4 6 [], cO k5 10 [], cO k6 8 [], cI aC ek 8 kf, cK aC pk 7 fk, oX9 h1 po pp ps pa pe pb pv pk pu pw pq pt u_18 u_19, oX4 pv ek ef ew ep es (nI n) sy dn, cI aC ew 8 wf, cI aC es 5 stf, cA aC pp 8 fp, cA aC po 8 fo, cI aC pb 8 u_24, cI aC pu 7 u_20, cI aC pw 7 u_21, cI aC pq 128 u_22, cI aC pt 128 u_23] (va_pl L (plE aC u_25))) := jn_P (wr := [cI aC pa 8 yc, cI aC pe 8 ec, cI aC ef 8 ff, cA aC ps 8 fs, cO k0 0 [], cO k1 1 [], cO k2 3 [], cO k3 5 [], cO k4 6 [], cO k5 10 [], cO k6 8 [], cI aC ek 8 kf, cK aC pk 7 fk]) hFc hk1 hP1 hD1 hP hD [20, 21, 0, 18, 9, 19, 3, 4, 5, 6, 7] [1, 2, 8, 10, 11, 12, 13, 14, 15, 16, 17, 22, 23] rfl rfl (by decide) (by decide)
            have hP := hpd9.1
            have hD := hpd9.2
            clear hpd9
            generalize H1 = H at hP hS ⊢
            clear hPc hDc hFc hz1 hk1 hP1 hD1 ht hvm
            have ht9 := hw_17
            obtain ⟨ht1, ht2, ht3, ht4, ht5⟩ := ht9
            obtain ⟨O9, ho1, -, ho3⟩ := of_buy (K := K) (F := F) (B := u_24 i) (r2 := u_25 (ro i)) (r1 := u_7 (ro i)) (by omega) ⟨hin, hn8⟩ hev.2.1 ht1 ht2 (fun h => ⟨(ht3 h).1.trans hbi, (ht3 h).2⟩) hO1
            obtain ⟨hj1, hj2⟩ := of_fin hpl hin hkle ho3 ho1
            have hj3 : ∀ q, q ≠ i → u_24 q = bc q := fun q h => (ht4 q h).trans (hbo q h)
            have hj4 := ht5
            exact jp_47 u_18 u_19 u_20 u_21 u_22 u_23 u_24 u_25 (by assumption) (by assumption) (by assumption) (by assumption) _ _ _ (plP hP [15, 0, 1, 19, 20, 21, 22, 23, 11, 2, 17, 3, 12, 4, 5, 6, 7, 8, 9, 10, 13, 14, 16, 18] rfl) (plD hD [15, 0, 1, 19, 20, 21, 22, 23, 11, 2, 17, 3, 12, 4, 5, 6, 7, 8, 9, 10, 13, 14, 16, 18] (by decide) rfl) hS (lv_sub hl [0, 1, 2] rfl)
          · have hkv : kf i = nI 1 := by rw [hkf, hkk]
            have hpd9 := pdf_N (cx := [oX9 h1 po pp ps pa pe pb pv pk pu pw pq pt unc fwc, oX4 pv ek ef ew ep es (nI n) sy dn, cI aC ek 8 kf, cK aC pk 7 fk]) hP hD hS hA [20, 21, 8, 12] (by decide) rfl
            have hPc := hpd9.1
            have hDc := hpd9.2.1
            have hFc := hpd9.2.2
            clear hpd9
            refine va_callr (va_runV (As := [Value.int (nI i)]) (rest := []) ⟨hx, hb, hml, hown, hts⟩ (c_X9_kindOf l dC dI aC H.size h1 po pp ps pa pe pb pv pk pu pw pq pt unc fwc ek ef ew ep es n sy dn kf fk i 1 k1 (by omega) (hkv) (by omega) (hkd.2.1)) ⟨(callB_of 1 hts (gG kw_365) rfl rfl rfl (hts _ (gw kw_11 rfl)) (hts _ (gw kw_362 rfl)) hd_X9_kindOf ⟨Nat.le_of_ble_eq_true rfl, Nat.le_of_ble_eq_true rfl⟩), (hts _ (gw kw_364 rfl)), (hts _ (gw ks_8 rfl))⟩ ⟨fb_std, va_recv (q := (RX9, TX9, 14)) hK hPc (ci := 9) (q0 := 0) rfl rfl, pre_std hPc hK hDc hN⟩ rfl rfl hl.1 rfl (lv_room (Nat.le_of_ble_eq_true rfl)) dX9_solve_39 ⟨Nat.le_of_ble_eq_true rfl, Nat.le_of_ble_eq_true rfl⟩) hS (fun q _ h => hFc q h) hFc (fun u9 q_27 t9 H1 locs ht hvm hw_27 hB hz1 hk1 hS => ?_)
            obtain ⟨q_27_e, hP1, hK1, hD1⟩ := hB
            rw [ht] at hP1
            clear hK1
            try dsimp only at hw_27
            have hpd9 : PDx (dC, dI) classes A H1 (wp [cI aC ew 8 wf, cI aC pa 8 yc, cI aC pe 8 ec, cI aC pb 8 f_9, cI aC pu 7 uc, cI aC pw 7 vc, cI aC pq 128 qc, cI aC pt 128 tc, cI aC ef 8 ff, cA aC pp 8 fp, cA aC ps 8 fs, cO k0 0 [], cO k1 1 [], cO k2 3 [], cO k3 5 [], cO k4 6 [], cO k5 10 [], cO k6 8 [], cI aC es 5 stf, cA aC po 8 fo, oX9 h1 po pp ps pa pe pb pv pk pu pw pq pt unc fwc, oX4 pv ek ef ew ep es (nI n) sy dn, cI aC ek 8 kf, cK aC pk 7 fk] (va_pl L (plE aC u_7))) := jn_Q (wr := [cI aC ew 8 wf, cI aC pa 8 yc, cI aC pe 8 ec, cI aC pb 8 f_9, cI aC pu 7 uc, cI aC pw 7 vc, cI aC pq 128 qc, cI aC pt 128 tc, cI aC ef 8 ff, cA aC pp 8 fp, cA aC ps 8 fs, cO k0 0 [], cO k1 1 [], cO k2 3 [], cO k3 5 [], cO k4 6 [], cO k5 10 [], cO k6 8 [], cI aC es 5 stf, cA aC po 8 fo]) hFc hk1 hP1 hD1 hP hD [20, 21, 8, 12] [0, 1, 2, 3, 4, 5, 6, 7, 9, 10, 11, 13, 14, 15, 16, 17, 18, 19, 22, 23] rfl rfl (by decide) (by decide)
            have hP := hpd9.1
            have hD := hpd9.2
            clear hpd9
            generalize H1 = H at hP hS ⊢
            clear hPc hDc hFc hz1 hk1 hP1 hD1 ht hvm
            have h9 := q_27_e.symm
            subst h9
            refine lv_aload_n hx hb dX9_solve_42 rfl (lv_at hl 0 rfl) ?_
            refine lv_iload_n hx hb dX9_solve_43 rfl (lv_at hl 2 rfl) ?_
            have hpd9 := pdf_P (cx := [oX9 h1 po pp ps pa pe pb pv pk pu pw pq pt unc fwc, oX4 pv ek ef ew ep es (nI n) sy dn, cI aC ew 8 wf, cI aC es 5 stf, cA aC pp 8 fp, cA aC po 8 fo, cI aC pb 8 f_9, cI aC pu 7 uc, cI aC pw 7 vc, cI aC pq 128 qc, cI aC pt 128 tc]) hP hD hS hA [20, 21, 0, 18, 9, 19, 3, 4, 5, 6, 7] (by decide) rfl
            have hPc := hpd9.1
            have hDc := hpd9.2.1
            have hFc := hpd9.2.2
            clear hpd9
            refine va_callv (va_runU (As := [Value.ref h1, Value.int (nI i)]) (rest := []) ⟨hx, hb, hml, hown, hts⟩ (c_X0_tell l dC dI aC H.size k1 h1 po pp ps pa pe pb pv pk pu pw pq pt unc fwc ek ef ew ep es n sy dn wf stf W0 i cq (KO cq i) (zP pl i) uc vc qc tc f_9 L u_7 fo fp fs ro rp rs (hgr) (HW_of hev) (hin) (⟨hev.2.2.1, hev.2.1⟩) (hO1) (KO_le hev.2.1) (if_pos rfl) (fun q h1 h2 => ⟨hP1q q h1 h2, hPle q h1 h2⟩)) (va_cwU (owner := "EldestSays$Clever") 2 hts (gcons (gw kw_400 rfl) (gcons (gw kw_403 rfl) (gcons (gw kw_404 rfl) (gcons (gw kw_401 rfl) (gcons (gw kw_4 rfl) (gG kw_437)))))) rfl rfl rfl rfl (by decide +kernel) ⟨Nat.le_of_ble_eq_true rfl, Nat.le_of_ble_eq_true rfl⟩) ⟨fb_std, va_recv (q := (RX1, TX1, 0)) hK hP (ci := 1) (q0 := 12) rfl rfl, pre_std hPc hK hDc hN⟩ rfl rfl hl.1 rfl (lv_room (Nat.le_of_ble_eq_true rfl)) dX9_solve_44 ⟨Nat.le_of_ble_eq_true rfl, Nat.le_of_ble_eq_true rfl⟩) hS (fun q _ h => hFc q h) hFc (fun u9 t9 H1 locs ht hvm hw_28 hB hz1 hk1 hS => ?_)
            obtain ⟨u_29, u_30, u_31, u_32, u_33, u_34, u_35, u_36, u_37⟩ := u9
            obtain ⟨hP1, hK1, hD1⟩ := hB
            rw [ht] at hP1
            clear hK1
            try dsimp only at hw_28
            have hpd9 : PDx (dC, dI) classes A H1 (wp [cI aC pa 8 yc, cI aC pe 8 ec, cI aC ef 8 ff, cA aC ps 8 fs, cO k0 0 [], cO k1 1 [], cO k2 3 [], cO k3 5 [], cO k4 6 [], cO k5 10 [], cO k6 8 [], cI aC ek 8 kf, cK aC pk 7 fk, oX9 h1 po pp ps pa pe pb pv pk pu pw pq pt u_29 u_30, oX4 pv ek ef ew ep es (nI n) sy dn, cI aC ew 8 wf, cI aC es 5 stf, cA aC pp 8 fp, cA aC po 8 fo, cI aC pb 8 u_35, cI aC pu 7 u_31, cI aC pw 7 u_32, cI aC pq 128 u_33, cI aC pt 128 u_34] (va_pl L (plE aC u_36))) := jn_P (wr := [cI aC pa 8 yc, cI aC pe 8 ec, cI aC ef 8 ff, cA aC ps 8 fs, cO k0 0 [], cO k1 1 [], cO k2 3 [], cO k3 5 [], cO k4 6 [], cO k5 10 [], cO k6 8 [], cI aC ek 8 kf, cK aC pk 7 fk]) hFc hk1 hP1 hD1 hP hD [20, 21, 0, 18, 9, 19, 3, 4, 5, 6, 7] [1, 2, 8, 10, 11, 12, 13, 14, 15, 16, 17, 22, 23] rfl rfl (by decide) (by decide)
            have hP := hpd9.1
            have hD := hpd9.2
            clear hpd9
            generalize H1 = H at hP hS ⊢
            clear hPc hDc hFc hz1 hk1 hP1 hD1 ht hvm
            have ht9 := hw_28
            obtain ⟨ht1, ht2, ht3, ht4, ht5⟩ := ht9
            obtain ⟨O9, ho1, -, ho3⟩ := of_buy (K := K) (F := F) (B := u_35 i) (r2 := u_36 (ro i)) (r1 := u_7 (ro i)) (by omega) ⟨hin, hn8⟩ hev.2.1 ht1 ht2 (fun h => ⟨(ht3 h).1.trans hbi, (ht3 h).2⟩) hO1
            obtain ⟨hj1, hj2⟩ := of_fin hpl hin hkle ho3 ho1
            have hj3 : ∀ q, q ≠ i → u_35 q = bc q := fun q h => (ht4 q h).trans (hbo q h)
            have hj4 := ht5
            exact jp_47 u_29 u_30 u_31 u_32 u_33 u_34 u_35 u_36 (by assumption) (by assumption) (by assumption) (by assumption) _ _ _ (plP hP [15, 0, 1, 19, 20, 21, 22, 23, 11, 2, 17, 3, 12, 4, 5, 6, 7, 8, 9, 10, 13, 14, 16, 18] rfl) (plD hD [15, 0, 1, 19, 20, 21, 22, 23, 11, 2, 17, 3, 12, 4, 5, 6, 7, 8, 9, 10, 13, 14, 16, 18] (by decide) rfl) hS (lv_sub hl [0, 1, 2] rfl)
          · have hkv : kf i = nI 2 := by rw [hkf, hkk]
            have hpd9 := pdf_N (cx := [oX9 h1 po pp ps pa pe pb pv pk pu pw pq pt unc fwc, oX4 pv ek ef ew ep es (nI n) sy dn, cI aC ek 8 kf, cK aC pk 7 fk]) hP hD hS hA [20, 21, 8, 12] (by decide) rfl
            have hPc := hpd9.1
            have hDc := hpd9.2.1
            have hFc := hpd9.2.2
            clear hpd9
            refine va_callr (va_runV (As := [Value.int (nI i)]) (rest := []) ⟨hx, hb, hml, hown, hts⟩ (c_X9_kindOf l dC dI aC H.size h1 po pp ps pa pe pb pv pk pu pw pq pt unc fwc ek ef ew ep es n sy dn kf fk i 2 k2 (by omega) (hkv) (by omega) (hkd.2.2.1)) ⟨(callB_of 1 hts (gG kw_365) rfl rfl rfl (hts _ (gw kw_11 rfl)) (hts _ (gw kw_362 rfl)) hd_X9_kindOf ⟨Nat.le_of_ble_eq_true rfl, Nat.le_of_ble_eq_true rfl⟩), (hts _ (gw kw_364 rfl)), (hts _ (gw ks_8 rfl))⟩ ⟨fb_std, va_recv (q := (RX9, TX9, 14)) hK hPc (ci := 9) (q0 := 0) rfl rfl, pre_std hPc hK hDc hN⟩ rfl rfl hl.1 rfl (lv_room (Nat.le_of_ble_eq_true rfl)) dX9_solve_39 ⟨Nat.le_of_ble_eq_true rfl, Nat.le_of_ble_eq_true rfl⟩) hS (fun q _ h => hFc q h) hFc (fun u9 q_38 t9 H1 locs ht hvm hw_38 hB hz1 hk1 hS => ?_)
            obtain ⟨q_38_e, hP1, hK1, hD1⟩ := hB
            rw [ht] at hP1
            clear hK1
            try dsimp only at hw_38
            have hpd9 : PDx (dC, dI) classes A H1 (wp [cI aC ew 8 wf, cI aC pa 8 yc, cI aC pe 8 ec, cI aC pb 8 f_9, cI aC pu 7 uc, cI aC pw 7 vc, cI aC pq 128 qc, cI aC pt 128 tc, cI aC ef 8 ff, cA aC pp 8 fp, cA aC ps 8 fs, cO k0 0 [], cO k1 1 [], cO k2 3 [], cO k3 5 [], cO k4 6 [], cO k5 10 [], cO k6 8 [], cI aC es 5 stf, cA aC po 8 fo, oX9 h1 po pp ps pa pe pb pv pk pu pw pq pt unc fwc, oX4 pv ek ef ew ep es (nI n) sy dn, cI aC ek 8 kf, cK aC pk 7 fk] (va_pl L (plE aC u_7))) := jn_Q (wr := [cI aC ew 8 wf, cI aC pa 8 yc, cI aC pe 8 ec, cI aC pb 8 f_9, cI aC pu 7 uc, cI aC pw 7 vc, cI aC pq 128 qc, cI aC pt 128 tc, cI aC ef 8 ff, cA aC pp 8 fp, cA aC ps 8 fs, cO k0 0 [], cO k1 1 [], cO k2 3 [], cO k3 5 [], cO k4 6 [], cO k5 10 [], cO k6 8 [], cI aC es 5 stf, cA aC po 8 fo]) hFc hk1 hP1 hD1 hP hD [20, 21, 8, 12] [0, 1, 2, 3, 4, 5, 6, 7, 9, 10, 11, 13, 14, 15, 16, 17, 18, 19, 22, 23] rfl rfl (by decide) (by decide)
            have hP := hpd9.1
            have hD := hpd9.2
            clear hpd9
            generalize H1 = H at hP hS ⊢
            clear hPc hDc hFc hz1 hk1 hP1 hD1 ht hvm
            have h9 := q_38_e.symm
            subst h9
            refine lv_aload_n hx hb dX9_solve_42 rfl (lv_at hl 0 rfl) ?_
            refine lv_iload_n hx hb dX9_solve_43 rfl (lv_at hl 2 rfl) ?_
            have hpd9 := pdf_P (cx := [oX9 h1 po pp ps pa pe pb pv pk pu pw pq pt unc fwc, oX4 pv ek ef ew ep es (nI n) sy dn, cI aC ew 8 wf, cI aC es 5 stf, cA aC pp 8 fp, cA aC po 8 fo, cI aC pb 8 f_9, cI aC pu 7 uc, cI aC pw 7 vc, cI aC pq 128 qc, cI aC pt 128 tc]) hP hD hS hA [20, 21, 0, 18, 9, 19, 3, 4, 5, 6, 7] (by decide) rfl
            have hPc := hpd9.1
            have hDc := hpd9.2.1
            have hFc := hpd9.2.2
            clear hpd9
            refine va_callv (va_runU (As := [Value.ref h1, Value.int (nI i)]) (rest := []) ⟨hx, hb, hml, hown, hts⟩ (c_X0_tell l dC dI aC H.size k2 h1 po pp ps pa pe pb pv pk pu pw pq pt unc fwc ek ef ew ep es n sy dn wf stf W0 i cq (KO cq i) (zP pl i) uc vc qc tc f_9 L u_7 fo fp fs ro rp rs (hgr) (HW_of hev) (hin) (⟨hev.2.2.1, hev.2.1⟩) (hO1) (KO_le hev.2.1) (if_pos rfl) (fun q h1 h2 => ⟨hP1q q h1 h2, hPle q h1 h2⟩)) (va_cwU (owner := "EldestSays$Clever") 2 hts (gcons (gw kw_400 rfl) (gcons (gw kw_403 rfl) (gcons (gw kw_405 rfl) (gcons (gw kw_401 rfl) (gcons (gw kw_4 rfl) (gG kw_437)))))) rfl rfl rfl rfl (by decide +kernel) ⟨Nat.le_of_ble_eq_true rfl, Nat.le_of_ble_eq_true rfl⟩) ⟨fb_std, va_recv (q := (RX3, TX3, 0)) hK hP (ci := 3) (q0 := 13) rfl rfl, pre_std hPc hK hDc hN⟩ rfl rfl hl.1 rfl (lv_room (Nat.le_of_ble_eq_true rfl)) dX9_solve_44 ⟨Nat.le_of_ble_eq_true rfl, Nat.le_of_ble_eq_true rfl⟩) hS (fun q _ h => hFc q h) hFc (fun u9 t9 H1 locs ht hvm hw_39 hB hz1 hk1 hS => ?_)
            obtain ⟨u_40, u_41, u_42, u_43, u_44, u_45, u_46, u_47, u_48⟩ := u9
            obtain ⟨hP1, hK1, hD1⟩ := hB
            rw [ht] at hP1
            clear hK1
            try dsimp only at hw_39
            have hpd9 : PDx (dC, dI) classes A H1 (wp [cI aC pa 8 yc, cI aC pe 8 ec, cI aC ef 8 ff, cA aC ps 8 fs, cO k0 0 [], cO k1 1 [], cO k2 3 [], cO k3 5 [], cO k4 6 [], cO k5 10 [], cO k6 8 [], cI aC ek 8 kf, cK aC pk 7 fk, oX9 h1 po pp ps pa pe pb pv pk pu pw pq pt u_40 u_41, oX4 pv ek ef ew ep es (nI n) sy dn, cI aC ew 8 wf, cI aC es 5 stf, cA aC pp 8 fp, cA aC po 8 fo, cI aC pb 8 u_46, cI aC pu 7 u_42, cI aC pw 7 u_43, cI aC pq 128 u_44, cI aC pt 128 u_45] (va_pl L (plE aC u_47))) := jn_P (wr := [cI aC pa 8 yc, cI aC pe 8 ec, cI aC ef 8 ff, cA aC ps 8 fs, cO k0 0 [], cO k1 1 [], cO k2 3 [], cO k3 5 [], cO k4 6 [], cO k5 10 [], cO k6 8 [], cI aC ek 8 kf, cK aC pk 7 fk]) hFc hk1 hP1 hD1 hP hD [20, 21, 0, 18, 9, 19, 3, 4, 5, 6, 7] [1, 2, 8, 10, 11, 12, 13, 14, 15, 16, 17, 22, 23] rfl rfl (by decide) (by decide)
            have hP := hpd9.1
            have hD := hpd9.2
            clear hpd9
            generalize H1 = H at hP hS ⊢
            clear hPc hDc hFc hz1 hk1 hP1 hD1 ht hvm
            have ht9 := hw_39
            obtain ⟨ht1, ht2, ht3, ht4, ht5⟩ := ht9
            obtain ⟨O9, ho1, -, ho3⟩ := of_buy (K := K) (F := F) (B := u_46 i) (r2 := u_47 (ro i)) (r1 := u_7 (ro i)) (by omega) ⟨hin, hn8⟩ hev.2.1 ht1 ht2 (fun h => ⟨(ht3 h).1.trans hbi, (ht3 h).2⟩) hO1
            obtain ⟨hj1, hj2⟩ := of_fin hpl hin hkle ho3 ho1
            have hj3 : ∀ q, q ≠ i → u_46 q = bc q := fun q h => (ht4 q h).trans (hbo q h)
            have hj4 := ht5
            exact jp_47 u_40 u_41 u_42 u_43 u_44 u_45 u_46 u_47 (by assumption) (by assumption) (by assumption) (by assumption) _ _ _ (plP hP [15, 0, 1, 19, 20, 21, 22, 23, 11, 2, 17, 3, 12, 4, 5, 6, 7, 8, 9, 10, 13, 14, 16, 18] rfl) (plD hD [15, 0, 1, 19, 20, 21, 22, 23, 11, 2, 17, 3, 12, 4, 5, 6, 7, 8, 9, 10, 13, 14, 16, 18] (by decide) rfl) hS (lv_sub hl [0, 1, 2] rfl)
          · have hkv : kf i = nI 3 := by rw [hkf, hkk]
            have hpd9 := pdf_N (cx := [oX9 h1 po pp ps pa pe pb pv pk pu pw pq pt unc fwc, oX4 pv ek ef ew ep es (nI n) sy dn, cI aC ek 8 kf, cK aC pk 7 fk]) hP hD hS hA [20, 21, 8, 12] (by decide) rfl
            have hPc := hpd9.1
            have hDc := hpd9.2.1
            have hFc := hpd9.2.2
            clear hpd9
            refine va_callr (va_runV (As := [Value.int (nI i)]) (rest := []) ⟨hx, hb, hml, hown, hts⟩ (c_X9_kindOf l dC dI aC H.size h1 po pp ps pa pe pb pv pk pu pw pq pt unc fwc ek ef ew ep es n sy dn kf fk i 3 k3 (by omega) (hkv) (by omega) (hkd.2.2.2.1)) ⟨(callB_of 1 hts (gG kw_365) rfl rfl rfl (hts _ (gw kw_11 rfl)) (hts _ (gw kw_362 rfl)) hd_X9_kindOf ⟨Nat.le_of_ble_eq_true rfl, Nat.le_of_ble_eq_true rfl⟩), (hts _ (gw kw_364 rfl)), (hts _ (gw ks_8 rfl))⟩ ⟨fb_std, va_recv (q := (RX9, TX9, 14)) hK hPc (ci := 9) (q0 := 0) rfl rfl, pre_std hPc hK hDc hN⟩ rfl rfl hl.1 rfl (lv_room (Nat.le_of_ble_eq_true rfl)) dX9_solve_39 ⟨Nat.le_of_ble_eq_true rfl, Nat.le_of_ble_eq_true rfl⟩) hS (fun q _ h => hFc q h) hFc (fun u9 q_49 t9 H1 locs ht hvm hw_49 hB hz1 hk1 hS => ?_)
            obtain ⟨q_49_e, hP1, hK1, hD1⟩ := hB
            rw [ht] at hP1
            clear hK1
            try dsimp only at hw_49
            have hpd9 : PDx (dC, dI) classes A H1 (wp [cI aC ew 8 wf, cI aC pa 8 yc, cI aC pe 8 ec, cI aC pb 8 f_9, cI aC pu 7 uc, cI aC pw 7 vc, cI aC pq 128 qc, cI aC pt 128 tc, cI aC ef 8 ff, cA aC pp 8 fp, cA aC ps 8 fs, cO k0 0 [], cO k1 1 [], cO k2 3 [], cO k3 5 [], cO k4 6 [], cO k5 10 [], cO k6 8 [], cI aC es 5 stf, cA aC po 8 fo, oX9 h1 po pp ps pa pe pb pv pk pu pw pq pt unc fwc, oX4 pv ek ef ew ep es (nI n) sy dn, cI aC ek 8 kf, cK aC pk 7 fk] (va_pl L (plE aC u_7))) := jn_Q (wr := [cI aC ew 8 wf, cI aC pa 8 yc, cI aC pe 8 ec, cI aC pb 8 f_9, cI aC pu 7 uc, cI aC pw 7 vc, cI aC pq 128 qc, cI aC pt 128 tc, cI aC ef 8 ff, cA aC pp 8 fp, cA aC ps 8 fs, cO k0 0 [], cO k1 1 [], cO k2 3 [], cO k3 5 [], cO k4 6 [], cO k5 10 [], cO k6 8 [], cI aC es 5 stf, cA aC po 8 fo]) hFc hk1 hP1 hD1 hP hD [20, 21, 8, 12] [0, 1, 2, 3, 4, 5, 6, 7, 9, 10, 11, 13, 14, 15, 16, 17, 18, 19, 22, 23] rfl rfl (by decide) (by decide)
            have hP := hpd9.1
            have hD := hpd9.2
            clear hpd9
            generalize H1 = H at hP hS ⊢
            clear hPc hDc hFc hz1 hk1 hP1 hD1 ht hvm
            have h9 := q_49_e.symm
            subst h9
            refine lv_aload_n hx hb dX9_solve_42 rfl (lv_at hl 0 rfl) ?_
            refine lv_iload_n hx hb dX9_solve_43 rfl (lv_at hl 2 rfl) ?_
            have hpd9 := pdf_P (cx := [oX9 h1 po pp ps pa pe pb pv pk pu pw pq pt unc fwc, oX4 pv ek ef ew ep es (nI n) sy dn, cI aC es 5 stf, cA aC po 8 fo]) hP hD hS hA [20, 21, 18, 19] (by decide) rfl
            have hPc := hpd9.1
            have hDc := hpd9.2.1
            have hFc := hpd9.2.2
            clear hpd9
            refine va_callv (va_runU (As := [Value.ref h1, Value.int (nI i)]) (rest := []) ⟨hx, hb, hml, hown, hts⟩ (c_X5_tell l dC dI aC H.size k3 h1 po pp ps pa pe pb pv pk pu pw pq pt unc fwc ek ef ew ep es n sy dn stf L u_7 fo fp fs ro rp rs i cq (KO cq i) (hgr) (⟨hin, hn8⟩) (hev.2.2.1) (hev.2.1) (hO1) (KO_le hev.2.1)) (va_cwO (owner := "EldestSays$Clever") 2 hts (gcons (gw kw_400 rfl) (gcons (gw kw_403 rfl) (gcons (gw kw_401 rfl) (gcons (gw kw_406 rfl) (gcons (gw kw_407 rfl) (gcons (gw kw_7 rfl) (gG kw_408))))))) rfl rfl rfl (gw kw_437 rfl) (by decide +kernel) ⟨Nat.le_of_ble_eq_true rfl, Nat.le_of_ble_eq_true rfl⟩) ⟨fb_std, va_recv (q := (RX5, TX5, 0)) hK hP (ci := 5) (q0 := 14) rfl rfl, pre_std hPc hK hDc hN⟩ rfl rfl hl.1 rfl (lv_room (Nat.le_of_ble_eq_true rfl)) dX9_solve_44 ⟨Nat.le_of_ble_eq_true rfl, Nat.le_of_ble_eq_true rfl⟩) hS (fun q _ h => hFc q h) hFc (fun u9 t9 H1 locs ht hvm hw_50 hB hz1 hk1 hS => ?_)
            obtain ⟨u_51, rfl⟩ : ∃ z, z = u9 := ⟨_, rfl⟩
            obtain ⟨hP1, hK1, hD1⟩ := hB
            rw [ht] at hP1
            clear hK1
            try dsimp only at hw_50
            have hpd9 : PDx (dC, dI) classes A H1 (wp [cI aC ew 8 wf, cI aC pa 8 yc, cI aC pe 8 ec, cI aC pb 8 f_9, cI aC pu 7 uc, cI aC pw 7 vc, cI aC pq 128 qc, cI aC pt 128 tc, cI aC ef 8 ff, cA aC pp 8 fp, cA aC ps 8 fs, cO k0 0 [], cO k1 1 [], cO k2 3 [], cO k3 5 [], cO k4 6 [], cO k5 10 [], cO k6 8 [], cI aC ek 8 kf, cK aC pk 7 fk, oX9 h1 po pp ps pa pe pb pv pk pu pw pq pt unc fwc, oX4 pv ek ef ew ep es (nI n) sy dn, cI aC es 5 stf, cA aC po 8 fo] (va_pl L (plE aC u_51))) := jn_P (wr := [cI aC ew 8 wf, cI aC pa 8 yc, cI aC pe 8 ec, cI aC pb 8 f_9, cI aC pu 7 uc, cI aC pw 7 vc, cI aC pq 128 qc, cI aC pt 128 tc, cI aC ef 8 ff, cA aC pp 8 fp, cA aC ps 8 fs, cO k0 0 [], cO k1 1 [], cO k2 3 [], cO k3 5 [], cO k4 6 [], cO k5 10 [], cO k6 8 [], cI aC ek 8 kf, cK aC pk 7 fk]) hFc hk1 hP1 hD1 hP hD [20, 21, 18, 19] [0, 1, 2, 3, 4, 5, 6, 7, 8, 9, 10, 11, 12, 13, 14, 15, 16, 17, 22, 23] rfl rfl (by decide) (by decide)
            have hP := hpd9.1
            have hD := hpd9.2
            clear hpd9
            generalize H1 = H at hP hS ⊢
            clear hPc hDc hFc hz1 hk1 hP1 hD1 ht hvm
            have ht9 := hw_50
            obtain ⟨ht1, ht5⟩ := ht9
            have ho3 := (of_3 (F := F) (n := n) (W := W0) (law := stf 1) (fst := stf 3) (Pq := zP pl i) hkk hbi hev.2.1).2
            obtain ⟨hj1, hj2⟩ := of_fin hpl hin hkle ho3 ht1
            have hj3 := hbo
            have hj4 := ht5
            exact jp_47 unc fwc uc vc qc tc f_9 u_51 (by assumption) (by assumption) (by assumption) (by assumption) _ _ _ (plP hP [0, 1, 2, 3, 4, 5, 6, 7, 18, 8, 9, 10, 19, 11, 12, 13, 14, 15, 16, 17, 20, 21, 22, 23] rfl) (plD hD [0, 1, 2, 3, 4, 5, 6, 7, 18, 8, 9, 10, 19, 11, 12, 13, 14, 15, 16, 17, 20, 21, 22, 23] (by decide) rfl) hS (lv_sub hl [0, 1, 2] rfl)
          · have hkv : kf i = nI 4 := by rw [hkf, hkk]
            have hpd9 := pdf_N (cx := [oX9 h1 po pp ps pa pe pb pv pk pu pw pq pt unc fwc, oX4 pv ek ef ew ep es (nI n) sy dn, cI aC ek 8 kf, cK aC pk 7 fk]) hP hD hS hA [20, 21, 8, 12] (by decide) rfl
            have hPc := hpd9.1
            have hDc := hpd9.2.1
            have hFc := hpd9.2.2
            clear hpd9
            refine va_callr (va_runV (As := [Value.int (nI i)]) (rest := []) ⟨hx, hb, hml, hown, hts⟩ (c_X9_kindOf l dC dI aC H.size h1 po pp ps pa pe pb pv pk pu pw pq pt unc fwc ek ef ew ep es n sy dn kf fk i 4 k4 (by omega) (hkv) (by omega) (hkd.2.2.2.2.1)) ⟨(callB_of 1 hts (gG kw_365) rfl rfl rfl (hts _ (gw kw_11 rfl)) (hts _ (gw kw_362 rfl)) hd_X9_kindOf ⟨Nat.le_of_ble_eq_true rfl, Nat.le_of_ble_eq_true rfl⟩), (hts _ (gw kw_364 rfl)), (hts _ (gw ks_8 rfl))⟩ ⟨fb_std, va_recv (q := (RX9, TX9, 14)) hK hPc (ci := 9) (q0 := 0) rfl rfl, pre_std hPc hK hDc hN⟩ rfl rfl hl.1 rfl (lv_room (Nat.le_of_ble_eq_true rfl)) dX9_solve_39 ⟨Nat.le_of_ble_eq_true rfl, Nat.le_of_ble_eq_true rfl⟩) hS (fun q _ h => hFc q h) hFc (fun u9 q_52 t9 H1 locs ht hvm hw_52 hB hz1 hk1 hS => ?_)
            obtain ⟨q_52_e, hP1, hK1, hD1⟩ := hB
            rw [ht] at hP1
            clear hK1
            try dsimp only at hw_52
            have hpd9 : PDx (dC, dI) classes A H1 (wp [cI aC ew 8 wf, cI aC pa 8 yc, cI aC pe 8 ec, cI aC pb 8 f_9, cI aC pu 7 uc, cI aC pw 7 vc, cI aC pq 128 qc, cI aC pt 128 tc, cI aC ef 8 ff, cA aC pp 8 fp, cA aC ps 8 fs, cO k0 0 [], cO k1 1 [], cO k2 3 [], cO k3 5 [], cO k4 6 [], cO k5 10 [], cO k6 8 [], cI aC es 5 stf, cA aC po 8 fo, oX9 h1 po pp ps pa pe pb pv pk pu pw pq pt unc fwc, oX4 pv ek ef ew ep es (nI n) sy dn, cI aC ek 8 kf, cK aC pk 7 fk] (va_pl L (plE aC u_7))) := jn_Q (wr := [cI aC ew 8 wf, cI aC pa 8 yc, cI aC pe 8 ec, cI aC pb 8 f_9, cI aC pu 7 uc, cI aC pw 7 vc, cI aC pq 128 qc, cI aC pt 128 tc, cI aC ef 8 ff, cA aC pp 8 fp, cA aC ps 8 fs, cO k0 0 [], cO k1 1 [], cO k2 3 [], cO k3 5 [], cO k4 6 [], cO k5 10 [], cO k6 8 [], cI aC es 5 stf, cA aC po 8 fo]) hFc hk1 hP1 hD1 hP hD [20, 21, 8, 12] [0, 1, 2, 3, 4, 5, 6, 7, 9, 10, 11, 13, 14, 15, 16, 17, 18, 19, 22, 23] rfl rfl (by decide) (by decide)
            have hP := hpd9.1
            have hD := hpd9.2
            clear hpd9
            generalize H1 = H at hP hS ⊢
            clear hPc hDc hFc hz1 hk1 hP1 hD1 ht hvm
            have h9 := q_52_e.symm
            subst h9
            refine lv_aload_n hx hb dX9_solve_42 rfl (lv_at hl 0 rfl) ?_
            refine lv_iload_n hx hb dX9_solve_43 rfl (lv_at hl 2 rfl) ?_
            have hpd9 := pdf_P (cx := [oX9 h1 po pp ps pa pe pb pv pk pu pw pq pt unc fwc, oX4 pv ek ef ew ep es (nI n) sy dn, cI aC ef 8 ff, cA aC po 8 fo]) hP hD hS hA [20, 21, 8, 19] (by decide) rfl
            have hPc := hpd9.1
            have hDc := hpd9.2.1
            have hFc := hpd9.2.2
            clear hpd9
            refine va_callv (va_runU (As := [Value.ref h1, Value.int (nI i)]) (rest := []) ⟨hx, hb, hml, hown, hts⟩ (c_X6_tell l dC dI aC H.size k4 h1 po pp ps pa pe pb pv pk pu pw pq pt unc fwc ek ef ew ep es n sy dn L u_7 fo fp fs ro rp rs i (F i) (KO cq i) ff (hgr) (⟨hin, hn8⟩) (by omega) (hO1) (KO_le hev.2.1) (hff)) (va_cwO (owner := "EldestSays$Clever") 2 hts (gcons (gw kw_400 rfl) (gcons (gw kw_403 rfl) (gcons (gw kw_401 rfl) (gcons (gw kw_417 rfl) (gcons (gw kw_418 rfl) (gcons (gw kw_8 rfl) (gG kw_419))))))) rfl rfl rfl (gw kw_437 rfl) (by decide +kernel) ⟨Nat.le_of_ble_eq_true rfl, Nat.le_of_ble_eq_true rfl⟩) ⟨fb_std, va_recv (q := (RX6, TX6, 0)) hK hP (ci := 6) (q0 := 15) rfl rfl, pre_std hPc hK hDc hN⟩ rfl rfl hl.1 rfl (lv_room (Nat.le_of_ble_eq_true rfl)) dX9_solve_44 ⟨Nat.le_of_ble_eq_true rfl, Nat.le_of_ble_eq_true rfl⟩) hS (fun q _ h => hFc q h) hFc (fun u9 t9 H1 locs ht hvm hw_53 hB hz1 hk1 hS => ?_)
            obtain ⟨u_54, rfl⟩ : ∃ z, z = u9 := ⟨_, rfl⟩
            obtain ⟨hP1, hK1, hD1⟩ := hB
            rw [ht] at hP1
            clear hK1
            try dsimp only at hw_53
            have hpd9 : PDx (dC, dI) classes A H1 (wp [cI aC ew 8 wf, cI aC pa 8 yc, cI aC pe 8 ec, cI aC pb 8 f_9, cI aC pu 7 uc, cI aC pw 7 vc, cI aC pq 128 qc, cI aC pt 128 tc, cA aC pp 8 fp, cA aC ps 8 fs, cO k0 0 [], cO k1 1 [], cO k2 3 [], cO k3 5 [], cO k4 6 [], cO k5 10 [], cO k6 8 [], cI aC es 5 stf, cI aC ek 8 kf, cK aC pk 7 fk, oX9 h1 po pp ps pa pe pb pv pk pu pw pq pt unc fwc, oX4 pv ek ef ew ep es (nI n) sy dn, cI aC ef 8 ff, cA aC po 8 fo] (va_pl L (plE aC u_54))) := jn_P (wr := [cI aC ew 8 wf, cI aC pa 8 yc, cI aC pe 8 ec, cI aC pb 8 f_9, cI aC pu 7 uc, cI aC pw 7 vc, cI aC pq 128 qc, cI aC pt 128 tc, cA aC pp 8 fp, cA aC ps 8 fs, cO k0 0 [], cO k1 1 [], cO k2 3 [], cO k3 5 [], cO k4 6 [], cO k5 10 [], cO k6 8 [], cI aC es 5 stf, cI aC ek 8 kf, cK aC pk 7 fk]) hFc hk1 hP1 hD1 hP hD [20, 21, 8, 19] [0, 1, 2, 3, 4, 5, 6, 7, 9, 10, 11, 12, 13, 14, 15, 16, 17, 18, 22, 23] rfl rfl (by decide) (by decide)
            have hP := hpd9.1
            have hD := hpd9.2
            clear hpd9
            generalize H1 = H at hP hS ⊢
            clear hPc hDc hFc hz1 hk1 hP1 hD1 ht hvm
            have ht9 := hw_53
            obtain ⟨ht1, ht5⟩ := ht9
            have ho3 := (of_4 (F := F) (n := n) (W := W0) (law := stf 1) (fst := stf 3) (Pq := zP pl i) hkk hbi hev.2.1 hfle).2
            obtain ⟨hj1, hj2⟩ := of_fin hpl hin hkle ho3 ht1
            have hj3 := hbo
            have hj4 := ht5
            exact jp_47 unc fwc uc vc qc tc f_9 u_54 (by assumption) (by assumption) (by assumption) (by assumption) _ _ _ (plP hP [0, 1, 2, 3, 4, 5, 6, 7, 18, 22, 8, 9, 19, 10, 11, 12, 13, 14, 15, 16, 20, 21, 17, 23] rfl) (plD hD [0, 1, 2, 3, 4, 5, 6, 7, 18, 22, 8, 9, 19, 10, 11, 12, 13, 14, 15, 16, 20, 21, 17, 23] (by decide) rfl) hS (lv_sub hl [0, 1, 2] rfl)
          · have hkv : kf i = nI 5 := by rw [hkf, hkk]
            have hpd9 := pdf_N (cx := [oX9 h1 po pp ps pa pe pb pv pk pu pw pq pt unc fwc, oX4 pv ek ef ew ep es (nI n) sy dn, cI aC ek 8 kf, cK aC pk 7 fk]) hP hD hS hA [20, 21, 8, 12] (by decide) rfl
            have hPc := hpd9.1
            have hDc := hpd9.2.1
            have hFc := hpd9.2.2
            clear hpd9
            refine va_callr (va_runV (As := [Value.int (nI i)]) (rest := []) ⟨hx, hb, hml, hown, hts⟩ (c_X9_kindOf l dC dI aC H.size h1 po pp ps pa pe pb pv pk pu pw pq pt unc fwc ek ef ew ep es n sy dn kf fk i 5 k5 (by omega) (hkv) (by omega) (hkd.2.2.2.2.2.1)) ⟨(callB_of 1 hts (gG kw_365) rfl rfl rfl (hts _ (gw kw_11 rfl)) (hts _ (gw kw_362 rfl)) hd_X9_kindOf ⟨Nat.le_of_ble_eq_true rfl, Nat.le_of_ble_eq_true rfl⟩), (hts _ (gw kw_364 rfl)), (hts _ (gw ks_8 rfl))⟩ ⟨fb_std, va_recv (q := (RX9, TX9, 14)) hK hPc (ci := 9) (q0 := 0) rfl rfl, pre_std hPc hK hDc hN⟩ rfl rfl hl.1 rfl (lv_room (Nat.le_of_ble_eq_true rfl)) dX9_solve_39 ⟨Nat.le_of_ble_eq_true rfl, Nat.le_of_ble_eq_true rfl⟩) hS (fun q _ h => hFc q h) hFc (fun u9 q_55 t9 H1 locs ht hvm hw_55 hB hz1 hk1 hS => ?_)
            obtain ⟨q_55_e, hP1, hK1, hD1⟩ := hB
            rw [ht] at hP1
            clear hK1
            try dsimp only at hw_55
            have hpd9 : PDx (dC, dI) classes A H1 (wp [cI aC ew 8 wf, cI aC pa 8 yc, cI aC pe 8 ec, cI aC pb 8 f_9, cI aC pu 7 uc, cI aC pw 7 vc, cI aC pq 128 qc, cI aC pt 128 tc, cI aC ef 8 ff, cA aC pp 8 fp, cA aC ps 8 fs, cO k0 0 [], cO k1 1 [], cO k2 3 [], cO k3 5 [], cO k4 6 [], cO k5 10 [], cO k6 8 [], cI aC es 5 stf, cA aC po 8 fo, oX9 h1 po pp ps pa pe pb pv pk pu pw pq pt unc fwc, oX4 pv ek ef ew ep es (nI n) sy dn, cI aC ek 8 kf, cK aC pk 7 fk] (va_pl L (plE aC u_7))) := jn_Q (wr := [cI aC ew 8 wf, cI aC pa 8 yc, cI aC pe 8 ec, cI aC pb 8 f_9, cI aC pu 7 uc, cI aC pw 7 vc, cI aC pq 128 qc, cI aC pt 128 tc, cI aC ef 8 ff, cA aC pp 8 fp, cA aC ps 8 fs, cO k0 0 [], cO k1 1 [], cO k2 3 [], cO k3 5 [], cO k4 6 [], cO k5 10 [], cO k6 8 [], cI aC es 5 stf, cA aC po 8 fo]) hFc hk1 hP1 hD1 hP hD [20, 21, 8, 12] [0, 1, 2, 3, 4, 5, 6, 7, 9, 10, 11, 13, 14, 15, 16, 17, 18, 19, 22, 23] rfl rfl (by decide) (by decide)
            have hP := hpd9.1
            have hD := hpd9.2
            clear hpd9
            generalize H1 = H at hP hS ⊢
            clear hPc hDc hFc hz1 hk1 hP1 hD1 ht hvm
            have h9 := q_55_e.symm
            subst h9
            refine lv_aload_n hx hb dX9_solve_42 rfl (lv_at hl 0 rfl) ?_
            refine lv_iload_n hx hb dX9_solve_43 rfl (lv_at hl 2 rfl) ?_
            have hpd9 := pdf_P (cx := [oX9 h1 po pp ps pa pe pb pv pk pu pw pq pt unc fwc, oX4 pv ek ef ew ep es (nI n) sy dn, cI aC ew 8 wf, cI aC es 5 stf, cA aC pp 8 fp, cA aC po 8 fo, cI aC pb 8 f_9, cI aC pu 7 uc, cI aC pw 7 vc, cI aC pq 128 qc, cI aC pt 128 tc]) hP hD hS hA [20, 21, 0, 18, 9, 19, 3, 4, 5, 6, 7] (by decide) rfl
            have hPc := hpd9.1
            have hDc := hpd9.2.1
            have hFc := hpd9.2.2
            clear hpd9
            refine va_callv (va_runU (As := [Value.ref h1, Value.int (nI i)]) (rest := []) ⟨hx, hb, hml, hown, hts⟩ (c_X0_tell l dC dI aC H.size k5 h1 po pp ps pa pe pb pv pk pu pw pq pt unc fwc ek ef ew ep es n sy dn wf stf W0 i cq (KO cq i) (zP pl i) uc vc qc tc f_9 L u_7 fo fp fs ro rp rs (hgr) (HW_of hev) (hin) (⟨hev.2.2.1, hev.2.1⟩) (hO1) (KO_le hev.2.1) (if_pos rfl) (fun q h1 h2 => ⟨hP1q q h1 h2, hPle q h1 h2⟩)) (va_cwU (owner := "EldestSays$Clever") 2 hts (gcons (gw kw_400 rfl) (gcons (gw kw_403 rfl) (gcons (gw kw_436 rfl) (gcons (gw kw_401 rfl) (gcons (gw kw_4 rfl) (gG kw_437)))))) rfl rfl rfl rfl (by decide +kernel) ⟨Nat.le_of_ble_eq_true rfl, Nat.le_of_ble_eq_true rfl⟩) ⟨fb_std, va_recv (q := (RX10, TX10, 0)) hK hP (ci := 10) (q0 := 16) rfl rfl, pre_std hPc hK hDc hN⟩ rfl rfl hl.1 rfl (lv_room (Nat.le_of_ble_eq_true rfl)) dX9_solve_44 ⟨Nat.le_of_ble_eq_true rfl, Nat.le_of_ble_eq_true rfl⟩) hS (fun q _ h => hFc q h) hFc (fun u9 t9 H1 locs ht hvm hw_56 hB hz1 hk1 hS => ?_)
            obtain ⟨u_57, u_58, u_59, u_60, u_61, u_62, u_63, u_64, u_65⟩ := u9
            obtain ⟨hP1, hK1, hD1⟩ := hB
            rw [ht] at hP1
            clear hK1
            try dsimp only at hw_56
            have hpd9 : PDx (dC, dI) classes A H1 (wp [cI aC pa 8 yc, cI aC pe 8 ec, cI aC ef 8 ff, cA aC ps 8 fs, cO k0 0 [], cO k1 1 [], cO k2 3 [], cO k3 5 [], cO k4 6 [], cO k5 10 [], cO k6 8 [], cI aC ek 8 kf, cK aC pk 7 fk, oX9 h1 po pp ps pa pe pb pv pk pu pw pq pt u_57 u_58, oX4 pv ek ef ew ep es (nI n) sy dn, cI aC ew 8 wf, cI aC es 5 stf, cA aC pp 8 fp, cA aC po 8 fo, cI aC pb 8 u_63, cI aC pu 7 u_59, cI aC pw 7 u_60, cI aC pq 128 u_61, cI aC pt 128 u_62] (va_pl L (plE aC u_64))) := jn_P (wr := [cI aC pa 8 yc, cI aC pe 8 ec, cI aC ef 8 ff, cA aC ps 8 fs, cO k0 0 [], cO k1 1 [], cO k2 3 [], cO k3 5 [], cO k4 6 [], cO k5 10 [], cO k6 8 [], cI aC ek 8 kf, cK aC pk 7 fk]) hFc hk1 hP1 hD1 hP hD [20, 21, 0, 18, 9, 19, 3, 4, 5, 6, 7] [1, 2, 8, 10, 11, 12, 13, 14, 15, 16, 17, 22, 23] rfl rfl (by decide) (by decide)
            have hP := hpd9.1
            have hD := hpd9.2
            clear hpd9
            generalize H1 = H at hP hS ⊢
            clear hPc hDc hFc hz1 hk1 hP1 hD1 ht hvm
            have ht9 := hw_56
            obtain ⟨ht1, ht2, ht3, ht4, ht5⟩ := ht9
            obtain ⟨O9, ho1, -, ho3⟩ := of_buy (K := K) (F := F) (B := u_63 i) (r2 := u_64 (ro i)) (r1 := u_7 (ro i)) (by omega) ⟨hin, hn8⟩ hev.2.1 ht1 ht2 (fun h => ⟨(ht3 h).1.trans hbi, (ht3 h).2⟩) hO1
            obtain ⟨hj1, hj2⟩ := of_fin hpl hin hkle ho3 ho1
            have hj3 : ∀ q, q ≠ i → u_63 q = bc q := fun q h => (ht4 q h).trans (hbo q h)
            have hj4 := ht5
            exact jp_47 u_57 u_58 u_59 u_60 u_61 u_62 u_63 u_64 (by assumption) (by assumption) (by assumption) (by assumption) _ _ _ (plP hP [15, 0, 1, 19, 20, 21, 22, 23, 11, 2, 17, 3, 12, 4, 5, 6, 7, 8, 9, 10, 13, 14, 16, 18] rfl) (plD hD [15, 0, 1, 19, 20, 21, 22, 23, 11, 2, 17, 3, 12, 4, 5, 6, 7, 8, 9, 10, 13, 14, 16, 18] (by decide) rfl) hS (lv_sub hl [0, 1, 2] rfl)
          · have hkv : kf i = nI 6 := by rw [hkf, hkk]
            have hpd9 := pdf_N (cx := [oX9 h1 po pp ps pa pe pb pv pk pu pw pq pt unc fwc, oX4 pv ek ef ew ep es (nI n) sy dn, cI aC ek 8 kf, cK aC pk 7 fk]) hP hD hS hA [20, 21, 8, 12] (by decide) rfl
            have hPc := hpd9.1
            have hDc := hpd9.2.1
            have hFc := hpd9.2.2
            clear hpd9
            refine va_callr (va_runV (As := [Value.int (nI i)]) (rest := []) ⟨hx, hb, hml, hown, hts⟩ (c_X9_kindOf l dC dI aC H.size h1 po pp ps pa pe pb pv pk pu pw pq pt unc fwc ek ef ew ep es n sy dn kf fk i 6 k6 (by omega) (hkv) (by omega) (hkd.2.2.2.2.2.2)) ⟨(callB_of 1 hts (gG kw_365) rfl rfl rfl (hts _ (gw kw_11 rfl)) (hts _ (gw kw_362 rfl)) hd_X9_kindOf ⟨Nat.le_of_ble_eq_true rfl, Nat.le_of_ble_eq_true rfl⟩), (hts _ (gw kw_364 rfl)), (hts _ (gw ks_8 rfl))⟩ ⟨fb_std, va_recv (q := (RX9, TX9, 14)) hK hPc (ci := 9) (q0 := 0) rfl rfl, pre_std hPc hK hDc hN⟩ rfl rfl hl.1 rfl (lv_room (Nat.le_of_ble_eq_true rfl)) dX9_solve_39 ⟨Nat.le_of_ble_eq_true rfl, Nat.le_of_ble_eq_true rfl⟩) hS (fun q _ h => hFc q h) hFc (fun u9 q_66 t9 H1 locs ht hvm hw_66 hB hz1 hk1 hS => ?_)
            obtain ⟨q_66_e, hP1, hK1, hD1⟩ := hB
            rw [ht] at hP1
            clear hK1
            try dsimp only at hw_66
            have hpd9 : PDx (dC, dI) classes A H1 (wp [cI aC ew 8 wf, cI aC pa 8 yc, cI aC pe 8 ec, cI aC pb 8 f_9, cI aC pu 7 uc, cI aC pw 7 vc, cI aC pq 128 qc, cI aC pt 128 tc, cI aC ef 8 ff, cA aC pp 8 fp, cA aC ps 8 fs, cO k0 0 [], cO k1 1 [], cO k2 3 [], cO k3 5 [], cO k4 6 [], cO k5 10 [], cO k6 8 [], cI aC es 5 stf, cA aC po 8 fo, oX9 h1 po pp ps pa pe pb pv pk pu pw pq pt unc fwc, oX4 pv ek ef ew ep es (nI n) sy dn, cI aC ek 8 kf, cK aC pk 7 fk] (va_pl L (plE aC u_7))) := jn_Q (wr := [cI aC ew 8 wf, cI aC pa 8 yc, cI aC pe 8 ec, cI aC pb 8 f_9, cI aC pu 7 uc, cI aC pw 7 vc, cI aC pq 128 qc, cI aC pt 128 tc, cI aC ef 8 ff, cA aC pp 8 fp, cA aC ps 8 fs, cO k0 0 [], cO k1 1 [], cO k2 3 [], cO k3 5 [], cO k4 6 [], cO k5 10 [], cO k6 8 [], cI aC es 5 stf, cA aC po 8 fo]) hFc hk1 hP1 hD1 hP hD [20, 21, 8, 12] [0, 1, 2, 3, 4, 5, 6, 7, 9, 10, 11, 13, 14, 15, 16, 17, 18, 19, 22, 23] rfl rfl (by decide) (by decide)
            have hP := hpd9.1
            have hD := hpd9.2
            clear hpd9
            generalize H1 = H at hP hS ⊢
            clear hPc hDc hFc hz1 hk1 hP1 hD1 ht hvm
            have h9 := q_66_e.symm
            subst h9
            refine lv_aload_n hx hb dX9_solve_42 rfl (lv_at hl 0 rfl) ?_
            refine lv_iload_n hx hb dX9_solve_43 rfl (lv_at hl 2 rfl) ?_
            have hpd9 := pdf_P (cx := [oX9 h1 po pp ps pa pe pb pv pk pu pw pq pt unc fwc, oX4 pv ek ef ew ep es (nI n) sy dn, cI aC ef 8 ff, cA aC po 8 fo]) hP hD hS hA [20, 21, 8, 19] (by decide) rfl
            have hPc := hpd9.1
            have hDc := hpd9.2.1
            have hFc := hpd9.2.2
            clear hpd9
            refine va_callv (va_runU (As := [Value.ref h1, Value.int (nI i)]) (rest := []) ⟨hx, hb, hml, hown, hts⟩ (c_X8_tell l dC dI aC H.size k6 h1 po pp ps pa pe pb pv pk pu pw pq pt unc fwc ek ef ew ep es n sy dn L u_7 fo fp fs ro rp rs i (F i) (KO cq i) ff (hgr) (⟨hin, hn8⟩) (by omega) (hO1) (KO_le hev.2.1) (hff)) (va_cwO (owner := "EldestSays$Clever") 2 hts (gcons (gw kw_400 rfl) (gcons (gw kw_403 rfl) (gcons (gw kw_401 rfl) (gcons (gw kw_428 rfl) (gcons (gw kw_429 rfl) (gcons (gw kw_10 rfl) (gG kw_430))))))) rfl rfl rfl (gw kw_437 rfl) (by decide +kernel) ⟨Nat.le_of_ble_eq_true rfl, Nat.le_of_ble_eq_true rfl⟩) ⟨fb_std, va_recv (q := (RX8, TX8, 0)) hK hP (ci := 8) (q0 := 17) rfl rfl, pre_std hPc hK hDc hN⟩ rfl rfl hl.1 rfl (lv_room (Nat.le_of_ble_eq_true rfl)) dX9_solve_44 ⟨Nat.le_of_ble_eq_true rfl, Nat.le_of_ble_eq_true rfl⟩) hS (fun q _ h => hFc q h) hFc (fun u9 t9 H1 locs ht hvm hw_67 hB hz1 hk1 hS => ?_)
            obtain ⟨u_68, rfl⟩ : ∃ z, z = u9 := ⟨_, rfl⟩
            obtain ⟨hP1, hK1, hD1⟩ := hB
            rw [ht] at hP1
            clear hK1
            try dsimp only at hw_67
            have hpd9 : PDx (dC, dI) classes A H1 (wp [cI aC ew 8 wf, cI aC pa 8 yc, cI aC pe 8 ec, cI aC pb 8 f_9, cI aC pu 7 uc, cI aC pw 7 vc, cI aC pq 128 qc, cI aC pt 128 tc, cA aC pp 8 fp, cA aC ps 8 fs, cO k0 0 [], cO k1 1 [], cO k2 3 [], cO k3 5 [], cO k4 6 [], cO k5 10 [], cO k6 8 [], cI aC es 5 stf, cI aC ek 8 kf, cK aC pk 7 fk, oX9 h1 po pp ps pa pe pb pv pk pu pw pq pt unc fwc, oX4 pv ek ef ew ep es (nI n) sy dn, cI aC ef 8 ff, cA aC po 8 fo] (va_pl L (plE aC u_68))) := jn_P (wr := [cI aC ew 8 wf, cI aC pa 8 yc, cI aC pe 8 ec, cI aC pb 8 f_9, cI aC pu 7 uc, cI aC pw 7 vc, cI aC pq 128 qc, cI aC pt 128 tc, cA aC pp 8 fp, cA aC ps 8 fs, cO k0 0 [], cO k1 1 [], cO k2 3 [], cO k3 5 [], cO k4 6 [], cO k5 10 [], cO k6 8 [], cI aC es 5 stf, cI aC ek 8 kf, cK aC pk 7 fk]) hFc hk1 hP1 hD1 hP hD [20, 21, 8, 19] [0, 1, 2, 3, 4, 5, 6, 7, 9, 10, 11, 12, 13, 14, 15, 16, 17, 18, 22, 23] rfl rfl (by decide) (by decide)
            have hP := hpd9.1
            have hD := hpd9.2
            clear hpd9
            generalize H1 = H at hP hS ⊢
            clear hPc hDc hFc hz1 hk1 hP1 hD1 ht hvm
            have ht9 := hw_67
            obtain ⟨ht1, ht5⟩ := ht9
            have ho3 := (of_6 (F := F) (n := n) (W := W0) (law := stf 1) (fst := stf 3) (Pq := zP pl i) hkk hbi hev.2.1 hfle).2
            obtain ⟨hj1, hj2⟩ := of_fin hpl hin hkle ho3 ht1
            have hj3 := hbo
            have hj4 := ht5
            exact jp_47 unc fwc uc vc qc tc f_9 u_68 (by assumption) (by assumption) (by assumption) (by assumption) _ _ _ (plP hP [0, 1, 2, 3, 4, 5, 6, 7, 18, 22, 8, 9, 19, 10, 11, 12, 13, 14, 15, 16, 20, 21, 17, 23] rfl) (plD hD [0, 1, 2, 3, 4, 5, 6, 7, 18, 22, 8, 9, 19, 10, 11, 12, 13, 14, 15, 16, 20, 21, 17, 23] (by decide) rfl) hS (lv_sub hl [0, 1, 2] rfl)
  exact lp_10 (n + 1) n x_1 un fw uf vf qf tf bf yf ef0 g (Nat.lt_succ_self _) (Nat.le_refl n) (by rw [e_1, nI_iI, ← iI_1, iI_sub]) (fun i q1 q2 => by omega) (fun a _ => rfl) _ _ _ (plP hP [0, 1, 2, 3, 4, 5, 6, 7, 8, 9, 10, 11, 12, 13, 14, 15, 16, 17, 18, 19, 20, 21, 22, 23] rfl) (plD hD [0, 1, 2, 3, 4, 5, 6, 7, 8, 9, 10, 11, 12, 13, 14, 15, 16, 17, 18, 19, 20, 21, 22, 23] (by decide) rfl) hS (lv_sub hl [1, 2, 0] rfl)
