set_option maxHeartbeats 4000000 in
set_option maxRecDepth 100000 in
/-- X2_buyYounger -/
theorem c_X2_buyYounger (l : Launch) (dC : Nat → ClassId) (dI : Nat → Nat → Nat) (aC : Nat → ClassId) (sz : Nat) (h1 : Nat) (cs : Nat) (ca : Nat) (cf : Nat) (cl : Nat) (n : Nat) (i : Nat) (Q : Nat → Nat) (af : Nat → Int32) (cq : Nat) (mq : Nat) (fst : Int32) (of : Nat → Int32) (hn : i < n ∧ n ≤ 60) (hQ : ∀ j, i < j → j < n → af j = nI (Q j) ∧ Q j ≤ 100) (hm : mq ≤ cu Q (i + 1) (n - 1 - i) 100) (hc : cq ≤ 99) (hf : fst = 0) : Met l yX2_buyYounger (wW yX2_buyYounger cX2_buyYounger 9 (some .int)) ({ frames := 2, cells := 0, slots := 0, locals := 37 } : Room) (va_Pc [.ref h1, .int (nI i), .int (nI mq), .int fst] (fun U => U.heap.size = sz ∧ va_P (dC, dI) classes [(h1, .inr (2, [.ref cs, .ref ca, .ref cf, .ref cl, .int (nI n), .int (nI cq)])), (ca, .inl (aC 0, 60, .inl af)), (cf, .inl (aC 0, 60, .inl of))] U.heap ∧ va_K (dC, dI) classes (TY aC) U ∧ va_D (fun _ => True) [(h1, .inr (2, [.ref cs, .ref ca, .ref cf, .ref cl, .int (nI n), .int (nI cq)])), (ca, .inl (aC 0, 60, .inl af)), (cf, .inl (aC 0, 60, .inl of))] ∧ NX U)) (va_Qi (fun (r : Int32) (u : (Nat → Int32) × Nat) => match u with | (og, w) => r = nI (co Q (i + 1) (n - 1 - i) mq w) ∧ stp Q (i + 1) (n - 1 - i) mq cq w = true ∧ (∀ u, u < w → stp Q (i + 1) (n - 1 - i) mq cq u = false) ∧ w ≤ 100 ∧ ∀ q, q < 60 → og q = nI (OF Q (i + 1) (n - 1 - i) mq w q)) (fun (u : (Nat → Int32) × Nat) (t : State) => match u with | (og, w) => va_P (dC, dI) classes [(h1, .inr (2, [.ref cs, .ref ca, .ref cf, .ref cl, .int (nI n), .int (nI cq)])), (ca, .inl (aC 0, 60, .inl af)), (cf, .inl (aC 0, 60, .inl og))] t.heap ∧ va_K (dC, dI) classes (TY aC) t ∧ va_D (va_A [(h1, .inr (2, [.ref cs, .ref ca, .ref cf, .ref cl, .int (nI n), .int (nI cq)])), (ca, .inl (aC 0, 60, .inl af)), (cf, .inl (aC 0, 60, .inl of))] sz) [(h1, .inr (2, [.ref cs, .ref ca, .ref cf, .ref cl, .int (nI n), .int (nI cq)])), (ca, .inl (aC 0, 60, .inl af)), (cf, .inl (aC 0, 60, .inl og))]) (va_A [(h1, .inr (2, [.ref cs, .ref ca, .ref cf, .ref cl, .int (nI n), .int (nI cq)])), (ca, .inl (aC 0, 60, .inl af)), (cf, .inl (aC 0, 60, .inl of))] sz)) 0 0 (va_A [(h1, .inr (2, [.ref cs, .ref ca, .ref cf, .ref cl, .int (nI n), .int (nI cq)])), (ca, .inl (aC 0, 60, .inl af)), (cf, .inl (aC 0, 60, .inl of))] sz) := by
  refine Met.ofW (cc := cX2_buyYounger) (maxL := 9) (ret := (some .int)) (by decide) rfl ?_
  intro p e s m args below meth c s₁ B hml hv
  obtain ⟨rfl, hsz, hP, hK, hD0, hN⟩ := hv
  have hx := B.exec
  have hb := B.bytes
  have hr := B.returns
  have hts0 := atoms_spec (ws := (wW yX2_buyYounger cX2_buyYounger 9 (some .int))) B.pre
  have hts : ∀ w9 ∈ lw_G, w9.before ([.ref h1, .int (nI i), .int (nI mq), .int fst] : List Value).toArray s = true := fun w9 h9 => hts0 w9 (List.mem_cons_of_mem _ h9)
  have hown : s.vm.findClass RX2 = some m.cls := findClass_of_methodNamed B.named
  have hlocks := B.notSynchronized
  subst hsz
  have hD := hD0.self (sz := s.heap.size)
  generalize hAe : va_A [(h1, .inr (2, [.ref cs, .ref ca, .ref cf, .ref cl, .int (nI n), .int (nI cq)])), (ca, .inl (aC 0, 60, .inl af)), (cf, .inl (aC 0, 60, .inl of))] s.heap.size = A at hD ⊢
  have hA : ∀ q : Nat, s.heap.size ≤ q → A q := fun q h => by rw [← hAe]; exact Or.inr h
  obtain ⟨H, hHe⟩ : ∃ H : Heap, H = s.heap := ⟨_, rfl⟩
  have hS : va_S A s.heap H [] := by rw [hHe]; exact va_S.rf
  have hP : va_P (dC, dI) classes [(h1, .inr (2, [.ref cs, .ref ca, .ref cf, .ref cl, .int (nI n), .int (nI cq)])), (ca, .inl (aC 0, 60, .inl af)), (cf, .inl (aC 0, 60, .inl of))] H := by rw [hHe]; exact hP
  have hl := lv_entry ([.ref h1, .int (nI i), .int (nI mq), .int fst]) (n := 9) (Nat.le_of_ble_eq_true rfl)
  rw [lg_entry_eq]
  generalize (lg_sl ([.ref h1, .int (nI i), .int (nI mq), .int fst]) ++ List.replicate (9 - (lg_sl ([.ref h1, .int (nI i), .int (nI mq), .int fst])).length) Slot.unset).toArray = ls at hl ⊢
  have hl : lv_has ls 9 [(0, .ref h1), (1, .int (nI i)), (2, .int (nI mq)), (3, .int fst)] := hl
  rw [← hHe]
  have hm2 : mq ≤ n - 1 - i := by
    have := cu_100 (Q := Q) (a := i + 1) (y := n - 1 - i) (fun j q1 q2 => (hQ j (by omega) (by omega)).2)
    omega
  refine lv_aload_n hx hb dX2_buyYounger_0 rfl (lv_at hl 0 rfl) ?_
  refine va_get (D := (dC, dI)) (ci := 2) (v := .ref cf) (C := RX2) (T := TX2) (N := 6) hx hb hts inX2 hown hK hP 0 rfl rfl 2 (by decide) (hts _ (gw kw_209 rfl)) (fun _ h9 => h9) rfl dX2_buyYounger_1 ?_
  refine lv_iconst (v := 0) hx hb dX2_buyYounger_4 (by decide) ?_
  have hPc := hP.sub (ws' := [(cf, .inl (aC 0, 60, .inl of))]) [2] rfl
  have hDc := hD.sub (ws' := [(cf, .inl (aC 0, 60, .inl of))]) [2] (by decide) rfl
  have hFc := va_free (wc := [(cf, .inl (aC 0, 60, .inl of))]) hD hS hA [2] rfl
  refine va_callv (va_runS (As := [.ref cf, .int 0]) (rest := []) ⟨hx, hb, hml, hown, hts⟩ (c_J7_fill_53178 l dC dI aC H.size cf 60 of 0 (by decide)) ⟨(callB_of 2 hts (gG kw_399) rfl rfl rfl (hts _ (gw kw_15 rfl)) (hts _ (gw kw_581 rfl)) (by decide +kernel) ⟨Nat.le_of_ble_eq_true rfl, Nat.le_of_ble_eq_true rfl⟩), (hts _ (gw kw_398 rfl))⟩ ⟨fun a U g mk q => by obtain ⟨q0, q1, qP, qK, qD, qN⟩ := q; exact ⟨q0, q1, qP, va_K.moved (u := U) (U := U.calling g mk a) (Vm.Alike.refl U.vm) qK, qD, NX.same (u := U) (U := U.calling g mk a) rfl qN⟩, fun U hU hW => ⟨rfl, by rw [hU], by rw [hU]; exact hPc, va_K.moved hW.alike hK, hDc.weaken (fun _ _ _ _ => trivial), NX.warm hW hN⟩⟩ rfl rfl hl.1 rfl (lv_room (Nat.le_of_ble_eq_true rfl)) dX2_buyYounger_5 ⟨Nat.le_of_ble_eq_true rfl, Nat.le_of_ble_eq_true rfl⟩) hS (fun q _ h => hFc q h) hFc (fun u t H1 locs ht hvm hw_1 hB hz1 hk1 hS => ?_)
  obtain ⟨u_2, rfl⟩ : ∃ z, z = u := ⟨_, rfl⟩
  obtain ⟨hP1, hK1, hD1⟩ := hB
  rw [ht] at hP1
  clear hK1
  try dsimp only at hw_1
  obtain ⟨hP, hD⟩ := va_join (wr := [(h1, .inr (2, [.ref cs, .ref ca, .ref cf, .ref cl, .int (nI n), .int (nI cq)])), (ca, .inl (aC 0, 60, .inl af))]) (w1 := [(cf, .inl (aC 0, 60, .inl u_2))]) hP hD [2] [0, 1] rfl rfl (by decide) (by decide) hk1 hFc hP1 hD1
  generalize H1 = H at hP hS ⊢
  have hP : va_P (dC, dI) classes [(h1, .inr (2, [.ref cs, .ref ca, .ref cf, .ref cl, .int (nI n), .int (nI cq)])), (ca, .inl (aC 0, 60, .inl af)), (cf, .inl (aC 0, 60, .inl u_2))] H := hP
  have hD : va_D A [(h1, .inr (2, [.ref cs, .ref ca, .ref cf, .ref cl, .int (nI n), .int (nI cq)])), (ca, .inl (aC 0, 60, .inl af)), (cf, .inl (aC 0, 60, .inl u_2))] := hD
  clear hPc hDc hFc hz1 hk1 hP1 hD1 ht hvm
  have hfill := hw_1
  refine lv_iconst (v := 0) hx hb dX2_buyYounger_8 (by decide) ?_
  refine lv_istore (lv' := [(4, .int 0), (0, .ref h1), (1, .int (nI i)), (2, .int (nI mq)), (3, .int fst)]) hx hb dX2_buyYounger_9 hl (by decide) rfl (fun ls hl => ?_)
  refine lv_iload_n hx hb dX2_buyYounger_11 rfl (lv_at hl 3 rfl) ?_
  refine lv_istore (lv' := [(5, .int (nI mq)), (4, .int 0), (0, .ref h1), (1, .int (nI i)), (2, .int (nI mq)), (3, .int fst)]) hx hb dX2_buyYounger_12 hl (by decide) rfl (fun ls hl => ?_)
  refine lv_iconst (v := 0) hx hb dX2_buyYounger_14 (by decide) ?_
  refine lv_istore (lv' := [(6, .int 0), (5, .int (nI mq)), (4, .int 0), (0, .ref h1), (1, .int (nI i)), (2, .int (nI mq)), (3, .int fst)]) hx hb dX2_buyYounger_15 hl (by decide) rfl (fun ls hl => ?_)
  refine lv_iconst (v := 0) hx hb dX2_buyYounger_17 (by decide) ?_
  refine lv_istore (lv' := [(7, .int 0), (6, .int 0), (5, .int (nI mq)), (4, .int 0), (0, .ref h1), (1, .int (nI i)), (2, .int (nI mq)), (3, .int fst)]) hx hb dX2_buyYounger_18 hl (by decide) rfl (fun ls hl => ?_)
  have lp_20 : ∀ (fu : Nat) (v : Nat) (r : Nat) (fc : Nat → Int32) (hfu : mq - r < fu) (hv : v ≤ 100) (hr1 : r + (mq - cu Q (i + 1) (n - 1 - i) v) ≤ mq) (hst : ∀ u, u < v → stp Q (i + 1) (n - 1 - i) mq cq u = false) (hfc : ∀ q, q < 60 → fc q = nI (OF Q (i + 1) (n - 1 - i) mq v q)) (hco : co Q (i + 1) (n - 1 - i) mq v ≤ 70000) (H : Heap) (locs : List Loc) (ls : Array Slot), va_P (dC, dI) classes [(h1, .inr (2, [.ref cs, .ref ca, .ref cf, .ref cl, .int (nI n), .int (nI cq)])), (ca, .inl (aC 0, 60, .inl af)), (cf, .inl (aC 0, 60, .inl fc))] H → va_D A [(h1, .inr (2, [.ref cs, .ref ca, .ref cf, .ref cl, .int (nI n), .int (nI cq)])), (ca, .inl (aC 0, 60, .inl af)), (cf, .inl (aC 0, 60, .inl fc))] → va_S A s.heap H locs → lv_has ls 9 [(0, .ref h1), (1, .int (nI i)), (2, .int (nI mq)), (3, .int fst), (4, .int (nI (co Q (i + 1) (n - 1 - i) mq v))), (5, .int (nI (mq - cu Q (i + 1) (n - 1 - i) v))), (6, .int (nI v)), (7, .int (nI r))] → W p l e (headSpec (wW yX2_buyYounger cX2_buyYounger 9 (some .int)) ({ frames := 2, cells := 0, slots := 0, locals := 37 } : Room)).room s m ([.ref h1, .int (nI i), .int (nI mq), .int fst] : List Value).toArray below meth c H locs 0 0 (MQ below (va_Qi (fun (r : Int32) (u : (Nat → Int32) × Nat) => match u with | (og, w) => r = nI (co Q (i + 1) (n - 1 - i) mq w) ∧ stp Q (i + 1) (n - 1 - i) mq cq w = true ∧ (∀ u, u < w → stp Q (i + 1) (n - 1 - i) mq cq u = false) ∧ w ≤ 100 ∧ ∀ q, q < 60 → og q = nI (OF Q (i + 1) (n - 1 - i) mq w q)) (fun (u : (Nat → Int32) × Nat) (t : State) => match u with | (og, w) => va_P (dC, dI) classes [(h1, .inr (2, [.ref cs, .ref ca, .ref cf, .ref cl, .int (nI n), .int (nI cq)])), (ca, .inl (aC 0, 60, .inl af)), (cf, .inl (aC 0, 60, .inl og))] t.heap ∧ va_K (dC, dI) classes (TY aC) t ∧ va_D A [(h1, .inr (2, [.ref cs, .ref ca, .ref cf, .ref cl, .int (nI n), .int (nI cq)])), (ca, .inl (aC 0, 60, .inl af)), (cf, .inl (aC 0, 60, .inl og))]) A) ([.ref h1, .int (nI i), .int (nI mq), .int fst] : List Value).toArray s 0 0 A) (F0 m 20 ls []) := by
    intro fu
    induction fu with
    | zero => intro v r fc hfu; exact absurd hfu (Nat.not_lt_zero _)
    | succ fu ih_20 =>
      intro v r fc hfu hv hr1 hst hfc hco H locs ls hP hD hS hl
      refine lv_iload hx hb dX2_buyYounger_20 (lv_at hl 7 rfl) ?_
      refine lv_aload_n hx hb dX2_buyYounger_22 rfl (lv_at hl 0 rfl) ?_
      refine va_get (D := (dC, dI)) (ci := 2) (v := .int (nI n)) (C := RX2) (T := TX2) (N := 6) hx hb hts inX2 hown hK hP 0 rfl rfl 4 (by decide) (hts _ (gw kw_211 rfl)) (fun _ h9 => h9) rfl dX2_buyYounger_23 ?_
      refine lv_icmp_ge (tgt := 87) hx hb dX2_buyYounger_26 (by decide) (fun c_3 => ?_) (fun c_3 => ?_)
      · exact absurd ((nI_leI (by omega) (by omega)).mp c_3) (by omega)
      · refine lv_iload hx hb dX2_buyYounger_29 (lv_at hl 5 rfl) ?_
        refine lv_if_le (tgt := 87) hx hb dX2_buyYounger_31 (by decide) (fun c_4 => ?_) (fun c_4 => ?_)
        · have hstop : stp Q (i + 1) (n - 1 - i) mq cq v = true := stp_t.mpr (Or.inl (by
            have := (nI_leI (a := mq - cu Q (i + 1) (n - 1 - i) v) (b := 0) (by omega) (by omega)).mp c_4
            omega))
          refine lv_iload hx hb dX2_buyYounger_87 (lv_at hl 4 rfl) ?_
          have hP9 := hP.sub (ws' := [(h1, .inr (2, [.ref cs, .ref ca, .ref cf, .ref cl, .int (nI n), .int (nI cq)])), (ca, .inl (aC 0, 60, .inl af)), (cf, .inl (aC 0, 60, .inl fc))]) [0, 1, 2] rfl
          have hD9 := hD.sub (ws' := [(h1, .inr (2, [.ref cs, .ref ca, .ref cf, .ref cl, .int (nI n), .int (nI cq)])), (ca, .inl (aC 0, 60, .inl af)), (cf, .inl (aC 0, 60, .inl fc))]) [0, 1, 2] (by decide) rfl
          refine W.widen (k := 0) (n := 0) (by omega) (by omega) ?_
          exact W.iret (v := nI (co Q (i + 1) (n - 1 - i) mq v)) hx hb hr (fun t ht hW => ⟨⟨(nI (co Q (i + 1) (n - 1 - i) mq v)), (fc, v), rfl, ⟨rfl, hstop, hst, hv, hfc⟩, by rw [ht]; exact hP9, va_K.moved hW.alike hK, hD9⟩, hS.F ht⟩) hS.2.2 dX2_buyYounger_89
        · have hrest : cu Q (i + 1) (n - 1 - i) v < mq := by
            rcases Nat.lt_or_ge (cu Q (i + 1) (n - 1 - i) v) mq with q | q
            · exact q
            · exact absurd ((nI_leI (a := mq - cu Q (i + 1) (n - 1 - i) v) (b := 0) (by omega) (by omega)).mpr (by omega)) c_4
          refine lv_iload hx hb dX2_buyYounger_34 (lv_at hl 4 rfl) ?_
          refine lv_aload_n hx hb dX2_buyYounger_36 rfl (lv_at hl 0 rfl) ?_
          refine va_get (D := (dC, dI)) (ci := 2) (v := .int (nI cq)) (C := RX2) (T := TX2) (N := 6) hx hb hts inX2 hown hK hP 0 rfl rfl 5 (by decide) (hts _ (gw kw_212 rfl)) (fun _ h9 => h9) rfl dX2_buyYounger_37 ?_
          refine lv_icmp_gt (tgt := 87) hx hb dX2_buyYounger_40 (by decide) (fun c_5 => ?_) (fun c_5 => ?_)
          · have hstop : stp Q (i + 1) (n - 1 - i) mq cq v = true := stp_t.mpr (Or.inr ((nI_ltI (by omega) (by omega)).mp c_5))
            refine lv_iload hx hb dX2_buyYounger_87 (lv_at hl 4 rfl) ?_
            have hP9 := hP.sub (ws' := [(h1, .inr (2, [.ref cs, .ref ca, .ref cf, .ref cl, .int (nI n), .int (nI cq)])), (ca, .inl (aC 0, 60, .inl af)), (cf, .inl (aC 0, 60, .inl fc))]) [0, 1, 2] rfl
            have hD9 := hD.sub (ws' := [(h1, .inr (2, [.ref cs, .ref ca, .ref cf, .ref cl, .int (nI n), .int (nI cq)])), (ca, .inl (aC 0, 60, .inl af)), (cf, .inl (aC 0, 60, .inl fc))]) [0, 1, 2] (by decide) rfl
            refine W.widen (k := 0) (n := 0) (by omega) (by omega) ?_
            exact W.iret (v := nI (co Q (i + 1) (n - 1 - i) mq v)) hx hb hr (fun t ht hW => ⟨⟨(nI (co Q (i + 1) (n - 1 - i) mq v)), (fc, v), rfl, ⟨rfl, hstop, hst, hv, hfc⟩, by rw [ht]; exact hP9, va_K.moved hW.alike hK, hD9⟩, hS.F ht⟩) hS.2.2 dX2_buyYounger_89
          · have hcc : co Q (i + 1) (n - 1 - i) mq v ≤ cq := by
              rcases Nat.lt_or_ge cq (co Q (i + 1) (n - 1 - i) mq v) with q | q
              · exact absurd (nI_lt q (by omega)) c_5
              · exact q
            have hex : ∃ q, i < q ∧ q < n ∧ v < Q q := by
              obtain ⟨q, q1, q2, q3⟩ := lv_ex hm hrest
              exact ⟨q, by omega, by omega, q3⟩
            refine lv_aload_n hx hb dX2_buyYounger_43 rfl (lv_at hl 0 rfl) ?_
            refine lv_iload_n hx hb dX2_buyYounger_44 rfl (lv_at hl 1 rfl) ?_
            refine lv_iload hx hb dX2_buyYounger_45 (lv_at hl 6 rfl) ?_
            have hPc := hP.sub (ws' := [(h1, .inr (2, [.ref cs, .ref ca, .ref cf, .ref cl, .int (nI n), .int (nI cq)])), (ca, .inl (aC 0, 60, .inl af))]) [0, 1] rfl
            have hDc := hD.sub (ws' := [(h1, .inr (2, [.ref cs, .ref ca, .ref cf, .ref cl, .int (nI n), .int (nI cq)])), (ca, .inl (aC 0, 60, .inl af))]) [0, 1] (by decide) rfl
            have hFc := va_free (wc := [(h1, .inr (2, [.ref cs, .ref ca, .ref cf, .ref cl, .int (nI n), .int (nI cq)])), (ca, .inl (aC 0, 60, .inl af))]) hD hS hA [0, 1] rfl
            refine va_calli (va_runV (As := [.int (nI i), .int (nI v)]) (rest := []) ⟨hx, hb, hml, hown, hts⟩ (c_X2_nextLevel l dC dI aC H.size h1 cs ca cf cl n i (nI cq) Q af v (hn) (hQ) (hv) (hex)) ⟨(callB_of 2 hts (gG kw_585) rfl rfl rfl (hts _ (gw kw_12 rfl)) (hts _ (gw kw_582 rfl)) (by decide +kernel) ⟨Nat.le_of_ble_eq_true rfl, Nat.le_of_ble_eq_true rfl⟩), (hts _ (gw kw_584 rfl)), (hts _ (gw ks_24 rfl))⟩ ⟨fun a U g mk q => by obtain ⟨q0, q1, qP, qK, qD, qN⟩ := q; exact ⟨q0, q1, qP, va_K.moved (u := U) (U := U.calling g mk a) (Vm.Alike.refl U.vm) qK, qD, NX.same (u := U) (U := U.calling g mk a) rfl qN⟩, va_recv hK hPc (ci := 2) (q0 := 0) rfl rfl, fun U hU hW => ⟨rfl, by rw [hU], by rw [hU]; exact hPc, va_K.moved hW.alike hK, hDc.weaken (fun _ _ _ _ => trivial), NX.warm hW hN⟩⟩ rfl rfl hl.1 rfl (lv_room (Nat.le_of_ble_eq_true rfl)) dX2_buyYounger_47 ⟨Nat.le_of_ble_eq_true rfl, Nat.le_of_ble_eq_true rfl⟩) hS (fun q _ h => hFc q h) hFc (fun x_6 u t H1 locs ht hvm hw_6 hB hz1 hk1 hS => ?_)
            obtain ⟨u_7, rfl⟩ : ∃ z, z = u := ⟨_, rfl⟩
            obtain ⟨hP1, hK1, hD1⟩ := hB
            rw [ht] at hP1
            clear hK1
            try dsimp only at hw_6
            obtain ⟨hP, hD⟩ := va_join (wr := [(cf, .inl (aC 0, 60, .inl fc))]) (w1 := [(h1, .inr (2, [.ref cs, .ref ca, .ref cf, .ref cl, .int (nI n), .int (nI cq)])), (ca, .inl (aC 0, 60, .inl af))]) hP hD [0, 1] [2] rfl rfl (by decide) (by decide) hk1 hFc hP1 hD1
            generalize H1 = H at hP hS ⊢
            have hP : va_P (dC, dI) classes [(cf, .inl (aC 0, 60, .inl fc)), (h1, .inr (2, [.ref cs, .ref ca, .ref cf, .ref cl, .int (nI n), .int (nI cq)])), (ca, .inl (aC 0, 60, .inl af))] H := hP
            have hD : va_D A [(cf, .inl (aC 0, 60, .inl fc)), (h1, .inr (2, [.ref cs, .ref ca, .ref cf, .ref cl, .int (nI n), .int (nI cq)])), (ca, .inl (aC 0, 60, .inl af))] := hD
            clear hPc hDc hFc hz1 hk1 hP1 hD1 ht hvm
            obtain ⟨hw0, hw1, hw2, hw3, hw4⟩ := hw_6
            have h9 : x_6 = nI u_7 := hw0
            subst h9
            obtain ⟨hs1, hs2, hs3⟩ := by_step (Q := Q) (a := i + 1) (y := n - 1 - i) (m := mq) (v := v) (w := u_7) hw1 (fun j q1 q2 q3 => hw4 j (by omega) (by omega) q3)
            have hcv1 : 1 ≤ cv Q (i + 1) (n - 1 - i) u_7 := by
              obtain ⟨q, q1, q2, q3⟩ := hw3
              have := cn_pos (p := fun k => decide (Q k = u_7)) (a := i + 1) (k := n - 1 - i) (j := q) (by omega) (by omega) (by simp [q3])
              unfold cv; omega
            have hcv2 := cv_le (Q := Q) (a := i + 1) (y := n - 1 - i) (v := u_7)
            refine lv_istore (lv' := [(6, .int (nI u_7)), (0, .ref h1), (1, .int (nI i)), (2, .int (nI mq)), (3, .int fst), (4, .int (nI (co Q (i + 1) (n - 1 - i) mq v))), (5, .int (nI (mq - cu Q (i + 1) (n - 1 - i) v))), (7, .int (nI r))]) hx hb dX2_buyYounger_50 hl (by decide) rfl (fun ls hl => ?_)
            refine lv_aload_n hx hb dX2_buyYounger_52 rfl (lv_at hl 1 rfl) ?_
            refine lv_iload_n hx hb dX2_buyYounger_53 rfl (lv_at hl 2 rfl) ?_
            refine lv_iload hx hb dX2_buyYounger_54 (lv_at hl 0 rfl) ?_
            refine lv_iload hx hb dX2_buyYounger_56 (lv_at hl 6 rfl) ?_
            refine lv_iload_n hx hb dX2_buyYounger_58 rfl (lv_at hl 4 rfl) ?_
            have hPc := hP.sub (ws' := [(h1, .inr (2, [.ref cs, .ref ca, .ref cf, .ref cl, .int (nI n), .int (nI cq)])), (ca, .inl (aC 0, 60, .inl af)), (cf, .inl (aC 0, 60, .inl fc))]) [1, 2, 0] rfl
            have hDc := hD.sub (ws' := [(h1, .inr (2, [.ref cs, .ref ca, .ref cf, .ref cl, .int (nI n), .int (nI cq)])), (ca, .inl (aC 0, 60, .inl af)), (cf, .inl (aC 0, 60, .inl fc))]) [1, 2, 0] (by decide) rfl
            have hFc := va_free (wc := [(h1, .inr (2, [.ref cs, .ref ca, .ref cf, .ref cl, .int (nI n), .int (nI cq)])), (ca, .inl (aC 0, 60, .inl af)), (cf, .inl (aC 0, 60, .inl fc))]) hD hS hA [1, 2, 0] rfl
            refine va_calli (va_runV (As := [.int (nI i), .int (nI u_7), .int (nI (mq - cu Q (i + 1) (n - 1 - i) v)), .int fst]) (rest := []) ⟨hx, hb, hml, hown, hts⟩ (c_X2_buyAtLevel l dC dI aC H.size h1 cs ca cf cl n i (nI cq) Q af u_7 (mq - cu Q (i + 1) (n - 1 - i) v) fst fc (hn) (hQ) (hw2) (by omega) (hf)) ⟨(callB_of 4 hts (gG kw_589) rfl rfl rfl (hts _ (gw kw_12 rfl)) (hts _ (gw kw_586 rfl)) (by decide +kernel) ⟨Nat.le_of_ble_eq_true rfl, Nat.le_of_ble_eq_true rfl⟩), (hts _ (gw kw_588 rfl)), (hts _ (gw ks_25 rfl))⟩ ⟨fun a U g mk q => by obtain ⟨q0, q1, qP, qK, qD, qN⟩ := q; exact ⟨q0, q1, qP, va_K.moved (u := U) (U := U.calling g mk a) (Vm.Alike.refl U.vm) qK, qD, NX.same (u := U) (U := U.calling g mk a) rfl qN⟩, va_recv hK hPc (ci := 2) (q0 := 0) rfl rfl, fun U hU hW => ⟨rfl, by rw [hU], by rw [hU]; exact hPc, va_K.moved hW.alike hK, hDc.weaken (fun _ _ _ _ => trivial), NX.warm hW hN⟩⟩ rfl rfl hl.1 rfl (lv_room (Nat.le_of_ble_eq_true rfl)) dX2_buyYounger_59 ⟨Nat.le_of_ble_eq_true rfl, Nat.le_of_ble_eq_true rfl⟩) hS (fun q _ h => hFc q h) hFc (fun x_8 u t H1 locs ht hvm hw_8 hB hz1 hk1 hS => ?_)
            obtain ⟨u_9, rfl⟩ : ∃ z, z = u := ⟨_, rfl⟩
            obtain ⟨hP1, hK1, hD1⟩ := hB
            rw [ht] at hP1
            clear hK1
            try dsimp only at hw_8
            obtain ⟨hP, hD⟩ := va_join (wr := []) (w1 := [(h1, .inr (2, [.ref cs, .ref ca, .ref cf, .ref cl, .int (nI n), .int (nI cq)])), (ca, .inl (aC 0, 60, .inl af)), (cf, .inl (aC 0, 60, .inl u_9))]) hP hD [1, 2, 0] [] rfl rfl (by decide) (by decide) hk1 hFc hP1 hD1
            generalize H1 = H at hP hS ⊢
            have hP : va_P (dC, dI) classes [(h1, .inr (2, [.ref cs, .ref ca, .ref cf, .ref cl, .int (nI n), .int (nI cq)])), (ca, .inl (aC 0, 60, .inl af)), (cf, .inl (aC 0, 60, .inl u_9))] H := hP
            have hD : va_D A [(h1, .inr (2, [.ref cs, .ref ca, .ref cf, .ref cl, .int (nI n), .int (nI cq)])), (ca, .inl (aC 0, 60, .inl af)), (cf, .inl (aC 0, 60, .inl u_9))] := hD
            clear hPc hDc hFc hz1 hk1 hP1 hD1 ht hvm
            obtain ⟨hu0, hu1⟩ := hw_8
            have h9 : x_8 = nI (min (cv Q (i + 1) (n - 1 - i) u_7) (mq - cu Q (i + 1) (n - 1 - i) v)) := hu0
            subst h9
            refine lv_istore (lv' := [(8, .int (nI (min (cv Q (i + 1) (n - 1 - i) u_7) (mq - cu Q (i + 1) (n - 1 - i) v)))), (6, .int (nI u_7)), (0, .ref h1), (1, .int (nI i)), (2, .int (nI mq)), (3, .int fst), (4, .int (nI (co Q (i + 1) (n - 1 - i) mq v))), (5, .int (nI (mq - cu Q (i + 1) (n - 1 - i) v))), (7, .int (nI r))]) hx hb dX2_buyYounger_62 hl (by decide) rfl (fun ls hl => ?_)
            refine lv_iload hx hb dX2_buyYounger_64 (lv_at hl 6 rfl) ?_
            refine lv_iload hx hb dX2_buyYounger_66 (lv_at hl 0 rfl) ?_
            refine lv_iload hx hb dX2_buyYounger_68 (lv_at hl 1 rfl) ?_
            refine lv_imul hx hb dX2_buyYounger_70 ?_
            refine lv_topi (fun x_10 e_10 => ?_)
            have h9 : x_10 = nI ((min (cv Q (i + 1) (n - 1 - i) u_7) (mq - cu Q (i + 1) (n - 1 - i) v)) * u_7) := by rw [e_10, pk_mul]
            subst h9
            refine lv_iadd hx hb dX2_buyYounger_71 ?_
            refine lv_topi (fun x_11 e_11 => ?_)
            have h9 : x_11 = nI (co Q (i + 1) (n - 1 - i) mq u_7) := by rw [e_11, nI_add, hs2, Nat.mul_comm]
            subst h9
            refine lv_istore (lv' := [(4, .int (nI (co Q (i + 1) (n - 1 - i) mq u_7))), (8, .int (nI (min (cv Q (i + 1) (n - 1 - i) u_7) (mq - cu Q (i + 1) (n - 1 - i) v)))), (6, .int (nI u_7)), (0, .ref h1), (1, .int (nI i)), (2, .int (nI mq)), (3, .int fst), (5, .int (nI (mq - cu Q (i + 1) (n - 1 - i) v))), (7, .int (nI r))]) hx hb dX2_buyYounger_72 hl (by decide) rfl (fun ls hl => ?_)
            refine lv_iload hx hb dX2_buyYounger_74 (lv_at hl 7 rfl) ?_
            refine lv_iload hx hb dX2_buyYounger_76 (lv_at hl 1 rfl) ?_
            refine lv_isub hx hb dX2_buyYounger_78 ?_
            refine lv_topi (fun x_12 e_12 => ?_)
            have h9 : x_12 = nI (mq - cu Q (i + 1) (n - 1 - i) u_7) := by rw [e_12, pk_sub (by omega), hs1, show (mq - cu Q (i + 1) (n - 1 - i) v) - (min (cv Q (i + 1) (n - 1 - i) u_7) (mq - cu Q (i + 1) (n - 1 - i) v)) = mq - (cu Q (i + 1) (n - 1 - i) v + cv Q (i + 1) (n - 1 - i) u_7) by omega]
            subst h9
            refine lv_istore (lv' := [(5, .int (nI (mq - cu Q (i + 1) (n - 1 - i) u_7))), (4, .int (nI (co Q (i + 1) (n - 1 - i) mq u_7))), (8, .int (nI (min (cv Q (i + 1) (n - 1 - i) u_7) (mq - cu Q (i + 1) (n - 1 - i) v)))), (6, .int (nI u_7)), (0, .ref h1), (1, .int (nI i)), (2, .int (nI mq)), (3, .int fst), (7, .int (nI r))]) hx hb dX2_buyYounger_79 hl (by decide) rfl (fun ls hl => ?_)
            obtain ⟨x_13, e_13⟩ : ∃ y : Int32, y = (nI r) + 1 := ⟨_, rfl⟩
            refine lv_iinc (v := x_13) (lv' := [(7, .int x_13), (5, .int (nI (mq - cu Q (i + 1) (n - 1 - i) u_7))), (4, .int (nI (co Q (i + 1) (n - 1 - i) mq u_7))), (8, .int (nI (min (cv Q (i + 1) (n - 1 - i) u_7) (mq - cu Q (i + 1) (n - 1 - i) v)))), (6, .int (nI u_7)), (0, .ref h1), (1, .int (nI i)), (2, .int (nI mq)), (3, .int fst)]) hx hb dX2_buyYounger_81 hl (k := 8) rfl (by rw [e_13]; rfl) (by decide) rfl (fun ls hl => ?_)
            have h9 : x_13 = nI (r + 1) := by rw [e_13, nI_1]
            subst h9
            have hb1 : r + 1 + (mq - cu Q (i + 1) (n - 1 - i) u_7) ≤ mq := by omega
            have hb2 : ∀ u, u < u_7 → stp Q (i + 1) (n - 1 - i) mq cq u = false := fun u hu => by
              by_cases h : u < v
              · exact hst u h
              · obtain ⟨h1, h2⟩ := hs3 u (by omega) hu
                exact stp_f.mpr ⟨by omega, by omega⟩
            have hb3 : ∀ q, q < 60 → u_9 q = nI (OF Q (i + 1) (n - 1 - i) mq u_7 q) := fun q hq => by
              rw [hu1 q hq, OF_step hw1 (fun j q1 q2 q3 => hw4 j (by omega) (by omega) q3) q, hfc q hq]
              split <;> rfl
            have hb4 : co Q (i + 1) (n - 1 - i) mq u_7 ≤ 70000 := by
              rw [hs2]
              have := mul_le_60 (w := u_7) (t := min (cv Q (i + 1) (n - 1 - i) u_7) (mq - cu Q (i + 1) (n - 1 - i) v)) (by omega) (by omega)
              omega
            refine lv_goto (tgt := 20) hx hb dX2_buyYounger_84 (by decide) ?_
            exact ih_20 u_7 (r + 1) u_9 (by omega) (hw2) (hb1) (hb2) (hb3) (hb4) _ _ _ (hP.sub [0, 1, 2] rfl) (hD.sub [0, 1, 2] (by decide) rfl) hS (lv_sub hl [5, 6, 7, 8, 2, 1, 4, 0] rfl)
  exact lp_20 ((mq - 0) + 1) 0 0 u_2 (Nat.lt_succ_self _) (by omega) (by omega) (fun u h => absurd h (Nat.not_lt_zero u)) (fun q hq => by rw [OF_0]; exact hfill q hq) (by show 0 ≤ 70000; omega) _ _ _ (hP.sub [0, 1, 2] rfl) (hD.sub [0, 1, 2] (by decide) rfl) hS (lv_sub hl [4, 5, 6, 7, 3, 2, 1, 0] rfl)
