set_option maxHeartbeats 4000000 in
set_option maxRecDepth 100000 in
/-- X2_askYounger -/
theorem c_X2_askYounger (l : Launch) (dC : Nat → ClassId) (dI : Nat → Nat → Nat) (aC : Nat → ClassId) (sz : Nat) (h1 : Nat) (cs : Nat) (ca : Nat) (cf : Nat) (cl : Nat) (n : Nat) (i : Nat) (cx : Int32) (tie : Int32) (S : Nat → Int) (sf : Nat → Int32) (af : Nat → Int32) (hn : i < n ∧ n ≤ 60) (hSj : ∀ j, i < j → j < n → sf j = iI (S j) ∧ -1 ≤ S j ∧ S j ≤ 99) : Met l yX2_askYounger (wW yX2_askYounger cX2_askYounger 5 (some .int)) ({ frames := 1, cells := 0, slots := 0, locals := 24 } : Room) (va_Pc [.ref h1, .int (nI i), .int tie] (fun U => U.heap.size = sz ∧ va_P (dC, dI) classes [(h1, .inr (2, [.ref cs, .ref ca, .ref cf, .ref cl, .int (nI n), .int cx])), (cs, .inl (aC 0, 60, .inl sf)), (ca, .inl (aC 0, 60, .inl af)), (cl, .inr (0, []))] U.heap ∧ va_K (dC, dI) classes (TY aC) U ∧ va_D (fun _ => True) [(h1, .inr (2, [.ref cs, .ref ca, .ref cf, .ref cl, .int (nI n), .int cx])), (cs, .inl (aC 0, 60, .inl sf)), (ca, .inl (aC 0, 60, .inl af)), (cl, .inr (0, []))] ∧ NX U)) (va_Qi (fun (r : Int32) (ag : Nat → Int32) => r = nI (cv (fun j => ask tie (S j)) (i + 1) (n - 1 - i) 0) ∧ ∀ j, i < j → j < n → ag j = nI (ask tie (S j))) (fun (ag : Nat → Int32) (t : State) => va_P (dC, dI) classes [(h1, .inr (2, [.ref cs, .ref ca, .ref cf, .ref cl, .int (nI n), .int cx])), (cs, .inl (aC 0, 60, .inl sf)), (ca, .inl (aC 0, 60, .inl ag)), (cl, .inr (0, []))] t.heap ∧ va_K (dC, dI) classes (TY aC) t ∧ va_D (va_A [(h1, .inr (2, [.ref cs, .ref ca, .ref cf, .ref cl, .int (nI n), .int cx])), (cs, .inl (aC 0, 60, .inl sf)), (ca, .inl (aC 0, 60, .inl af)), (cl, .inr (0, []))] sz) [(h1, .inr (2, [.ref cs, .ref ca, .ref cf, .ref cl, .int (nI n), .int cx])), (cs, .inl (aC 0, 60, .inl sf)), (ca, .inl (aC 0, 60, .inl ag)), (cl, .inr (0, []))]) (va_A [(h1, .inr (2, [.ref cs, .ref ca, .ref cf, .ref cl, .int (nI n), .int cx])), (cs, .inl (aC 0, 60, .inl sf)), (ca, .inl (aC 0, 60, .inl af)), (cl, .inr (0, []))] sz)) 0 0 (va_A [(h1, .inr (2, [.ref cs, .ref ca, .ref cf, .ref cl, .int (nI n), .int cx])), (cs, .inl (aC 0, 60, .inl sf)), (ca, .inl (aC 0, 60, .inl af)), (cl, .inr (0, []))] sz) := by
  refine Met.ofW (cc := cX2_askYounger) (maxL := 5) (ret := (some .int)) (by decide) rfl ?_
  intro p e s m args below meth c s₁ B hml hv
  obtain ⟨rfl, hsz, hP, hK, hD0, hN⟩ := hv
  have hx := B.exec
  have hb := B.bytes
  have hr := B.returns
  have hts0 := atoms_spec (ws := (wW yX2_askYounger cX2_askYounger 5 (some .int))) B.pre
  have hts : ∀ w9 ∈ lw_G, w9.before ([.ref h1, .int (nI i), .int tie] : List Value).toArray s = true := fun w9 h9 => hts0 w9 (List.mem_cons_of_mem _ h9)
  have hown : s.vm.findClass RX2 = some m.cls := findClass_of_methodNamed B.named
  have hlocks := B.notSynchronized
  subst hsz
  have hD := hD0.self (sz := s.heap.size)
  generalize hAe : va_A [(h1, .inr (2, [.ref cs, .ref ca, .ref cf, .ref cl, .int (nI n), .int cx])), (cs, .inl (aC 0, 60, .inl sf)), (ca, .inl (aC 0, 60, .inl af)), (cl, .inr (0, []))] s.heap.size = A at hD ⊢
  have hA : ∀ q : Nat, s.heap.size ≤ q → A q := fun q h => by rw [← hAe]; exact Or.inr h
  obtain ⟨H, hHe⟩ : ∃ H : Heap, H = s.heap := ⟨_, rfl⟩
  have hS : va_S A s.heap H [] := by rw [hHe]; exact va_S.rf
  have hP : va_P (dC, dI) classes [(h1, .inr (2, [.ref cs, .ref ca, .ref cf, .ref cl, .int (nI n), .int cx])), (cs, .inl (aC 0, 60, .inl sf)), (ca, .inl (aC 0, 60, .inl af)), (cl, .inr (0, []))] H := by rw [hHe]; exact hP
  have hl := lv_entry ([.ref h1, .int (nI i), .int tie]) (n := 5) (Nat.le_of_ble_eq_true rfl)
  rw [lg_entry_eq]
  generalize (lg_sl ([.ref h1, .int (nI i), .int tie]) ++ List.replicate (5 - (lg_sl ([.ref h1, .int (nI i), .int tie])).length) Slot.unset).toArray = ls at hl ⊢
  have hl : lv_has ls 5 [(0, .ref h1), (1, .int (nI i)), (2, .int tie)] := hl
  rw [← hHe]
  refine lv_iconst (v := 0) hx hb dX2_askYounger_0 (by decide) ?_
  refine lv_istore_n (lv' := [(3, .int 0), (0, .ref h1), (1, .int (nI i)), (2, .int tie)]) hx hb dX2_askYounger_1 rfl hl (by decide) rfl (fun ls hl => ?_)
  refine lv_iload_n hx hb dX2_askYounger_2 rfl (lv_at hl 2 rfl) ?_
  refine lv_iconst (v := 1) hx hb dX2_askYounger_3 (by decide) ?_
  refine lv_iadd hx hb dX2_askYounger_4 ?_
  refine lv_topi (fun x_1 e_1 => ?_)
  refine lv_istore (lv' := [(4, .int x_1), (3, .int 0), (0, .ref h1), (1, .int (nI i)), (2, .int tie)]) hx hb dX2_askYounger_5 hl (by decide) rfl (fun ls hl => ?_)
  have h9 : x_1 = nI (i + 1) := by rw [e_1, nI_1]
  subst h9
  have h9 : (0 : Int32) = nI (cv (fun j => ask tie (S j)) (i + 1) (i + 1 - (i + 1)) 0) := by rw [Nat.sub_self]; rfl
  rw [h9] at hl
  have lp_7 : ∀ (fu : Nat) (j : Nat) (ac : Nat → Int32) (hfu : n - j < fu) (hj : i < j ∧ j ≤ n) (hac : ∀ q, i < q → q < j → ac q = nI (ask tie (S q))) (H : Heap) (locs : List Loc) (ls : Array Slot), va_P (dC, dI) classes [(h1, .inr (2, [.ref cs, .ref ca, .ref cf, .ref cl, .int (nI n), .int cx])), (cs, .inl (aC 0, 60, .inl sf)), (ca, .inl (aC 0, 60, .inl ac)), (cl, .inr (0, []))] H → va_D A [(h1, .inr (2, [.ref cs, .ref ca, .ref cf, .ref cl, .int (nI n), .int cx])), (cs, .inl (aC 0, 60, .inl sf)), (ca, .inl (aC 0, 60, .inl ac)), (cl, .inr (0, []))] → va_S A s.heap H locs → lv_has ls 5 [(0, .ref h1), (1, .int (nI i)), (2, .int tie), (3, .int (nI (cv (fun j => ask tie (S j)) (i + 1) (j - (i + 1)) 0))), (4, .int (nI j))] → W p l e (headSpec (wW yX2_askYounger cX2_askYounger 5 (some .int)) ({ frames := 1, cells := 0, slots := 0, locals := 24 } : Room)).room s m ([.ref h1, .int (nI i), .int tie] : List Value).toArray below meth c H locs 0 0 (MQ below (va_Qi (fun (r : Int32) (ag : Nat → Int32) => r = nI (cv (fun j => ask tie (S j)) (i + 1) (n - 1 - i) 0) ∧ ∀ j, i < j → j < n → ag j = nI (ask tie (S j))) (fun (ag : Nat → Int32) (t : State) => va_P (dC, dI) classes [(h1, .inr (2, [.ref cs, .ref ca, .ref cf, .ref cl, .int (nI n), .int cx])), (cs, .inl (aC 0, 60, .inl sf)), (ca, .inl (aC 0, 60, .inl ag)), (cl, .inr (0, []))] t.heap ∧ va_K (dC, dI) classes (TY aC) t ∧ va_D A [(h1, .inr (2, [.ref cs, .ref ca, .ref cf, .ref cl, .int (nI n), .int cx])), (cs, .inl (aC 0, 60, .inl sf)), (ca, .inl (aC 0, 60, .inl ag)), (cl, .inr (0, []))]) A) ([.ref h1, .int (nI i), .int tie] : List Value).toArray s 0 0 A) (F0 m 7 ls []) := by
    intro fu
    induction fu with
    | zero => intro j ac hfu; exact absurd hfu (Nat.not_lt_zero _)
    | succ fu ih_7 =>
      intro j ac hfu hj hac H locs ls hP hD hS hl
      refine lv_iload hx hb dX2_askYounger_7 (lv_at hl 4 rfl) ?_
      refine lv_aload_n hx hb dX2_askYounger_9 rfl (lv_at hl 0 rfl) ?_
      refine va_get (D := (dC, dI)) (ci := 2) (v := .int (nI n)) (C := RX2) (T := TX2) (N := 6) hx hb hts inX2 hown hK hP 0 rfl rfl 4 (by decide) (hts _ (gw kw_211 rfl)) (fun _ h9 => h9) rfl dX2_askYounger_10 ?_
      refine lv_icmp_ge (tgt := 58) hx hb dX2_askYounger_13 (by decide) (fun c_2 => ?_) (fun c_2 => ?_)
      · have hjn : j = n := by
          rcases Nat.lt_or_ge j n with q | q
          · exact absurd c_2 (nI_ge q (by omega))
          · omega
        refine lv_iload_n hx hb dX2_askYounger_58 rfl (lv_at hl 3 rfl) ?_
        have hP9 := hP.sub (ws' := [(h1, .inr (2, [.ref cs, .ref ca, .ref cf, .ref cl, .int (nI n), .int cx])), (cs, .inl (aC 0, 60, .inl sf)), (ca, .inl (aC 0, 60, .inl ac)), (cl, .inr (0, []))]) [0, 1, 2, 3] rfl
        have hD9 := hD.sub (ws' := [(h1, .inr (2, [.ref cs, .ref ca, .ref cf, .ref cl, .int (nI n), .int cx])), (cs, .inl (aC 0, 60, .inl sf)), (ca, .inl (aC 0, 60, .inl ac)), (cl, .inr (0, []))]) [0, 1, 2, 3] (by decide) rfl
        refine W.widen (k := 0) (n := 0) (by omega) (by omega) ?_
        exact W.iret (v := nI (cv (fun j => ask tie (S j)) (i + 1) (j - (i + 1)) 0)) hx hb hr (fun t ht hW => ⟨⟨(nI (cv (fun j => ask tie (S j)) (i + 1) (j - (i + 1)) 0)), (ac), rfl, ⟨by rw [hjn, show n - (i + 1) = n - 1 - i by omega], fun q h1 h2 => hac q h1 (by omega)⟩, by rw [ht]; exact hP9, va_K.moved hW.alike hK, hD9⟩, hS.F ht⟩) hS.2.2 dX2_askYounger_59
      · have hlt : j < n := by
          rcases Nat.lt_or_ge j n with q | q
          · exact q
          · exact absurd (nI_le q (by omega)) c_2
        obtain ⟨hs1, hs2⟩ := hSj j hj.1 hlt
        refine lv_aload_n hx hb dX2_askYounger_16 rfl (lv_at hl 0 rfl) ?_
        refine va_get (D := (dC, dI)) (ci := 2) (v := .ref ca) (C := RX2) (T := TX2) (N := 6) hx hb hts inX2 hown hK hP 0 rfl rfl 1 (by decide) (hts _ (gw kw_208 rfl)) (fun _ h9 => h9) rfl dX2_askYounger_17 ?_
        refine lv_iload hx hb dX2_askYounger_20 (lv_at hl 4 rfl) ?_
        refine lv_aload_n hx hb dX2_askYounger_22 rfl (lv_at hl 0 rfl) ?_
        refine va_get (D := (dC, dI)) (ci := 2) (v := .ref cl) (C := RX2) (T := TX2) (N := 6) hx hb hts inX2 hown hK hP 0 rfl rfl 3 (by decide) (hts _ (gw kw_210 rfl)) (fun _ h9 => h9) rfl dX2_askYounger_23 ?_
        refine lv_aload_n hx hb dX2_askYounger_26 rfl (lv_at hl 0 rfl) ?_
        refine va_get (D := (dC, dI)) (ci := 2) (v := .ref cs) (C := RX2) (T := TX2) (N := 6) hx hb hts inX2 hown hK hP 0 rfl rfl 0 (by decide) (hts _ (gw kw_206 rfl)) (fun _ h9 => h9) rfl dX2_askYounger_27 ?_
        refine lv_iload hx hb dX2_askYounger_30 (lv_at hl 4 rfl) ?_
        have h_3 : vp_in (nI j) 60 := vp_in_nI (by omega) (by omega)
        refine va_iald hx hb hK hP 1 0 rfl rfl h_3 dX2_askYounger_32 ?_
        refine lv_topi (fun x_4 e_4 => ?_)
        have h9 : x_4 = iI (S j) := by rw [e_4, nI_clamp (by omega)]; exact hs1
        subst h9
        refine lv_iconst (v := 0) hx hb dX2_askYounger_33 (by decide) ?_
        refine lv_iload_n hx hb dX2_askYounger_34 rfl (lv_at hl 2 rfl) ?_
        have hPc := hP.sub (ws' := [(cl, .inr (0, []))]) [3] rfl
        have hDc := hD.sub (ws' := [(cl, .inr (0, []))]) [3] (by decide) rfl
        have hFc := va_free (wc := [(cl, .inr (0, []))]) hD hS hA [3] rfl
        refine va_calli (va_runV (As := [.int (iI (S j)), .int 0, .int tie]) (rest := [.int (nI j), .ref ca]) ⟨hx, hb, hml, hown, hts⟩ (c_X0_ask l dC dI aC H.size cl (S j) 0 tie (hs2)) ⟨(callB_of 3 hts (gG kw_392) rfl rfl rfl (hts _ (gw kw_4 rfl)) (hts _ (gw kw_572 rfl)) (by decide +kernel) ⟨Nat.le_of_ble_eq_true rfl, Nat.le_of_ble_eq_true rfl⟩), (hts _ (gw kw_367 rfl)), (hts _ (gw kw_368 rfl))⟩ ⟨fun a U g mk q => by obtain ⟨q0, q1, qP, qK, qD, qN⟩ := q; exact ⟨q0, q1, qP, va_K.moved (u := U) (U := U.calling g mk a) (Vm.Alike.refl U.vm) qK, qD, NX.same (u := U) (U := U.calling g mk a) rfl qN⟩, va_recv hK hPc (ci := 0) (q0 := 0) rfl rfl, fun U hU hW => ⟨rfl, by rw [hU], by rw [hU]; exact hPc, va_K.moved hW.alike hK, hDc.weaken (fun _ _ _ _ => trivial), NX.warm hW hN⟩⟩ rfl rfl hl.1 rfl (lv_room (Nat.le_of_ble_eq_true rfl)) dX2_askYounger_35 ⟨Nat.le_of_ble_eq_true rfl, Nat.le_of_ble_eq_true rfl⟩) hS (fun q _ h => hFc q h) hFc (fun x_5 u t H1 locs ht hvm hw_5 hB hz1 hk1 hS => ?_)
        obtain ⟨hP1, hK1, hD1⟩ := hB
        rw [ht] at hP1
        clear hK1
        try dsimp only at hw_5
        obtain ⟨hP, hD⟩ := va_join (wr := [(h1, .inr (2, [.ref cs, .ref ca, .ref cf, .ref cl, .int (nI n), .int cx])), (cs, .inl (aC 0, 60, .inl sf)), (ca, .inl (aC 0, 60, .inl ac))]) (w1 := [(cl, .inr (0, []))]) hP hD [3] [0, 1, 2] rfl rfl (by decide) (by decide) hk1 hFc hP1 hD1
        generalize H1 = H at hP hS ⊢
        have hP : va_P (dC, dI) classes [(h1, .inr (2, [.ref cs, .ref ca, .ref cf, .ref cl, .int (nI n), .int cx])), (cs, .inl (aC 0, 60, .inl sf)), (ca, .inl (aC 0, 60, .inl ac)), (cl, .inr (0, []))] H := hP
        have hD : va_D A [(h1, .inr (2, [.ref cs, .ref ca, .ref cf, .ref cl, .int (nI n), .int cx])), (cs, .inl (aC 0, 60, .inl sf)), (ca, .inl (aC 0, 60, .inl ac)), (cl, .inr (0, []))] := hD
        clear hPc hDc hFc hz1 hk1 hP1 hD1 ht hvm
        have hz_35 := hw_5
        have h_6 : vp_in (nI j) 60 := vp_in_nI (by omega) (by omega)
        refine va_iast hx hb hK hP hD hS 2 0 rfl rfl h_6 dX2_askYounger_38 (fun H locs hP hD hS => ?_)
        obtain ⟨f_7, e_f_7⟩ : ∃ y : Nat → Int32, y = upd ac (nI j : Int32).toNatClampNeg x_5 := ⟨_, rfl⟩
        have hP : va_P (dC, dI) classes [(h1, .inr (2, [.ref cs, .ref ca, .ref cf, .ref cl, .int (nI n), .int cx])), (cs, .inl (aC 0, 60, .inl sf)), (ca, .inl (aC 0, 60, .inl f_7)), (cl, .inr (0, []))] H := by rw [e_f_7]; exact hP
        have hD : va_D A [(h1, .inr (2, [.ref cs, .ref ca, .ref cf, .ref cl, .int (nI n), .int cx])), (cs, .inl (aC 0, 60, .inl sf)), (ca, .inl (aC 0, 60, .inl f_7)), (cl, .inr (0, []))] := by rw [e_f_7]; exact hD
        have hac2 : ∀ q, i < q → q < j + 1 → f_7 q = nI (ask tie (S q)) := fun q h1 h2 => by
          rw [e_f_7, nI_clamp (by omega), hz_35]
          by_cases e : q = j
          · rw [e]; exact pk_us
          · rw [pk_un e]; exact hac q h1 (by omega)
        refine lv_aload_n hx hb dX2_askYounger_39 rfl (lv_at hl 0 rfl) ?_
        refine va_get (D := (dC, dI)) (ci := 2) (v := .ref ca) (C := RX2) (T := TX2) (N := 6) hx hb hts inX2 hown hK hP 0 rfl rfl 1 (by decide) (hts _ (gw kw_208 rfl)) (fun _ h9 => h9) rfl dX2_askYounger_40 ?_
        refine lv_iload hx hb dX2_askYounger_43 (lv_at hl 4 rfl) ?_
        have h_8 : vp_in (nI j) 60 := vp_in_nI (by omega) (by omega)
        refine va_iald hx hb hK hP 2 0 rfl rfl h_8 dX2_askYounger_45 ?_
        refine lv_topi (fun x_9 e_9 => ?_)
        have h9 : x_9 = nI (ask tie (S j)) := by rw [e_9, nI_clamp (by omega)]; exact hac2 j hj.1 (by omega)
        subst h9
        refine lv_if_ne (tgt := 52) hx hb dX2_askYounger_46 (by decide) (fun c_10 => ?_) (fun c_10 => ?_)
        · have hcs : cv (fun j => ask tie (S j)) (i + 1) (j + 1 - (i + 1)) 0 = cv (fun j => ask tie (S j)) (i + 1) (j - (i + 1)) 0 + (if ask tie (S j) = 0 then 1 else 0) := by
            rw [show j + 1 - (i + 1) = (j - (i + 1)) + 1 by omega]
            show _ + (if decide (ask tie (S (i + 1 + (j - (i + 1)))) = 0) = true then 1 else 0) = _
            rw [show i + 1 + (j - (i + 1)) = j by omega]
            simp [cv]
          have hq0 : ¬ ask tie (S j) = 0 := fun q => c_10 (by rw [q]; rfl)
          have h9 : nI (cv (fun j => ask tie (S j)) (i + 1) (j - (i + 1)) 0) = nI (cv (fun j => ask tie (S j)) (i + 1) (j + 1 - (i + 1)) 0) := by rw [hcs, if_neg hq0]; rfl
          rw [h9] at hl
          obtain ⟨x_11, e_11⟩ : ∃ y : Int32, y = (nI j) + 1 := ⟨_, rfl⟩
          refine lv_iinc (v := x_11) (lv' := [(4, .int x_11), (0, .ref h1), (1, .int (nI i)), (2, .int tie), (3, .int (nI (cv (fun j => ask tie (S j)) (i + 1) (j + 1 - (i + 1)) 0)))]) hx hb dX2_askYounger_52 hl (k := 4) rfl (by rw [e_11]; rfl) (by decide) rfl (fun ls hl => ?_)
          have h9 : x_11 = nI (j + 1) := by rw [e_11, nI_1]
          subst h9
          refine lv_goto (tgt := 7) hx hb dX2_askYounger_55 (by decide) ?_
          exact ih_7 (j + 1) f_7 (by omega) (by omega) (hac2) _ _ _ (hP.sub [0, 1, 2, 3] rfl) (hD.sub [0, 1, 2, 3] (by decide) rfl) hS (lv_sub hl [1, 2, 3, 4, 0] rfl)
        · obtain ⟨x_12, e_12⟩ : ∃ y : Int32, y = (nI (cv (fun j => ask tie (S j)) (i + 1) (j - (i + 1)) 0)) + 1 := ⟨_, rfl⟩
          refine lv_iinc (v := x_12) (lv' := [(3, .int x_12), (0, .ref h1), (1, .int (nI i)), (2, .int tie), (4, .int (nI j))]) hx hb dX2_askYounger_49 hl (k := 3) rfl (by rw [e_12]; rfl) (by decide) rfl (fun ls hl => ?_)
          have hcs : cv (fun j => ask tie (S j)) (i + 1) (j + 1 - (i + 1)) 0 = cv (fun j => ask tie (S j)) (i + 1) (j - (i + 1)) 0 + (if ask tie (S j) = 0 then 1 else 0) := by
            rw [show j + 1 - (i + 1) = (j - (i + 1)) + 1 by omega]
            show _ + (if decide (ask tie (S (i + 1 + (j - (i + 1)))) = 0) = true then 1 else 0) = _
            rw [show i + 1 + (j - (i + 1)) = j by omega]
            simp [cv]
          have hq0 : ask tie (S j) = 0 := (nI_eq (by have := ask_le (tie := tie) hs2.2; omega) (by omega)).mp c_10
          have h9 : x_12 = nI (cv (fun j => ask tie (S j)) (i + 1) (j + 1 - (i + 1)) 0) := by rw [e_12, hcs, if_pos hq0, nI_1]
          subst h9
          obtain ⟨x_13, e_13⟩ : ∃ y : Int32, y = (nI j) + 1 := ⟨_, rfl⟩
          refine lv_iinc (v := x_13) (lv' := [(4, .int x_13), (3, .int (nI (cv (fun j => ask tie (S j)) (i + 1) (j + 1 - (i + 1)) 0))), (0, .ref h1), (1, .int (nI i)), (2, .int tie)]) hx hb dX2_askYounger_52 hl (k := 4) rfl (by rw [e_13]; rfl) (by decide) rfl (fun ls hl => ?_)
          have h9 : x_13 = nI (j + 1) := by rw [e_13, nI_1]
          subst h9
          refine lv_goto (tgt := 7) hx hb dX2_askYounger_55 (by decide) ?_
          exact ih_7 (j + 1) f_7 (by omega) (by omega) (hac2) _ _ _ (hP.sub [0, 1, 2, 3] rfl) (hD.sub [0, 1, 2, 3] (by decide) rfl) hS (lv_sub hl [2, 3, 4, 1, 0] rfl)
  exact lp_7 ((n - (i + 1)) + 1) (i + 1) af (Nat.lt_succ_self _) (by omega) (fun q h1 h2 => by omega) _ _ _ (hP.sub [0, 1, 2, 3] rfl) (hD.sub [0, 1, 2, 3] (by decide) rfl) hS (lv_sub hl [2, 3, 4, 1, 0] rfl)
