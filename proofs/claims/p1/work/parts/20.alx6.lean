theorem alk_4 {sf : Nat → Int32} {a1 a2 a3 a4 : Int32} (h : a1 < 1 ∨ a2 < 0 ∨ a3 < 0) : ALK sf a1 a2 a3 a4 = 1000000004 := by
  unfold ALK
  rw [if_pos h]
theorem alk_6 {sf : Nat → Int32} {a1 a2 a3 a4 : Int32} (h1 : ¬ a1 < 1) (h2 : ¬ a2 < 0) (h3 : 0 ≤ a3) (h : 60 < a1 ∨ 99 < a2 ∨ a1 ≤ a3) : ALK sf a1 a2 a3 a4 = 1000000006 := by
  unfold ALK
  rw [if_neg (fun q => by
    rcases q with q | q | q
    · exact h1 q
    · exact h2 q
    · exact Int32.not_lt.mpr h3 q), if_pos h]
theorem al_n {n : Nat} (h : ¬ nI n < 1) (hn : n ≤ 60) : 1 ≤ n := by
  rcases Nat.lt_or_ge n 1 with q | q
  · exact absurd (nI_lt (a := n) (b := 1) q (by omega)) h
  · exact q
theorem fs_m1 {law tie : Int32} {c n k : Nat} (hc : c ≤ 99) (hk : k < n) : (iI (FS law tie c n n k) = -1 ↔ FS law tie c n n k = -1) := by
  have h := FS_rng (law := law) (tie := tie) hc n (Nat.le_refl n) k (by omega) hk
  rw [← iI_m1]
  exact iI_eq (by unfold sm; omega) (by unfold sm; omega)

set_option maxHeartbeats 4000000 in
set_option maxRecDepth 100000 in
/-- X11_alike -/
theorem c_X11_alike (l : Launch) (dC : Nat → ClassId) (dI : Nat → Nat → Nat) (aC : Nat → ClassId) (sz : Nat) (h0 : Nat) (xp : Nat) (xtp : Nat) (xn : Nat) (xt : Nat) (xk : Nat) (xl : Nat) (xc : Nat) (xo : Nat) (xto : Nat) (xr : Nat) (xch : Nat) (ts : Int32) (ik : Int32) (st : Int32) (ek : Nat) (ef : Nat) (ew : Nat) (ep : Nat) (es : Nat) (sz0 : Int32) (sy : Int32) (dn : Int32) (cs : Nat) (ca : Nat) (cf : Nat) (cl : Nat) (z1 : Int32) (z2 : Int32) (sf : Nat → Int32) (af : Nat → Int32) (of : Nat → Int32) (stf : Nat → Int32) (rf : Nat → Int32) (a1 : Int32) (a2 : Int32) (a3 : Int32) (a4 : Int32) (hf : stf 3 = 0) : Met l yX11_alike (wW yX11_alike cX11_alike 5 (some .int)) ({ frames := 4, cells := 0, slots := 0, locals := 92 } : Room) (va_Pc [.ref h0, .int a1, .int a2, .int a3, .int a4] (fun U => U.heap.size = sz ∧ va_P (dC, dI) classes [(h0, .inr (11, [.ref xp, .ref xtp, .ref xn, .ref xt, .ref xk, .ref xl, .ref xc, .ref xo, .ref xto, .ref xr, .ref xch, .int ts, .int ik, .int st])), (xn, .inr (4, [.ref ek, .ref ef, .ref ew, .ref ep, .ref es, .int sz0, .int sy, .int dn])), (xc, .inr (2, [.ref cs, .ref ca, .ref cf, .ref cl, .int z1, .int z2])), (cs, .inl (aC 0, 60, .inl sf)), (ca, .inl (aC 0, 60, .inl af)), (cf, .inl (aC 0, 60, .inl of)), (cl, .inr (0, [])), (es, .inl (aC 0, 5, .inl stf)), (xr, .inl (aC 0, 7, .inl rf))] U.heap ∧ va_K (dC, dI) classes (TY aC) U ∧ va_D (fun _ => True) [(h0, .inr (11, [.ref xp, .ref xtp, .ref xn, .ref xt, .ref xk, .ref xl, .ref xc, .ref xo, .ref xto, .ref xr, .ref xch, .int ts, .int ik, .int st])), (xn, .inr (4, [.ref ek, .ref ef, .ref ew, .ref ep, .ref es, .int sz0, .int sy, .int dn])), (xc, .inr (2, [.ref cs, .ref ca, .ref cf, .ref cl, .int z1, .int z2])), (cs, .inl (aC 0, 60, .inl sf)), (ca, .inl (aC 0, 60, .inl af)), (cf, .inl (aC 0, 60, .inl of)), (cl, .inr (0, [])), (es, .inl (aC 0, 5, .inl stf)), (xr, .inl (aC 0, 7, .inl rf))] ∧ NX U)) (va_Qi (fun (r : Int32) (_ : Unit) => r = ALK stf a1 a2 a3 a4) (fun (_ : Unit) (t : State) => va_P (dC, dI) classes [] t.heap ∧ va_K (dC, dI) classes (TY aC) t ∧ va_D (va_A [(h0, .inr (11, [.ref xp, .ref xtp, .ref xn, .ref xt, .ref xk, .ref xl, .ref xc, .ref xo, .ref xto, .ref xr, .ref xch, .int ts, .int ik, .int st])), (xn, .inr (4, [.ref ek, .ref ef, .ref ew, .ref ep, .ref es, .int sz0, .int sy, .int dn])), (xc, .inr (2, [.ref cs, .ref ca, .ref cf, .ref cl, .int z1, .int z2])), (cs, .inl (aC 0, 60, .inl sf)), (ca, .inl (aC 0, 60, .inl af)), (cf, .inl (aC 0, 60, .inl of)), (cl, .inr (0, [])), (es, .inl (aC 0, 5, .inl stf)), (xr, .inl (aC 0, 7, .inl rf))] sz) []) (va_A [(h0, .inr (11, [.ref xp, .ref xtp, .ref xn, .ref xt, .ref xk, .ref xl, .ref xc, .ref xo, .ref xto, .ref xr, .ref xch, .int ts, .int ik, .int st])), (xn, .inr (4, [.ref ek, .ref ef, .ref ew, .ref ep, .ref es, .int sz0, .int sy, .int dn])), (xc, .inr (2, [.ref cs, .ref ca, .ref cf, .ref cl, .int z1, .int z2])), (cs, .inl (aC 0, 60, .inl sf)), (ca, .inl (aC 0, 60, .inl af)), (cf, .inl (aC 0, 60, .inl of)), (cl, .inr (0, [])), (es, .inl (aC 0, 5, .inl stf)), (xr, .inl (aC 0, 7, .inl rf))] sz)) 0 0 (va_A [(h0, .inr (11, [.ref xp, .ref xtp, .ref xn, .ref xt, .ref xk, .ref xl, .ref xc, .ref xo, .ref xto, .ref xr, .ref xch, .int ts, .int ik, .int st])), (xn, .inr (4, [.ref ek, .ref ef, .ref ew, .ref ep, .ref es, .int sz0, .int sy, .int dn])), (xc, .inr (2, [.ref cs, .ref ca, .ref cf, .ref cl, .int z1, .int z2])), (cs, .inl (aC 0, 60, .inl sf)), (ca, .inl (aC 0, 60, .inl af)), (cf, .inl (aC 0, 60, .inl of)), (cl, .inr (0, [])), (es, .inl (aC 0, 5, .inl stf)), (xr, .inl (aC 0, 7, .inl rf))] sz) := by
  refine Met.ofW (cc := cX11_alike) (maxL := 5) (ret := (some .int)) (by decide) rfl ?_
  intro p e s m args below meth c s₁ B hml hv
  obtain ⟨rfl, hsz, hP, hK, hD0, hN⟩ := hv
  have hx := B.exec
  have hb := B.bytes
  have hr := B.returns
  have hts0 := atoms_spec (ws := (wW yX11_alike cX11_alike 5 (some .int))) B.pre
  have hts : ∀ w9 ∈ lw_G, w9.before ([.ref h0, .int a1, .int a2, .int a3, .int a4] : List Value).toArray s = true := fun w9 h9 => hts0 w9 (List.mem_cons_of_mem _ h9)
  have hown : s.vm.findClass RX11 = some m.cls := findClass_of_methodNamed B.named
  have hlocks := B.notSynchronized
  subst hsz
  have hD := hD0.self (sz := s.heap.size)
  generalize hAe : va_A [(h0, .inr (11, [.ref xp, .ref xtp, .ref xn, .ref xt, .ref xk, .ref xl, .ref xc, .ref xo, .ref xto, .ref xr, .ref xch, .int ts, .int ik, .int st])), (xn, .inr (4, [.ref ek, .ref ef, .ref ew, .ref ep, .ref es, .int sz0, .int sy, .int dn])), (xc, .inr (2, [.ref cs, .ref ca, .ref cf, .ref cl, .int z1, .int z2])), (cs, .inl (aC 0, 60, .inl sf)), (ca, .inl (aC 0, 60, .inl af)), (cf, .inl (aC 0, 60, .inl of)), (cl, .inr (0, [])), (es, .inl (aC 0, 5, .inl stf)), (xr, .inl (aC 0, 7, .inl rf))] s.heap.size = A at hD ⊢
  have hA : ∀ q : Nat, s.heap.size ≤ q → A q := fun q h => by rw [← hAe]; exact Or.inr h
  obtain ⟨H, hHe⟩ : ∃ H : Heap, H = s.heap := ⟨_, rfl⟩
  have hS : va_S A s.heap H [] := by rw [hHe]; exact va_S.rf
  have hP : va_P (dC, dI) classes [(h0, .inr (11, [.ref xp, .ref xtp, .ref xn, .ref xt, .ref xk, .ref xl, .ref xc, .ref xo, .ref xto, .ref xr, .ref xch, .int ts, .int ik, .int st])), (xn, .inr (4, [.ref ek, .ref ef, .ref ew, .ref ep, .ref es, .int sz0, .int sy, .int dn])), (xc, .inr (2, [.ref cs, .ref ca, .ref cf, .ref cl, .int z1, .int z2])), (cs, .inl (aC 0, 60, .inl sf)), (ca, .inl (aC 0, 60, .inl af)), (cf, .inl (aC 0, 60, .inl of)), (cl, .inr (0, [])), (es, .inl (aC 0, 5, .inl stf)), (xr, .inl (aC 0, 7, .inl rf))] H := by rw [hHe]; exact hP
  have hl := lv_entry ([.ref h0, .int a1, .int a2, .int a3, .int a4]) (n := 5) (Nat.le_of_ble_eq_true rfl)
  rw [lg_entry_eq]
  generalize (lg_sl ([.ref h0, .int a1, .int a2, .int a3, .int a4]) ++ List.replicate (5 - (lg_sl ([.ref h0, .int a1, .int a2, .int a3, .int a4])).length) Slot.unset).toArray = ls at hl ⊢
  have hl : lv_has ls 5 [(0, .ref h0), (1, .int a1), (2, .int a2), (3, .int a3), (4, .int a4)] := hl
  rw [← hHe]
  refine lv_iload_n hx hb dX11_alike_0 rfl (lv_at hl 1 rfl) ?_
  refine lv_iconst (v := 1) hx hb dX11_alike_1 (by decide) ?_
  refine lv_icmp_lt (tgt := 13) hx hb dX11_alike_2 (by decide) (fun c_1 => ?_) (fun c_1 => ?_)
  · refine lv_ldc hx hb hown (hts _ (gw kw_507 rfl)) dX11_alike_13 ?_
    refine lv_aload_n hx hb dX11_alike_15 rfl (lv_at hl 0 rfl) ?_
    refine lv_bipush (v := -4) hx hb dX11_alike_16 (by decide) ?_
    have hPc := hP.sub (ws' := [(h0, .inr (11, [.ref xp, .ref xtp, .ref xn, .ref xt, .ref xk, .ref xl, .ref xc, .ref xo, .ref xto, .ref xr, .ref xch, .int ts, .int ik, .int st])), (xr, .inl (aC 0, 7, .inl rf))]) [0, 8] rfl
    have hDc := hD.sub (ws' := [(h0, .inr (11, [.ref xp, .ref xtp, .ref xn, .ref xt, .ref xk, .ref xl, .ref xc, .ref xo, .ref xto, .ref xr, .ref xch, .int ts, .int ik, .int st])), (xr, .inl (aC 0, 7, .inl rf))]) [0, 8] (by decide) rfl
    have hFc := va_free (wc := [(h0, .inr (11, [.ref xp, .ref xtp, .ref xn, .ref xt, .ref xk, .ref xl, .ref xc, .ref xo, .ref xto, .ref xr, .ref xch, .int ts, .int ik, .int st])), (xr, .inl (aC 0, 7, .inl rf))]) hD hS hA [0, 8] rfl
    refine va_calli (va_runV (As := [.int (-4)]) (rest := [.int 1000000000]) ⟨hx, hb, hml, hown, hts⟩ (c_X11_refuse l dC dI aC H.size h0 xp xtp xn xt xk xl xc xo xto xr xch ts ik st (-4) 4 rf (by decide) (by decide) (by decide) (by unfold vp_in; decide)) ⟨(callB_of 1 hts (gG kw_276) rfl rfl rfl (hts _ (gw kw_1 rfl)) (hts _ (gw kw_273 rfl)) (by decide +kernel) ⟨Nat.le_of_ble_eq_true rfl, Nat.le_of_ble_eq_true rfl⟩), (hts _ (gw kw_275 rfl)), (hts _ (gw ks_0 rfl))⟩ ⟨fun a U g mk q => by obtain ⟨q0, q1, qP, qK, qD, qN⟩ := q; exact ⟨q0, q1, qP, va_K.moved (u := U) (U := U.calling g mk a) (Vm.Alike.refl U.vm) qK, qD, NX.same (u := U) (U := U.calling g mk a) rfl qN⟩, va_recv hK hPc (ci := 11) (q0 := 0) rfl rfl, fun U hU hW => ⟨rfl, by rw [hU], by rw [hU]; exact hPc, va_K.moved hW.alike hK, hDc.weaken (fun _ _ _ _ => trivial), NX.warm hW hN⟩⟩ rfl rfl hl.1 rfl (lv_room (Nat.le_of_ble_eq_true rfl)) dX11_alike_18 ⟨Nat.le_of_ble_eq_true rfl, Nat.le_of_ble_eq_true rfl⟩) hS (fun q _ h => hFc q h) hFc (fun x_2 u t H1 locs ht hvm hw_2 hB hz1 hk1 hS => ?_)
    obtain ⟨u_3, rfl⟩ : ∃ z, z = u := ⟨_, rfl⟩
    obtain ⟨hP1, hK1, hD1⟩ := hB
    rw [ht] at hP1
    clear hK1
    try dsimp only at hw_2
    obtain ⟨hP, hD⟩ := va_join (wr := [(xn, .inr (4, [.ref ek, .ref ef, .ref ew, .ref ep, .ref es, .int sz0, .int sy, .int dn])), (xc, .inr (2, [.ref cs, .ref ca, .ref cf, .ref cl, .int z1, .int z2])), (cs, .inl (aC 0, 60, .inl sf)), (ca, .inl (aC 0, 60, .inl af)), (cf, .inl (aC 0, 60, .inl of)), (cl, .inr (0, [])), (es, .inl (aC 0, 5, .inl stf))]) (w1 := [(h0, .inr (11, [.ref xp, .ref xtp, .ref xn, .ref xt, .ref xk, .ref xl, .ref xc, .ref xo, .ref xto, .ref xr, .ref xch, .int ts, .int ik, .int st])), (xr, .inl (aC 0, 7, .inl u_3))]) hP hD [0, 8] [1, 2, 3, 4, 5, 6, 7] rfl rfl (by decide) (by decide) hk1 hFc hP1 hD1
    generalize H1 = H at hP hS ⊢
    have hP : va_P (dC, dI) classes [(xn, .inr (4, [.ref ek, .ref ef, .ref ew, .ref ep, .ref es, .int sz0, .int sy, .int dn])), (xc, .inr (2, [.ref cs, .ref ca, .ref cf, .ref cl, .int z1, .int z2])), (cs, .inl (aC 0, 60, .inl sf)), (ca, .inl (aC 0, 60, .inl af)), (cf, .inl (aC 0, 60, .inl of)), (cl, .inr (0, [])), (es, .inl (aC 0, 5, .inl stf)), (h0, .inr (11, [.ref xp, .ref xtp, .ref xn, .ref xt, .ref xk, .ref xl, .ref xc, .ref xo, .ref xto, .ref xr, .ref xch, .int ts, .int ik, .int st])), (xr, .inl (aC 0, 7, .inl u_3))] H := hP
    have hD : va_D A [(xn, .inr (4, [.ref ek, .ref ef, .ref ew, .ref ep, .ref es, .int sz0, .int sy, .int dn])), (xc, .inr (2, [.ref cs, .ref ca, .ref cf, .ref cl, .int z1, .int z2])), (cs, .inl (aC 0, 60, .inl sf)), (ca, .inl (aC 0, 60, .inl af)), (cf, .inl (aC 0, 60, .inl of)), (cl, .inr (0, [])), (es, .inl (aC 0, 5, .inl stf)), (h0, .inr (11, [.ref xp, .ref xtp, .ref xn, .ref xt, .ref xk, .ref xl, .ref xc, .ref xo, .ref xto, .ref xr, .ref xch, .int ts, .int ik, .int st])), (xr, .inl (aC 0, 7, .inl u_3))] := hD
    clear hPc hDc hFc hz1 hk1 hP1 hD1 ht hvm
    obtain ⟨hv9, hv8⟩ := hw_2
    refine lv_isub hx hb dX11_alike_21 ?_
    refine lv_topi (fun x_4 e_4 => ?_)
    have hP9 := hP.sub (ws' := []) [] rfl
    have hD9 := hD.sub (ws' := []) [] (by decide) rfl
    refine W.widen (k := 0) (n := 0) (by omega) (by omega) ?_
    exact W.iret (v := x_4) hx hb hr (fun t ht hW => ⟨⟨x_4, (), rfl, by rw [e_4, hv9, alk_4 (Or.inl c_1)]; rfl, by rw [ht]; exact hP9, va_K.moved hW.alike hK, hD9⟩, hS.F ht⟩) hS.2.2 dX11_alike_22
  · refine lv_iload_n hx hb dX11_alike_5 rfl (lv_at hl 2 rfl) ?_
    refine lv_if_lt (tgt := 13) hx hb dX11_alike_6 (by decide) (fun c_5 => ?_) (fun c_5 => ?_)
    · refine lv_ldc hx hb hown (hts _ (gw kw_507 rfl)) dX11_alike_13 ?_
      refine lv_aload_n hx hb dX11_alike_15 rfl (lv_at hl 0 rfl) ?_
      refine lv_bipush (v := -4) hx hb dX11_alike_16 (by decide) ?_
      have hPc := hP.sub (ws' := [(h0, .inr (11, [.ref xp, .ref xtp, .ref xn, .ref xt, .ref xk, .ref xl, .ref xc, .ref xo, .ref xto, .ref xr, .ref xch, .int ts, .int ik, .int st])), (xr, .inl (aC 0, 7, .inl rf))]) [0, 8] rfl
      have hDc := hD.sub (ws' := [(h0, .inr (11, [.ref xp, .ref xtp, .ref xn, .ref xt, .ref xk, .ref xl, .ref xc, .ref xo, .ref xto, .ref xr, .ref xch, .int ts, .int ik, .int st])), (xr, .inl (aC 0, 7, .inl rf))]) [0, 8] (by decide) rfl
      have hFc := va_free (wc := [(h0, .inr (11, [.ref xp, .ref xtp, .ref xn, .ref xt, .ref xk, .ref xl, .ref xc, .ref xo, .ref xto, .ref xr, .ref xch, .int ts, .int ik, .int st])), (xr, .inl (aC 0, 7, .inl rf))]) hD hS hA [0, 8] rfl
      refine va_calli (va_runV (As := [.int (-4)]) (rest := [.int 1000000000]) ⟨hx, hb, hml, hown, hts⟩ (c_X11_refuse l dC dI aC H.size h0 xp xtp xn xt xk xl xc xo xto xr xch ts ik st (-4) 4 rf (by decide) (by decide) (by decide) (by unfold vp_in; decide)) ⟨(callB_of 1 hts (gG kw_276) rfl rfl rfl (hts _ (gw kw_1 rfl)) (hts _ (gw kw_273 rfl)) (by decide +kernel) ⟨Nat.le_of_ble_eq_true rfl, Nat.le_of_ble_eq_true rfl⟩), (hts _ (gw kw_275 rfl)), (hts _ (gw ks_0 rfl))⟩ ⟨fun a U g mk q => by obtain ⟨q0, q1, qP, qK, qD, qN⟩ := q; exact ⟨q0, q1, qP, va_K.moved (u := U) (U := U.calling g mk a) (Vm.Alike.refl U.vm) qK, qD, NX.same (u := U) (U := U.calling g mk a) rfl qN⟩, va_recv hK hPc (ci := 11) (q0 := 0) rfl rfl, fun U hU hW => ⟨rfl, by rw [hU], by rw [hU]; exact hPc, va_K.moved hW.alike hK, hDc.weaken (fun _ _ _ _ => trivial), NX.warm hW hN⟩⟩ rfl rfl hl.1 rfl (lv_room (Nat.le_of_ble_eq_true rfl)) dX11_alike_18 ⟨Nat.le_of_ble_eq_true rfl, Nat.le_of_ble_eq_true rfl⟩) hS (fun q _ h => hFc q h) hFc (fun x_6 u t H1 locs ht hvm hw_6 hB hz1 hk1 hS => ?_)
      obtain ⟨u_7, rfl⟩ : ∃ z, z = u := ⟨_, rfl⟩
      obtain ⟨hP1, hK1, hD1⟩ := hB
      rw [ht] at hP1
      clear hK1
      try dsimp only at hw_6
      obtain ⟨hP, hD⟩ := va_join (wr := [(xn, .inr (4, [.ref ek, .ref ef, .ref ew, .ref ep, .ref es, .int sz0, .int sy, .int dn])), (xc, .inr (2, [.ref cs, .ref ca, .ref cf, .ref cl, .int z1, .int z2])), (cs, .inl (aC 0, 60, .inl sf)), (ca, .inl (aC 0, 60, .inl af)), (cf, .inl (aC 0, 60, .inl of)), (cl, .inr (0, [])), (es, .inl (aC 0, 5, .inl stf))]) (w1 := [(h0, .inr (11, [.ref xp, .ref xtp, .ref xn, .ref xt, .ref xk, .ref xl, .ref xc, .ref xo, .ref xto, .ref xr, .ref xch, .int ts, .int ik, .int st])), (xr, .inl (aC 0, 7, .inl u_7))]) hP hD [0, 8] [1, 2, 3, 4, 5, 6, 7] rfl rfl (by decide) (by decide) hk1 hFc hP1 hD1
      generalize H1 = H at hP hS ⊢
      have hP : va_P (dC, dI) classes [(xn, .inr (4, [.ref ek, .ref ef, .ref ew, .ref ep, .ref es, .int sz0, .int sy, .int dn])), (xc, .inr (2, [.ref cs, .ref ca, .ref cf, .ref cl, .int z1, .int z2])), (cs, .inl (aC 0, 60, .inl sf)), (ca, .inl (aC 0, 60, .inl af)), (cf, .inl (aC 0, 60, .inl of)), (cl, .inr (0, [])), (es, .inl (aC 0, 5, .inl stf)), (h0, .inr (11, [.ref xp, .ref xtp, .ref xn, .ref xt, .ref xk, .ref xl, .ref xc, .ref xo, .ref xto, .ref xr, .ref xch, .int ts, .int ik, .int st])), (xr, .inl (aC 0, 7, .inl u_7))] H := hP
      have hD : va_D A [(xn, .inr (4, [.ref ek, .ref ef, .ref ew, .ref ep, .ref es, .int sz0, .int sy, .int dn])), (xc, .inr (2, [.ref cs, .ref ca, .ref cf, .ref cl, .int z1, .int z2])), (cs, .inl (aC 0, 60, .inl sf)), (ca, .inl (aC 0, 60, .inl af)), (cf, .inl (aC 0, 60, .inl of)), (cl, .inr (0, [])), (es, .inl (aC 0, 5, .inl stf)), (h0, .inr (11, [.ref xp, .ref xtp, .ref xn, .ref xt, .ref xk, .ref xl, .ref xc, .ref xo, .ref xto, .ref xr, .ref xch, .int ts, .int ik, .int st])), (xr, .inl (aC 0, 7, .inl u_7))] := hD
      clear hPc hDc hFc hz1 hk1 hP1 hD1 ht hvm
      obtain ⟨hv9, hv8⟩ := hw_6
      refine lv_isub hx hb dX11_alike_21 ?_
      refine lv_topi (fun x_8 e_8 => ?_)
      have hP9 := hP.sub (ws' := []) [] rfl
      have hD9 := hD.sub (ws' := []) [] (by decide) rfl
      refine W.widen (k := 0) (n := 0) (by omega) (by omega) ?_
      exact W.iret (v := x_8) hx hb hr (fun t ht hW => ⟨⟨x_8, (), rfl, by rw [e_8, hv9, alk_4 (Or.inr (Or.inl c_5))]; rfl, by rw [ht]; exact hP9, va_K.moved hW.alike hK, hD9⟩, hS.F ht⟩) hS.2.2 dX11_alike_22
    · refine lv_iload_n hx hb dX11_alike_9 rfl (lv_at hl 3 rfl) ?_
      refine lv_if_ge (tgt := 23) hx hb dX11_alike_10 (by decide) (fun c_9 => ?_) (fun c_9 => ?_)
      · refine lv_iload_n hx hb dX11_alike_23 rfl (lv_at hl 1 rfl) ?_
        refine lv_bipush (v := 60) hx hb dX11_alike_24 (by decide) ?_
        refine lv_icmp_gt (tgt := 40) hx hb dX11_alike_26 (by decide) (fun c_10 => ?_) (fun c_10 => ?_)
        · refine lv_ldc hx hb hown (hts _ (gw kw_507 rfl)) dX11_alike_40 ?_
          refine lv_aload_n hx hb dX11_alike_42 rfl (lv_at hl 0 rfl) ?_
          refine lv_bipush (v := -6) hx hb dX11_alike_43 (by decide) ?_
          have hPc := hP.sub (ws' := [(h0, .inr (11, [.ref xp, .ref xtp, .ref xn, .ref xt, .ref xk, .ref xl, .ref xc, .ref xo, .ref xto, .ref xr, .ref xch, .int ts, .int ik, .int st])), (xr, .inl (aC 0, 7, .inl rf))]) [0, 8] rfl
          have hDc := hD.sub (ws' := [(h0, .inr (11, [.ref xp, .ref xtp, .ref xn, .ref xt, .ref xk, .ref xl, .ref xc, .ref xo, .ref xto, .ref xr, .ref xch, .int ts, .int ik, .int st])), (xr, .inl (aC 0, 7, .inl rf))]) [0, 8] (by decide) rfl
          have hFc := va_free (wc := [(h0, .inr (11, [.ref xp, .ref xtp, .ref xn, .ref xt, .ref xk, .ref xl, .ref xc, .ref xo, .ref xto, .ref xr, .ref xch, .int ts, .int ik, .int st])), (xr, .inl (aC 0, 7, .inl rf))]) hD hS hA [0, 8] rfl
          refine va_calli (va_runV (As := [.int (-6)]) (rest := [.int 1000000000]) ⟨hx, hb, hml, hown, hts⟩ (c_X11_refuse l dC dI aC H.size h0 xp xtp xn xt xk xl xc xo xto xr xch ts ik st (-6) 6 rf (by decide) (by decide) (by decide) (by unfold vp_in; decide)) ⟨(callB_of 1 hts (gG kw_276) rfl rfl rfl (hts _ (gw kw_1 rfl)) (hts _ (gw kw_273 rfl)) (by decide +kernel) ⟨Nat.le_of_ble_eq_true rfl, Nat.le_of_ble_eq_true rfl⟩), (hts _ (gw kw_275 rfl)), (hts _ (gw ks_0 rfl))⟩ ⟨fun a U g mk q => by obtain ⟨q0, q1, qP, qK, qD, qN⟩ := q; exact ⟨q0, q1, qP, va_K.moved (u := U) (U := U.calling g mk a) (Vm.Alike.refl U.vm) qK, qD, NX.same (u := U) (U := U.calling g mk a) rfl qN⟩, va_recv hK hPc (ci := 11) (q0 := 0) rfl rfl, fun U hU hW => ⟨rfl, by rw [hU], by rw [hU]; exact hPc, va_K.moved hW.alike hK, hDc.weaken (fun _ _ _ _ => trivial), NX.warm hW hN⟩⟩ rfl rfl hl.1 rfl (lv_room (Nat.le_of_ble_eq_true rfl)) dX11_alike_45 ⟨Nat.le_of_ble_eq_true rfl, Nat.le_of_ble_eq_true rfl⟩) hS (fun q _ h => hFc q h) hFc (fun x_11 u t H1 locs ht hvm hw_11 hB hz1 hk1 hS => ?_)
          obtain ⟨u_12, rfl⟩ : ∃ z, z = u := ⟨_, rfl⟩
          obtain ⟨hP1, hK1, hD1⟩ := hB
          rw [ht] at hP1
          clear hK1
          try dsimp only at hw_11
          obtain ⟨hP, hD⟩ := va_join (wr := [(xn, .inr (4, [.ref ek, .ref ef, .ref ew, .ref ep, .ref es, .int sz0, .int sy, .int dn])), (xc, .inr (2, [.ref cs, .ref ca, .ref cf, .ref cl, .int z1, .int z2])), (cs, .inl (aC 0, 60, .inl sf)), (ca, .inl (aC 0, 60, .inl af)), (cf, .inl (aC 0, 60, .inl of)), (cl, .inr (0, [])), (es, .inl (aC 0, 5, .inl stf))]) (w1 := [(h0, .inr (11, [.ref xp, .ref xtp, .ref xn, .ref xt, .ref xk, .ref xl, .ref xc, .ref xo, .ref xto, .ref xr, .ref xch, .int ts, .int ik, .int st])), (xr, .inl (aC 0, 7, .inl u_12))]) hP hD [0, 8] [1, 2, 3, 4, 5, 6, 7] rfl rfl (by decide) (by decide) hk1 hFc hP1 hD1
          generalize H1 = H at hP hS ⊢
          have hP : va_P (dC, dI) classes [(xn, .inr (4, [.ref ek, .ref ef, .ref ew, .ref ep, .ref es, .int sz0, .int sy, .int dn])), (xc, .inr (2, [.ref cs, .ref ca, .ref cf, .ref cl, .int z1, .int z2])), (cs, .inl (aC 0, 60, .inl sf)), (ca, .inl (aC 0, 60, .inl af)), (cf, .inl (aC 0, 60, .inl of)), (cl, .inr (0, [])), (es, .inl (aC 0, 5, .inl stf)), (h0, .inr (11, [.ref xp, .ref xtp, .ref xn, .ref xt, .ref xk, .ref xl, .ref xc, .ref xo, .ref xto, .ref xr, .ref xch, .int ts, .int ik, .int st])), (xr, .inl (aC 0, 7, .inl u_12))] H := hP
          have hD : va_D A [(xn, .inr (4, [.ref ek, .ref ef, .ref ew, .ref ep, .ref es, .int sz0, .int sy, .int dn])), (xc, .inr (2, [.ref cs, .ref ca, .ref cf, .ref cl, .int z1, .int z2])), (cs, .inl (aC 0, 60, .inl sf)), (ca, .inl (aC 0, 60, .inl af)), (cf, .inl (aC 0, 60, .inl of)), (cl, .inr (0, [])), (es, .inl (aC 0, 5, .inl stf)), (h0, .inr (11, [.ref xp, .ref xtp, .ref xn, .ref xt, .ref xk, .ref xl, .ref xc, .ref xo, .ref xto, .ref xr, .ref xch, .int ts, .int ik, .int st])), (xr, .inl (aC 0, 7, .inl u_12))] := hD
          clear hPc hDc hFc hz1 hk1 hP1 hD1 ht hvm
          obtain ⟨hv9, hv8⟩ := hw_11
          refine lv_isub hx hb dX11_alike_48 ?_
          refine lv_topi (fun x_13 e_13 => ?_)
          have hP9 := hP.sub (ws' := []) [] rfl
          have hD9 := hD.sub (ws' := []) [] (by decide) rfl
          refine W.widen (k := 0) (n := 0) (by omega) (by omega) ?_
          exact W.iret (v := x_13) hx hb hr (fun t ht hW => ⟨⟨x_13, (), rfl, by rw [e_13, hv9, alk_6 c_1 c_5 c_9 (Or.inl c_10)]; rfl, by rw [ht]; exact hP9, va_K.moved hW.alike hK, hD9⟩, hS.F ht⟩) hS.2.2 dX11_alike_49
        · refine lv_iload_n hx hb dX11_alike_29 rfl (lv_at hl 2 rfl) ?_
          refine lv_bipush (v := 99) hx hb dX11_alike_30 (by decide) ?_
          refine lv_icmp_gt (tgt := 40) hx hb dX11_alike_32 (by decide) (fun c_14 => ?_) (fun c_14 => ?_)
          · refine lv_ldc hx hb hown (hts _ (gw kw_507 rfl)) dX11_alike_40 ?_
            refine lv_aload_n hx hb dX11_alike_42 rfl (lv_at hl 0 rfl) ?_
            refine lv_bipush (v := -6) hx hb dX11_alike_43 (by decide) ?_
            have hPc := hP.sub (ws' := [(h0, .inr (11, [.ref xp, .ref xtp, .ref xn, .ref xt, .ref xk, .ref xl, .ref xc, .ref xo, .ref xto, .ref xr, .ref xch, .int ts, .int ik, .int st])), (xr, .inl (aC 0, 7, .inl rf))]) [0, 8] rfl
            have hDc := hD.sub (ws' := [(h0, .inr (11, [.ref xp, .ref xtp, .ref xn, .ref xt, .ref xk, .ref xl, .ref xc, .ref xo, .ref xto, .ref xr, .ref xch, .int ts, .int ik, .int st])), (xr, .inl (aC 0, 7, .inl rf))]) [0, 8] (by decide) rfl
            have hFc := va_free (wc := [(h0, .inr (11, [.ref xp, .ref xtp, .ref xn, .ref xt, .ref xk, .ref xl, .ref xc, .ref xo, .ref xto, .ref xr, .ref xch, .int ts, .int ik, .int st])), (xr, .inl (aC 0, 7, .inl rf))]) hD hS hA [0, 8] rfl
            refine va_calli (va_runV (As := [.int (-6)]) (rest := [.int 1000000000]) ⟨hx, hb, hml, hown, hts⟩ (c_X11_refuse l dC dI aC H.size h0 xp xtp xn xt xk xl xc xo xto xr xch ts ik st (-6) 6 rf (by decide) (by decide) (by decide) (by unfold vp_in; decide)) ⟨(callB_of 1 hts (gG kw_276) rfl rfl rfl (hts _ (gw kw_1 rfl)) (hts _ (gw kw_273 rfl)) (by decide +kernel) ⟨Nat.le_of_ble_eq_true rfl, Nat.le_of_ble_eq_true rfl⟩), (hts _ (gw kw_275 rfl)), (hts _ (gw ks_0 rfl))⟩ ⟨fun a U g mk q => by obtain ⟨q0, q1, qP, qK, qD, qN⟩ := q; exact ⟨q0, q1, qP, va_K.moved (u := U) (U := U.calling g mk a) (Vm.Alike.refl U.vm) qK, qD, NX.same (u := U) (U := U.calling g mk a) rfl qN⟩, va_recv hK hPc (ci := 11) (q0 := 0) rfl rfl, fun U hU hW => ⟨rfl, by rw [hU], by rw [hU]; exact hPc, va_K.moved hW.alike hK, hDc.weaken (fun _ _ _ _ => trivial), NX.warm hW hN⟩⟩ rfl rfl hl.1 rfl (lv_room (Nat.le_of_ble_eq_true rfl)) dX11_alike_45 ⟨Nat.le_of_ble_eq_true rfl, Nat.le_of_ble_eq_true rfl⟩) hS (fun q _ h => hFc q h) hFc (fun x_15 u t H1 locs ht hvm hw_15 hB hz1 hk1 hS => ?_)
            obtain ⟨u_16, rfl⟩ : ∃ z, z = u := ⟨_, rfl⟩
            obtain ⟨hP1, hK1, hD1⟩ := hB
            rw [ht] at hP1
            clear hK1
            try dsimp only at hw_15
            obtain ⟨hP, hD⟩ := va_join (wr := [(xn, .inr (4, [.ref ek, .ref ef, .ref ew, .ref ep, .ref es, .int sz0, .int sy, .int dn])), (xc, .inr (2, [.ref cs, .ref ca, .ref cf, .ref cl, .int z1, .int z2])), (cs, .inl (aC 0, 60, .inl sf)), (ca, .inl (aC 0, 60, .inl af)), (cf, .inl (aC 0, 60, .inl of)), (cl, .inr (0, [])), (es, .inl (aC 0, 5, .inl stf))]) (w1 := [(h0, .inr (11, [.ref xp, .ref xtp, .ref xn, .ref xt, .ref xk, .ref xl, .ref xc, .ref xo, .ref xto, .ref xr, .ref xch, .int ts, .int ik, .int st])), (xr, .inl (aC 0, 7, .inl u_16))]) hP hD [0, 8] [1, 2, 3, 4, 5, 6, 7] rfl rfl (by decide) (by decide) hk1 hFc hP1 hD1
            generalize H1 = H at hP hS ⊢
            have hP : va_P (dC, dI) classes [(xn, .inr (4, [.ref ek, .ref ef, .ref ew, .ref ep, .ref es, .int sz0, .int sy, .int dn])), (xc, .inr (2, [.ref cs, .ref ca, .ref cf, .ref cl, .int z1, .int z2])), (cs, .inl (aC 0, 60, .inl sf)), (ca, .inl (aC 0, 60, .inl af)), (cf, .inl (aC 0, 60, .inl of)), (cl, .inr (0, [])), (es, .inl (aC 0, 5, .inl stf)), (h0, .inr (11, [.ref xp, .ref xtp, .ref xn, .ref xt, .ref xk, .ref xl, .ref xc, .ref xo, .ref xto, .ref xr, .ref xch, .int ts, .int ik, .int st])), (xr, .inl (aC 0, 7, .inl u_16))] H := hP
            have hD : va_D A [(xn, .inr (4, [.ref ek, .ref ef, .ref ew, .ref ep, .ref es, .int sz0, .int sy, .int dn])), (xc, .inr (2, [.ref cs, .ref ca, .ref cf, .ref cl, .int z1, .int z2])), (cs, .inl (aC 0, 60, .inl sf)), (ca, .inl (aC 0, 60, .inl af)), (cf, .inl (aC 0, 60, .inl of)), (cl, .inr (0, [])), (es, .inl (aC 0, 5, .inl stf)), (h0, .inr (11, [.ref xp, .ref xtp, .ref xn, .ref xt, .ref xk, .ref xl, .ref xc, .ref xo, .ref xto, .ref xr, .ref xch, .int ts, .int ik, .int st])), (xr, .inl (aC 0, 7, .inl u_16))] := hD
            clear hPc hDc hFc hz1 hk1 hP1 hD1 ht hvm
            obtain ⟨hv9, hv8⟩ := hw_15
            refine lv_isub hx hb dX11_alike_48 ?_
            refine lv_topi (fun x_17 e_17 => ?_)
            have hP9 := hP.sub (ws' := []) [] rfl
            have hD9 := hD.sub (ws' := []) [] (by decide) rfl
            refine W.widen (k := 0) (n := 0) (by omega) (by omega) ?_
            exact W.iret (v := x_17) hx hb hr (fun t ht hW => ⟨⟨x_17, (), rfl, by rw [e_17, hv9, alk_6 c_1 c_5 c_9 (Or.inr (Or.inl c_14))]; rfl, by rw [ht]; exact hP9, va_K.moved hW.alike hK, hD9⟩, hS.F ht⟩) hS.2.2 dX11_alike_49
          · refine lv_iload_n hx hb dX11_alike_35 rfl (lv_at hl 3 rfl) ?_
            refine lv_iload_n hx hb dX11_alike_36 rfl (lv_at hl 1 rfl) ?_
            refine lv_icmp_lt (tgt := 50) hx hb dX11_alike_37 (by decide) (fun c_18 => ?_) (fun c_18 => ?_)
            · obtain ⟨n, hn2, hn3⟩ := al_of (x := a1) (M := 60) (N := 60) rfl (lt1_0 c_1) c_10
              subst hn3
              have hn1 := al_n c_1 hn2
              obtain ⟨cq, hc, hc3⟩ := al_of (x := a2) (M := 99) (N := 99) rfl c_5 c_14
              subst hc3
              obtain ⟨k, hk1, hk3⟩ := nI_of (x := a3) (Int32.not_lt.mpr c_9)
              subst hk3
              have hk : k < n := (nI_ltI hk1 (by omega)).mp c_18
              refine lv_aload_n hx hb dX11_alike_50 rfl (lv_at hl 0 rfl) ?_
              refine va_get (D := (dC, dI)) (ci := 11) (v := .ref xc) (C := RX11) (T := TX11) (N := 14) hx hb hts inX11 hown hK hP 0 rfl rfl 6 (by decide) (hts _ (gw kw_232 rfl)) (fun _ h9 => h9) rfl dX11_alike_51 ?_
              refine lv_iload_n hx hb dX11_alike_54 rfl (lv_at hl 1 rfl) ?_
              refine lv_iload_n hx hb dX11_alike_55 rfl (lv_at hl 2 rfl) ?_
              refine lv_aload_n hx hb dX11_alike_56 rfl (lv_at hl 0 rfl) ?_
              refine va_get (D := (dC, dI)) (ci := 11) (v := .ref xn) (C := RX11) (T := TX11) (N := 14) hx hb hts inX11 hown hK hP 0 rfl rfl 2 (by decide) (hts _ (gw kw_228 rfl)) (fun _ h9 => h9) rfl dX11_alike_57 ?_
              refine va_get (D := (dC, dI)) (ci := 4) (v := .ref es) (C := RX4) (T := TX4) (N := 8) hx hb hts inX4 hown hK hP 1 rfl rfl 4 (by decide) (hts _ (gw kw_45 rfl)) (fun _ h9 => h9) rfl dX11_alike_60 ?_
              have hPc := hP.sub (ws' := [(xc, .inr (2, [.ref cs, .ref ca, .ref cf, .ref cl, .int z1, .int z2])), (cs, .inl (aC 0, 60, .inl sf)), (ca, .inl (aC 0, 60, .inl af)), (cf, .inl (aC 0, 60, .inl of)), (cl, .inr (0, [])), (es, .inl (aC 0, 5, .inl stf))]) [2, 3, 4, 5, 6, 7] rfl
              have hDc := hD.sub (ws' := [(xc, .inr (2, [.ref cs, .ref ca, .ref cf, .ref cl, .int z1, .int z2])), (cs, .inl (aC 0, 60, .inl sf)), (ca, .inl (aC 0, 60, .inl af)), (cf, .inl (aC 0, 60, .inl of)), (cl, .inr (0, [])), (es, .inl (aC 0, 5, .inl stf))]) [2, 3, 4, 5, 6, 7] (by decide) rfl
              have hFc := va_free (wc := [(xc, .inr (2, [.ref cs, .ref ca, .ref cf, .ref cl, .int z1, .int z2])), (cs, .inl (aC 0, 60, .inl sf)), (ca, .inl (aC 0, 60, .inl af)), (cf, .inl (aC 0, 60, .inl of)), (cl, .inr (0, [])), (es, .inl (aC 0, 5, .inl stf))]) hD hS hA [2, 3, 4, 5, 6, 7] rfl
              refine va_callv (va_runV (As := [.int (nI n), .int (nI cq), .ref es]) (rest := []) ⟨hx, hb, hml, hown, hts⟩ (c_X2_solve l dC dI aC H.size xc cs ca cf cl es n cq z1 z2 sf af of stf (⟨hn1, hn2⟩) (hc) (hf)) ⟨(callB_of 3 hts (gG kw_564) rfl rfl rfl (hts _ (gw kw_12 rfl)) (hts _ (gw kw_561 rfl)) (by decide +kernel) ⟨Nat.le_of_ble_eq_true rfl, Nat.le_of_ble_eq_true rfl⟩), (hts _ (gw kw_562 rfl)), (hts _ (gw kw_563 rfl))⟩ ⟨fun a U g mk q => by obtain ⟨q0, q1, qP, qK, qD, qN⟩ := q; exact ⟨q0, q1, qP, va_K.moved (u := U) (U := U.calling g mk a) (Vm.Alike.refl U.vm) qK, qD, NX.same (u := U) (U := U.calling g mk a) rfl qN⟩, va_recv hK hPc (ci := 2) (q0 := 0) rfl rfl, fun U hU hW => ⟨rfl, by rw [hU], by rw [hU]; exact hPc, va_K.moved hW.alike hK, hDc.weaken (fun _ _ _ _ => trivial), NX.warm hW hN⟩⟩ rfl rfl hl.1 rfl (lv_room (Nat.le_of_ble_eq_true rfl)) dX11_alike_63 ⟨Nat.le_of_ble_eq_true rfl, Nat.le_of_ble_eq_true rfl⟩) hS (fun q _ h => hFc q h) hFc (fun u t H1 locs ht hvm hw_19 hB hz1 hk1 hS => ?_)
              obtain ⟨u_20, u_21, u_22⟩ := u
              obtain ⟨hP1, hK1, hD1⟩ := hB
              rw [ht] at hP1
              clear hK1
              try dsimp only at hw_19
              obtain ⟨hP, hD⟩ := va_join (wr := [(h0, .inr (11, [.ref xp, .ref xtp, .ref xn, .ref xt, .ref xk, .ref xl, .ref xc, .ref xo, .ref xto, .ref xr, .ref xch, .int ts, .int ik, .int st])), (xn, .inr (4, [.ref ek, .ref ef, .ref ew, .ref ep, .ref es, .int sz0, .int sy, .int dn])), (xr, .inl (aC 0, 7, .inl rf))]) (w1 := [(xc, .inr (2, [.ref cs, .ref ca, .ref cf, .ref cl, .int (nI n), .int (nI cq)])), (cs, .inl (aC 0, 60, .inl u_20)), (ca, .inl (aC 0, 60, .inl u_21)), (cf, .inl (aC 0, 60, .inl u_22)), (cl, .inr (0, [])), (es, .inl (aC 0, 5, .inl stf))]) hP hD [2, 3, 4, 5, 6, 7] [0, 1, 8] rfl rfl (by decide) (by decide) hk1 hFc hP1 hD1
              generalize H1 = H at hP hS ⊢
              have hP : va_P (dC, dI) classes [(h0, .inr (11, [.ref xp, .ref xtp, .ref xn, .ref xt, .ref xk, .ref xl, .ref xc, .ref xo, .ref xto, .ref xr, .ref xch, .int ts, .int ik, .int st])), (xn, .inr (4, [.ref ek, .ref ef, .ref ew, .ref ep, .ref es, .int sz0, .int sy, .int dn])), (xr, .inl (aC 0, 7, .inl rf)), (xc, .inr (2, [.ref cs, .ref ca, .ref cf, .ref cl, .int (nI n), .int (nI cq)])), (cs, .inl (aC 0, 60, .inl u_20)), (ca, .inl (aC 0, 60, .inl u_21)), (cf, .inl (aC 0, 60, .inl u_22)), (cl, .inr (0, [])), (es, .inl (aC 0, 5, .inl stf))] H := hP
              have hD : va_D A [(h0, .inr (11, [.ref xp, .ref xtp, .ref xn, .ref xt, .ref xk, .ref xl, .ref xc, .ref xo, .ref xto, .ref xr, .ref xch, .int ts, .int ik, .int st])), (xn, .inr (4, [.ref ek, .ref ef, .ref ew, .ref ep, .ref es, .int sz0, .int sy, .int dn])), (xr, .inl (aC 0, 7, .inl rf)), (xc, .inr (2, [.ref cs, .ref ca, .ref cf, .ref cl, .int (nI n), .int (nI cq)])), (cs, .inl (aC 0, 60, .inl u_20)), (ca, .inl (aC 0, 60, .inl u_21)), (cf, .inl (aC 0, 60, .inl u_22)), (cl, .inr (0, [])), (es, .inl (aC 0, 5, .inl stf))] := hD
              clear hPc hDc hFc hz1 hk1 hP1 hD1 ht hvm
              have hsol := hw_19
              refine lv_iload hx hb dX11_alike_66 (lv_at hl 4 rfl) ?_
              refine lv_if_eq (tgt := 90) hx hb dX11_alike_68 (by decide) (fun c_23 => ?_) (fun c_23 => ?_)
              · refine lv_aload_n hx hb dX11_alike_90 rfl (lv_at hl 0 rfl) ?_
                refine va_get (D := (dC, dI)) (ci := 11) (v := .ref xc) (C := RX11) (T := TX11) (N := 14) hx hb hts inX11 hown hK hP 0 rfl rfl 6 (by decide) (hts _ (gw kw_232 rfl)) (fun _ h9 => h9) rfl dX11_alike_91 ?_
                refine va_get (D := (dC, dI)) (ci := 2) (v := .ref cs) (C := RX2) (T := TX2) (N := 6) hx hb hts inX2 hown hK hP 3 rfl rfl 0 (by decide) (hts _ (gw kw_207 rfl)) (fun _ h9 => h9) rfl dX11_alike_94 ?_
                refine lv_iload_n hx hb dX11_alike_97 rfl (lv_at hl 3 rfl) ?_
                have h_24 : vp_in (nI k) 60 := vp_in_nI (by omega) (by omega)
                refine va_iald hx hb hK hP 4 0 rfl rfl h_24 dX11_alike_98 ?_
                refine lv_topi (fun x_25 e_25 => ?_)
                have hP9 := hP.sub (ws' := []) [] rfl
                have hD9 := hD.sub (ws' := []) [] (by decide) rfl
                refine W.widen (k := 0) (n := 0) (by omega) (by omega) ?_
                exact W.iret (v := x_25) hx hb hr (fun t ht hW => ⟨⟨x_25, (), rfl, by rw [ALK_in hn1 hn2 hc hk, if_pos c_23, e_25, nI_clamp (by omega)]; exact hsol k hk, by rw [ht]; exact hP9, va_K.moved hW.alike hK, hD9⟩, hS.F ht⟩) hS.2.2 dX11_alike_99
              · refine lv_aload_n hx hb dX11_alike_71 rfl (lv_at hl 0 rfl) ?_
                refine va_get (D := (dC, dI)) (ci := 11) (v := .ref xc) (C := RX11) (T := TX11) (N := 14) hx hb hts inX11 hown hK hP 0 rfl rfl 6 (by decide) (hts _ (gw kw_232 rfl)) (fun _ h9 => h9) rfl dX11_alike_72 ?_
                refine va_get (D := (dC, dI)) (ci := 2) (v := .ref cs) (C := RX2) (T := TX2) (N := 6) hx hb hts inX2 hown hK hP 3 rfl rfl 0 (by decide) (hts _ (gw kw_207 rfl)) (fun _ h9 => h9) rfl dX11_alike_75 ?_
                refine lv_iconst (v := 0) hx hb dX11_alike_78 (by decide) ?_
                have h_26 : vp_in 0 60 := by unfold vp_in; decide
                refine va_iald hx hb hK hP 4 0 rfl rfl h_26 dX11_alike_79 ?_
                refine lv_topi (fun x_27 e_27 => ?_)
                refine lv_iconst (v := -1) hx hb dX11_alike_80 (by decide) ?_
                refine lv_icmp_ne (tgt := 88) hx hb dX11_alike_81 (by decide) (fun c_28 => ?_) (fun c_28 => ?_)
                · refine lv_iconst (v := 1) hx hb dX11_alike_88 (by decide) ?_
                  have hP9 := hP.sub (ws' := []) [] rfl
                  have hD9 := hD.sub (ws' := []) [] (by decide) rfl
                  refine W.widen (k := 0) (n := 0) (by omega) (by omega) ?_
                  exact W.iret (v := 1) hx hb hr (fun t ht hW => ⟨⟨1, (), rfl, by rw [ALK_in hn1 hn2 hc hk, if_neg c_23, if_neg (fun q => c_28 (by rw [e_27]; exact (hsol 0 hn1).trans ((fs_m1 hc hn1).mpr q)))], by rw [ht]; exact hP9, va_K.moved hW.alike hK, hD9⟩, hS.F ht⟩) hS.2.2 dX11_alike_89
                · refine lv_iconst (v := 0) hx hb dX11_alike_84 (by decide) ?_
                  refine lv_goto (tgt := 89) hx hb dX11_alike_85 (by decide) ?_
                  have hP9 := hP.sub (ws' := []) [] rfl
                  have hD9 := hD.sub (ws' := []) [] (by decide) rfl
                  refine W.widen (k := 0) (n := 0) (by omega) (by omega) ?_
                  exact W.iret (v := 0) hx hb hr (fun t ht hW => ⟨⟨0, (), rfl, by rw [ALK_in hn1 hn2 hc hk, if_neg c_23, if_pos ((fs_m1 hc hn1).mp (by rw [← hsol 0 hn1]; exact e_27.symm.trans c_28))], by rw [ht]; exact hP9, va_K.moved hW.alike hK, hD9⟩, hS.F ht⟩) hS.2.2 dX11_alike_89
            · refine lv_ldc hx hb hown (hts _ (gw kw_507 rfl)) dX11_alike_40 ?_
              refine lv_aload_n hx hb dX11_alike_42 rfl (lv_at hl 0 rfl) ?_
              refine lv_bipush (v := -6) hx hb dX11_alike_43 (by decide) ?_
              have hPc := hP.sub (ws' := [(h0, .inr (11, [.ref xp, .ref xtp, .ref xn, .ref xt, .ref xk, .ref xl, .ref xc, .ref xo, .ref xto, .ref xr, .ref xch, .int ts, .int ik, .int st])), (xr, .inl (aC 0, 7, .inl rf))]) [0, 8] rfl
              have hDc := hD.sub (ws' := [(h0, .inr (11, [.ref xp, .ref xtp, .ref xn, .ref xt, .ref xk, .ref xl, .ref xc, .ref xo, .ref xto, .ref xr, .ref xch, .int ts, .int ik, .int st])), (xr, .inl (aC 0, 7, .inl rf))]) [0, 8] (by decide) rfl
              have hFc := va_free (wc := [(h0, .inr (11, [.ref xp, .ref xtp, .ref xn, .ref xt, .ref xk, .ref xl, .ref xc, .ref xo, .ref xto, .ref xr, .ref xch, .int ts, .int ik, .int st])), (xr, .inl (aC 0, 7, .inl rf))]) hD hS hA [0, 8] rfl
              refine va_calli (va_runV (As := [.int (-6)]) (rest := [.int 1000000000]) ⟨hx, hb, hml, hown, hts⟩ (c_X11_refuse l dC dI aC H.size h0 xp xtp xn xt xk xl xc xo xto xr xch ts ik st (-6) 6 rf (by decide) (by decide) (by decide) (by unfold vp_in; decide)) ⟨(callB_of 1 hts (gG kw_276) rfl rfl rfl (hts _ (gw kw_1 rfl)) (hts _ (gw kw_273 rfl)) (by decide +kernel) ⟨Nat.le_of_ble_eq_true rfl, Nat.le_of_ble_eq_true rfl⟩), (hts _ (gw kw_275 rfl)), (hts _ (gw ks_0 rfl))⟩ ⟨fun a U g mk q => by obtain ⟨q0, q1, qP, qK, qD, qN⟩ := q; exact ⟨q0, q1, qP, va_K.moved (u := U) (U := U.calling g mk a) (Vm.Alike.refl U.vm) qK, qD, NX.same (u := U) (U := U.calling g mk a) rfl qN⟩, va_recv hK hPc (ci := 11) (q0 := 0) rfl rfl, fun U hU hW => ⟨rfl, by rw [hU], by rw [hU]; exact hPc, va_K.moved hW.alike hK, hDc.weaken (fun _ _ _ _ => trivial), NX.warm hW hN⟩⟩ rfl rfl hl.1 rfl (lv_room (Nat.le_of_ble_eq_true rfl)) dX11_alike_45 ⟨Nat.le_of_ble_eq_true rfl, Nat.le_of_ble_eq_true rfl⟩) hS (fun q _ h => hFc q h) hFc (fun x_29 u t H1 locs ht hvm hw_29 hB hz1 hk1 hS => ?_)
              obtain ⟨u_30, rfl⟩ : ∃ z, z = u := ⟨_, rfl⟩
              obtain ⟨hP1, hK1, hD1⟩ := hB
              rw [ht] at hP1
              clear hK1
              try dsimp only at hw_29
              obtain ⟨hP, hD⟩ := va_join (wr := [(xn, .inr (4, [.ref ek, .ref ef, .ref ew, .ref ep, .ref es, .int sz0, .int sy, .int dn])), (xc, .inr (2, [.ref cs, .ref ca, .ref cf, .ref cl, .int z1, .int z2])), (cs, .inl (aC 0, 60, .inl sf)), (ca, .inl (aC 0, 60, .inl af)), (cf, .inl (aC 0, 60, .inl of)), (cl, .inr (0, [])), (es, .inl (aC 0, 5, .inl stf))]) (w1 := [(h0, .inr (11, [.ref xp, .ref xtp, .ref xn, .ref xt, .ref xk, .ref xl, .ref xc, .ref xo, .ref xto, .ref xr, .ref xch, .int ts, .int ik, .int st])), (xr, .inl (aC 0, 7, .inl u_30))]) hP hD [0, 8] [1, 2, 3, 4, 5, 6, 7] rfl rfl (by decide) (by decide) hk1 hFc hP1 hD1
              generalize H1 = H at hP hS ⊢
              have hP : va_P (dC, dI) classes [(xn, .inr (4, [.ref ek, .ref ef, .ref ew, .ref ep, .ref es, .int sz0, .int sy, .int dn])), (xc, .inr (2, [.ref cs, .ref ca, .ref cf, .ref cl, .int z1, .int z2])), (cs, .inl (aC 0, 60, .inl sf)), (ca, .inl (aC 0, 60, .inl af)), (cf, .inl (aC 0, 60, .inl of)), (cl, .inr (0, [])), (es, .inl (aC 0, 5, .inl stf)), (h0, .inr (11, [.ref xp, .ref xtp, .ref xn, .ref xt, .ref xk, .ref xl, .ref xc, .ref xo, .ref xto, .ref xr, .ref xch, .int ts, .int ik, .int st])), (xr, .inl (aC 0, 7, .inl u_30))] H := hP
              have hD : va_D A [(xn, .inr (4, [.ref ek, .ref ef, .ref ew, .ref ep, .ref es, .int sz0, .int sy, .int dn])), (xc, .inr (2, [.ref cs, .ref ca, .ref cf, .ref cl, .int z1, .int z2])), (cs, .inl (aC 0, 60, .inl sf)), (ca, .inl (aC 0, 60, .inl af)), (cf, .inl (aC 0, 60, .inl of)), (cl, .inr (0, [])), (es, .inl (aC 0, 5, .inl stf)), (h0, .inr (11, [.ref xp, .ref xtp, .ref xn, .ref xt, .ref xk, .ref xl, .ref xc, .ref xo, .ref xto, .ref xr, .ref xch, .int ts, .int ik, .int st])), (xr, .inl (aC 0, 7, .inl u_30))] := hD
              clear hPc hDc hFc hz1 hk1 hP1 hD1 ht hvm
              obtain ⟨hv9, hv8⟩ := hw_29
              refine lv_isub hx hb dX11_alike_48 ?_
              refine lv_topi (fun x_31 e_31 => ?_)
              have hP9 := hP.sub (ws' := []) [] rfl
              have hD9 := hD.sub (ws' := []) [] (by decide) rfl
              refine W.widen (k := 0) (n := 0) (by omega) (by omega) ?_
              exact W.iret (v := x_31) hx hb hr (fun t ht hW => ⟨⟨x_31, (), rfl, by rw [e_31, hv9, alk_6 c_1 c_5 c_9 (Or.inr (Or.inr (Int32.not_lt.mp c_18)))]; rfl, by rw [ht]; exact hP9, va_K.moved hW.alike hK, hD9⟩, hS.F ht⟩) hS.2.2 dX11_alike_49
      · refine lv_ldc hx hb hown (hts _ (gw kw_507 rfl)) dX11_alike_13 ?_
        refine lv_aload_n hx hb dX11_alike_15 rfl (lv_at hl 0 rfl) ?_
        refine lv_bipush (v := -4) hx hb dX11_alike_16 (by decide) ?_
        have hPc := hP.sub (ws' := [(h0, .inr (11, [.ref xp, .ref xtp, .ref xn, .ref xt, .ref xk, .ref xl, .ref xc, .ref xo, .ref xto, .ref xr, .ref xch, .int ts, .int ik, .int st])), (xr, .inl (aC 0, 7, .inl rf))]) [0, 8] rfl
        have hDc := hD.sub (ws' := [(h0, .inr (11, [.ref xp, .ref xtp, .ref xn, .ref xt, .ref xk, .ref xl, .ref xc, .ref xo, .ref xto, .ref xr, .ref xch, .int ts, .int ik, .int st])), (xr, .inl (aC 0, 7, .inl rf))]) [0, 8] (by decide) rfl
        have hFc := va_free (wc := [(h0, .inr (11, [.ref xp, .ref xtp, .ref xn, .ref xt, .ref xk, .ref xl, .ref xc, .ref xo, .ref xto, .ref xr, .ref xch, .int ts, .int ik, .int st])), (xr, .inl (aC 0, 7, .inl rf))]) hD hS hA [0, 8] rfl
        refine va_calli (va_runV (As := [.int (-4)]) (rest := [.int 1000000000]) ⟨hx, hb, hml, hown, hts⟩ (c_X11_refuse l dC dI aC H.size h0 xp xtp xn xt xk xl xc xo xto xr xch ts ik st (-4) 4 rf (by decide) (by decide) (by decide) (by unfold vp_in; decide)) ⟨(callB_of 1 hts (gG kw_276) rfl rfl rfl (hts _ (gw kw_1 rfl)) (hts _ (gw kw_273 rfl)) (by decide +kernel) ⟨Nat.le_of_ble_eq_true rfl, Nat.le_of_ble_eq_true rfl⟩), (hts _ (gw kw_275 rfl)), (hts _ (gw ks_0 rfl))⟩ ⟨fun a U g mk q => by obtain ⟨q0, q1, qP, qK, qD, qN⟩ := q; exact ⟨q0, q1, qP, va_K.moved (u := U) (U := U.calling g mk a) (Vm.Alike.refl U.vm) qK, qD, NX.same (u := U) (U := U.calling g mk a) rfl qN⟩, va_recv hK hPc (ci := 11) (q0 := 0) rfl rfl, fun U hU hW => ⟨rfl, by rw [hU], by rw [hU]; exact hPc, va_K.moved hW.alike hK, hDc.weaken (fun _ _ _ _ => trivial), NX.warm hW hN⟩⟩ rfl rfl hl.1 rfl (lv_room (Nat.le_of_ble_eq_true rfl)) dX11_alike_18 ⟨Nat.le_of_ble_eq_true rfl, Nat.le_of_ble_eq_true rfl⟩) hS (fun q _ h => hFc q h) hFc (fun x_32 u t H1 locs ht hvm hw_32 hB hz1 hk1 hS => ?_)
        obtain ⟨u_33, rfl⟩ : ∃ z, z = u := ⟨_, rfl⟩
        obtain ⟨hP1, hK1, hD1⟩ := hB
        rw [ht] at hP1
        clear hK1
        try dsimp only at hw_32
        obtain ⟨hP, hD⟩ := va_join (wr := [(xn, .inr (4, [.ref ek, .ref ef, .ref ew, .ref ep, .ref es, .int sz0, .int sy, .int dn])), (xc, .inr (2, [.ref cs, .ref ca, .ref cf, .ref cl, .int z1, .int z2])), (cs, .inl (aC 0, 60, .inl sf)), (ca, .inl (aC 0, 60, .inl af)), (cf, .inl (aC 0, 60, .inl of)), (cl, .inr (0, [])), (es, .inl (aC 0, 5, .inl stf))]) (w1 := [(h0, .inr (11, [.ref xp, .ref xtp, .ref xn, .ref xt, .ref xk, .ref xl, .ref xc, .ref xo, .ref xto, .ref xr, .ref xch, .int ts, .int ik, .int st])), (xr, .inl (aC 0, 7, .inl u_33))]) hP hD [0, 8] [1, 2, 3, 4, 5, 6, 7] rfl rfl (by decide) (by decide) hk1 hFc hP1 hD1
        generalize H1 = H at hP hS ⊢
        have hP : va_P (dC, dI) classes [(xn, .inr (4, [.ref ek, .ref ef, .ref ew, .ref ep, .ref es, .int sz0, .int sy, .int dn])), (xc, .inr (2, [.ref cs, .ref ca, .ref cf, .ref cl, .int z1, .int z2])), (cs, .inl (aC 0, 60, .inl sf)), (ca, .inl (aC 0, 60, .inl af)), (cf, .inl (aC 0, 60, .inl of)), (cl, .inr (0, [])), (es, .inl (aC 0, 5, .inl stf)), (h0, .inr (11, [.ref xp, .ref xtp, .ref xn, .ref xt, .ref xk, .ref xl, .ref xc, .ref xo, .ref xto, .ref xr, .ref xch, .int ts, .int ik, .int st])), (xr, .inl (aC 0, 7, .inl u_33))] H := hP
        have hD : va_D A [(xn, .inr (4, [.ref ek, .ref ef, .ref ew, .ref ep, .ref es, .int sz0, .int sy, .int dn])), (xc, .inr (2, [.ref cs, .ref ca, .ref cf, .ref cl, .int z1, .int z2])), (cs, .inl (aC 0, 60, .inl sf)), (ca, .inl (aC 0, 60, .inl af)), (cf, .inl (aC 0, 60, .inl of)), (cl, .inr (0, [])), (es, .inl (aC 0, 5, .inl stf)), (h0, .inr (11, [.ref xp, .ref xtp, .ref xn, .ref xt, .ref xk, .ref xl, .ref xc, .ref xo, .ref xto, .ref xr, .ref xch, .int ts, .int ik, .int st])), (xr, .inl (aC 0, 7, .inl u_33))] := hD
        clear hPc hDc hFc hz1 hk1 hP1 hD1 ht hvm
        obtain ⟨hv9, hv8⟩ := hw_32
        refine lv_isub hx hb dX11_alike_21 ?_
        refine lv_topi (fun x_34 e_34 => ?_)
        have hP9 := hP.sub (ws' := []) [] rfl
        have hD9 := hD.sub (ws' := []) [] (by decide) rfl
        refine W.widen (k := 0) (n := 0) (by omega) (by omega) ?_
        exact W.iret (v := x_34) hx hb hr (fun t ht hW => ⟨⟨x_34, (), rfl, by rw [e_34, hv9, alk_4 (Or.inr (Or.inr (Int32.not_le.mp c_9)))]; rfl, by rw [ht]; exact hP9, va_K.moved hW.alike hK, hD9⟩, hS.F ht⟩) hS.2.2 dX11_alike_22
