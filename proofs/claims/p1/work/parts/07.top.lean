set_option maxHeartbeats 4000000 in
set_option maxRecDepth 100000 in
/-- X11_man_r -/
theorem c_X11_man_r (l : Launch) (dC : Nat → ClassId) (dI : Nat → Nat → Nat) (aC : Nat → ClassId) (sz : Nat) (h0 : Nat) (xp : Nat) (xtp : Nat) (xn : Nat) (xt : Nat) (xk : Nat) (xl : Nat) (xc : Nat) (xo : Nat) (xto : Nat) (xr : Nat) (xch : Nat) (ts : Int32) (ik : Int32) (st : Int32) (ek : Nat) (ef : Nat) (ew : Nat) (ep : Nat) (es : Nat) (sz0 : Int32) (sy : Int32) (dn : Int32) (rf : Nat → Int32) (i : Int32) (a2 : Int32) (hno : i < 0 ∨ sz0 ≤ i) : Met l yX11_man (wW yX11_man cX11_man 3 (some .int)) ({ frames := 1, cells := 0, slots := 0, locals := 21 } : Room) (va_Pc [.ref h0, .int i, .int a2] (fun U => U.heap.size = sz ∧ va_P (dC, dI) classes [(h0, .inr (11, [.ref xp, .ref xtp, .ref xn, .ref xt, .ref xk, .ref xl, .ref xc, .ref xo, .ref xto, .ref xr, .ref xch, .int ts, .int ik, .int st])), (xn, .inr (4, [.ref ek, .ref ef, .ref ew, .ref ep, .ref es, .int sz0, .int sy, .int dn])), (xr, .inl (aC 0, 7, .inl rf))] U.heap ∧ va_K (dC, dI) classes (TY aC) U ∧ va_D (fun _ => True) [(h0, .inr (11, [.ref xp, .ref xtp, .ref xn, .ref xt, .ref xk, .ref xl, .ref xc, .ref xo, .ref xto, .ref xr, .ref xch, .int ts, .int ik, .int st])), (xn, .inr (4, [.ref ek, .ref ef, .ref ew, .ref ep, .ref es, .int sz0, .int sy, .int dn])), (xr, .inl (aC 0, 7, .inl rf))] ∧ NX U)) (va_Qi (fun (r : Int32) (_ : Unit) => r = -1) (fun (_ : Unit) (t : State) => va_P (dC, dI) classes [] t.heap ∧ va_K (dC, dI) classes (TY aC) t ∧ va_D (va_A [(h0, .inr (11, [.ref xp, .ref xtp, .ref xn, .ref xt, .ref xk, .ref xl, .ref xc, .ref xo, .ref xto, .ref xr, .ref xch, .int ts, .int ik, .int st])), (xn, .inr (4, [.ref ek, .ref ef, .ref ew, .ref ep, .ref es, .int sz0, .int sy, .int dn])), (xr, .inl (aC 0, 7, .inl rf))] sz) []) (va_A [(h0, .inr (11, [.ref xp, .ref xtp, .ref xn, .ref xt, .ref xk, .ref xl, .ref xc, .ref xo, .ref xto, .ref xr, .ref xch, .int ts, .int ik, .int st])), (xn, .inr (4, [.ref ek, .ref ef, .ref ew, .ref ep, .ref es, .int sz0, .int sy, .int dn])), (xr, .inl (aC 0, 7, .inl rf))] sz)) 0 0 (va_A [(h0, .inr (11, [.ref xp, .ref xtp, .ref xn, .ref xt, .ref xk, .ref xl, .ref xc, .ref xo, .ref xto, .ref xr, .ref xch, .int ts, .int ik, .int st])), (xn, .inr (4, [.ref ek, .ref ef, .ref ew, .ref ep, .ref es, .int sz0, .int sy, .int dn])), (xr, .inl (aC 0, 7, .inl rf))] sz) := by
  refine Met.ofW (cc := cX11_man) (maxL := 3) (ret := (some .int)) (by decide) rfl ?_
  intro p e s m args below meth c s₁ B hml hv
  obtain ⟨rfl, hsz, hP, hK, hD0, hN⟩ := hv
  have hx := B.exec
  have hb := B.bytes
  have hr := B.returns
  have hts0 := atoms_spec (ws := (wW yX11_man cX11_man 3 (some .int))) B.pre
  have hts : ∀ w9 ∈ lw_G, w9.before ([.ref h0, .int i, .int a2] : List Value).toArray s = true := fun w9 h9 => hts0 w9 (List.mem_cons_of_mem _ h9)
  have hown : s.vm.findClass RX11 = some m.cls := findClass_of_methodNamed B.named
  have hlocks := B.notSynchronized
  subst hsz
  have hD := hD0.self (sz := s.heap.size)
  generalize hAe : va_A [(h0, .inr (11, [.ref xp, .ref xtp, .ref xn, .ref xt, .ref xk, .ref xl, .ref xc, .ref xo, .ref xto, .ref xr, .ref xch, .int ts, .int ik, .int st])), (xn, .inr (4, [.ref ek, .ref ef, .ref ew, .ref ep, .ref es, .int sz0, .int sy, .int dn])), (xr, .inl (aC 0, 7, .inl rf))] s.heap.size = A at hD ⊢
  have hA : ∀ q : Nat, s.heap.size ≤ q → A q := fun q h => by rw [← hAe]; exact Or.inr h
  obtain ⟨H, hHe⟩ : ∃ H : Heap, H = s.heap := ⟨_, rfl⟩
  have hS : va_S A s.heap H [] := by rw [hHe]; exact va_S.rf
  have hP : va_P (dC, dI) classes [(h0, .inr (11, [.ref xp, .ref xtp, .ref xn, .ref xt, .ref xk, .ref xl, .ref xc, .ref xo, .ref xto, .ref xr, .ref xch, .int ts, .int ik, .int st])), (xn, .inr (4, [.ref ek, .ref ef, .ref ew, .ref ep, .ref es, .int sz0, .int sy, .int dn])), (xr, .inl (aC 0, 7, .inl rf))] H := by rw [hHe]; exact hP
  have hl := lv_entry ([.ref h0, .int i, .int a2]) (n := 3) (Nat.le_of_ble_eq_true rfl)
  rw [lg_entry_eq]
  generalize (lg_sl ([.ref h0, .int i, .int a2]) ++ List.replicate (3 - (lg_sl ([.ref h0, .int i, .int a2])).length) Slot.unset).toArray = ls at hl ⊢
  have hl : lv_has ls 3 [(0, .ref h0), (1, .int i), (2, .int a2)] := hl
  rw [← hHe]
  refine lv_aload_n hx hb dX11_man_0 rfl (lv_at hl 0 rfl) ?_
  refine va_get (D := (dC, dI)) (ci := 11) (v := .ref xn) (C := RX11) (T := TX11) (N := 14) hx hb hts inX11 hown hK hP 0 rfl rfl 2 (by decide) (hts _ (gw kw_228 rfl)) (fun _ h9 => h9) rfl dX11_man_1 ?_
  refine lv_iload_n hx hb dX11_man_4 rfl (lv_at hl 1 rfl) ?_
  have hPc := hP.sub (ws' := [(xn, .inr (4, [.ref ek, .ref ef, .ref ew, .ref ep, .ref es, .int sz0, .int sy, .int dn]))]) [1] rfl
  have hDc := hD.sub (ws' := [(xn, .inr (4, [.ref ek, .ref ef, .ref ew, .ref ep, .ref es, .int sz0, .int sy, .int dn]))]) [1] (by decide) rfl
  have hFc := va_free (wc := [(xn, .inr (4, [.ref ek, .ref ef, .ref ew, .ref ep, .ref es, .int sz0, .int sy, .int dn]))]) hD hS hA [1] rfl
  refine va_calli (va_runV (As := [.int i]) (rest := []) ⟨hx, hb, hml, hown, hts⟩ (c_X4_has l dC dI aC H.size xn ek ef ew ep es sz0 sy dn i ) ⟨(callB_of 1 hts (gG kw_340) rfl rfl rfl (hts _ (gw kw_2 rfl)) (hts _ (gw kw_337 rfl)) (by decide +kernel) ⟨Nat.le_of_ble_eq_true rfl, Nat.le_of_ble_eq_true rfl⟩), (hts _ (gw kw_338 rfl)), (hts _ (gw kw_339 rfl))⟩ ⟨fun a U g mk q => by obtain ⟨q0, q1, qP, qK, qD, qN⟩ := q; exact ⟨q0, q1, qP, va_K.moved (u := U) (U := U.calling g mk a) (Vm.Alike.refl U.vm) qK, qD, NX.same (u := U) (U := U.calling g mk a) rfl qN⟩, va_recv hK hPc (ci := 4) (q0 := 0) rfl rfl, fun U hU hW => ⟨rfl, by rw [hU], by rw [hU]; exact hPc, va_K.moved hW.alike hK, hDc.weaken (fun _ _ _ _ => trivial), NX.warm hW hN⟩⟩ rfl rfl hl.1 rfl (lv_room (Nat.le_of_ble_eq_true rfl)) dX11_man_5 ⟨Nat.le_of_ble_eq_true rfl, Nat.le_of_ble_eq_true rfl⟩) hS (fun q _ h => hFc q h) hFc (fun x_1 u t H1 locs ht hvm hw_1 hB hz1 hk1 hS => ?_)
  obtain ⟨hP1, hK1, hD1⟩ := hB
  rw [ht] at hP1
  clear hK1
  try dsimp only at hw_1
  obtain ⟨hP, hD⟩ := va_join (wr := [(h0, .inr (11, [.ref xp, .ref xtp, .ref xn, .ref xt, .ref xk, .ref xl, .ref xc, .ref xo, .ref xto, .ref xr, .ref xch, .int ts, .int ik, .int st])), (xr, .inl (aC 0, 7, .inl rf))]) (w1 := [(xn, .inr (4, [.ref ek, .ref ef, .ref ew, .ref ep, .ref es, .int sz0, .int sy, .int dn]))]) hP hD [1] [0, 2] rfl rfl (by decide) (by decide) hk1 hFc hP1 hD1
  generalize H1 = H at hP hS ⊢
  have hP : va_P (dC, dI) classes [(h0, .inr (11, [.ref xp, .ref xtp, .ref xn, .ref xt, .ref xk, .ref xl, .ref xc, .ref xo, .ref xto, .ref xr, .ref xch, .int ts, .int ik, .int st])), (xr, .inl (aC 0, 7, .inl rf)), (xn, .inr (4, [.ref ek, .ref ef, .ref ew, .ref ep, .ref es, .int sz0, .int sy, .int dn]))] H := hP
  have hD : va_D A [(h0, .inr (11, [.ref xp, .ref xtp, .ref xn, .ref xt, .ref xk, .ref xl, .ref xc, .ref xo, .ref xto, .ref xr, .ref xch, .int ts, .int ik, .int st])), (xr, .inl (aC 0, 7, .inl rf)), (xn, .inr (4, [.ref ek, .ref ef, .ref ew, .ref ep, .ref es, .int sz0, .int sy, .int dn]))] := hD
  clear hPc hDc hFc hz1 hk1 hP1 hD1 ht hvm
  have hz_5 : x_1 = 0 := by rw [hw_1]; rcases hno with h9 | h9 <;> simp [h9]
  refine lv_if_ne (tgt := 17) hx hb dX11_man_8 (by decide) (fun c_2 => ?_) (fun c_2 => ?_)
  · exact absurd hz_5 c_2
  · refine lv_aload_n hx hb dX11_man_11 rfl (lv_at hl 0 rfl) ?_
    refine lv_iconst (v := -1) hx hb dX11_man_12 (by decide) ?_
    have hPc := hP.sub (ws' := [(h0, .inr (11, [.ref xp, .ref xtp, .ref xn, .ref xt, .ref xk, .ref xl, .ref xc, .ref xo, .ref xto, .ref xr, .ref xch, .int ts, .int ik, .int st])), (xr, .inl (aC 0, 7, .inl rf))]) [0, 1] rfl
    have hDc := hD.sub (ws' := [(h0, .inr (11, [.ref xp, .ref xtp, .ref xn, .ref xt, .ref xk, .ref xl, .ref xc, .ref xo, .ref xto, .ref xr, .ref xch, .int ts, .int ik, .int st])), (xr, .inl (aC 0, 7, .inl rf))]) [0, 1] (by decide) rfl
    have hFc := va_free (wc := [(h0, .inr (11, [.ref xp, .ref xtp, .ref xn, .ref xt, .ref xk, .ref xl, .ref xc, .ref xo, .ref xto, .ref xr, .ref xch, .int ts, .int ik, .int st])), (xr, .inl (aC 0, 7, .inl rf))]) hD hS hA [0, 1] rfl
    refine va_calli (va_runV (As := [.int (-1)]) (rest := []) ⟨hx, hb, hml, hown, hts⟩ (c_X11_refuse l dC dI aC H.size h0 xp xtp xn xt xk xl xc xo xto xr xch ts ik st (-1) 1 rf (by decide) (by decide) (by decide) (by unfold vp_in; decide)) ⟨(callB_of 1 hts (gG kw_276) rfl rfl rfl (hts _ (gw kw_1 rfl)) (hts _ (gw kw_273 rfl)) (by decide +kernel) ⟨Nat.le_of_ble_eq_true rfl, Nat.le_of_ble_eq_true rfl⟩), (hts _ (gw kw_275 rfl)), (hts _ (gw ks_0 rfl))⟩ ⟨fun a U g mk q => by obtain ⟨q0, q1, qP, qK, qD, qN⟩ := q; exact ⟨q0, q1, qP, va_K.moved (u := U) (U := U.calling g mk a) (Vm.Alike.refl U.vm) qK, qD, NX.same (u := U) (U := U.calling g mk a) rfl qN⟩, va_recv hK hPc (ci := 11) (q0 := 0) rfl rfl, fun U hU hW => ⟨rfl, by rw [hU], by rw [hU]; exact hPc, va_K.moved hW.alike hK, hDc.weaken (fun _ _ _ _ => trivial), NX.warm hW hN⟩⟩ rfl rfl hl.1 rfl (lv_room (Nat.le_of_ble_eq_true rfl)) dX11_man_13 ⟨Nat.le_of_ble_eq_true rfl, Nat.le_of_ble_eq_true rfl⟩) hS (fun q _ h => hFc q h) hFc (fun x_3 u t H1 locs ht hvm hw_3 hB hz1 hk1 hS => ?_)
    obtain ⟨u_4, rfl⟩ : ∃ z, z = u := ⟨_, rfl⟩
    obtain ⟨hP1, hK1, hD1⟩ := hB
    rw [ht] at hP1
    clear hK1
    try dsimp only at hw_3
    obtain ⟨hP, hD⟩ := va_join (wr := [(xn, .inr (4, [.ref ek, .ref ef, .ref ew, .ref ep, .ref es, .int sz0, .int sy, .int dn]))]) (w1 := [(h0, .inr (11, [.ref xp, .ref xtp, .ref xn, .ref xt, .ref xk, .ref xl, .ref xc, .ref xo, .ref xto, .ref xr, .ref xch, .int ts, .int ik, .int st])), (xr, .inl (aC 0, 7, .inl u_4))]) hP hD [0, 1] [2] rfl rfl (by decide) (by decide) hk1 hFc hP1 hD1
    generalize H1 = H at hP hS ⊢
    have hP : va_P (dC, dI) classes [(xn, .inr (4, [.ref ek, .ref ef, .ref ew, .ref ep, .ref es, .int sz0, .int sy, .int dn])), (h0, .inr (11, [.ref xp, .ref xtp, .ref xn, .ref xt, .ref xk, .ref xl, .ref xc, .ref xo, .ref xto, .ref xr, .ref xch, .int ts, .int ik, .int st])), (xr, .inl (aC 0, 7, .inl u_4))] H := hP
    have hD : va_D A [(xn, .inr (4, [.ref ek, .ref ef, .ref ew, .ref ep, .ref es, .int sz0, .int sy, .int dn])), (h0, .inr (11, [.ref xp, .ref xtp, .ref xn, .ref xt, .ref xk, .ref xl, .ref xc, .ref xo, .ref xto, .ref xr, .ref xch, .int ts, .int ik, .int st])), (xr, .inl (aC 0, 7, .inl u_4))] := hD
    clear hPc hDc hFc hz1 hk1 hP1 hD1 ht hvm
    obtain ⟨hv9, hv8⟩ := hw_3
    have hP9 := hP.sub (ws' := []) [] rfl
    have hD9 := hD.sub (ws' := []) [] (by decide) rfl
    refine W.widen (k := 0) (n := 0) (by omega) (by omega) ?_
    exact W.iret (v := x_3) hx hb hr (fun t ht hW => ⟨⟨x_3, (), rfl, hv9, by rw [ht]; exact hP9, va_K.moved hW.alike hK, hD9⟩, hS.F ht⟩) hS.2.2 dX11_man_16

set_option maxHeartbeats 4000000 in
set_option maxRecDepth 100000 in
/-- X11_offered_r -/
theorem c_X11_offered_r (l : Launch) (dC : Nat → ClassId) (dI : Nat → Nat → Nat) (aC : Nat → ClassId) (sz : Nat) (h0 : Nat) (xp : Nat) (xtp : Nat) (xn : Nat) (xt : Nat) (xk : Nat) (xl : Nat) (xc : Nat) (xo : Nat) (xto : Nat) (xr : Nat) (xch : Nat) (ts : Int32) (ik : Int32) (st : Int32) (ek : Nat) (ef : Nat) (ew : Nat) (ep : Nat) (es : Nat) (sz0 : Int32) (sy : Int32) (dn : Int32) (rf : Nat → Int32) (i : Int32) (a2 : Int32) (hno : i < 0 ∨ sz0 ≤ i) : Met l yX11_offered (wW yX11_offered cX11_offered 3 (some .int)) ({ frames := 1, cells := 0, slots := 0, locals := 21 } : Room) (va_Pc [.ref h0, .int i, .int a2] (fun U => U.heap.size = sz ∧ va_P (dC, dI) classes [(h0, .inr (11, [.ref xp, .ref xtp, .ref xn, .ref xt, .ref xk, .ref xl, .ref xc, .ref xo, .ref xto, .ref xr, .ref xch, .int ts, .int ik, .int st])), (xn, .inr (4, [.ref ek, .ref ef, .ref ew, .ref ep, .ref es, .int sz0, .int sy, .int dn])), (xr, .inl (aC 0, 7, .inl rf))] U.heap ∧ va_K (dC, dI) classes (TY aC) U ∧ va_D (fun _ => True) [(h0, .inr (11, [.ref xp, .ref xtp, .ref xn, .ref xt, .ref xk, .ref xl, .ref xc, .ref xo, .ref xto, .ref xr, .ref xch, .int ts, .int ik, .int st])), (xn, .inr (4, [.ref ek, .ref ef, .ref ew, .ref ep, .ref es, .int sz0, .int sy, .int dn])), (xr, .inl (aC 0, 7, .inl rf))] ∧ NX U)) (va_Qi (fun (r : Int32) (_ : Unit) => r = -1) (fun (_ : Unit) (t : State) => va_P (dC, dI) classes [] t.heap ∧ va_K (dC, dI) classes (TY aC) t ∧ va_D (va_A [(h0, .inr (11, [.ref xp, .ref xtp, .ref xn, .ref xt, .ref xk, .ref xl, .ref xc, .ref xo, .ref xto, .ref xr, .ref xch, .int ts, .int ik, .int st])), (xn, .inr (4, [.ref ek, .ref ef, .ref ew, .ref ep, .ref es, .int sz0, .int sy, .int dn])), (xr, .inl (aC 0, 7, .inl rf))] sz) []) (va_A [(h0, .inr (11, [.ref xp, .ref xtp, .ref xn, .ref xt, .ref xk, .ref xl, .ref xc, .ref xo, .ref xto, .ref xr, .ref xch, .int ts, .int ik, .int st])), (xn, .inr (4, [.ref ek, .ref ef, .ref ew, .ref ep, .ref es, .int sz0, .int sy, .int dn])), (xr, .inl (aC 0, 7, .inl rf))] sz)) 0 0 (va_A [(h0, .inr (11, [.ref xp, .ref xtp, .ref xn, .ref xt, .ref xk, .ref xl, .ref xc, .ref xo, .ref xto, .ref xr, .ref xch, .int ts, .int ik, .int st])), (xn, .inr (4, [.ref ek, .ref ef, .ref ew, .ref ep, .ref es, .int sz0, .int sy, .int dn])), (xr, .inl (aC 0, 7, .inl rf))] sz) := by
  refine Met.ofW (cc := cX11_offered) (maxL := 3) (ret := (some .int)) (by decide) rfl ?_
  intro p e s m args below meth c s₁ B hml hv
  obtain ⟨rfl, hsz, hP, hK, hD0, hN⟩ := hv
  have hx := B.exec
  have hb := B.bytes
  have hr := B.returns
  have hts0 := atoms_spec (ws := (wW yX11_offered cX11_offered 3 (some .int))) B.pre
  have hts : ∀ w9 ∈ lw_G, w9.before ([.ref h0, .int i, .int a2] : List Value).toArray s = true := fun w9 h9 => hts0 w9 (List.mem_cons_of_mem _ h9)
  have hown : s.vm.findClass RX11 = some m.cls := findClass_of_methodNamed B.named
  have hlocks := B.notSynchronized
  subst hsz
  have hD := hD0.self (sz := s.heap.size)
  generalize hAe : va_A [(h0, .inr (11, [.ref xp, .ref xtp, .ref xn, .ref xt, .ref xk, .ref xl, .ref xc, .ref xo, .ref xto, .ref xr, .ref xch, .int ts, .int ik, .int st])), (xn, .inr (4, [.ref ek, .ref ef, .ref ew, .ref ep, .ref es, .int sz0, .int sy, .int dn])), (xr, .inl (aC 0, 7, .inl rf))] s.heap.size = A at hD ⊢
  have hA : ∀ q : Nat, s.heap.size ≤ q → A q := fun q h => by rw [← hAe]; exact Or.inr h
  obtain ⟨H, hHe⟩ : ∃ H : Heap, H = s.heap := ⟨_, rfl⟩
  have hS : va_S A s.heap H [] := by rw [hHe]; exact va_S.rf
  have hP : va_P (dC, dI) classes [(h0, .inr (11, [.ref xp, .ref xtp, .ref xn, .ref xt, .ref xk, .ref xl, .ref xc, .ref xo, .ref xto, .ref xr, .ref xch, .int ts, .int ik, .int st])), (xn, .inr (4, [.ref ek, .ref ef, .ref ew, .ref ep, .ref es, .int sz0, .int sy, .int dn])), (xr, .inl (aC 0, 7, .inl rf))] H := by rw [hHe]; exact hP
  have hl := lv_entry ([.ref h0, .int i, .int a2]) (n := 3) (Nat.le_of_ble_eq_true rfl)
  rw [lg_entry_eq]
  generalize (lg_sl ([.ref h0, .int i, .int a2]) ++ List.replicate (3 - (lg_sl ([.ref h0, .int i, .int a2])).length) Slot.unset).toArray = ls at hl ⊢
  have hl : lv_has ls 3 [(0, .ref h0), (1, .int i), (2, .int a2)] := hl
  rw [← hHe]
  refine lv_aload_n hx hb dX11_offered_0 rfl (lv_at hl 0 rfl) ?_
  refine va_get (D := (dC, dI)) (ci := 11) (v := .ref xn) (C := RX11) (T := TX11) (N := 14) hx hb hts inX11 hown hK hP 0 rfl rfl 2 (by decide) (hts _ (gw kw_228 rfl)) (fun _ h9 => h9) rfl dX11_offered_1 ?_
  refine lv_iload_n hx hb dX11_offered_4 rfl (lv_at hl 1 rfl) ?_
  have hPc := hP.sub (ws' := [(xn, .inr (4, [.ref ek, .ref ef, .ref ew, .ref ep, .ref es, .int sz0, .int sy, .int dn]))]) [1] rfl
  have hDc := hD.sub (ws' := [(xn, .inr (4, [.ref ek, .ref ef, .ref ew, .ref ep, .ref es, .int sz0, .int sy, .int dn]))]) [1] (by decide) rfl
  have hFc := va_free (wc := [(xn, .inr (4, [.ref ek, .ref ef, .ref ew, .ref ep, .ref es, .int sz0, .int sy, .int dn]))]) hD hS hA [1] rfl
  refine va_calli (va_runV (As := [.int i]) (rest := []) ⟨hx, hb, hml, hown, hts⟩ (c_X4_has l dC dI aC H.size xn ek ef ew ep es sz0 sy dn i ) ⟨(callB_of 1 hts (gG kw_340) rfl rfl rfl (hts _ (gw kw_2 rfl)) (hts _ (gw kw_337 rfl)) (by decide +kernel) ⟨Nat.le_of_ble_eq_true rfl, Nat.le_of_ble_eq_true rfl⟩), (hts _ (gw kw_338 rfl)), (hts _ (gw kw_339 rfl))⟩ ⟨fun a U g mk q => by obtain ⟨q0, q1, qP, qK, qD, qN⟩ := q; exact ⟨q0, q1, qP, va_K.moved (u := U) (U := U.calling g mk a) (Vm.Alike.refl U.vm) qK, qD, NX.same (u := U) (U := U.calling g mk a) rfl qN⟩, va_recv hK hPc (ci := 4) (q0 := 0) rfl rfl, fun U hU hW => ⟨rfl, by rw [hU], by rw [hU]; exact hPc, va_K.moved hW.alike hK, hDc.weaken (fun _ _ _ _ => trivial), NX.warm hW hN⟩⟩ rfl rfl hl.1 rfl (lv_room (Nat.le_of_ble_eq_true rfl)) dX11_offered_5 ⟨Nat.le_of_ble_eq_true rfl, Nat.le_of_ble_eq_true rfl⟩) hS (fun q _ h => hFc q h) hFc (fun x_1 u t H1 locs ht hvm hw_1 hB hz1 hk1 hS => ?_)
  obtain ⟨hP1, hK1, hD1⟩ := hB
  rw [ht] at hP1
  clear hK1
  try dsimp only at hw_1
  obtain ⟨hP, hD⟩ := va_join (wr := [(h0, .inr (11, [.ref xp, .ref xtp, .ref xn, .ref xt, .ref xk, .ref xl, .ref xc, .ref xo, .ref xto, .ref xr, .ref xch, .int ts, .int ik, .int st])), (xr, .inl (aC 0, 7, .inl rf))]) (w1 := [(xn, .inr (4, [.ref ek, .ref ef, .ref ew, .ref ep, .ref es, .int sz0, .int sy, .int dn]))]) hP hD [1] [0, 2] rfl rfl (by decide) (by decide) hk1 hFc hP1 hD1
  generalize H1 = H at hP hS ⊢
  have hP : va_P (dC, dI) classes [(h0, .inr (11, [.ref xp, .ref xtp, .ref xn, .ref xt, .ref xk, .ref xl, .ref xc, .ref xo, .ref xto, .ref xr, .ref xch, .int ts, .int ik, .int st])), (xr, .inl (aC 0, 7, .inl rf)), (xn, .inr (4, [.ref ek, .ref ef, .ref ew, .ref ep, .ref es, .int sz0, .int sy, .int dn]))] H := hP
  have hD : va_D A [(h0, .inr (11, [.ref xp, .ref xtp, .ref xn, .ref xt, .ref xk, .ref xl, .ref xc, .ref xo, .ref xto, .ref xr, .ref xch, .int ts, .int ik, .int st])), (xr, .inl (aC 0, 7, .inl rf)), (xn, .inr (4, [.ref ek, .ref ef, .ref ew, .ref ep, .ref es, .int sz0, .int sy, .int dn]))] := hD
  clear hPc hDc hFc hz1 hk1 hP1 hD1 ht hvm
  have hz_5 : x_1 = 0 := by rw [hw_1]; rcases hno with h9 | h9 <;> simp [h9]
  refine lv_if_eq (tgt := 41) hx hb dX11_offered_8 (by decide) (fun c_2 => ?_) (fun c_2 => ?_)
  · refine lv_aload_n hx hb dX11_offered_41 rfl (lv_at hl 0 rfl) ?_
    refine lv_iconst (v := -1) hx hb dX11_offered_42 (by decide) ?_
    have hPc := hP.sub (ws' := [(h0, .inr (11, [.ref xp, .ref xtp, .ref xn, .ref xt, .ref xk, .ref xl, .ref xc, .ref xo, .ref xto, .ref xr, .ref xch, .int ts, .int ik, .int st])), (xr, .inl (aC 0, 7, .inl rf))]) [0, 1] rfl
    have hDc := hD.sub (ws' := [(h0, .inr (11, [.ref xp, .ref xtp, .ref xn, .ref xt, .ref xk, .ref xl, .ref xc, .ref xo, .ref xto, .ref xr, .ref xch, .int ts, .int ik, .int st])), (xr, .inl (aC 0, 7, .inl rf))]) [0, 1] (by decide) rfl
    have hFc := va_free (wc := [(h0, .inr (11, [.ref xp, .ref xtp, .ref xn, .ref xt, .ref xk, .ref xl, .ref xc, .ref xo, .ref xto, .ref xr, .ref xch, .int ts, .int ik, .int st])), (xr, .inl (aC 0, 7, .inl rf))]) hD hS hA [0, 1] rfl
    refine va_calli (va_runV (As := [.int (-1)]) (rest := []) ⟨hx, hb, hml, hown, hts⟩ (c_X11_refuse l dC dI aC H.size h0 xp xtp xn xt xk xl xc xo xto xr xch ts ik st (-1) 1 rf (by decide) (by decide) (by decide) (by unfold vp_in; decide)) ⟨(callB_of 1 hts (gG kw_276) rfl rfl rfl (hts _ (gw kw_1 rfl)) (hts _ (gw kw_273 rfl)) (by decide +kernel) ⟨Nat.le_of_ble_eq_true rfl, Nat.le_of_ble_eq_true rfl⟩), (hts _ (gw kw_275 rfl)), (hts _ (gw ks_0 rfl))⟩ ⟨fun a U g mk q => by obtain ⟨q0, q1, qP, qK, qD, qN⟩ := q; exact ⟨q0, q1, qP, va_K.moved (u := U) (U := U.calling g mk a) (Vm.Alike.refl U.vm) qK, qD, NX.same (u := U) (U := U.calling g mk a) rfl qN⟩, va_recv hK hPc (ci := 11) (q0 := 0) rfl rfl, fun U hU hW => ⟨rfl, by rw [hU], by rw [hU]; exact hPc, va_K.moved hW.alike hK, hDc.weaken (fun _ _ _ _ => trivial), NX.warm hW hN⟩⟩ rfl rfl hl.1 rfl (lv_room (Nat.le_of_ble_eq_true rfl)) dX11_offered_43 ⟨Nat.le_of_ble_eq_true rfl, Nat.le_of_ble_eq_true rfl⟩) hS (fun q _ h => hFc q h) hFc (fun x_3 u t H1 locs ht hvm hw_3 hB hz1 hk1 hS => ?_)
    obtain ⟨u_4, rfl⟩ : ∃ z, z = u := ⟨_, rfl⟩
    obtain ⟨hP1, hK1, hD1⟩ := hB
    rw [ht] at hP1
    clear hK1
    try dsimp only at hw_3
    obtain ⟨hP, hD⟩ := va_join (wr := [(xn, .inr (4, [.ref ek, .ref ef, .ref ew, .ref ep, .ref es, .int sz0, .int sy, .int dn]))]) (w1 := [(h0, .inr (11, [.ref xp, .ref xtp, .ref xn, .ref xt, .ref xk, .ref xl, .ref xc, .ref xo, .ref xto, .ref xr, .ref xch, .int ts, .int ik, .int st])), (xr, .inl (aC 0, 7, .inl u_4))]) hP hD [0, 1] [2] rfl rfl (by decide) (by decide) hk1 hFc hP1 hD1
    generalize H1 = H at hP hS ⊢
    have hP : va_P (dC, dI) classes [(xn, .inr (4, [.ref ek, .ref ef, .ref ew, .ref ep, .ref es, .int sz0, .int sy, .int dn])), (h0, .inr (11, [.ref xp, .ref xtp, .ref xn, .ref xt, .ref xk, .ref xl, .ref xc, .ref xo, .ref xto, .ref xr, .ref xch, .int ts, .int ik, .int st])), (xr, .inl (aC 0, 7, .inl u_4))] H := hP
    have hD : va_D A [(xn, .inr (4, [.ref ek, .ref ef, .ref ew, .ref ep, .ref es, .int sz0, .int sy, .int dn])), (h0, .inr (11, [.ref xp, .ref xtp, .ref xn, .ref xt, .ref xk, .ref xl, .ref xc, .ref xo, .ref xto, .ref xr, .ref xch, .int ts, .int ik, .int st])), (xr, .inl (aC 0, 7, .inl u_4))] := hD
    clear hPc hDc hFc hz1 hk1 hP1 hD1 ht hvm
    obtain ⟨hv9, hv8⟩ := hw_3
    have hP9 := hP.sub (ws' := []) [] rfl
    have hD9 := hD.sub (ws' := []) [] (by decide) rfl
    refine W.widen (k := 0) (n := 0) (by omega) (by omega) ?_
    exact W.iret (v := x_3) hx hb hr (fun t ht hW => ⟨⟨x_3, (), rfl, hv9, by rw [ht]; exact hP9, va_K.moved hW.alike hK, hD9⟩, hS.F ht⟩) hS.2.2 dX11_offered_46
  · exact absurd hz_5 c_2

set_option maxHeartbeats 4000000 in
set_option maxRecDepth 100000 in
/-- X11_price_r -/
theorem c_X11_price_r (l : Launch) (dC : Nat → ClassId) (dI : Nat → Nat → Nat) (aC : Nat → ClassId) (sz : Nat) (h0 : Nat) (xp : Nat) (xtp : Nat) (xn : Nat) (xt : Nat) (xk : Nat) (xl : Nat) (xc : Nat) (xo : Nat) (xto : Nat) (xr : Nat) (xch : Nat) (ts : Int32) (ik : Int32) (st : Int32) (ek : Nat) (ef : Nat) (ew : Nat) (ep : Nat) (es : Nat) (sz0 : Int32) (sy : Int32) (dn : Int32) (rf : Nat → Int32) (i : Int32) (a2 : Int32) (hno : i < 0 ∨ sz0 ≤ i) : Met l yX11_price (wW yX11_price cX11_price 3 (some .int)) ({ frames := 1, cells := 0, slots := 0, locals := 21 } : Room) (va_Pc [.ref h0, .int i, .int a2] (fun U => U.heap.size = sz ∧ va_P (dC, dI) classes [(h0, .inr (11, [.ref xp, .ref xtp, .ref xn, .ref xt, .ref xk, .ref xl, .ref xc, .ref xo, .ref xto, .ref xr, .ref xch, .int ts, .int ik, .int st])), (xn, .inr (4, [.ref ek, .ref ef, .ref ew, .ref ep, .ref es, .int sz0, .int sy, .int dn])), (xr, .inl (aC 0, 7, .inl rf))] U.heap ∧ va_K (dC, dI) classes (TY aC) U ∧ va_D (fun _ => True) [(h0, .inr (11, [.ref xp, .ref xtp, .ref xn, .ref xt, .ref xk, .ref xl, .ref xc, .ref xo, .ref xto, .ref xr, .ref xch, .int ts, .int ik, .int st])), (xn, .inr (4, [.ref ek, .ref ef, .ref ew, .ref ep, .ref es, .int sz0, .int sy, .int dn])), (xr, .inl (aC 0, 7, .inl rf))] ∧ NX U)) (va_Qi (fun (r : Int32) (_ : Unit) => r = -1) (fun (_ : Unit) (t : State) => va_P (dC, dI) classes [] t.heap ∧ va_K (dC, dI) classes (TY aC) t ∧ va_D (va_A [(h0, .inr (11, [.ref xp, .ref xtp, .ref xn, .ref xt, .ref xk, .ref xl, .ref xc, .ref xo, .ref xto, .ref xr, .ref xch, .int ts, .int ik, .int st])), (xn, .inr (4, [.ref ek, .ref ef, .ref ew, .ref ep, .ref es, .int sz0, .int sy, .int dn])), (xr, .inl (aC 0, 7, .inl rf))] sz) []) (va_A [(h0, .inr (11, [.ref xp, .ref xtp, .ref xn, .ref xt, .ref xk, .ref xl, .ref xc, .ref xo, .ref xto, .ref xr, .ref xch, .int ts, .int ik, .int st])), (xn, .inr (4, [.ref ek, .ref ef, .ref ew, .ref ep, .ref es, .int sz0, .int sy, .int dn])), (xr, .inl (aC 0, 7, .inl rf))] sz)) 0 0 (va_A [(h0, .inr (11, [.ref xp, .ref xtp, .ref xn, .ref xt, .ref xk, .ref xl, .ref xc, .ref xo, .ref xto, .ref xr, .ref xch, .int ts, .int ik, .int st])), (xn, .inr (4, [.ref ek, .ref ef, .ref ew, .ref ep, .ref es, .int sz0, .int sy, .int dn])), (xr, .inl (aC 0, 7, .inl rf))] sz) := by
  refine Met.ofW (cc := cX11_price) (maxL := 3) (ret := (some .int)) (by decide) rfl ?_
  intro p e s m args below meth c s₁ B hml hv
  obtain ⟨rfl, hsz, hP, hK, hD0, hN⟩ := hv
  have hx := B.exec
  have hb := B.bytes
  have hr := B.returns
  have hts0 := atoms_spec (ws := (wW yX11_price cX11_price 3 (some .int))) B.pre
  have hts : ∀ w9 ∈ lw_G, w9.before ([.ref h0, .int i, .int a2] : List Value).toArray s = true := fun w9 h9 => hts0 w9 (List.mem_cons_of_mem _ h9)
  have hown : s.vm.findClass RX11 = some m.cls := findClass_of_methodNamed B.named
  have hlocks := B.notSynchronized
  subst hsz
  have hD := hD0.self (sz := s.heap.size)
  generalize hAe : va_A [(h0, .inr (11, [.ref xp, .ref xtp, .ref xn, .ref xt, .ref xk, .ref xl, .ref xc, .ref xo, .ref xto, .ref xr, .ref xch, .int ts, .int ik, .int st])), (xn, .inr (4, [.ref ek, .ref ef, .ref ew, .ref ep, .ref es, .int sz0, .int sy, .int dn])), (xr, .inl (aC 0, 7, .inl rf))] s.heap.size = A at hD ⊢
  have hA : ∀ q : Nat, s.heap.size ≤ q → A q := fun q h => by rw [← hAe]; exact Or.inr h
  obtain ⟨H, hHe⟩ : ∃ H : Heap, H = s.heap := ⟨_, rfl⟩
  have hS : va_S A s.heap H [] := by rw [hHe]; exact va_S.rf
  have hP : va_P (dC, dI) classes [(h0, .inr (11, [.ref xp, .ref xtp, .ref xn, .ref xt, .ref xk, .ref xl, .ref xc, .ref xo, .ref xto, .ref xr, .ref xch, .int ts, .int ik, .int st])), (xn, .inr (4, [.ref ek, .ref ef, .ref ew, .ref ep, .ref es, .int sz0, .int sy, .int dn])), (xr, .inl (aC 0, 7, .inl rf))] H := by rw [hHe]; exact hP
  have hl := lv_entry ([.ref h0, .int i, .int a2]) (n := 3) (Nat.le_of_ble_eq_true rfl)
  rw [lg_entry_eq]
  generalize (lg_sl ([.ref h0, .int i, .int a2]) ++ List.replicate (3 - (lg_sl ([.ref h0, .int i, .int a2])).length) Slot.unset).toArray = ls at hl ⊢
  have hl : lv_has ls 3 [(0, .ref h0), (1, .int i), (2, .int a2)] := hl
  rw [← hHe]
  refine lv_aload_n hx hb dX11_price_0 rfl (lv_at hl 0 rfl) ?_
  refine va_get (D := (dC, dI)) (ci := 11) (v := .ref xn) (C := RX11) (T := TX11) (N := 14) hx hb hts inX11 hown hK hP 0 rfl rfl 2 (by decide) (hts _ (gw kw_228 rfl)) (fun _ h9 => h9) rfl dX11_price_1 ?_
  refine lv_iload_n hx hb dX11_price_4 rfl (lv_at hl 1 rfl) ?_
  have hPc := hP.sub (ws' := [(xn, .inr (4, [.ref ek, .ref ef, .ref ew, .ref ep, .ref es, .int sz0, .int sy, .int dn]))]) [1] rfl
  have hDc := hD.sub (ws' := [(xn, .inr (4, [.ref ek, .ref ef, .ref ew, .ref ep, .ref es, .int sz0, .int sy, .int dn]))]) [1] (by decide) rfl
  have hFc := va_free (wc := [(xn, .inr (4, [.ref ek, .ref ef, .ref ew, .ref ep, .ref es, .int sz0, .int sy, .int dn]))]) hD hS hA [1] rfl
  refine va_calli (va_runV (As := [.int i]) (rest := []) ⟨hx, hb, hml, hown, hts⟩ (c_X4_has l dC dI aC H.size xn ek ef ew ep es sz0 sy dn i ) ⟨(callB_of 1 hts (gG kw_340) rfl rfl rfl (hts _ (gw kw_2 rfl)) (hts _ (gw kw_337 rfl)) (by decide +kernel) ⟨Nat.le_of_ble_eq_true rfl, Nat.le_of_ble_eq_true rfl⟩), (hts _ (gw kw_338 rfl)), (hts _ (gw kw_339 rfl))⟩ ⟨fun a U g mk q => by obtain ⟨q0, q1, qP, qK, qD, qN⟩ := q; exact ⟨q0, q1, qP, va_K.moved (u := U) (U := U.calling g mk a) (Vm.Alike.refl U.vm) qK, qD, NX.same (u := U) (U := U.calling g mk a) rfl qN⟩, va_recv hK hPc (ci := 4) (q0 := 0) rfl rfl, fun U hU hW => ⟨rfl, by rw [hU], by rw [hU]; exact hPc, va_K.moved hW.alike hK, hDc.weaken (fun _ _ _ _ => trivial), NX.warm hW hN⟩⟩ rfl rfl hl.1 rfl (lv_room (Nat.le_of_ble_eq_true rfl)) dX11_price_5 ⟨Nat.le_of_ble_eq_true rfl, Nat.le_of_ble_eq_true rfl⟩) hS (fun q _ h => hFc q h) hFc (fun x_1 u t H1 locs ht hvm hw_1 hB hz1 hk1 hS => ?_)
  obtain ⟨hP1, hK1, hD1⟩ := hB
  rw [ht] at hP1
  clear hK1
  try dsimp only at hw_1
  obtain ⟨hP, hD⟩ := va_join (wr := [(h0, .inr (11, [.ref xp, .ref xtp, .ref xn, .ref xt, .ref xk, .ref xl, .ref xc, .ref xo, .ref xto, .ref xr, .ref xch, .int ts, .int ik, .int st])), (xr, .inl (aC 0, 7, .inl rf))]) (w1 := [(xn, .inr (4, [.ref ek, .ref ef, .ref ew, .ref ep, .ref es, .int sz0, .int sy, .int dn]))]) hP hD [1] [0, 2] rfl rfl (by decide) (by decide) hk1 hFc hP1 hD1
  generalize H1 = H at hP hS ⊢
  have hP : va_P (dC, dI) classes [(h0, .inr (11, [.ref xp, .ref xtp, .ref xn, .ref xt, .ref xk, .ref xl, .ref xc, .ref xo, .ref xto, .ref xr, .ref xch, .int ts, .int ik, .int st])), (xr, .inl (aC 0, 7, .inl rf)), (xn, .inr (4, [.ref ek, .ref ef, .ref ew, .ref ep, .ref es, .int sz0, .int sy, .int dn]))] H := hP
  have hD : va_D A [(h0, .inr (11, [.ref xp, .ref xtp, .ref xn, .ref xt, .ref xk, .ref xl, .ref xc, .ref xo, .ref xto, .ref xr, .ref xch, .int ts, .int ik, .int st])), (xr, .inl (aC 0, 7, .inl rf)), (xn, .inr (4, [.ref ek, .ref ef, .ref ew, .ref ep, .ref es, .int sz0, .int sy, .int dn]))] := hD
  clear hPc hDc hFc hz1 hk1 hP1 hD1 ht hvm
  have hz_5 : x_1 = 0 := by rw [hw_1]; rcases hno with h9 | h9 <;> simp [h9]
  refine lv_if_eq (tgt := 22) hx hb dX11_price_8 (by decide) (fun c_2 => ?_) (fun c_2 => ?_)
  · refine lv_aload_n hx hb dX11_price_22 rfl (lv_at hl 0 rfl) ?_
    refine lv_iconst (v := -1) hx hb dX11_price_23 (by decide) ?_
    have hPc := hP.sub (ws' := [(h0, .inr (11, [.ref xp, .ref xtp, .ref xn, .ref xt, .ref xk, .ref xl, .ref xc, .ref xo, .ref xto, .ref xr, .ref xch, .int ts, .int ik, .int st])), (xr, .inl (aC 0, 7, .inl rf))]) [0, 1] rfl
    have hDc := hD.sub (ws' := [(h0, .inr (11, [.ref xp, .ref xtp, .ref xn, .ref xt, .ref xk, .ref xl, .ref xc, .ref xo, .ref xto, .ref xr, .ref xch, .int ts, .int ik, .int st])), (xr, .inl (aC 0, 7, .inl rf))]) [0, 1] (by decide) rfl
    have hFc := va_free (wc := [(h0, .inr (11, [.ref xp, .ref xtp, .ref xn, .ref xt, .ref xk, .ref xl, .ref xc, .ref xo, .ref xto, .ref xr, .ref xch, .int ts, .int ik, .int st])), (xr, .inl (aC 0, 7, .inl rf))]) hD hS hA [0, 1] rfl
    refine va_calli (va_runV (As := [.int (-1)]) (rest := []) ⟨hx, hb, hml, hown, hts⟩ (c_X11_refuse l dC dI aC H.size h0 xp xtp xn xt xk xl xc xo xto xr xch ts ik st (-1) 1 rf (by decide) (by decide) (by decide) (by unfold vp_in; decide)) ⟨(callB_of 1 hts (gG kw_276) rfl rfl rfl (hts _ (gw kw_1 rfl)) (hts _ (gw kw_273 rfl)) (by decide +kernel) ⟨Nat.le_of_ble_eq_true rfl, Nat.le_of_ble_eq_true rfl⟩), (hts _ (gw kw_275 rfl)), (hts _ (gw ks_0 rfl))⟩ ⟨fun a U g mk q => by obtain ⟨q0, q1, qP, qK, qD, qN⟩ := q; exact ⟨q0, q1, qP, va_K.moved (u := U) (U := U.calling g mk a) (Vm.Alike.refl U.vm) qK, qD, NX.same (u := U) (U := U.calling g mk a) rfl qN⟩, va_recv hK hPc (ci := 11) (q0 := 0) rfl rfl, fun U hU hW => ⟨rfl, by rw [hU], by rw [hU]; exact hPc, va_K.moved hW.alike hK, hDc.weaken (fun _ _ _ _ => trivial), NX.warm hW hN⟩⟩ rfl rfl hl.1 rfl (lv_room (Nat.le_of_ble_eq_true rfl)) dX11_price_24 ⟨Nat.le_of_ble_eq_true rfl, Nat.le_of_ble_eq_true rfl⟩) hS (fun q _ h => hFc q h) hFc (fun x_3 u t H1 locs ht hvm hw_3 hB hz1 hk1 hS => ?_)
    obtain ⟨u_4, rfl⟩ : ∃ z, z = u := ⟨_, rfl⟩
    obtain ⟨hP1, hK1, hD1⟩ := hB
    rw [ht] at hP1
    clear hK1
    try dsimp only at hw_3
    obtain ⟨hP, hD⟩ := va_join (wr := [(xn, .inr (4, [.ref ek, .ref ef, .ref ew, .ref ep, .ref es, .int sz0, .int sy, .int dn]))]) (w1 := [(h0, .inr (11, [.ref xp, .ref xtp, .ref xn, .ref xt, .ref xk, .ref xl, .ref xc, .ref xo, .ref xto, .ref xr, .ref xch, .int ts, .int ik, .int st])), (xr, .inl (aC 0, 7, .inl u_4))]) hP hD [0, 1] [2] rfl rfl (by decide) (by decide) hk1 hFc hP1 hD1
    generalize H1 = H at hP hS ⊢
    have hP : va_P (dC, dI) classes [(xn, .inr (4, [.ref ek, .ref ef, .ref ew, .ref ep, .ref es, .int sz0, .int sy, .int dn])), (h0, .inr (11, [.ref xp, .ref xtp, .ref xn, .ref xt, .ref xk, .ref xl, .ref xc, .ref xo, .ref xto, .ref xr, .ref xch, .int ts, .int ik, .int st])), (xr, .inl (aC 0, 7, .inl u_4))] H := hP
    have hD : va_D A [(xn, .inr (4, [.ref ek, .ref ef, .ref ew, .ref ep, .ref es, .int sz0, .int sy, .int dn])), (h0, .inr (11, [.ref xp, .ref xtp, .ref xn, .ref xt, .ref xk, .ref xl, .ref xc, .ref xo, .ref xto, .ref xr, .ref xch, .int ts, .int ik, .int st])), (xr, .inl (aC 0, 7, .inl u_4))] := hD
    clear hPc hDc hFc hz1 hk1 hP1 hD1 ht hvm
    obtain ⟨hv9, hv8⟩ := hw_3
    have hP9 := hP.sub (ws' := []) [] rfl
    have hD9 := hD.sub (ws' := []) [] (by decide) rfl
    refine W.widen (k := 0) (n := 0) (by omega) (by omega) ?_
    exact W.iret (v := x_3) hx hb hr (fun t ht hW => ⟨⟨x_3, (), rfl, hv9, by rw [ht]; exact hP9, va_K.moved hW.alike hK, hD9⟩, hS.F ht⟩) hS.2.2 dX11_price_27
  · exact absurd hz_5 c_2

set_option maxHeartbeats 4000000 in
set_option maxRecDepth 100000 in
/-- X11_votes_r -/
theorem c_X11_votes_r (l : Launch) (dC : Nat → ClassId) (dI : Nat → Nat → Nat) (aC : Nat → ClassId) (sz : Nat) (h0 : Nat) (xp : Nat) (xtp : Nat) (xn : Nat) (xt : Nat) (xk : Nat) (xl : Nat) (xc : Nat) (xo : Nat) (xto : Nat) (xr : Nat) (xch : Nat) (ts : Int32) (ik : Int32) (st : Int32) (ek : Nat) (ef : Nat) (ew : Nat) (ep : Nat) (es : Nat) (sz0 : Int32) (sy : Int32) (dn : Int32) (rf : Nat → Int32) (i : Int32) (hno : i < 0 ∨ sz0 ≤ i) : Met l yX11_votes (wW yX11_votes cX11_votes 2 (some .int)) ({ frames := 1, cells := 0, slots := 0, locals := 21 } : Room) (va_Pc [.ref h0, .int i] (fun U => U.heap.size = sz ∧ va_P (dC, dI) classes [(h0, .inr (11, [.ref xp, .ref xtp, .ref xn, .ref xt, .ref xk, .ref xl, .ref xc, .ref xo, .ref xto, .ref xr, .ref xch, .int ts, .int ik, .int st])), (xn, .inr (4, [.ref ek, .ref ef, .ref ew, .ref ep, .ref es, .int sz0, .int sy, .int dn])), (xr, .inl (aC 0, 7, .inl rf))] U.heap ∧ va_K (dC, dI) classes (TY aC) U ∧ va_D (fun _ => True) [(h0, .inr (11, [.ref xp, .ref xtp, .ref xn, .ref xt, .ref xk, .ref xl, .ref xc, .ref xo, .ref xto, .ref xr, .ref xch, .int ts, .int ik, .int st])), (xn, .inr (4, [.ref ek, .ref ef, .ref ew, .ref ep, .ref es, .int sz0, .int sy, .int dn])), (xr, .inl (aC 0, 7, .inl rf))] ∧ NX U)) (va_Qi (fun (r : Int32) (_ : Unit) => r = -1) (fun (_ : Unit) (t : State) => va_P (dC, dI) classes [] t.heap ∧ va_K (dC, dI) classes (TY aC) t ∧ va_D (va_A [(h0, .inr (11, [.ref xp, .ref xtp, .ref xn, .ref xt, .ref xk, .ref xl, .ref xc, .ref xo, .ref xto, .ref xr, .ref xch, .int ts, .int ik, .int st])), (xn, .inr (4, [.ref ek, .ref ef, .ref ew, .ref ep, .ref es, .int sz0, .int sy, .int dn])), (xr, .inl (aC 0, 7, .inl rf))] sz) []) (va_A [(h0, .inr (11, [.ref xp, .ref xtp, .ref xn, .ref xt, .ref xk, .ref xl, .ref xc, .ref xo, .ref xto, .ref xr, .ref xch, .int ts, .int ik, .int st])), (xn, .inr (4, [.ref ek, .ref ef, .ref ew, .ref ep, .ref es, .int sz0, .int sy, .int dn])), (xr, .inl (aC 0, 7, .inl rf))] sz)) 0 0 (va_A [(h0, .inr (11, [.ref xp, .ref xtp, .ref xn, .ref xt, .ref xk, .ref xl, .ref xc, .ref xo, .ref xto, .ref xr, .ref xch, .int ts, .int ik, .int st])), (xn, .inr (4, [.ref ek, .ref ef, .ref ew, .ref ep, .ref es, .int sz0, .int sy, .int dn])), (xr, .inl (aC 0, 7, .inl rf))] sz) := by
  refine Met.ofW (cc := cX11_votes) (maxL := 2) (ret := (some .int)) (by decide) rfl ?_
  intro p e s m args below meth c s₁ B hml hv
  obtain ⟨rfl, hsz, hP, hK, hD0, hN⟩ := hv
  have hx := B.exec
  have hb := B.bytes
  have hr := B.returns
  have hts0 := atoms_spec (ws := (wW yX11_votes cX11_votes 2 (some .int))) B.pre
  have hts : ∀ w9 ∈ lw_G, w9.before ([.ref h0, .int i] : List Value).toArray s = true := fun w9 h9 => hts0 w9 (List.mem_cons_of_mem _ h9)
  have hown : s.vm.findClass RX11 = some m.cls := findClass_of_methodNamed B.named
  have hlocks := B.notSynchronized
  subst hsz
  have hD := hD0.self (sz := s.heap.size)
  generalize hAe : va_A [(h0, .inr (11, [.ref xp, .ref xtp, .ref xn, .ref xt, .ref xk, .ref xl, .ref xc, .ref xo, .ref xto, .ref xr, .ref xch, .int ts, .int ik, .int st])), (xn, .inr (4, [.ref ek, .ref ef, .ref ew, .ref ep, .ref es, .int sz0, .int sy, .int dn])), (xr, .inl (aC 0, 7, .inl rf))] s.heap.size = A at hD ⊢
  have hA : ∀ q : Nat, s.heap.size ≤ q → A q := fun q h => by rw [← hAe]; exact Or.inr h
  obtain ⟨H, hHe⟩ : ∃ H : Heap, H = s.heap := ⟨_, rfl⟩
  have hS : va_S A s.heap H [] := by rw [hHe]; exact va_S.rf
  have hP : va_P (dC, dI) classes [(h0, .inr (11, [.ref xp, .ref xtp, .ref xn, .ref xt, .ref xk, .ref xl, .ref xc, .ref xo, .ref xto, .ref xr, .ref xch, .int ts, .int ik, .int st])), (xn, .inr (4, [.ref ek, .ref ef, .ref ew, .ref ep, .ref es, .int sz0, .int sy, .int dn])), (xr, .inl (aC 0, 7, .inl rf))] H := by rw [hHe]; exact hP
  have hl := lv_entry ([.ref h0, .int i]) (n := 2) (Nat.le_of_ble_eq_true rfl)
  rw [lg_entry_eq]
  generalize (lg_sl ([.ref h0, .int i]) ++ List.replicate (2 - (lg_sl ([.ref h0, .int i])).length) Slot.unset).toArray = ls at hl ⊢
  have hl : lv_has ls 2 [(0, .ref h0), (1, .int i)] := hl
  rw [← hHe]
  refine lv_aload_n hx hb dX11_votes_0 rfl (lv_at hl 0 rfl) ?_
  refine va_get (D := (dC, dI)) (ci := 11) (v := .ref xn) (C := RX11) (T := TX11) (N := 14) hx hb hts inX11 hown hK hP 0 rfl rfl 2 (by decide) (hts _ (gw kw_228 rfl)) (fun _ h9 => h9) rfl dX11_votes_1 ?_
  refine lv_iload_n hx hb dX11_votes_4 rfl (lv_at hl 1 rfl) ?_
  have hPc := hP.sub (ws' := [(xn, .inr (4, [.ref ek, .ref ef, .ref ew, .ref ep, .ref es, .int sz0, .int sy, .int dn]))]) [1] rfl
  have hDc := hD.sub (ws' := [(xn, .inr (4, [.ref ek, .ref ef, .ref ew, .ref ep, .ref es, .int sz0, .int sy, .int dn]))]) [1] (by decide) rfl
  have hFc := va_free (wc := [(xn, .inr (4, [.ref ek, .ref ef, .ref ew, .ref ep, .ref es, .int sz0, .int sy, .int dn]))]) hD hS hA [1] rfl
  refine va_calli (va_runV (As := [.int i]) (rest := []) ⟨hx, hb, hml, hown, hts⟩ (c_X4_has l dC dI aC H.size xn ek ef ew ep es sz0 sy dn i ) ⟨(callB_of 1 hts (gG kw_340) rfl rfl rfl (hts _ (gw kw_2 rfl)) (hts _ (gw kw_337 rfl)) (by decide +kernel) ⟨Nat.le_of_ble_eq_true rfl, Nat.le_of_ble_eq_true rfl⟩), (hts _ (gw kw_338 rfl)), (hts _ (gw kw_339 rfl))⟩ ⟨fun a U g mk q => by obtain ⟨q0, q1, qP, qK, qD, qN⟩ := q; exact ⟨q0, q1, qP, va_K.moved (u := U) (U := U.calling g mk a) (Vm.Alike.refl U.vm) qK, qD, NX.same (u := U) (U := U.calling g mk a) rfl qN⟩, va_recv hK hPc (ci := 4) (q0 := 0) rfl rfl, fun U hU hW => ⟨rfl, by rw [hU], by rw [hU]; exact hPc, va_K.moved hW.alike hK, hDc.weaken (fun _ _ _ _ => trivial), NX.warm hW hN⟩⟩ rfl rfl hl.1 rfl (lv_room (Nat.le_of_ble_eq_true rfl)) dX11_votes_5 ⟨Nat.le_of_ble_eq_true rfl, Nat.le_of_ble_eq_true rfl⟩) hS (fun q _ h => hFc q h) hFc (fun x_1 u t H1 locs ht hvm hw_1 hB hz1 hk1 hS => ?_)
  obtain ⟨hP1, hK1, hD1⟩ := hB
  rw [ht] at hP1
  clear hK1
  try dsimp only at hw_1
  obtain ⟨hP, hD⟩ := va_join (wr := [(h0, .inr (11, [.ref xp, .ref xtp, .ref xn, .ref xt, .ref xk, .ref xl, .ref xc, .ref xo, .ref xto, .ref xr, .ref xch, .int ts, .int ik, .int st])), (xr, .inl (aC 0, 7, .inl rf))]) (w1 := [(xn, .inr (4, [.ref ek, .ref ef, .ref ew, .ref ep, .ref es, .int sz0, .int sy, .int dn]))]) hP hD [1] [0, 2] rfl rfl (by decide) (by decide) hk1 hFc hP1 hD1
  generalize H1 = H at hP hS ⊢
  have hP : va_P (dC, dI) classes [(h0, .inr (11, [.ref xp, .ref xtp, .ref xn, .ref xt, .ref xk, .ref xl, .ref xc, .ref xo, .ref xto, .ref xr, .ref xch, .int ts, .int ik, .int st])), (xr, .inl (aC 0, 7, .inl rf)), (xn, .inr (4, [.ref ek, .ref ef, .ref ew, .ref ep, .ref es, .int sz0, .int sy, .int dn]))] H := hP
  have hD : va_D A [(h0, .inr (11, [.ref xp, .ref xtp, .ref xn, .ref xt, .ref xk, .ref xl, .ref xc, .ref xo, .ref xto, .ref xr, .ref xch, .int ts, .int ik, .int st])), (xr, .inl (aC 0, 7, .inl rf)), (xn, .inr (4, [.ref ek, .ref ef, .ref ew, .ref ep, .ref es, .int sz0, .int sy, .int dn]))] := hD
  clear hPc hDc hFc hz1 hk1 hP1 hD1 ht hvm
  have hz_5 : x_1 = 0 := by rw [hw_1]; rcases hno with h9 | h9 <;> simp [h9]
  refine lv_if_eq (tgt := 23) hx hb dX11_votes_8 (by decide) (fun c_2 => ?_) (fun c_2 => ?_)
  · refine lv_aload_n hx hb dX11_votes_23 rfl (lv_at hl 0 rfl) ?_
    refine lv_iconst (v := -1) hx hb dX11_votes_24 (by decide) ?_
    have hPc := hP.sub (ws' := [(h0, .inr (11, [.ref xp, .ref xtp, .ref xn, .ref xt, .ref xk, .ref xl, .ref xc, .ref xo, .ref xto, .ref xr, .ref xch, .int ts, .int ik, .int st])), (xr, .inl (aC 0, 7, .inl rf))]) [0, 1] rfl
    have hDc := hD.sub (ws' := [(h0, .inr (11, [.ref xp, .ref xtp, .ref xn, .ref xt, .ref xk, .ref xl, .ref xc, .ref xo, .ref xto, .ref xr, .ref xch, .int ts, .int ik, .int st])), (xr, .inl (aC 0, 7, .inl rf))]) [0, 1] (by decide) rfl
    have hFc := va_free (wc := [(h0, .inr (11, [.ref xp, .ref xtp, .ref xn, .ref xt, .ref xk, .ref xl, .ref xc, .ref xo, .ref xto, .ref xr, .ref xch, .int ts, .int ik, .int st])), (xr, .inl (aC 0, 7, .inl rf))]) hD hS hA [0, 1] rfl
    refine va_calli (va_runV (As := [.int (-1)]) (rest := []) ⟨hx, hb, hml, hown, hts⟩ (c_X11_refuse l dC dI aC H.size h0 xp xtp xn xt xk xl xc xo xto xr xch ts ik st (-1) 1 rf (by decide) (by decide) (by decide) (by unfold vp_in; decide)) ⟨(callB_of 1 hts (gG kw_276) rfl rfl rfl (hts _ (gw kw_1 rfl)) (hts _ (gw kw_273 rfl)) (by decide +kernel) ⟨Nat.le_of_ble_eq_true rfl, Nat.le_of_ble_eq_true rfl⟩), (hts _ (gw kw_275 rfl)), (hts _ (gw ks_0 rfl))⟩ ⟨fun a U g mk q => by obtain ⟨q0, q1, qP, qK, qD, qN⟩ := q; exact ⟨q0, q1, qP, va_K.moved (u := U) (U := U.calling g mk a) (Vm.Alike.refl U.vm) qK, qD, NX.same (u := U) (U := U.calling g mk a) rfl qN⟩, va_recv hK hPc (ci := 11) (q0 := 0) rfl rfl, fun U hU hW => ⟨rfl, by rw [hU], by rw [hU]; exact hPc, va_K.moved hW.alike hK, hDc.weaken (fun _ _ _ _ => trivial), NX.warm hW hN⟩⟩ rfl rfl hl.1 rfl (lv_room (Nat.le_of_ble_eq_true rfl)) dX11_votes_25 ⟨Nat.le_of_ble_eq_true rfl, Nat.le_of_ble_eq_true rfl⟩) hS (fun q _ h => hFc q h) hFc (fun x_3 u t H1 locs ht hvm hw_3 hB hz1 hk1 hS => ?_)
    obtain ⟨u_4, rfl⟩ : ∃ z, z = u := ⟨_, rfl⟩
    obtain ⟨hP1, hK1, hD1⟩ := hB
    rw [ht] at hP1
    clear hK1
    try dsimp only at hw_3
    obtain ⟨hP, hD⟩ := va_join (wr := [(xn, .inr (4, [.ref ek, .ref ef, .ref ew, .ref ep, .ref es, .int sz0, .int sy, .int dn]))]) (w1 := [(h0, .inr (11, [.ref xp, .ref xtp, .ref xn, .ref xt, .ref xk, .ref xl, .ref xc, .ref xo, .ref xto, .ref xr, .ref xch, .int ts, .int ik, .int st])), (xr, .inl (aC 0, 7, .inl u_4))]) hP hD [0, 1] [2] rfl rfl (by decide) (by decide) hk1 hFc hP1 hD1
    generalize H1 = H at hP hS ⊢
    have hP : va_P (dC, dI) classes [(xn, .inr (4, [.ref ek, .ref ef, .ref ew, .ref ep, .ref es, .int sz0, .int sy, .int dn])), (h0, .inr (11, [.ref xp, .ref xtp, .ref xn, .ref xt, .ref xk, .ref xl, .ref xc, .ref xo, .ref xto, .ref xr, .ref xch, .int ts, .int ik, .int st])), (xr, .inl (aC 0, 7, .inl u_4))] H := hP
    have hD : va_D A [(xn, .inr (4, [.ref ek, .ref ef, .ref ew, .ref ep, .ref es, .int sz0, .int sy, .int dn])), (h0, .inr (11, [.ref xp, .ref xtp, .ref xn, .ref xt, .ref xk, .ref xl, .ref xc, .ref xo, .ref xto, .ref xr, .ref xch, .int ts, .int ik, .int st])), (xr, .inl (aC 0, 7, .inl u_4))] := hD
    clear hPc hDc hFc hz1 hk1 hP1 hD1 ht hvm
    obtain ⟨hv9, hv8⟩ := hw_3
    have hP9 := hP.sub (ws' := []) [] rfl
    have hD9 := hD.sub (ws' := []) [] (by decide) rfl
    refine W.widen (k := 0) (n := 0) (by omega) (by omega) ?_
    exact W.iret (v := x_3) hx hb hr (fun t ht hW => ⟨⟨x_3, (), rfl, hv9, by rw [ht]; exact hP9, va_K.moved hW.alike hK, hD9⟩, hS.F ht⟩) hS.2.2 dX11_votes_28
  · exact absurd hz_5 c_2

set_option maxHeartbeats 4000000 in
set_option maxRecDepth 100000 in
/-- X11_carries_r -/
theorem c_X11_carries_r (l : Launch) (dC : Nat → ClassId) (dI : Nat → Nat → Nat) (aC : Nat → ClassId) (sz : Nat) (h0 : Nat) (xp : Nat) (xtp : Nat) (xn : Nat) (xt : Nat) (xk : Nat) (xl : Nat) (xc : Nat) (xo : Nat) (xto : Nat) (xr : Nat) (xch : Nat) (ts : Int32) (ik : Int32) (st : Int32) (ek : Nat) (ef : Nat) (ew : Nat) (ep : Nat) (es : Nat) (sz0 : Int32) (sy : Int32) (dn : Int32) (rf : Nat → Int32) (i : Int32) (hno : i < 0 ∨ sz0 ≤ i) : Met l yX11_carries (wW yX11_carries cX11_carries 2 (some .int)) ({ frames := 1, cells := 0, slots := 0, locals := 21 } : Room) (va_Pc [.ref h0, .int i] (fun U => U.heap.size = sz ∧ va_P (dC, dI) classes [(h0, .inr (11, [.ref xp, .ref xtp, .ref xn, .ref xt, .ref xk, .ref xl, .ref xc, .ref xo, .ref xto, .ref xr, .ref xch, .int ts, .int ik, .int st])), (xn, .inr (4, [.ref ek, .ref ef, .ref ew, .ref ep, .ref es, .int sz0, .int sy, .int dn])), (xr, .inl (aC 0, 7, .inl rf))] U.heap ∧ va_K (dC, dI) classes (TY aC) U ∧ va_D (fun _ => True) [(h0, .inr (11, [.ref xp, .ref xtp, .ref xn, .ref xt, .ref xk, .ref xl, .ref xc, .ref xo, .ref xto, .ref xr, .ref xch, .int ts, .int ik, .int st])), (xn, .inr (4, [.ref ek, .ref ef, .ref ew, .ref ep, .ref es, .int sz0, .int sy, .int dn])), (xr, .inl (aC 0, 7, .inl rf))] ∧ NX U)) (va_Qi (fun (r : Int32) (_ : Unit) => r = -1) (fun (_ : Unit) (t : State) => va_P (dC, dI) classes [] t.heap ∧ va_K (dC, dI) classes (TY aC) t ∧ va_D (va_A [(h0, .inr (11, [.ref xp, .ref xtp, .ref xn, .ref xt, .ref xk, .ref xl, .ref xc, .ref xo, .ref xto, .ref xr, .ref xch, .int ts, .int ik, .int st])), (xn, .inr (4, [.ref ek, .ref ef, .ref ew, .ref ep, .ref es, .int sz0, .int sy, .int dn])), (xr, .inl (aC 0, 7, .inl rf))] sz) []) (va_A [(h0, .inr (11, [.ref xp, .ref xtp, .ref xn, .ref xt, .ref xk, .ref xl, .ref xc, .ref xo, .ref xto, .ref xr, .ref xch, .int ts, .int ik, .int st])), (xn, .inr (4, [.ref ek, .ref ef, .ref ew, .ref ep, .ref es, .int sz0, .int sy, .int dn])), (xr, .inl (aC 0, 7, .inl rf))] sz)) 0 0 (va_A [(h0, .inr (11, [.ref xp, .ref xtp, .ref xn, .ref xt, .ref xk, .ref xl, .ref xc, .ref xo, .ref xto, .ref xr, .ref xch, .int ts, .int ik, .int st])), (xn, .inr (4, [.ref ek, .ref ef, .ref ew, .ref ep, .ref es, .int sz0, .int sy, .int dn])), (xr, .inl (aC 0, 7, .inl rf))] sz) := by
  refine Met.ofW (cc := cX11_carries) (maxL := 2) (ret := (some .int)) (by decide) rfl ?_
  intro p e s m args below meth c s₁ B hml hv
  obtain ⟨rfl, hsz, hP, hK, hD0, hN⟩ := hv
  have hx := B.exec
  have hb := B.bytes
  have hr := B.returns
  have hts0 := atoms_spec (ws := (wW yX11_carries cX11_carries 2 (some .int))) B.pre
  have hts : ∀ w9 ∈ lw_G, w9.before ([.ref h0, .int i] : List Value).toArray s = true := fun w9 h9 => hts0 w9 (List.mem_cons_of_mem _ h9)
  have hown : s.vm.findClass RX11 = some m.cls := findClass_of_methodNamed B.named
  have hlocks := B.notSynchronized
  subst hsz
  have hD := hD0.self (sz := s.heap.size)
  generalize hAe : va_A [(h0, .inr (11, [.ref xp, .ref xtp, .ref xn, .ref xt, .ref xk, .ref xl, .ref xc, .ref xo, .ref xto, .ref xr, .ref xch, .int ts, .int ik, .int st])), (xn, .inr (4, [.ref ek, .ref ef, .ref ew, .ref ep, .ref es, .int sz0, .int sy, .int dn])), (xr, .inl (aC 0, 7, .inl rf))] s.heap.size = A at hD ⊢
  have hA : ∀ q : Nat, s.heap.size ≤ q → A q := fun q h => by rw [← hAe]; exact Or.inr h
  obtain ⟨H, hHe⟩ : ∃ H : Heap, H = s.heap := ⟨_, rfl⟩
  have hS : va_S A s.heap H [] := by rw [hHe]; exact va_S.rf
  have hP : va_P (dC, dI) classes [(h0, .inr (11, [.ref xp, .ref xtp, .ref xn, .ref xt, .ref xk, .ref xl, .ref xc, .ref xo, .ref xto, .ref xr, .ref xch, .int ts, .int ik, .int st])), (xn, .inr (4, [.ref ek, .ref ef, .ref ew, .ref ep, .ref es, .int sz0, .int sy, .int dn])), (xr, .inl (aC 0, 7, .inl rf))] H := by rw [hHe]; exact hP
  have hl := lv_entry ([.ref h0, .int i]) (n := 2) (Nat.le_of_ble_eq_true rfl)
  rw [lg_entry_eq]
  generalize (lg_sl ([.ref h0, .int i]) ++ List.replicate (2 - (lg_sl ([.ref h0, .int i])).length) Slot.unset).toArray = ls at hl ⊢
  have hl : lv_has ls 2 [(0, .ref h0), (1, .int i)] := hl
  rw [← hHe]
  refine lv_aload_n hx hb dX11_carries_0 rfl (lv_at hl 0 rfl) ?_
  refine va_get (D := (dC, dI)) (ci := 11) (v := .ref xn) (C := RX11) (T := TX11) (N := 14) hx hb hts inX11 hown hK hP 0 rfl rfl 2 (by decide) (hts _ (gw kw_228 rfl)) (fun _ h9 => h9) rfl dX11_carries_1 ?_
  refine lv_iload_n hx hb dX11_carries_4 rfl (lv_at hl 1 rfl) ?_
  have hPc := hP.sub (ws' := [(xn, .inr (4, [.ref ek, .ref ef, .ref ew, .ref ep, .ref es, .int sz0, .int sy, .int dn]))]) [1] rfl
  have hDc := hD.sub (ws' := [(xn, .inr (4, [.ref ek, .ref ef, .ref ew, .ref ep, .ref es, .int sz0, .int sy, .int dn]))]) [1] (by decide) rfl
  have hFc := va_free (wc := [(xn, .inr (4, [.ref ek, .ref ef, .ref ew, .ref ep, .ref es, .int sz0, .int sy, .int dn]))]) hD hS hA [1] rfl
  refine va_calli (va_runV (As := [.int i]) (rest := []) ⟨hx, hb, hml, hown, hts⟩ (c_X4_has l dC dI aC H.size xn ek ef ew ep es sz0 sy dn i ) ⟨(callB_of 1 hts (gG kw_340) rfl rfl rfl (hts _ (gw kw_2 rfl)) (hts _ (gw kw_337 rfl)) (by decide +kernel) ⟨Nat.le_of_ble_eq_true rfl, Nat.le_of_ble_eq_true rfl⟩), (hts _ (gw kw_338 rfl)), (hts _ (gw kw_339 rfl))⟩ ⟨fun a U g mk q => by obtain ⟨q0, q1, qP, qK, qD, qN⟩ := q; exact ⟨q0, q1, qP, va_K.moved (u := U) (U := U.calling g mk a) (Vm.Alike.refl U.vm) qK, qD, NX.same (u := U) (U := U.calling g mk a) rfl qN⟩, va_recv hK hPc (ci := 4) (q0 := 0) rfl rfl, fun U hU hW => ⟨rfl, by rw [hU], by rw [hU]; exact hPc, va_K.moved hW.alike hK, hDc.weaken (fun _ _ _ _ => trivial), NX.warm hW hN⟩⟩ rfl rfl hl.1 rfl (lv_room (Nat.le_of_ble_eq_true rfl)) dX11_carries_5 ⟨Nat.le_of_ble_eq_true rfl, Nat.le_of_ble_eq_true rfl⟩) hS (fun q _ h => hFc q h) hFc (fun x_1 u t H1 locs ht hvm hw_1 hB hz1 hk1 hS => ?_)
  obtain ⟨hP1, hK1, hD1⟩ := hB
  rw [ht] at hP1
  clear hK1
  try dsimp only at hw_1
  obtain ⟨hP, hD⟩ := va_join (wr := [(h0, .inr (11, [.ref xp, .ref xtp, .ref xn, .ref xt, .ref xk, .ref xl, .ref xc, .ref xo, .ref xto, .ref xr, .ref xch, .int ts, .int ik, .int st])), (xr, .inl (aC 0, 7, .inl rf))]) (w1 := [(xn, .inr (4, [.ref ek, .ref ef, .ref ew, .ref ep, .ref es, .int sz0, .int sy, .int dn]))]) hP hD [1] [0, 2] rfl rfl (by decide) (by decide) hk1 hFc hP1 hD1
  generalize H1 = H at hP hS ⊢
  have hP : va_P (dC, dI) classes [(h0, .inr (11, [.ref xp, .ref xtp, .ref xn, .ref xt, .ref xk, .ref xl, .ref xc, .ref xo, .ref xto, .ref xr, .ref xch, .int ts, .int ik, .int st])), (xr, .inl (aC 0, 7, .inl rf)), (xn, .inr (4, [.ref ek, .ref ef, .ref ew, .ref ep, .ref es, .int sz0, .int sy, .int dn]))] H := hP
  have hD : va_D A [(h0, .inr (11, [.ref xp, .ref xtp, .ref xn, .ref xt, .ref xk, .ref xl, .ref xc, .ref xo, .ref xto, .ref xr, .ref xch, .int ts, .int ik, .int st])), (xr, .inl (aC 0, 7, .inl rf)), (xn, .inr (4, [.ref ek, .ref ef, .ref ew, .ref ep, .ref es, .int sz0, .int sy, .int dn]))] := hD
  clear hPc hDc hFc hz1 hk1 hP1 hD1 ht hvm
  have hz_5 : x_1 = 0 := by rw [hw_1]; rcases hno with h9 | h9 <;> simp [h9]
  refine lv_if_ne (tgt := 17) hx hb dX11_carries_8 (by decide) (fun c_2 => ?_) (fun c_2 => ?_)
  · exact absurd hz_5 c_2
  · refine lv_aload_n hx hb dX11_carries_11 rfl (lv_at hl 0 rfl) ?_
    refine lv_iconst (v := -1) hx hb dX11_carries_12 (by decide) ?_
    have hPc := hP.sub (ws' := [(h0, .inr (11, [.ref xp, .ref xtp, .ref xn, .ref xt, .ref xk, .ref xl, .ref xc, .ref xo, .ref xto, .ref xr, .ref xch, .int ts, .int ik, .int st])), (xr, .inl (aC 0, 7, .inl rf))]) [0, 1] rfl
    have hDc := hD.sub (ws' := [(h0, .inr (11, [.ref xp, .ref xtp, .ref xn, .ref xt, .ref xk, .ref xl, .ref xc, .ref xo, .ref xto, .ref xr, .ref xch, .int ts, .int ik, .int st])), (xr, .inl (aC 0, 7, .inl rf))]) [0, 1] (by decide) rfl
    have hFc := va_free (wc := [(h0, .inr (11, [.ref xp, .ref xtp, .ref xn, .ref xt, .ref xk, .ref xl, .ref xc, .ref xo, .ref xto, .ref xr, .ref xch, .int ts, .int ik, .int st])), (xr, .inl (aC 0, 7, .inl rf))]) hD hS hA [0, 1] rfl
    refine va_calli (va_runV (As := [.int (-1)]) (rest := []) ⟨hx, hb, hml, hown, hts⟩ (c_X11_refuse l dC dI aC H.size h0 xp xtp xn xt xk xl xc xo xto xr xch ts ik st (-1) 1 rf (by decide) (by decide) (by decide) (by unfold vp_in; decide)) ⟨(callB_of 1 hts (gG kw_276) rfl rfl rfl (hts _ (gw kw_1 rfl)) (hts _ (gw kw_273 rfl)) (by decide +kernel) ⟨Nat.le_of_ble_eq_true rfl, Nat.le_of_ble_eq_true rfl⟩), (hts _ (gw kw_275 rfl)), (hts _ (gw ks_0 rfl))⟩ ⟨fun a U g mk q => by obtain ⟨q0, q1, qP, qK, qD, qN⟩ := q; exact ⟨q0, q1, qP, va_K.moved (u := U) (U := U.calling g mk a) (Vm.Alike.refl U.vm) qK, qD, NX.same (u := U) (U := U.calling g mk a) rfl qN⟩, va_recv hK hPc (ci := 11) (q0 := 0) rfl rfl, fun U hU hW => ⟨rfl, by rw [hU], by rw [hU]; exact hPc, va_K.moved hW.alike hK, hDc.weaken (fun _ _ _ _ => trivial), NX.warm hW hN⟩⟩ rfl rfl hl.1 rfl (lv_room (Nat.le_of_ble_eq_true rfl)) dX11_carries_13 ⟨Nat.le_of_ble_eq_true rfl, Nat.le_of_ble_eq_true rfl⟩) hS (fun q _ h => hFc q h) hFc (fun x_3 u t H1 locs ht hvm hw_3 hB hz1 hk1 hS => ?_)
    obtain ⟨u_4, rfl⟩ : ∃ z, z = u := ⟨_, rfl⟩
    obtain ⟨hP1, hK1, hD1⟩ := hB
    rw [ht] at hP1
    clear hK1
    try dsimp only at hw_3
    obtain ⟨hP, hD⟩ := va_join (wr := [(xn, .inr (4, [.ref ek, .ref ef, .ref ew, .ref ep, .ref es, .int sz0, .int sy, .int dn]))]) (w1 := [(h0, .inr (11, [.ref xp, .ref xtp, .ref xn, .ref xt, .ref xk, .ref xl, .ref xc, .ref xo, .ref xto, .ref xr, .ref xch, .int ts, .int ik, .int st])), (xr, .inl (aC 0, 7, .inl u_4))]) hP hD [0, 1] [2] rfl rfl (by decide) (by decide) hk1 hFc hP1 hD1
    generalize H1 = H at hP hS ⊢
    have hP : va_P (dC, dI) classes [(xn, .inr (4, [.ref ek, .ref ef, .ref ew, .ref ep, .ref es, .int sz0, .int sy, .int dn])), (h0, .inr (11, [.ref xp, .ref xtp, .ref xn, .ref xt, .ref xk, .ref xl, .ref xc, .ref xo, .ref xto, .ref xr, .ref xch, .int ts, .int ik, .int st])), (xr, .inl (aC 0, 7, .inl u_4))] H := hP
    have hD : va_D A [(xn, .inr (4, [.ref ek, .ref ef, .ref ew, .ref ep, .ref es, .int sz0, .int sy, .int dn])), (h0, .inr (11, [.ref xp, .ref xtp, .ref xn, .ref xt, .ref xk, .ref xl, .ref xc, .ref xo, .ref xto, .ref xr, .ref xch, .int ts, .int ik, .int st])), (xr, .inl (aC 0, 7, .inl u_4))] := hD
    clear hPc hDc hFc hz1 hk1 hP1 hD1 ht hvm
    obtain ⟨hv9, hv8⟩ := hw_3
    have hP9 := hP.sub (ws' := []) [] rfl
    have hD9 := hD.sub (ws' := []) [] (by decide) rfl
    refine W.widen (k := 0) (n := 0) (by omega) (by omega) ?_
    exact W.iret (v := x_3) hx hb hr (fun t ht hW => ⟨⟨x_3, (), rfl, hv9, by rw [ht]; exact hP9, va_K.moved hW.alike hK, hD9⟩, hS.F ht⟩) hS.2.2 dX11_carries_16

set_option maxHeartbeats 4000000 in
set_option maxRecDepth 100000 in
/-- X11_ends_r -/
theorem c_X11_ends_r (l : Launch) (dC : Nat → ClassId) (dI : Nat → Nat → Nat) (aC : Nat → ClassId) (sz : Nat) (h0 : Nat) (xp : Nat) (xtp : Nat) (xn : Nat) (xt : Nat) (xk : Nat) (xl : Nat) (xc : Nat) (xo : Nat) (xto : Nat) (xr : Nat) (xch : Nat) (ts : Int32) (ik : Int32) (st : Int32) (ek : Nat) (ef : Nat) (ew : Nat) (ep : Nat) (es : Nat) (sz0 : Int32) (sy : Int32) (dn : Int32) (rf : Nat → Int32) (i : Int32) (hno : i < 0 ∨ sz0 ≤ i) : Met l yX11_ends (wW yX11_ends cX11_ends 2 (some .int)) ({ frames := 1, cells := 0, slots := 0, locals := 21 } : Room) (va_Pc [.ref h0, .int i] (fun U => U.heap.size = sz ∧ va_P (dC, dI) classes [(h0, .inr (11, [.ref xp, .ref xtp, .ref xn, .ref xt, .ref xk, .ref xl, .ref xc, .ref xo, .ref xto, .ref xr, .ref xch, .int ts, .int ik, .int st])), (xn, .inr (4, [.ref ek, .ref ef, .ref ew, .ref ep, .ref es, .int sz0, .int sy, .int dn])), (xr, .inl (aC 0, 7, .inl rf))] U.heap ∧ va_K (dC, dI) classes (TY aC) U ∧ va_D (fun _ => True) [(h0, .inr (11, [.ref xp, .ref xtp, .ref xn, .ref xt, .ref xk, .ref xl, .ref xc, .ref xo, .ref xto, .ref xr, .ref xch, .int ts, .int ik, .int st])), (xn, .inr (4, [.ref ek, .ref ef, .ref ew, .ref ep, .ref es, .int sz0, .int sy, .int dn])), (xr, .inl (aC 0, 7, .inl rf))] ∧ NX U)) (va_Qi (fun (r : Int32) (_ : Unit) => r = -1) (fun (_ : Unit) (t : State) => va_P (dC, dI) classes [] t.heap ∧ va_K (dC, dI) classes (TY aC) t ∧ va_D (va_A [(h0, .inr (11, [.ref xp, .ref xtp, .ref xn, .ref xt, .ref xk, .ref xl, .ref xc, .ref xo, .ref xto, .ref xr, .ref xch, .int ts, .int ik, .int st])), (xn, .inr (4, [.ref ek, .ref ef, .ref ew, .ref ep, .ref es, .int sz0, .int sy, .int dn])), (xr, .inl (aC 0, 7, .inl rf))] sz) []) (va_A [(h0, .inr (11, [.ref xp, .ref xtp, .ref xn, .ref xt, .ref xk, .ref xl, .ref xc, .ref xo, .ref xto, .ref xr, .ref xch, .int ts, .int ik, .int st])), (xn, .inr (4, [.ref ek, .ref ef, .ref ew, .ref ep, .ref es, .int sz0, .int sy, .int dn])), (xr, .inl (aC 0, 7, .inl rf))] sz)) 0 0 (va_A [(h0, .inr (11, [.ref xp, .ref xtp, .ref xn, .ref xt, .ref xk, .ref xl, .ref xc, .ref xo, .ref xto, .ref xr, .ref xch, .int ts, .int ik, .int st])), (xn, .inr (4, [.ref ek, .ref ef, .ref ew, .ref ep, .ref es, .int sz0, .int sy, .int dn])), (xr, .inl (aC 0, 7, .inl rf))] sz) := by
  refine Met.ofW (cc := cX11_ends) (maxL := 2) (ret := (some .int)) (by decide) rfl ?_
  intro p e s m args below meth c s₁ B hml hv
  obtain ⟨rfl, hsz, hP, hK, hD0, hN⟩ := hv
  have hx := B.exec
  have hb := B.bytes
  have hr := B.returns
  have hts0 := atoms_spec (ws := (wW yX11_ends cX11_ends 2 (some .int))) B.pre
  have hts : ∀ w9 ∈ lw_G, w9.before ([.ref h0, .int i] : List Value).toArray s = true := fun w9 h9 => hts0 w9 (List.mem_cons_of_mem _ h9)
  have hown : s.vm.findClass RX11 = some m.cls := findClass_of_methodNamed B.named
  have hlocks := B.notSynchronized
  subst hsz
  have hD := hD0.self (sz := s.heap.size)
  generalize hAe : va_A [(h0, .inr (11, [.ref xp, .ref xtp, .ref xn, .ref xt, .ref xk, .ref xl, .ref xc, .ref xo, .ref xto, .ref xr, .ref xch, .int ts, .int ik, .int st])), (xn, .inr (4, [.ref ek, .ref ef, .ref ew, .ref ep, .ref es, .int sz0, .int sy, .int dn])), (xr, .inl (aC 0, 7, .inl rf))] s.heap.size = A at hD ⊢
  have hA : ∀ q : Nat, s.heap.size ≤ q → A q := fun q h => by rw [← hAe]; exact Or.inr h
  obtain ⟨H, hHe⟩ : ∃ H : Heap, H = s.heap := ⟨_, rfl⟩
  have hS : va_S A s.heap H [] := by rw [hHe]; exact va_S.rf
  have hP : va_P (dC, dI) classes [(h0, .inr (11, [.ref xp, .ref xtp, .ref xn, .ref xt, .ref xk, .ref xl, .ref xc, .ref xo, .ref xto, .ref xr, .ref xch, .int ts, .int ik, .int st])), (xn, .inr (4, [.ref ek, .ref ef, .ref ew, .ref ep, .ref es, .int sz0, .int sy, .int dn])), (xr, .inl (aC 0, 7, .inl rf))] H := by rw [hHe]; exact hP
  have hl := lv_entry ([.ref h0, .int i]) (n := 2) (Nat.le_of_ble_eq_true rfl)
  rw [lg_entry_eq]
  generalize (lg_sl ([.ref h0, .int i]) ++ List.replicate (2 - (lg_sl ([.ref h0, .int i])).length) Slot.unset).toArray = ls at hl ⊢
  have hl : lv_has ls 2 [(0, .ref h0), (1, .int i)] := hl
  rw [← hHe]
  refine lv_aload_n hx hb dX11_ends_0 rfl (lv_at hl 0 rfl) ?_
  refine va_get (D := (dC, dI)) (ci := 11) (v := .ref xn) (C := RX11) (T := TX11) (N := 14) hx hb hts inX11 hown hK hP 0 rfl rfl 2 (by decide) (hts _ (gw kw_228 rfl)) (fun _ h9 => h9) rfl dX11_ends_1 ?_
  refine lv_iload_n hx hb dX11_ends_4 rfl (lv_at hl 1 rfl) ?_
  have hPc := hP.sub (ws' := [(xn, .inr (4, [.ref ek, .ref ef, .ref ew, .ref ep, .ref es, .int sz0, .int sy, .int dn]))]) [1] rfl
  have hDc := hD.sub (ws' := [(xn, .inr (4, [.ref ek, .ref ef, .ref ew, .ref ep, .ref es, .int sz0, .int sy, .int dn]))]) [1] (by decide) rfl
  have hFc := va_free (wc := [(xn, .inr (4, [.ref ek, .ref ef, .ref ew, .ref ep, .ref es, .int sz0, .int sy, .int dn]))]) hD hS hA [1] rfl
  refine va_calli (va_runV (As := [.int i]) (rest := []) ⟨hx, hb, hml, hown, hts⟩ (c_X4_has l dC dI aC H.size xn ek ef ew ep es sz0 sy dn i ) ⟨(callB_of 1 hts (gG kw_340) rfl rfl rfl (hts _ (gw kw_2 rfl)) (hts _ (gw kw_337 rfl)) (by decide +kernel) ⟨Nat.le_of_ble_eq_true rfl, Nat.le_of_ble_eq_true rfl⟩), (hts _ (gw kw_338 rfl)), (hts _ (gw kw_339 rfl))⟩ ⟨fun a U g mk q => by obtain ⟨q0, q1, qP, qK, qD, qN⟩ := q; exact ⟨q0, q1, qP, va_K.moved (u := U) (U := U.calling g mk a) (Vm.Alike.refl U.vm) qK, qD, NX.same (u := U) (U := U.calling g mk a) rfl qN⟩, va_recv hK hPc (ci := 4) (q0 := 0) rfl rfl, fun U hU hW => ⟨rfl, by rw [hU], by rw [hU]; exact hPc, va_K.moved hW.alike hK, hDc.weaken (fun _ _ _ _ => trivial), NX.warm hW hN⟩⟩ rfl rfl hl.1 rfl (lv_room (Nat.le_of_ble_eq_true rfl)) dX11_ends_5 ⟨Nat.le_of_ble_eq_true rfl, Nat.le_of_ble_eq_true rfl⟩) hS (fun q _ h => hFc q h) hFc (fun x_1 u t H1 locs ht hvm hw_1 hB hz1 hk1 hS => ?_)
  obtain ⟨hP1, hK1, hD1⟩ := hB
  rw [ht] at hP1
  clear hK1
  try dsimp only at hw_1
  obtain ⟨hP, hD⟩ := va_join (wr := [(h0, .inr (11, [.ref xp, .ref xtp, .ref xn, .ref xt, .ref xk, .ref xl, .ref xc, .ref xo, .ref xto, .ref xr, .ref xch, .int ts, .int ik, .int st])), (xr, .inl (aC 0, 7, .inl rf))]) (w1 := [(xn, .inr (4, [.ref ek, .ref ef, .ref ew, .ref ep, .ref es, .int sz0, .int sy, .int dn]))]) hP hD [1] [0, 2] rfl rfl (by decide) (by decide) hk1 hFc hP1 hD1
  generalize H1 = H at hP hS ⊢
  have hP : va_P (dC, dI) classes [(h0, .inr (11, [.ref xp, .ref xtp, .ref xn, .ref xt, .ref xk, .ref xl, .ref xc, .ref xo, .ref xto, .ref xr, .ref xch, .int ts, .int ik, .int st])), (xr, .inl (aC 0, 7, .inl rf)), (xn, .inr (4, [.ref ek, .ref ef, .ref ew, .ref ep, .ref es, .int sz0, .int sy, .int dn]))] H := hP
  have hD : va_D A [(h0, .inr (11, [.ref xp, .ref xtp, .ref xn, .ref xt, .ref xk, .ref xl, .ref xc, .ref xo, .ref xto, .ref xr, .ref xch, .int ts, .int ik, .int st])), (xr, .inl (aC 0, 7, .inl rf)), (xn, .inr (4, [.ref ek, .ref ef, .ref ew, .ref ep, .ref es, .int sz0, .int sy, .int dn]))] := hD
  clear hPc hDc hFc hz1 hk1 hP1 hD1 ht hvm
  have hz_5 : x_1 = 0 := by rw [hw_1]; rcases hno with h9 | h9 <;> simp [h9]
  refine lv_if_eq (tgt := 23) hx hb dX11_ends_8 (by decide) (fun c_2 => ?_) (fun c_2 => ?_)
  · refine lv_aload_n hx hb dX11_ends_23 rfl (lv_at hl 0 rfl) ?_
    refine lv_iconst (v := -1) hx hb dX11_ends_24 (by decide) ?_
    have hPc := hP.sub (ws' := [(h0, .inr (11, [.ref xp, .ref xtp, .ref xn, .ref xt, .ref xk, .ref xl, .ref xc, .ref xo, .ref xto, .ref xr, .ref xch, .int ts, .int ik, .int st])), (xr, .inl (aC 0, 7, .inl rf))]) [0, 1] rfl
    have hDc := hD.sub (ws' := [(h0, .inr (11, [.ref xp, .ref xtp, .ref xn, .ref xt, .ref xk, .ref xl, .ref xc, .ref xo, .ref xto, .ref xr, .ref xch, .int ts, .int ik, .int st])), (xr, .inl (aC 0, 7, .inl rf))]) [0, 1] (by decide) rfl
    have hFc := va_free (wc := [(h0, .inr (11, [.ref xp, .ref xtp, .ref xn, .ref xt, .ref xk, .ref xl, .ref xc, .ref xo, .ref xto, .ref xr, .ref xch, .int ts, .int ik, .int st])), (xr, .inl (aC 0, 7, .inl rf))]) hD hS hA [0, 1] rfl
    refine va_calli (va_runV (As := [.int (-1)]) (rest := []) ⟨hx, hb, hml, hown, hts⟩ (c_X11_refuse l dC dI aC H.size h0 xp xtp xn xt xk xl xc xo xto xr xch ts ik st (-1) 1 rf (by decide) (by decide) (by decide) (by unfold vp_in; decide)) ⟨(callB_of 1 hts (gG kw_276) rfl rfl rfl (hts _ (gw kw_1 rfl)) (hts _ (gw kw_273 rfl)) (by decide +kernel) ⟨Nat.le_of_ble_eq_true rfl, Nat.le_of_ble_eq_true rfl⟩), (hts _ (gw kw_275 rfl)), (hts _ (gw ks_0 rfl))⟩ ⟨fun a U g mk q => by obtain ⟨q0, q1, qP, qK, qD, qN⟩ := q; exact ⟨q0, q1, qP, va_K.moved (u := U) (U := U.calling g mk a) (Vm.Alike.refl U.vm) qK, qD, NX.same (u := U) (U := U.calling g mk a) rfl qN⟩, va_recv hK hPc (ci := 11) (q0 := 0) rfl rfl, fun U hU hW => ⟨rfl, by rw [hU], by rw [hU]; exact hPc, va_K.moved hW.alike hK, hDc.weaken (fun _ _ _ _ => trivial), NX.warm hW hN⟩⟩ rfl rfl hl.1 rfl (lv_room (Nat.le_of_ble_eq_true rfl)) dX11_ends_25 ⟨Nat.le_of_ble_eq_true rfl, Nat.le_of_ble_eq_true rfl⟩) hS (fun q _ h => hFc q h) hFc (fun x_3 u t H1 locs ht hvm hw_3 hB hz1 hk1 hS => ?_)
    obtain ⟨u_4, rfl⟩ : ∃ z, z = u := ⟨_, rfl⟩
    obtain ⟨hP1, hK1, hD1⟩ := hB
    rw [ht] at hP1
    clear hK1
    try dsimp only at hw_3
    obtain ⟨hP, hD⟩ := va_join (wr := [(xn, .inr (4, [.ref ek, .ref ef, .ref ew, .ref ep, .ref es, .int sz0, .int sy, .int dn]))]) (w1 := [(h0, .inr (11, [.ref xp, .ref xtp, .ref xn, .ref xt, .ref xk, .ref xl, .ref xc, .ref xo, .ref xto, .ref xr, .ref xch, .int ts, .int ik, .int st])), (xr, .inl (aC 0, 7, .inl u_4))]) hP hD [0, 1] [2] rfl rfl (by decide) (by decide) hk1 hFc hP1 hD1
    generalize H1 = H at hP hS ⊢
    have hP : va_P (dC, dI) classes [(xn, .inr (4, [.ref ek, .ref ef, .ref ew, .ref ep, .ref es, .int sz0, .int sy, .int dn])), (h0, .inr (11, [.ref xp, .ref xtp, .ref xn, .ref xt, .ref xk, .ref xl, .ref xc, .ref xo, .ref xto, .ref xr, .ref xch, .int ts, .int ik, .int st])), (xr, .inl (aC 0, 7, .inl u_4))] H := hP
    have hD : va_D A [(xn, .inr (4, [.ref ek, .ref ef, .ref ew, .ref ep, .ref es, .int sz0, .int sy, .int dn])), (h0, .inr (11, [.ref xp, .ref xtp, .ref xn, .ref xt, .ref xk, .ref xl, .ref xc, .ref xo, .ref xto, .ref xr, .ref xch, .int ts, .int ik, .int st])), (xr, .inl (aC 0, 7, .inl u_4))] := hD
    clear hPc hDc hFc hz1 hk1 hP1 hD1 ht hvm
    obtain ⟨hv9, hv8⟩ := hw_3
    have hP9 := hP.sub (ws' := []) [] rfl
    have hD9 := hD.sub (ws' := []) [] (by decide) rfl
    refine W.widen (k := 0) (n := 0) (by omega) (by omega) ?_
    exact W.iret (v := x_3) hx hb hr (fun t ht hW => ⟨⟨x_3, (), rfl, hv9, by rw [ht]; exact hP9, va_K.moved hW.alike hK, hD9⟩, hS.F ht⟩) hS.2.2 dX11_ends_28
  · exact absurd hz_5 c_2

set_option maxHeartbeats 4000000 in
set_option maxRecDepth 100000 in
/-- X11_gets_r -/
theorem c_X11_gets_r (l : Launch) (dC : Nat → ClassId) (dI : Nat → Nat → Nat) (aC : Nat → ClassId) (sz : Nat) (h0 : Nat) (xp : Nat) (xtp : Nat) (xn : Nat) (xt : Nat) (xk : Nat) (xl : Nat) (xc : Nat) (xo : Nat) (xto : Nat) (xr : Nat) (xch : Nat) (ts : Int32) (ik : Int32) (st : Int32) (ek : Nat) (ef : Nat) (ew : Nat) (ep : Nat) (es : Nat) (sz0 : Int32) (sy : Int32) (dn : Int32) (rf : Nat → Int32) (i : Int32) (a2 : Int32) (hno : i < 0 ∨ sz0 ≤ i) : Met l yX11_gets (wW yX11_gets cX11_gets 3 (some .int)) ({ frames := 1, cells := 0, slots := 0, locals := 21 } : Room) (va_Pc [.ref h0, .int i, .int a2] (fun U => U.heap.size = sz ∧ va_P (dC, dI) classes [(h0, .inr (11, [.ref xp, .ref xtp, .ref xn, .ref xt, .ref xk, .ref xl, .ref xc, .ref xo, .ref xto, .ref xr, .ref xch, .int ts, .int ik, .int st])), (xn, .inr (4, [.ref ek, .ref ef, .ref ew, .ref ep, .ref es, .int sz0, .int sy, .int dn])), (xr, .inl (aC 0, 7, .inl rf))] U.heap ∧ va_K (dC, dI) classes (TY aC) U ∧ va_D (fun _ => True) [(h0, .inr (11, [.ref xp, .ref xtp, .ref xn, .ref xt, .ref xk, .ref xl, .ref xc, .ref xo, .ref xto, .ref xr, .ref xch, .int ts, .int ik, .int st])), (xn, .inr (4, [.ref ek, .ref ef, .ref ew, .ref ep, .ref es, .int sz0, .int sy, .int dn])), (xr, .inl (aC 0, 7, .inl rf))] ∧ NX U)) (va_Qi (fun (r : Int32) (_ : Unit) => r = 1000000001) (fun (_ : Unit) (t : State) => va_P (dC, dI) classes [] t.heap ∧ va_K (dC, dI) classes (TY aC) t ∧ va_D (va_A [(h0, .inr (11, [.ref xp, .ref xtp, .ref xn, .ref xt, .ref xk, .ref xl, .ref xc, .ref xo, .ref xto, .ref xr, .ref xch, .int ts, .int ik, .int st])), (xn, .inr (4, [.ref ek, .ref ef, .ref ew, .ref ep, .ref es, .int sz0, .int sy, .int dn])), (xr, .inl (aC 0, 7, .inl rf))] sz) []) (va_A [(h0, .inr (11, [.ref xp, .ref xtp, .ref xn, .ref xt, .ref xk, .ref xl, .ref xc, .ref xo, .ref xto, .ref xr, .ref xch, .int ts, .int ik, .int st])), (xn, .inr (4, [.ref ek, .ref ef, .ref ew, .ref ep, .ref es, .int sz0, .int sy, .int dn])), (xr, .inl (aC 0, 7, .inl rf))] sz)) 0 0 (va_A [(h0, .inr (11, [.ref xp, .ref xtp, .ref xn, .ref xt, .ref xk, .ref xl, .ref xc, .ref xo, .ref xto, .ref xr, .ref xch, .int ts, .int ik, .int st])), (xn, .inr (4, [.ref ek, .ref ef, .ref ew, .ref ep, .ref es, .int sz0, .int sy, .int dn])), (xr, .inl (aC 0, 7, .inl rf))] sz) := by
  refine Met.ofW (cc := cX11_gets) (maxL := 3) (ret := (some .int)) (by decide) rfl ?_
  intro p e s m args below meth c s₁ B hml hv
  obtain ⟨rfl, hsz, hP, hK, hD0, hN⟩ := hv
  have hx := B.exec
  have hb := B.bytes
  have hr := B.returns
  have hts0 := atoms_spec (ws := (wW yX11_gets cX11_gets 3 (some .int))) B.pre
  have hts : ∀ w9 ∈ lw_G, w9.before ([.ref h0, .int i, .int a2] : List Value).toArray s = true := fun w9 h9 => hts0 w9 (List.mem_cons_of_mem _ h9)
  have hown : s.vm.findClass RX11 = some m.cls := findClass_of_methodNamed B.named
  have hlocks := B.notSynchronized
  subst hsz
  have hD := hD0.self (sz := s.heap.size)
  generalize hAe : va_A [(h0, .inr (11, [.ref xp, .ref xtp, .ref xn, .ref xt, .ref xk, .ref xl, .ref xc, .ref xo, .ref xto, .ref xr, .ref xch, .int ts, .int ik, .int st])), (xn, .inr (4, [.ref ek, .ref ef, .ref ew, .ref ep, .ref es, .int sz0, .int sy, .int dn])), (xr, .inl (aC 0, 7, .inl rf))] s.heap.size = A at hD ⊢
  have hA : ∀ q : Nat, s.heap.size ≤ q → A q := fun q h => by rw [← hAe]; exact Or.inr h
  obtain ⟨H, hHe⟩ : ∃ H : Heap, H = s.heap := ⟨_, rfl⟩
  have hS : va_S A s.heap H [] := by rw [hHe]; exact va_S.rf
  have hP : va_P (dC, dI) classes [(h0, .inr (11, [.ref xp, .ref xtp, .ref xn, .ref xt, .ref xk, .ref xl, .ref xc, .ref xo, .ref xto, .ref xr, .ref xch, .int ts, .int ik, .int st])), (xn, .inr (4, [.ref ek, .ref ef, .ref ew, .ref ep, .ref es, .int sz0, .int sy, .int dn])), (xr, .inl (aC 0, 7, .inl rf))] H := by rw [hHe]; exact hP
  have hl := lv_entry ([.ref h0, .int i, .int a2]) (n := 3) (Nat.le_of_ble_eq_true rfl)
  rw [lg_entry_eq]
  generalize (lg_sl ([.ref h0, .int i, .int a2]) ++ List.replicate (3 - (lg_sl ([.ref h0, .int i, .int a2])).length) Slot.unset).toArray = ls at hl ⊢
  have hl : lv_has ls 3 [(0, .ref h0), (1, .int i), (2, .int a2)] := hl
  rw [← hHe]
  refine lv_aload_n hx hb dX11_gets_0 rfl (lv_at hl 0 rfl) ?_
  refine va_get (D := (dC, dI)) (ci := 11) (v := .ref xn) (C := RX11) (T := TX11) (N := 14) hx hb hts inX11 hown hK hP 0 rfl rfl 2 (by decide) (hts _ (gw kw_228 rfl)) (fun _ h9 => h9) rfl dX11_gets_1 ?_
  refine lv_iload_n hx hb dX11_gets_4 rfl (lv_at hl 1 rfl) ?_
  have hPc := hP.sub (ws' := [(xn, .inr (4, [.ref ek, .ref ef, .ref ew, .ref ep, .ref es, .int sz0, .int sy, .int dn]))]) [1] rfl
  have hDc := hD.sub (ws' := [(xn, .inr (4, [.ref ek, .ref ef, .ref ew, .ref ep, .ref es, .int sz0, .int sy, .int dn]))]) [1] (by decide) rfl
  have hFc := va_free (wc := [(xn, .inr (4, [.ref ek, .ref ef, .ref ew, .ref ep, .ref es, .int sz0, .int sy, .int dn]))]) hD hS hA [1] rfl
  refine va_calli (va_runV (As := [.int i]) (rest := []) ⟨hx, hb, hml, hown, hts⟩ (c_X4_has l dC dI aC H.size xn ek ef ew ep es sz0 sy dn i ) ⟨(callB_of 1 hts (gG kw_340) rfl rfl rfl (hts _ (gw kw_2 rfl)) (hts _ (gw kw_337 rfl)) (by decide +kernel) ⟨Nat.le_of_ble_eq_true rfl, Nat.le_of_ble_eq_true rfl⟩), (hts _ (gw kw_338 rfl)), (hts _ (gw kw_339 rfl))⟩ ⟨fun a U g mk q => by obtain ⟨q0, q1, qP, qK, qD, qN⟩ := q; exact ⟨q0, q1, qP, va_K.moved (u := U) (U := U.calling g mk a) (Vm.Alike.refl U.vm) qK, qD, NX.same (u := U) (U := U.calling g mk a) rfl qN⟩, va_recv hK hPc (ci := 4) (q0 := 0) rfl rfl, fun U hU hW => ⟨rfl, by rw [hU], by rw [hU]; exact hPc, va_K.moved hW.alike hK, hDc.weaken (fun _ _ _ _ => trivial), NX.warm hW hN⟩⟩ rfl rfl hl.1 rfl (lv_room (Nat.le_of_ble_eq_true rfl)) dX11_gets_5 ⟨Nat.le_of_ble_eq_true rfl, Nat.le_of_ble_eq_true rfl⟩) hS (fun q _ h => hFc q h) hFc (fun x_1 u t H1 locs ht hvm hw_1 hB hz1 hk1 hS => ?_)
  obtain ⟨hP1, hK1, hD1⟩ := hB
  rw [ht] at hP1
  clear hK1
  try dsimp only at hw_1
  obtain ⟨hP, hD⟩ := va_join (wr := [(h0, .inr (11, [.ref xp, .ref xtp, .ref xn, .ref xt, .ref xk, .ref xl, .ref xc, .ref xo, .ref xto, .ref xr, .ref xch, .int ts, .int ik, .int st])), (xr, .inl (aC 0, 7, .inl rf))]) (w1 := [(xn, .inr (4, [.ref ek, .ref ef, .ref ew, .ref ep, .ref es, .int sz0, .int sy, .int dn]))]) hP hD [1] [0, 2] rfl rfl (by decide) (by decide) hk1 hFc hP1 hD1
  generalize H1 = H at hP hS ⊢
  have hP : va_P (dC, dI) classes [(h0, .inr (11, [.ref xp, .ref xtp, .ref xn, .ref xt, .ref xk, .ref xl, .ref xc, .ref xo, .ref xto, .ref xr, .ref xch, .int ts, .int ik, .int st])), (xr, .inl (aC 0, 7, .inl rf)), (xn, .inr (4, [.ref ek, .ref ef, .ref ew, .ref ep, .ref es, .int sz0, .int sy, .int dn]))] H := hP
  have hD : va_D A [(h0, .inr (11, [.ref xp, .ref xtp, .ref xn, .ref xt, .ref xk, .ref xl, .ref xc, .ref xo, .ref xto, .ref xr, .ref xch, .int ts, .int ik, .int st])), (xr, .inl (aC 0, 7, .inl rf)), (xn, .inr (4, [.ref ek, .ref ef, .ref ew, .ref ep, .ref es, .int sz0, .int sy, .int dn]))] := hD
  clear hPc hDc hFc hz1 hk1 hP1 hD1 ht hvm
  have hz_5 : x_1 = 0 := by rw [hw_1]; rcases hno with h9 | h9 <;> simp [h9]
  refine lv_if_eq (tgt := 27) hx hb dX11_gets_8 (by decide) (fun c_2 => ?_) (fun c_2 => ?_)
  · refine lv_ldc hx hb hown (hts _ (gw kw_507 rfl)) dX11_gets_27 ?_
    refine lv_aload_n hx hb dX11_gets_29 rfl (lv_at hl 0 rfl) ?_
    refine lv_iconst (v := -1) hx hb dX11_gets_30 (by decide) ?_
    have hPc := hP.sub (ws' := [(h0, .inr (11, [.ref xp, .ref xtp, .ref xn, .ref xt, .ref xk, .ref xl, .ref xc, .ref xo, .ref xto, .ref xr, .ref xch, .int ts, .int ik, .int st])), (xr, .inl (aC 0, 7, .inl rf))]) [0, 1] rfl
    have hDc := hD.sub (ws' := [(h0, .inr (11, [.ref xp, .ref xtp, .ref xn, .ref xt, .ref xk, .ref xl, .ref xc, .ref xo, .ref xto, .ref xr, .ref xch, .int ts, .int ik, .int st])), (xr, .inl (aC 0, 7, .inl rf))]) [0, 1] (by decide) rfl
    have hFc := va_free (wc := [(h0, .inr (11, [.ref xp, .ref xtp, .ref xn, .ref xt, .ref xk, .ref xl, .ref xc, .ref xo, .ref xto, .ref xr, .ref xch, .int ts, .int ik, .int st])), (xr, .inl (aC 0, 7, .inl rf))]) hD hS hA [0, 1] rfl
    refine va_calli (va_runV (As := [.int (-1)]) (rest := [.int 1000000000]) ⟨hx, hb, hml, hown, hts⟩ (c_X11_refuse l dC dI aC H.size h0 xp xtp xn xt xk xl xc xo xto xr xch ts ik st (-1) 1 rf (by decide) (by decide) (by decide) (by unfold vp_in; decide)) ⟨(callB_of 1 hts (gG kw_276) rfl rfl rfl (hts _ (gw kw_1 rfl)) (hts _ (gw kw_273 rfl)) (by decide +kernel) ⟨Nat.le_of_ble_eq_true rfl, Nat.le_of_ble_eq_true rfl⟩), (hts _ (gw kw_275 rfl)), (hts _ (gw ks_0 rfl))⟩ ⟨fun a U g mk q => by obtain ⟨q0, q1, qP, qK, qD, qN⟩ := q; exact ⟨q0, q1, qP, va_K.moved (u := U) (U := U.calling g mk a) (Vm.Alike.refl U.vm) qK, qD, NX.same (u := U) (U := U.calling g mk a) rfl qN⟩, va_recv hK hPc (ci := 11) (q0 := 0) rfl rfl, fun U hU hW => ⟨rfl, by rw [hU], by rw [hU]; exact hPc, va_K.moved hW.alike hK, hDc.weaken (fun _ _ _ _ => trivial), NX.warm hW hN⟩⟩ rfl rfl hl.1 rfl (lv_room (Nat.le_of_ble_eq_true rfl)) dX11_gets_31 ⟨Nat.le_of_ble_eq_true rfl, Nat.le_of_ble_eq_true rfl⟩) hS (fun q _ h => hFc q h) hFc (fun x_3 u t H1 locs ht hvm hw_3 hB hz1 hk1 hS => ?_)
    obtain ⟨u_4, rfl⟩ : ∃ z, z = u := ⟨_, rfl⟩
    obtain ⟨hP1, hK1, hD1⟩ := hB
    rw [ht] at hP1
    clear hK1
    try dsimp only at hw_3
    obtain ⟨hP, hD⟩ := va_join (wr := [(xn, .inr (4, [.ref ek, .ref ef, .ref ew, .ref ep, .ref es, .int sz0, .int sy, .int dn]))]) (w1 := [(h0, .inr (11, [.ref xp, .ref xtp, .ref xn, .ref xt, .ref xk, .ref xl, .ref xc, .ref xo, .ref xto, .ref xr, .ref xch, .int ts, .int ik, .int st])), (xr, .inl (aC 0, 7, .inl u_4))]) hP hD [0, 1] [2] rfl rfl (by decide) (by decide) hk1 hFc hP1 hD1
    generalize H1 = H at hP hS ⊢
    have hP : va_P (dC, dI) classes [(xn, .inr (4, [.ref ek, .ref ef, .ref ew, .ref ep, .ref es, .int sz0, .int sy, .int dn])), (h0, .inr (11, [.ref xp, .ref xtp, .ref xn, .ref xt, .ref xk, .ref xl, .ref xc, .ref xo, .ref xto, .ref xr, .ref xch, .int ts, .int ik, .int st])), (xr, .inl (aC 0, 7, .inl u_4))] H := hP
    have hD : va_D A [(xn, .inr (4, [.ref ek, .ref ef, .ref ew, .ref ep, .ref es, .int sz0, .int sy, .int dn])), (h0, .inr (11, [.ref xp, .ref xtp, .ref xn, .ref xt, .ref xk, .ref xl, .ref xc, .ref xo, .ref xto, .ref xr, .ref xch, .int ts, .int ik, .int st])), (xr, .inl (aC 0, 7, .inl u_4))] := hD
    clear hPc hDc hFc hz1 hk1 hP1 hD1 ht hvm
    obtain ⟨hv9, hv8⟩ := hw_3
    refine lv_isub hx hb dX11_gets_34 ?_
    refine lv_topi (fun x_5 e_5 => ?_)
    have hP9 := hP.sub (ws' := []) [] rfl
    have hD9 := hD.sub (ws' := []) [] (by decide) rfl
    refine W.widen (k := 0) (n := 0) (by omega) (by omega) ?_
    exact W.iret (v := x_5) hx hb hr (fun t ht hW => ⟨⟨x_5, (), rfl, by subst e_5; rw [hv9]; rfl, by rw [ht]; exact hP9, va_K.moved hW.alike hK, hD9⟩, hS.F ht⟩) hS.2.2 dX11_gets_35
  · exact absurd hz_5 c_2

set_option maxHeartbeats 4000000 in
set_option maxRecDepth 100000 in
/-- X11_bought_r -/
theorem c_X11_bought_r (l : Launch) (dC : Nat → ClassId) (dI : Nat → Nat → Nat) (aC : Nat → ClassId) (sz : Nat) (h0 : Nat) (xp : Nat) (xtp : Nat) (xn : Nat) (xt : Nat) (xk : Nat) (xl : Nat) (xc : Nat) (xo : Nat) (xto : Nat) (xr : Nat) (xch : Nat) (ts : Int32) (ik : Int32) (st : Int32) (ek : Nat) (ef : Nat) (ew : Nat) (ep : Nat) (es : Nat) (sz0 : Int32) (sy : Int32) (dn : Int32) (rf : Nat → Int32) (i : Int32) (hno : i < 0 ∨ sz0 ≤ i) : Met l yX11_bought (wW yX11_bought cX11_bought 2 (some .int)) ({ frames := 1, cells := 0, slots := 0, locals := 21 } : Room) (va_Pc [.ref h0, .int i] (fun U => U.heap.size = sz ∧ va_P (dC, dI) classes [(h0, .inr (11, [.ref xp, .ref xtp, .ref xn, .ref xt, .ref xk, .ref xl, .ref xc, .ref xo, .ref xto, .ref xr, .ref xch, .int ts, .int ik, .int st])), (xn, .inr (4, [.ref ek, .ref ef, .ref ew, .ref ep, .ref es, .int sz0, .int sy, .int dn])), (xr, .inl (aC 0, 7, .inl rf))] U.heap ∧ va_K (dC, dI) classes (TY aC) U ∧ va_D (fun _ => True) [(h0, .inr (11, [.ref xp, .ref xtp, .ref xn, .ref xt, .ref xk, .ref xl, .ref xc, .ref xo, .ref xto, .ref xr, .ref xch, .int ts, .int ik, .int st])), (xn, .inr (4, [.ref ek, .ref ef, .ref ew, .ref ep, .ref es, .int sz0, .int sy, .int dn])), (xr, .inl (aC 0, 7, .inl rf))] ∧ NX U)) (va_Qi (fun (r : Int32) (_ : Unit) => r = -1) (fun (_ : Unit) (t : State) => va_P (dC, dI) classes [] t.heap ∧ va_K (dC, dI) classes (TY aC) t ∧ va_D (va_A [(h0, .inr (11, [.ref xp, .ref xtp, .ref xn, .ref xt, .ref xk, .ref xl, .ref xc, .ref xo, .ref xto, .ref xr, .ref xch, .int ts, .int ik, .int st])), (xn, .inr (4, [.ref ek, .ref ef, .ref ew, .ref ep, .ref es, .int sz0, .int sy, .int dn])), (xr, .inl (aC 0, 7, .inl rf))] sz) []) (va_A [(h0, .inr (11, [.ref xp, .ref xtp, .ref xn, .ref xt, .ref xk, .ref xl, .ref xc, .ref xo, .ref xto, .ref xr, .ref xch, .int ts, .int ik, .int st])), (xn, .inr (4, [.ref ek, .ref ef, .ref ew, .ref ep, .ref es, .int sz0, .int sy, .int dn])), (xr, .inl (aC 0, 7, .inl rf))] sz)) 0 0 (va_A [(h0, .inr (11, [.ref xp, .ref xtp, .ref xn, .ref xt, .ref xk, .ref xl, .ref xc, .ref xo, .ref xto, .ref xr, .ref xch, .int ts, .int ik, .int st])), (xn, .inr (4, [.ref ek, .ref ef, .ref ew, .ref ep, .ref es, .int sz0, .int sy, .int dn])), (xr, .inl (aC 0, 7, .inl rf))] sz) := by
  refine Met.ofW (cc := cX11_bought) (maxL := 2) (ret := (some .int)) (by decide) rfl ?_
  intro p e s m args below meth c s₁ B hml hv
  obtain ⟨rfl, hsz, hP, hK, hD0, hN⟩ := hv
  have hx := B.exec
  have hb := B.bytes
  have hr := B.returns
  have hts0 := atoms_spec (ws := (wW yX11_bought cX11_bought 2 (some .int))) B.pre
  have hts : ∀ w9 ∈ lw_G, w9.before ([.ref h0, .int i] : List Value).toArray s = true := fun w9 h9 => hts0 w9 (List.mem_cons_of_mem _ h9)
  have hown : s.vm.findClass RX11 = some m.cls := findClass_of_methodNamed B.named
  have hlocks := B.notSynchronized
  subst hsz
  have hD := hD0.self (sz := s.heap.size)
  generalize hAe : va_A [(h0, .inr (11, [.ref xp, .ref xtp, .ref xn, .ref xt, .ref xk, .ref xl, .ref xc, .ref xo, .ref xto, .ref xr, .ref xch, .int ts, .int ik, .int st])), (xn, .inr (4, [.ref ek, .ref ef, .ref ew, .ref ep, .ref es, .int sz0, .int sy, .int dn])), (xr, .inl (aC 0, 7, .inl rf))] s.heap.size = A at hD ⊢
  have hA : ∀ q : Nat, s.heap.size ≤ q → A q := fun q h => by rw [← hAe]; exact Or.inr h
  obtain ⟨H, hHe⟩ : ∃ H : Heap, H = s.heap := ⟨_, rfl⟩
  have hS : va_S A s.heap H [] := by rw [hHe]; exact va_S.rf
  have hP : va_P (dC, dI) classes [(h0, .inr (11, [.ref xp, .ref xtp, .ref xn, .ref xt, .ref xk, .ref xl, .ref xc, .ref xo, .ref xto, .ref xr, .ref xch, .int ts, .int ik, .int st])), (xn, .inr (4, [.ref ek, .ref ef, .ref ew, .ref ep, .ref es, .int sz0, .int sy, .int dn])), (xr, .inl (aC 0, 7, .inl rf))] H := by rw [hHe]; exact hP
  have hl := lv_entry ([.ref h0, .int i]) (n := 2) (Nat.le_of_ble_eq_true rfl)
  rw [lg_entry_eq]
  generalize (lg_sl ([.ref h0, .int i]) ++ List.replicate (2 - (lg_sl ([.ref h0, .int i])).length) Slot.unset).toArray = ls at hl ⊢
  have hl : lv_has ls 2 [(0, .ref h0), (1, .int i)] := hl
  rw [← hHe]
  refine lv_aload_n hx hb dX11_bought_0 rfl (lv_at hl 0 rfl) ?_
  refine va_get (D := (dC, dI)) (ci := 11) (v := .ref xn) (C := RX11) (T := TX11) (N := 14) hx hb hts inX11 hown hK hP 0 rfl rfl 2 (by decide) (hts _ (gw kw_228 rfl)) (fun _ h9 => h9) rfl dX11_bought_1 ?_
  refine lv_iload_n hx hb dX11_bought_4 rfl (lv_at hl 1 rfl) ?_
  have hPc := hP.sub (ws' := [(xn, .inr (4, [.ref ek, .ref ef, .ref ew, .ref ep, .ref es, .int sz0, .int sy, .int dn]))]) [1] rfl
  have hDc := hD.sub (ws' := [(xn, .inr (4, [.ref ek, .ref ef, .ref ew, .ref ep, .ref es, .int sz0, .int sy, .int dn]))]) [1] (by decide) rfl
  have hFc := va_free (wc := [(xn, .inr (4, [.ref ek, .ref ef, .ref ew, .ref ep, .ref es, .int sz0, .int sy, .int dn]))]) hD hS hA [1] rfl
  refine va_calli (va_runV (As := [.int i]) (rest := []) ⟨hx, hb, hml, hown, hts⟩ (c_X4_has l dC dI aC H.size xn ek ef ew ep es sz0 sy dn i ) ⟨(callB_of 1 hts (gG kw_340) rfl rfl rfl (hts _ (gw kw_2 rfl)) (hts _ (gw kw_337 rfl)) (by decide +kernel) ⟨Nat.le_of_ble_eq_true rfl, Nat.le_of_ble_eq_true rfl⟩), (hts _ (gw kw_338 rfl)), (hts _ (gw kw_339 rfl))⟩ ⟨fun a U g mk q => by obtain ⟨q0, q1, qP, qK, qD, qN⟩ := q; exact ⟨q0, q1, qP, va_K.moved (u := U) (U := U.calling g mk a) (Vm.Alike.refl U.vm) qK, qD, NX.same (u := U) (U := U.calling g mk a) rfl qN⟩, va_recv hK hPc (ci := 4) (q0 := 0) rfl rfl, fun U hU hW => ⟨rfl, by rw [hU], by rw [hU]; exact hPc, va_K.moved hW.alike hK, hDc.weaken (fun _ _ _ _ => trivial), NX.warm hW hN⟩⟩ rfl rfl hl.1 rfl (lv_room (Nat.le_of_ble_eq_true rfl)) dX11_bought_5 ⟨Nat.le_of_ble_eq_true rfl, Nat.le_of_ble_eq_true rfl⟩) hS (fun q _ h => hFc q h) hFc (fun x_1 u t H1 locs ht hvm hw_1 hB hz1 hk1 hS => ?_)
  obtain ⟨hP1, hK1, hD1⟩ := hB
  rw [ht] at hP1
  clear hK1
  try dsimp only at hw_1
  obtain ⟨hP, hD⟩ := va_join (wr := [(h0, .inr (11, [.ref xp, .ref xtp, .ref xn, .ref xt, .ref xk, .ref xl, .ref xc, .ref xo, .ref xto, .ref xr, .ref xch, .int ts, .int ik, .int st])), (xr, .inl (aC 0, 7, .inl rf))]) (w1 := [(xn, .inr (4, [.ref ek, .ref ef, .ref ew, .ref ep, .ref es, .int sz0, .int sy, .int dn]))]) hP hD [1] [0, 2] rfl rfl (by decide) (by decide) hk1 hFc hP1 hD1
  generalize H1 = H at hP hS ⊢
  have hP : va_P (dC, dI) classes [(h0, .inr (11, [.ref xp, .ref xtp, .ref xn, .ref xt, .ref xk, .ref xl, .ref xc, .ref xo, .ref xto, .ref xr, .ref xch, .int ts, .int ik, .int st])), (xr, .inl (aC 0, 7, .inl rf)), (xn, .inr (4, [.ref ek, .ref ef, .ref ew, .ref ep, .ref es, .int sz0, .int sy, .int dn]))] H := hP
  have hD : va_D A [(h0, .inr (11, [.ref xp, .ref xtp, .ref xn, .ref xt, .ref xk, .ref xl, .ref xc, .ref xo, .ref xto, .ref xr, .ref xch, .int ts, .int ik, .int st])), (xr, .inl (aC 0, 7, .inl rf)), (xn, .inr (4, [.ref ek, .ref ef, .ref ew, .ref ep, .ref es, .int sz0, .int sy, .int dn]))] := hD
  clear hPc hDc hFc hz1 hk1 hP1 hD1 ht hvm
  have hz_5 : x_1 = 0 := by rw [hw_1]; rcases hno with h9 | h9 <;> simp [h9]
  refine lv_if_eq (tgt := 23) hx hb dX11_bought_8 (by decide) (fun c_2 => ?_) (fun c_2 => ?_)
  · refine lv_aload_n hx hb dX11_bought_23 rfl (lv_at hl 0 rfl) ?_
    refine lv_iconst (v := -1) hx hb dX11_bought_24 (by decide) ?_
    have hPc := hP.sub (ws' := [(h0, .inr (11, [.ref xp, .ref xtp, .ref xn, .ref xt, .ref xk, .ref xl, .ref xc, .ref xo, .ref xto, .ref xr, .ref xch, .int ts, .int ik, .int st])), (xr, .inl (aC 0, 7, .inl rf))]) [0, 1] rfl
    have hDc := hD.sub (ws' := [(h0, .inr (11, [.ref xp, .ref xtp, .ref xn, .ref xt, .ref xk, .ref xl, .ref xc, .ref xo, .ref xto, .ref xr, .ref xch, .int ts, .int ik, .int st])), (xr, .inl (aC 0, 7, .inl rf))]) [0, 1] (by decide) rfl
    have hFc := va_free (wc := [(h0, .inr (11, [.ref xp, .ref xtp, .ref xn, .ref xt, .ref xk, .ref xl, .ref xc, .ref xo, .ref xto, .ref xr, .ref xch, .int ts, .int ik, .int st])), (xr, .inl (aC 0, 7, .inl rf))]) hD hS hA [0, 1] rfl
    refine va_calli (va_runV (As := [.int (-1)]) (rest := []) ⟨hx, hb, hml, hown, hts⟩ (c_X11_refuse l dC dI aC H.size h0 xp xtp xn xt xk xl xc xo xto xr xch ts ik st (-1) 1 rf (by decide) (by decide) (by decide) (by unfold vp_in; decide)) ⟨(callB_of 1 hts (gG kw_276) rfl rfl rfl (hts _ (gw kw_1 rfl)) (hts _ (gw kw_273 rfl)) (by decide +kernel) ⟨Nat.le_of_ble_eq_true rfl, Nat.le_of_ble_eq_true rfl⟩), (hts _ (gw kw_275 rfl)), (hts _ (gw ks_0 rfl))⟩ ⟨fun a U g mk q => by obtain ⟨q0, q1, qP, qK, qD, qN⟩ := q; exact ⟨q0, q1, qP, va_K.moved (u := U) (U := U.calling g mk a) (Vm.Alike.refl U.vm) qK, qD, NX.same (u := U) (U := U.calling g mk a) rfl qN⟩, va_recv hK hPc (ci := 11) (q0 := 0) rfl rfl, fun U hU hW => ⟨rfl, by rw [hU], by rw [hU]; exact hPc, va_K.moved hW.alike hK, hDc.weaken (fun _ _ _ _ => trivial), NX.warm hW hN⟩⟩ rfl rfl hl.1 rfl (lv_room (Nat.le_of_ble_eq_true rfl)) dX11_bought_25 ⟨Nat.le_of_ble_eq_true rfl, Nat.le_of_ble_eq_true rfl⟩) hS (fun q _ h => hFc q h) hFc (fun x_3 u t H1 locs ht hvm hw_3 hB hz1 hk1 hS => ?_)
    obtain ⟨u_4, rfl⟩ : ∃ z, z = u := ⟨_, rfl⟩
    obtain ⟨hP1, hK1, hD1⟩ := hB
    rw [ht] at hP1
    clear hK1
    try dsimp only at hw_3
    obtain ⟨hP, hD⟩ := va_join (wr := [(xn, .inr (4, [.ref ek, .ref ef, .ref ew, .ref ep, .ref es, .int sz0, .int sy, .int dn]))]) (w1 := [(h0, .inr (11, [.ref xp, .ref xtp, .ref xn, .ref xt, .ref xk, .ref xl, .ref xc, .ref xo, .ref xto, .ref xr, .ref xch, .int ts, .int ik, .int st])), (xr, .inl (aC 0, 7, .inl u_4))]) hP hD [0, 1] [2] rfl rfl (by decide) (by decide) hk1 hFc hP1 hD1
    generalize H1 = H at hP hS ⊢
    have hP : va_P (dC, dI) classes [(xn, .inr (4, [.ref ek, .ref ef, .ref ew, .ref ep, .ref es, .int sz0, .int sy, .int dn])), (h0, .inr (11, [.ref xp, .ref xtp, .ref xn, .ref xt, .ref xk, .ref xl, .ref xc, .ref xo, .ref xto, .ref xr, .ref xch, .int ts, .int ik, .int st])), (xr, .inl (aC 0, 7, .inl u_4))] H := hP
    have hD : va_D A [(xn, .inr (4, [.ref ek, .ref ef, .ref ew, .ref ep, .ref es, .int sz0, .int sy, .int dn])), (h0, .inr (11, [.ref xp, .ref xtp, .ref xn, .ref xt, .ref xk, .ref xl, .ref xc, .ref xo, .ref xto, .ref xr, .ref xch, .int ts, .int ik, .int st])), (xr, .inl (aC 0, 7, .inl u_4))] := hD
    clear hPc hDc hFc hz1 hk1 hP1 hD1 ht hvm
    obtain ⟨hv9, hv8⟩ := hw_3
    have hP9 := hP.sub (ws' := []) [] rfl
    have hD9 := hD.sub (ws' := []) [] (by decide) rfl
    refine W.widen (k := 0) (n := 0) (by omega) (by omega) ?_
    exact W.iret (v := x_3) hx hb hr (fun t ht hW => ⟨⟨x_3, (), rfl, hv9, by rw [ht]; exact hP9, va_K.moved hW.alike hK, hD9⟩, hS.F ht⟩) hS.2.2 dX11_bought_28
  · exact absurd hz_5 c_2

set_option maxHeartbeats 4000000 in
set_option maxRecDepth 100000 in
/-- X11_got_r -/
theorem c_X11_got_r (l : Launch) (dC : Nat → ClassId) (dI : Nat → Nat → Nat) (aC : Nat → ClassId) (sz : Nat) (h0 : Nat) (xp : Nat) (xtp : Nat) (xn : Nat) (xt : Nat) (xk : Nat) (xl : Nat) (xc : Nat) (xo : Nat) (xto : Nat) (xr : Nat) (xch : Nat) (ts : Int32) (ik : Int32) (st : Int32) (ek : Nat) (ef : Nat) (ew : Nat) (ep : Nat) (es : Nat) (sz0 : Int32) (sy : Int32) (dn : Int32) (rf : Nat → Int32) (i : Int32) (hno : i < 0 ∨ sz0 ≤ i) : Met l yX11_got (wW yX11_got cX11_got 2 (some .int)) ({ frames := 1, cells := 0, slots := 0, locals := 21 } : Room) (va_Pc [.ref h0, .int i] (fun U => U.heap.size = sz ∧ va_P (dC, dI) classes [(h0, .inr (11, [.ref xp, .ref xtp, .ref xn, .ref xt, .ref xk, .ref xl, .ref xc, .ref xo, .ref xto, .ref xr, .ref xch, .int ts, .int ik, .int st])), (xn, .inr (4, [.ref ek, .ref ef, .ref ew, .ref ep, .ref es, .int sz0, .int sy, .int dn])), (xr, .inl (aC 0, 7, .inl rf))] U.heap ∧ va_K (dC, dI) classes (TY aC) U ∧ va_D (fun _ => True) [(h0, .inr (11, [.ref xp, .ref xtp, .ref xn, .ref xt, .ref xk, .ref xl, .ref xc, .ref xo, .ref xto, .ref xr, .ref xch, .int ts, .int ik, .int st])), (xn, .inr (4, [.ref ek, .ref ef, .ref ew, .ref ep, .ref es, .int sz0, .int sy, .int dn])), (xr, .inl (aC 0, 7, .inl rf))] ∧ NX U)) (va_Qi (fun (r : Int32) (_ : Unit) => r = 1000000001) (fun (_ : Unit) (t : State) => va_P (dC, dI) classes [] t.heap ∧ va_K (dC, dI) classes (TY aC) t ∧ va_D (va_A [(h0, .inr (11, [.ref xp, .ref xtp, .ref xn, .ref xt, .ref xk, .ref xl, .ref xc, .ref xo, .ref xto, .ref xr, .ref xch, .int ts, .int ik, .int st])), (xn, .inr (4, [.ref ek, .ref ef, .ref ew, .ref ep, .ref es, .int sz0, .int sy, .int dn])), (xr, .inl (aC 0, 7, .inl rf))] sz) []) (va_A [(h0, .inr (11, [.ref xp, .ref xtp, .ref xn, .ref xt, .ref xk, .ref xl, .ref xc, .ref xo, .ref xto, .ref xr, .ref xch, .int ts, .int ik, .int st])), (xn, .inr (4, [.ref ek, .ref ef, .ref ew, .ref ep, .ref es, .int sz0, .int sy, .int dn])), (xr, .inl (aC 0, 7, .inl rf))] sz)) 0 0 (va_A [(h0, .inr (11, [.ref xp, .ref xtp, .ref xn, .ref xt, .ref xk, .ref xl, .ref xc, .ref xo, .ref xto, .ref xr, .ref xch, .int ts, .int ik, .int st])), (xn, .inr (4, [.ref ek, .ref ef, .ref ew, .ref ep, .ref es, .int sz0, .int sy, .int dn])), (xr, .inl (aC 0, 7, .inl rf))] sz) := by
  refine Met.ofW (cc := cX11_got) (maxL := 2) (ret := (some .int)) (by decide) rfl ?_
  intro p e s m args below meth c s₁ B hml hv
  obtain ⟨rfl, hsz, hP, hK, hD0, hN⟩ := hv
  have hx := B.exec
  have hb := B.bytes
  have hr := B.returns
  have hts0 := atoms_spec (ws := (wW yX11_got cX11_got 2 (some .int))) B.pre
  have hts : ∀ w9 ∈ lw_G, w9.before ([.ref h0, .int i] : List Value).toArray s = true := fun w9 h9 => hts0 w9 (List.mem_cons_of_mem _ h9)
  have hown : s.vm.findClass RX11 = some m.cls := findClass_of_methodNamed B.named
  have hlocks := B.notSynchronized
  subst hsz
  have hD := hD0.self (sz := s.heap.size)
  generalize hAe : va_A [(h0, .inr (11, [.ref xp, .ref xtp, .ref xn, .ref xt, .ref xk, .ref xl, .ref xc, .ref xo, .ref xto, .ref xr, .ref xch, .int ts, .int ik, .int st])), (xn, .inr (4, [.ref ek, .ref ef, .ref ew, .ref ep, .ref es, .int sz0, .int sy, .int dn])), (xr, .inl (aC 0, 7, .inl rf))] s.heap.size = A at hD ⊢
  have hA : ∀ q : Nat, s.heap.size ≤ q → A q := fun q h => by rw [← hAe]; exact Or.inr h
  obtain ⟨H, hHe⟩ : ∃ H : Heap, H = s.heap := ⟨_, rfl⟩
  have hS : va_S A s.heap H [] := by rw [hHe]; exact va_S.rf
  have hP : va_P (dC, dI) classes [(h0, .inr (11, [.ref xp, .ref xtp, .ref xn, .ref xt, .ref xk, .ref xl, .ref xc, .ref xo, .ref xto, .ref xr, .ref xch, .int ts, .int ik, .int st])), (xn, .inr (4, [.ref ek, .ref ef, .ref ew, .ref ep, .ref es, .int sz0, .int sy, .int dn])), (xr, .inl (aC 0, 7, .inl rf))] H := by rw [hHe]; exact hP
  have hl := lv_entry ([.ref h0, .int i]) (n := 2) (Nat.le_of_ble_eq_true rfl)
  rw [lg_entry_eq]
  generalize (lg_sl ([.ref h0, .int i]) ++ List.replicate (2 - (lg_sl ([.ref h0, .int i])).length) Slot.unset).toArray = ls at hl ⊢
  have hl : lv_has ls 2 [(0, .ref h0), (1, .int i)] := hl
  rw [← hHe]
  refine lv_aload_n hx hb dX11_got_0 rfl (lv_at hl 0 rfl) ?_
  refine va_get (D := (dC, dI)) (ci := 11) (v := .ref xn) (C := RX11) (T := TX11) (N := 14) hx hb hts inX11 hown hK hP 0 rfl rfl 2 (by decide) (hts _ (gw kw_228 rfl)) (fun _ h9 => h9) rfl dX11_got_1 ?_
  refine lv_iload_n hx hb dX11_got_4 rfl (lv_at hl 1 rfl) ?_
  have hPc := hP.sub (ws' := [(xn, .inr (4, [.ref ek, .ref ef, .ref ew, .ref ep, .ref es, .int sz0, .int sy, .int dn]))]) [1] rfl
  have hDc := hD.sub (ws' := [(xn, .inr (4, [.ref ek, .ref ef, .ref ew, .ref ep, .ref es, .int sz0, .int sy, .int dn]))]) [1] (by decide) rfl
  have hFc := va_free (wc := [(xn, .inr (4, [.ref ek, .ref ef, .ref ew, .ref ep, .ref es, .int sz0, .int sy, .int dn]))]) hD hS hA [1] rfl
  refine va_calli (va_runV (As := [.int i]) (rest := []) ⟨hx, hb, hml, hown, hts⟩ (c_X4_has l dC dI aC H.size xn ek ef ew ep es sz0 sy dn i ) ⟨(callB_of 1 hts (gG kw_340) rfl rfl rfl (hts _ (gw kw_2 rfl)) (hts _ (gw kw_337 rfl)) (by decide +kernel) ⟨Nat.le_of_ble_eq_true rfl, Nat.le_of_ble_eq_true rfl⟩), (hts _ (gw kw_338 rfl)), (hts _ (gw kw_339 rfl))⟩ ⟨fun a U g mk q => by obtain ⟨q0, q1, qP, qK, qD, qN⟩ := q; exact ⟨q0, q1, qP, va_K.moved (u := U) (U := U.calling g mk a) (Vm.Alike.refl U.vm) qK, qD, NX.same (u := U) (U := U.calling g mk a) rfl qN⟩, va_recv hK hPc (ci := 4) (q0 := 0) rfl rfl, fun U hU hW => ⟨rfl, by rw [hU], by rw [hU]; exact hPc, va_K.moved hW.alike hK, hDc.weaken (fun _ _ _ _ => trivial), NX.warm hW hN⟩⟩ rfl rfl hl.1 rfl (lv_room (Nat.le_of_ble_eq_true rfl)) dX11_got_5 ⟨Nat.le_of_ble_eq_true rfl, Nat.le_of_ble_eq_true rfl⟩) hS (fun q _ h => hFc q h) hFc (fun x_1 u t H1 locs ht hvm hw_1 hB hz1 hk1 hS => ?_)
  obtain ⟨hP1, hK1, hD1⟩ := hB
  rw [ht] at hP1
  clear hK1
  try dsimp only at hw_1
  obtain ⟨hP, hD⟩ := va_join (wr := [(h0, .inr (11, [.ref xp, .ref xtp, .ref xn, .ref xt, .ref xk, .ref xl, .ref xc, .ref xo, .ref xto, .ref xr, .ref xch, .int ts, .int ik, .int st])), (xr, .inl (aC 0, 7, .inl rf))]) (w1 := [(xn, .inr (4, [.ref ek, .ref ef, .ref ew, .ref ep, .ref es, .int sz0, .int sy, .int dn]))]) hP hD [1] [0, 2] rfl rfl (by decide) (by decide) hk1 hFc hP1 hD1
  generalize H1 = H at hP hS ⊢
  have hP : va_P (dC, dI) classes [(h0, .inr (11, [.ref xp, .ref xtp, .ref xn, .ref xt, .ref xk, .ref xl, .ref xc, .ref xo, .ref xto, .ref xr, .ref xch, .int ts, .int ik, .int st])), (xr, .inl (aC 0, 7, .inl rf)), (xn, .inr (4, [.ref ek, .ref ef, .ref ew, .ref ep, .ref es, .int sz0, .int sy, .int dn]))] H := hP
  have hD : va_D A [(h0, .inr (11, [.ref xp, .ref xtp, .ref xn, .ref xt, .ref xk, .ref xl, .ref xc, .ref xo, .ref xto, .ref xr, .ref xch, .int ts, .int ik, .int st])), (xr, .inl (aC 0, 7, .inl rf)), (xn, .inr (4, [.ref ek, .ref ef, .ref ew, .ref ep, .ref es, .int sz0, .int sy, .int dn]))] := hD
  clear hPc hDc hFc hz1 hk1 hP1 hD1 ht hvm
  have hz_5 : x_1 = 0 := by rw [hw_1]; rcases hno with h9 | h9 <;> simp [h9]
  refine lv_if_eq (tgt := 23) hx hb dX11_got_8 (by decide) (fun c_2 => ?_) (fun c_2 => ?_)
  · refine lv_ldc hx hb hown (hts _ (gw kw_507 rfl)) dX11_got_23 ?_
    refine lv_aload_n hx hb dX11_got_25 rfl (lv_at hl 0 rfl) ?_
    refine lv_iconst (v := -1) hx hb dX11_got_26 (by decide) ?_
    have hPc := hP.sub (ws' := [(h0, .inr (11, [.ref xp, .ref xtp, .ref xn, .ref xt, .ref xk, .ref xl, .ref xc, .ref xo, .ref xto, .ref xr, .ref xch, .int ts, .int ik, .int st])), (xr, .inl (aC 0, 7, .inl rf))]) [0, 1] rfl
    have hDc := hD.sub (ws' := [(h0, .inr (11, [.ref xp, .ref xtp, .ref xn, .ref xt, .ref xk, .ref xl, .ref xc, .ref xo, .ref xto, .ref xr, .ref xch, .int ts, .int ik, .int st])), (xr, .inl (aC 0, 7, .inl rf))]) [0, 1] (by decide) rfl
    have hFc := va_free (wc := [(h0, .inr (11, [.ref xp, .ref xtp, .ref xn, .ref xt, .ref xk, .ref xl, .ref xc, .ref xo, .ref xto, .ref xr, .ref xch, .int ts, .int ik, .int st])), (xr, .inl (aC 0, 7, .inl rf))]) hD hS hA [0, 1] rfl
    refine va_calli (va_runV (As := [.int (-1)]) (rest := [.int 1000000000]) ⟨hx, hb, hml, hown, hts⟩ (c_X11_refuse l dC dI aC H.size h0 xp xtp xn xt xk xl xc xo xto xr xch ts ik st (-1) 1 rf (by decide) (by decide) (by decide) (by unfold vp_in; decide)) ⟨(callB_of 1 hts (gG kw_276) rfl rfl rfl (hts _ (gw kw_1 rfl)) (hts _ (gw kw_273 rfl)) (by decide +kernel) ⟨Nat.le_of_ble_eq_true rfl, Nat.le_of_ble_eq_true rfl⟩), (hts _ (gw kw_275 rfl)), (hts _ (gw ks_0 rfl))⟩ ⟨fun a U g mk q => by obtain ⟨q0, q1, qP, qK, qD, qN⟩ := q; exact ⟨q0, q1, qP, va_K.moved (u := U) (U := U.calling g mk a) (Vm.Alike.refl U.vm) qK, qD, NX.same (u := U) (U := U.calling g mk a) rfl qN⟩, va_recv hK hPc (ci := 11) (q0 := 0) rfl rfl, fun U hU hW => ⟨rfl, by rw [hU], by rw [hU]; exact hPc, va_K.moved hW.alike hK, hDc.weaken (fun _ _ _ _ => trivial), NX.warm hW hN⟩⟩ rfl rfl hl.1 rfl (lv_room (Nat.le_of_ble_eq_true rfl)) dX11_got_27 ⟨Nat.le_of_ble_eq_true rfl, Nat.le_of_ble_eq_true rfl⟩) hS (fun q _ h => hFc q h) hFc (fun x_3 u t H1 locs ht hvm hw_3 hB hz1 hk1 hS => ?_)
    obtain ⟨u_4, rfl⟩ : ∃ z, z = u := ⟨_, rfl⟩
    obtain ⟨hP1, hK1, hD1⟩ := hB
    rw [ht] at hP1
    clear hK1
    try dsimp only at hw_3
    obtain ⟨hP, hD⟩ := va_join (wr := [(xn, .inr (4, [.ref ek, .ref ef, .ref ew, .ref ep, .ref es, .int sz0, .int sy, .int dn]))]) (w1 := [(h0, .inr (11, [.ref xp, .ref xtp, .ref xn, .ref xt, .ref xk, .ref xl, .ref xc, .ref xo, .ref xto, .ref xr, .ref xch, .int ts, .int ik, .int st])), (xr, .inl (aC 0, 7, .inl u_4))]) hP hD [0, 1] [2] rfl rfl (by decide) (by decide) hk1 hFc hP1 hD1
    generalize H1 = H at hP hS ⊢
    have hP : va_P (dC, dI) classes [(xn, .inr (4, [.ref ek, .ref ef, .ref ew, .ref ep, .ref es, .int sz0, .int sy, .int dn])), (h0, .inr (11, [.ref xp, .ref xtp, .ref xn, .ref xt, .ref xk, .ref xl, .ref xc, .ref xo, .ref xto, .ref xr, .ref xch, .int ts, .int ik, .int st])), (xr, .inl (aC 0, 7, .inl u_4))] H := hP
    have hD : va_D A [(xn, .inr (4, [.ref ek, .ref ef, .ref ew, .ref ep, .ref es, .int sz0, .int sy, .int dn])), (h0, .inr (11, [.ref xp, .ref xtp, .ref xn, .ref xt, .ref xk, .ref xl, .ref xc, .ref xo, .ref xto, .ref xr, .ref xch, .int ts, .int ik, .int st])), (xr, .inl (aC 0, 7, .inl u_4))] := hD
    clear hPc hDc hFc hz1 hk1 hP1 hD1 ht hvm
    obtain ⟨hv9, hv8⟩ := hw_3
    refine lv_isub hx hb dX11_got_30 ?_
    refine lv_topi (fun x_5 e_5 => ?_)
    have hP9 := hP.sub (ws' := []) [] rfl
    have hD9 := hD.sub (ws' := []) [] (by decide) rfl
    refine W.widen (k := 0) (n := 0) (by omega) (by omega) ?_
    exact W.iret (v := x_5) hx hb hr (fun t ht hW => ⟨⟨x_5, (), rfl, by subst e_5; rw [hv9]; rfl, by rw [ht]; exact hP9, va_K.moved hW.alike hK, hD9⟩, hS.F ht⟩) hS.2.2 dX11_got_31
  · exact absurd hz_5 c_2

set_option maxHeartbeats 4000000 in
set_option maxRecDepth 100000 in
/-- X11_swap_r -/
theorem c_X11_swap_r (l : Launch) (dC : Nat → ClassId) (dI : Nat → Nat → Nat) (aC : Nat → ClassId) (sz : Nat) (h0 : Nat) (xp : Nat) (xtp : Nat) (xn : Nat) (xt : Nat) (xk : Nat) (xl : Nat) (xc : Nat) (xo : Nat) (xto : Nat) (xr : Nat) (xch : Nat) (ts : Int32) (ik : Int32) (st : Int32) (ek : Nat) (ef : Nat) (ew : Nat) (ep : Nat) (es : Nat) (sz0 : Int32) (sy : Int32) (dn : Int32) (rf : Nat → Int32) (i : Int32) (a2 : Int32) (hno : i < 0 ∨ sz0 ≤ i) : Met l yX11_swap (wW yX11_swap cX11_swap 3 (some .int)) ({ frames := 1, cells := 0, slots := 0, locals := 21 } : Room) (va_Pc [.ref h0, .int i, .int a2] (fun U => U.heap.size = sz ∧ va_P (dC, dI) classes [(h0, .inr (11, [.ref xp, .ref xtp, .ref xn, .ref xt, .ref xk, .ref xl, .ref xc, .ref xo, .ref xto, .ref xr, .ref xch, .int ts, .int ik, .int st])), (xn, .inr (4, [.ref ek, .ref ef, .ref ew, .ref ep, .ref es, .int sz0, .int sy, .int dn])), (xr, .inl (aC 0, 7, .inl rf))] U.heap ∧ va_K (dC, dI) classes (TY aC) U ∧ va_D (fun _ => True) [(h0, .inr (11, [.ref xp, .ref xtp, .ref xn, .ref xt, .ref xk, .ref xl, .ref xc, .ref xo, .ref xto, .ref xr, .ref xch, .int ts, .int ik, .int st])), (xn, .inr (4, [.ref ek, .ref ef, .ref ew, .ref ep, .ref es, .int sz0, .int sy, .int dn])), (xr, .inl (aC 0, 7, .inl rf))] ∧ NX U)) (va_Qi (fun (r : Int32) (_ : Unit) => r = -1) (fun (_ : Unit) (t : State) => va_P (dC, dI) classes [] t.heap ∧ va_K (dC, dI) classes (TY aC) t ∧ va_D (va_A [(h0, .inr (11, [.ref xp, .ref xtp, .ref xn, .ref xt, .ref xk, .ref xl, .ref xc, .ref xo, .ref xto, .ref xr, .ref xch, .int ts, .int ik, .int st])), (xn, .inr (4, [.ref ek, .ref ef, .ref ew, .ref ep, .ref es, .int sz0, .int sy, .int dn])), (xr, .inl (aC 0, 7, .inl rf))] sz) []) (va_A [(h0, .inr (11, [.ref xp, .ref xtp, .ref xn, .ref xt, .ref xk, .ref xl, .ref xc, .ref xo, .ref xto, .ref xr, .ref xch, .int ts, .int ik, .int st])), (xn, .inr (4, [.ref ek, .ref ef, .ref ew, .ref ep, .ref es, .int sz0, .int sy, .int dn])), (xr, .inl (aC 0, 7, .inl rf))] sz)) 0 0 (va_A [(h0, .inr (11, [.ref xp, .ref xtp, .ref xn, .ref xt, .ref xk, .ref xl, .ref xc, .ref xo, .ref xto, .ref xr, .ref xch, .int ts, .int ik, .int st])), (xn, .inr (4, [.ref ek, .ref ef, .ref ew, .ref ep, .ref es, .int sz0, .int sy, .int dn])), (xr, .inl (aC 0, 7, .inl rf))] sz) := by
  refine Met.ofW (cc := cX11_swap) (maxL := 3) (ret := (some .int)) (by decide) rfl ?_
  intro p e s m args below meth c s₁ B hml hv
  obtain ⟨rfl, hsz, hP, hK, hD0, hN⟩ := hv
  have hx := B.exec
  have hb := B.bytes
  have hr := B.returns
  have hts0 := atoms_spec (ws := (wW yX11_swap cX11_swap 3 (some .int))) B.pre
  have hts : ∀ w9 ∈ lw_G, w9.before ([.ref h0, .int i, .int a2] : List Value).toArray s = true := fun w9 h9 => hts0 w9 (List.mem_cons_of_mem _ h9)
  have hown : s.vm.findClass RX11 = some m.cls := findClass_of_methodNamed B.named
  have hlocks := B.notSynchronized
  subst hsz
  have hD := hD0.self (sz := s.heap.size)
  generalize hAe : va_A [(h0, .inr (11, [.ref xp, .ref xtp, .ref xn, .ref xt, .ref xk, .ref xl, .ref xc, .ref xo, .ref xto, .ref xr, .ref xch, .int ts, .int ik, .int st])), (xn, .inr (4, [.ref ek, .ref ef, .ref ew, .ref ep, .ref es, .int sz0, .int sy, .int dn])), (xr, .inl (aC 0, 7, .inl rf))] s.heap.size = A at hD ⊢
  have hA : ∀ q : Nat, s.heap.size ≤ q → A q := fun q h => by rw [← hAe]; exact Or.inr h
  obtain ⟨H, hHe⟩ : ∃ H : Heap, H = s.heap := ⟨_, rfl⟩
  have hS : va_S A s.heap H [] := by rw [hHe]; exact va_S.rf
  have hP : va_P (dC, dI) classes [(h0, .inr (11, [.ref xp, .ref xtp, .ref xn, .ref xt, .ref xk, .ref xl, .ref xc, .ref xo, .ref xto, .ref xr, .ref xch, .int ts, .int ik, .int st])), (xn, .inr (4, [.ref ek, .ref ef, .ref ew, .ref ep, .ref es, .int sz0, .int sy, .int dn])), (xr, .inl (aC 0, 7, .inl rf))] H := by rw [hHe]; exact hP
  have hl := lv_entry ([.ref h0, .int i, .int a2]) (n := 3) (Nat.le_of_ble_eq_true rfl)
  rw [lg_entry_eq]
  generalize (lg_sl ([.ref h0, .int i, .int a2]) ++ List.replicate (3 - (lg_sl ([.ref h0, .int i, .int a2])).length) Slot.unset).toArray = ls at hl ⊢
  have hl : lv_has ls 3 [(0, .ref h0), (1, .int i), (2, .int a2)] := hl
  rw [← hHe]
  refine lv_aload_n hx hb dX11_swap_0 rfl (lv_at hl 0 rfl) ?_
  refine va_get (D := (dC, dI)) (ci := 11) (v := .ref xn) (C := RX11) (T := TX11) (N := 14) hx hb hts inX11 hown hK hP 0 rfl rfl 2 (by decide) (hts _ (gw kw_228 rfl)) (fun _ h9 => h9) rfl dX11_swap_1 ?_
  refine lv_iload_n hx hb dX11_swap_4 rfl (lv_at hl 1 rfl) ?_
  have hPc := hP.sub (ws' := [(xn, .inr (4, [.ref ek, .ref ef, .ref ew, .ref ep, .ref es, .int sz0, .int sy, .int dn]))]) [1] rfl
  have hDc := hD.sub (ws' := [(xn, .inr (4, [.ref ek, .ref ef, .ref ew, .ref ep, .ref es, .int sz0, .int sy, .int dn]))]) [1] (by decide) rfl
  have hFc := va_free (wc := [(xn, .inr (4, [.ref ek, .ref ef, .ref ew, .ref ep, .ref es, .int sz0, .int sy, .int dn]))]) hD hS hA [1] rfl
  refine va_calli (va_runV (As := [.int i]) (rest := []) ⟨hx, hb, hml, hown, hts⟩ (c_X4_has l dC dI aC H.size xn ek ef ew ep es sz0 sy dn i ) ⟨(callB_of 1 hts (gG kw_340) rfl rfl rfl (hts _ (gw kw_2 rfl)) (hts _ (gw kw_337 rfl)) (by decide +kernel) ⟨Nat.le_of_ble_eq_true rfl, Nat.le_of_ble_eq_true rfl⟩), (hts _ (gw kw_338 rfl)), (hts _ (gw kw_339 rfl))⟩ ⟨fun a U g mk q => by obtain ⟨q0, q1, qP, qK, qD, qN⟩ := q; exact ⟨q0, q1, qP, va_K.moved (u := U) (U := U.calling g mk a) (Vm.Alike.refl U.vm) qK, qD, NX.same (u := U) (U := U.calling g mk a) rfl qN⟩, va_recv hK hPc (ci := 4) (q0 := 0) rfl rfl, fun U hU hW => ⟨rfl, by rw [hU], by rw [hU]; exact hPc, va_K.moved hW.alike hK, hDc.weaken (fun _ _ _ _ => trivial), NX.warm hW hN⟩⟩ rfl rfl hl.1 rfl (lv_room (Nat.le_of_ble_eq_true rfl)) dX11_swap_5 ⟨Nat.le_of_ble_eq_true rfl, Nat.le_of_ble_eq_true rfl⟩) hS (fun q _ h => hFc q h) hFc (fun x_1 u t H1 locs ht hvm hw_1 hB hz1 hk1 hS => ?_)
  obtain ⟨hP1, hK1, hD1⟩ := hB
  rw [ht] at hP1
  clear hK1
  try dsimp only at hw_1
  obtain ⟨hP, hD⟩ := va_join (wr := [(h0, .inr (11, [.ref xp, .ref xtp, .ref xn, .ref xt, .ref xk, .ref xl, .ref xc, .ref xo, .ref xto, .ref xr, .ref xch, .int ts, .int ik, .int st])), (xr, .inl (aC 0, 7, .inl rf))]) (w1 := [(xn, .inr (4, [.ref ek, .ref ef, .ref ew, .ref ep, .ref es, .int sz0, .int sy, .int dn]))]) hP hD [1] [0, 2] rfl rfl (by decide) (by decide) hk1 hFc hP1 hD1
  generalize H1 = H at hP hS ⊢
  have hP : va_P (dC, dI) classes [(h0, .inr (11, [.ref xp, .ref xtp, .ref xn, .ref xt, .ref xk, .ref xl, .ref xc, .ref xo, .ref xto, .ref xr, .ref xch, .int ts, .int ik, .int st])), (xr, .inl (aC 0, 7, .inl rf)), (xn, .inr (4, [.ref ek, .ref ef, .ref ew, .ref ep, .ref es, .int sz0, .int sy, .int dn]))] H := hP
  have hD : va_D A [(h0, .inr (11, [.ref xp, .ref xtp, .ref xn, .ref xt, .ref xk, .ref xl, .ref xc, .ref xo, .ref xto, .ref xr, .ref xch, .int ts, .int ik, .int st])), (xr, .inl (aC 0, 7, .inl rf)), (xn, .inr (4, [.ref ek, .ref ef, .ref ew, .ref ep, .ref es, .int sz0, .int sy, .int dn]))] := hD
  clear hPc hDc hFc hz1 hk1 hP1 hD1 ht hvm
  have hz_5 : x_1 = 0 := by rw [hw_1]; rcases hno with h9 | h9 <;> simp [h9]
  refine lv_if_eq (tgt := 27) hx hb dX11_swap_8 (by decide) (fun c_2 => ?_) (fun c_2 => ?_)
  · refine lv_aload_n hx hb dX11_swap_27 rfl (lv_at hl 0 rfl) ?_
    refine lv_iconst (v := -1) hx hb dX11_swap_28 (by decide) ?_
    have hPc := hP.sub (ws' := [(h0, .inr (11, [.ref xp, .ref xtp, .ref xn, .ref xt, .ref xk, .ref xl, .ref xc, .ref xo, .ref xto, .ref xr, .ref xch, .int ts, .int ik, .int st])), (xr, .inl (aC 0, 7, .inl rf))]) [0, 1] rfl
    have hDc := hD.sub (ws' := [(h0, .inr (11, [.ref xp, .ref xtp, .ref xn, .ref xt, .ref xk, .ref xl, .ref xc, .ref xo, .ref xto, .ref xr, .ref xch, .int ts, .int ik, .int st])), (xr, .inl (aC 0, 7, .inl rf))]) [0, 1] (by decide) rfl
    have hFc := va_free (wc := [(h0, .inr (11, [.ref xp, .ref xtp, .ref xn, .ref xt, .ref xk, .ref xl, .ref xc, .ref xo, .ref xto, .ref xr, .ref xch, .int ts, .int ik, .int st])), (xr, .inl (aC 0, 7, .inl rf))]) hD hS hA [0, 1] rfl
    refine va_calli (va_runV (As := [.int (-1)]) (rest := []) ⟨hx, hb, hml, hown, hts⟩ (c_X11_refuse l dC dI aC H.size h0 xp xtp xn xt xk xl xc xo xto xr xch ts ik st (-1) 1 rf (by decide) (by decide) (by decide) (by unfold vp_in; decide)) ⟨(callB_of 1 hts (gG kw_276) rfl rfl rfl (hts _ (gw kw_1 rfl)) (hts _ (gw kw_273 rfl)) (by decide +kernel) ⟨Nat.le_of_ble_eq_true rfl, Nat.le_of_ble_eq_true rfl⟩), (hts _ (gw kw_275 rfl)), (hts _ (gw ks_0 rfl))⟩ ⟨fun a U g mk q => by obtain ⟨q0, q1, qP, qK, qD, qN⟩ := q; exact ⟨q0, q1, qP, va_K.moved (u := U) (U := U.calling g mk a) (Vm.Alike.refl U.vm) qK, qD, NX.same (u := U) (U := U.calling g mk a) rfl qN⟩, va_recv hK hPc (ci := 11) (q0 := 0) rfl rfl, fun U hU hW => ⟨rfl, by rw [hU], by rw [hU]; exact hPc, va_K.moved hW.alike hK, hDc.weaken (fun _ _ _ _ => trivial), NX.warm hW hN⟩⟩ rfl rfl hl.1 rfl (lv_room (Nat.le_of_ble_eq_true rfl)) dX11_swap_29 ⟨Nat.le_of_ble_eq_true rfl, Nat.le_of_ble_eq_true rfl⟩) hS (fun q _ h => hFc q h) hFc (fun x_3 u t H1 locs ht hvm hw_3 hB hz1 hk1 hS => ?_)
    obtain ⟨u_4, rfl⟩ : ∃ z, z = u := ⟨_, rfl⟩
    obtain ⟨hP1, hK1, hD1⟩ := hB
    rw [ht] at hP1
    clear hK1
    try dsimp only at hw_3
    obtain ⟨hP, hD⟩ := va_join (wr := [(xn, .inr (4, [.ref ek, .ref ef, .ref ew, .ref ep, .ref es, .int sz0, .int sy, .int dn]))]) (w1 := [(h0, .inr (11, [.ref xp, .ref xtp, .ref xn, .ref xt, .ref xk, .ref xl, .ref xc, .ref xo, .ref xto, .ref xr, .ref xch, .int ts, .int ik, .int st])), (xr, .inl (aC 0, 7, .inl u_4))]) hP hD [0, 1] [2] rfl rfl (by decide) (by decide) hk1 hFc hP1 hD1
    generalize H1 = H at hP hS ⊢
    have hP : va_P (dC, dI) classes [(xn, .inr (4, [.ref ek, .ref ef, .ref ew, .ref ep, .ref es, .int sz0, .int sy, .int dn])), (h0, .inr (11, [.ref xp, .ref xtp, .ref xn, .ref xt, .ref xk, .ref xl, .ref xc, .ref xo, .ref xto, .ref xr, .ref xch, .int ts, .int ik, .int st])), (xr, .inl (aC 0, 7, .inl u_4))] H := hP
    have hD : va_D A [(xn, .inr (4, [.ref ek, .ref ef, .ref ew, .ref ep, .ref es, .int sz0, .int sy, .int dn])), (h0, .inr (11, [.ref xp, .ref xtp, .ref xn, .ref xt, .ref xk, .ref xl, .ref xc, .ref xo, .ref xto, .ref xr, .ref xch, .int ts, .int ik, .int st])), (xr, .inl (aC 0, 7, .inl u_4))] := hD
    clear hPc hDc hFc hz1 hk1 hP1 hD1 ht hvm
    obtain ⟨hv9, hv8⟩ := hw_3
    have hP9 := hP.sub (ws' := []) [] rfl
    have hD9 := hD.sub (ws' := []) [] (by decide) rfl
    refine W.widen (k := 0) (n := 0) (by omega) (by omega) ?_
    exact W.iret (v := x_3) hx hb hr (fun t ht hW => ⟨⟨x_3, (), rfl, hv9, by rw [ht]; exact hP9, va_K.moved hW.alike hK, hD9⟩, hS.F ht⟩) hS.2.2 dX11_swap_32
  · exact absurd hz_5 c_2

set_option maxHeartbeats 4000000 in
set_option maxRecDepth 100000 in
/-- X11_bestAge_r -/
theorem c_X11_bestAge_r (l : Launch) (dC : Nat → ClassId) (dI : Nat → Nat → Nat) (aC : Nat → ClassId) (sz : Nat) (h0 : Nat) (xp : Nat) (xtp : Nat) (xn : Nat) (xt : Nat) (xk : Nat) (xl : Nat) (xc : Nat) (xo : Nat) (xto : Nat) (xr : Nat) (xch : Nat) (ts : Int32) (ik : Int32) (st : Int32) (ek : Nat) (ef : Nat) (ew : Nat) (ep : Nat) (es : Nat) (sz0 : Int32) (sy : Int32) (dn : Int32) (rf : Nat → Int32) (i : Int32) (hno : i < 0 ∨ sz0 ≤ i) : Met l yX11_bestAge (wW yX11_bestAge cX11_bestAge 5 (some .int)) ({ frames := 1, cells := 0, slots := 0, locals := 21 } : Room) (va_Pc [.ref h0, .int i] (fun U => U.heap.size = sz ∧ va_P (dC, dI) classes [(h0, .inr (11, [.ref xp, .ref xtp, .ref xn, .ref xt, .ref xk, .ref xl, .ref xc, .ref xo, .ref xto, .ref xr, .ref xch, .int ts, .int ik, .int st])), (xn, .inr (4, [.ref ek, .ref ef, .ref ew, .ref ep, .ref es, .int sz0, .int sy, .int dn])), (xr, .inl (aC 0, 7, .inl rf))] U.heap ∧ va_K (dC, dI) classes (TY aC) U ∧ va_D (fun _ => True) [(h0, .inr (11, [.ref xp, .ref xtp, .ref xn, .ref xt, .ref xk, .ref xl, .ref xc, .ref xo, .ref xto, .ref xr, .ref xch, .int ts, .int ik, .int st])), (xn, .inr (4, [.ref ek, .ref ef, .ref ew, .ref ep, .ref es, .int sz0, .int sy, .int dn])), (xr, .inl (aC 0, 7, .inl rf))] ∧ NX U)) (va_Qi (fun (r : Int32) (_ : Unit) => r = -1) (fun (_ : Unit) (t : State) => va_P (dC, dI) classes [] t.heap ∧ va_K (dC, dI) classes (TY aC) t ∧ va_D (va_A [(h0, .inr (11, [.ref xp, .ref xtp, .ref xn, .ref xt, .ref xk, .ref xl, .ref xc, .ref xo, .ref xto, .ref xr, .ref xch, .int ts, .int ik, .int st])), (xn, .inr (4, [.ref ek, .ref ef, .ref ew, .ref ep, .ref es, .int sz0, .int sy, .int dn])), (xr, .inl (aC 0, 7, .inl rf))] sz) []) (va_A [(h0, .inr (11, [.ref xp, .ref xtp, .ref xn, .ref xt, .ref xk, .ref xl, .ref xc, .ref xo, .ref xto, .ref xr, .ref xch, .int ts, .int ik, .int st])), (xn, .inr (4, [.ref ek, .ref ef, .ref ew, .ref ep, .ref es, .int sz0, .int sy, .int dn])), (xr, .inl (aC 0, 7, .inl rf))] sz)) 0 0 (va_A [(h0, .inr (11, [.ref xp, .ref xtp, .ref xn, .ref xt, .ref xk, .ref xl, .ref xc, .ref xo, .ref xto, .ref xr, .ref xch, .int ts, .int ik, .int st])), (xn, .inr (4, [.ref ek, .ref ef, .ref ew, .ref ep, .ref es, .int sz0, .int sy, .int dn])), (xr, .inl (aC 0, 7, .inl rf))] sz) := by
  refine Met.ofW (cc := cX11_bestAge) (maxL := 5) (ret := (some .int)) (by decide) rfl ?_
  intro p e s m args below meth c s₁ B hml hv
  obtain ⟨rfl, hsz, hP, hK, hD0, hN⟩ := hv
  have hx := B.exec
  have hb := B.bytes
  have hr := B.returns
  have hts0 := atoms_spec (ws := (wW yX11_bestAge cX11_bestAge 5 (some .int))) B.pre
  have hts : ∀ w9 ∈ lw_G, w9.before ([.ref h0, .int i] : List Value).toArray s = true := fun w9 h9 => hts0 w9 (List.mem_cons_of_mem _ h9)
  have hown : s.vm.findClass RX11 = some m.cls := findClass_of_methodNamed B.named
  have hlocks := B.notSynchronized
  subst hsz
  have hD := hD0.self (sz := s.heap.size)
  generalize hAe : va_A [(h0, .inr (11, [.ref xp, .ref xtp, .ref xn, .ref xt, .ref xk, .ref xl, .ref xc, .ref xo, .ref xto, .ref xr, .ref xch, .int ts, .int ik, .int st])), (xn, .inr (4, [.ref ek, .ref ef, .ref ew, .ref ep, .ref es, .int sz0, .int sy, .int dn])), (xr, .inl (aC 0, 7, .inl rf))] s.heap.size = A at hD ⊢
  have hA : ∀ q : Nat, s.heap.size ≤ q → A q := fun q h => by rw [← hAe]; exact Or.inr h
  obtain ⟨H, hHe⟩ : ∃ H : Heap, H = s.heap := ⟨_, rfl⟩
  have hS : va_S A s.heap H [] := by rw [hHe]; exact va_S.rf
  have hP : va_P (dC, dI) classes [(h0, .inr (11, [.ref xp, .ref xtp, .ref xn, .ref xt, .ref xk, .ref xl, .ref xc, .ref xo, .ref xto, .ref xr, .ref xch, .int ts, .int ik, .int st])), (xn, .inr (4, [.ref ek, .ref ef, .ref ew, .ref ep, .ref es, .int sz0, .int sy, .int dn])), (xr, .inl (aC 0, 7, .inl rf))] H := by rw [hHe]; exact hP
  have hl := lv_entry ([.ref h0, .int i]) (n := 5) (Nat.le_of_ble_eq_true rfl)
  rw [lg_entry_eq]
  generalize (lg_sl ([.ref h0, .int i]) ++ List.replicate (5 - (lg_sl ([.ref h0, .int i])).length) Slot.unset).toArray = ls at hl ⊢
  have hl : lv_has ls 5 [(0, .ref h0), (1, .int i)] := hl
  rw [← hHe]
  refine lv_aload_n hx hb dX11_bestAge_0 rfl (lv_at hl 0 rfl) ?_
  refine va_get (D := (dC, dI)) (ci := 11) (v := .ref xn) (C := RX11) (T := TX11) (N := 14) hx hb hts inX11 hown hK hP 0 rfl rfl 2 (by decide) (hts _ (gw kw_228 rfl)) (fun _ h9 => h9) rfl dX11_bestAge_1 ?_
  refine lv_iload_n hx hb dX11_bestAge_4 rfl (lv_at hl 1 rfl) ?_
  have hPc := hP.sub (ws' := [(xn, .inr (4, [.ref ek, .ref ef, .ref ew, .ref ep, .ref es, .int sz0, .int sy, .int dn]))]) [1] rfl
  have hDc := hD.sub (ws' := [(xn, .inr (4, [.ref ek, .ref ef, .ref ew, .ref ep, .ref es, .int sz0, .int sy, .int dn]))]) [1] (by decide) rfl
  have hFc := va_free (wc := [(xn, .inr (4, [.ref ek, .ref ef, .ref ew, .ref ep, .ref es, .int sz0, .int sy, .int dn]))]) hD hS hA [1] rfl
  refine va_calli (va_runV (As := [.int i]) (rest := []) ⟨hx, hb, hml, hown, hts⟩ (c_X4_has l dC dI aC H.size xn ek ef ew ep es sz0 sy dn i ) ⟨(callB_of 1 hts (gG kw_340) rfl rfl rfl (hts _ (gw kw_2 rfl)) (hts _ (gw kw_337 rfl)) (by decide +kernel) ⟨Nat.le_of_ble_eq_true rfl, Nat.le_of_ble_eq_true rfl⟩), (hts _ (gw kw_338 rfl)), (hts _ (gw kw_339 rfl))⟩ ⟨fun a U g mk q => by obtain ⟨q0, q1, qP, qK, qD, qN⟩ := q; exact ⟨q0, q1, qP, va_K.moved (u := U) (U := U.calling g mk a) (Vm.Alike.refl U.vm) qK, qD, NX.same (u := U) (U := U.calling g mk a) rfl qN⟩, va_recv hK hPc (ci := 4) (q0 := 0) rfl rfl, fun U hU hW => ⟨rfl, by rw [hU], by rw [hU]; exact hPc, va_K.moved hW.alike hK, hDc.weaken (fun _ _ _ _ => trivial), NX.warm hW hN⟩⟩ rfl rfl hl.1 rfl (lv_room (Nat.le_of_ble_eq_true rfl)) dX11_bestAge_5 ⟨Nat.le_of_ble_eq_true rfl, Nat.le_of_ble_eq_true rfl⟩) hS (fun q _ h => hFc q h) hFc (fun x_1 u t H1 locs ht hvm hw_1 hB hz1 hk1 hS => ?_)
  obtain ⟨hP1, hK1, hD1⟩ := hB
  rw [ht] at hP1
  clear hK1
  try dsimp only at hw_1
  obtain ⟨hP, hD⟩ := va_join (wr := [(h0, .inr (11, [.ref xp, .ref xtp, .ref xn, .ref xt, .ref xk, .ref xl, .ref xc, .ref xo, .ref xto, .ref xr, .ref xch, .int ts, .int ik, .int st])), (xr, .inl (aC 0, 7, .inl rf))]) (w1 := [(xn, .inr (4, [.ref ek, .ref ef, .ref ew, .ref ep, .ref es, .int sz0, .int sy, .int dn]))]) hP hD [1] [0, 2] rfl rfl (by decide) (by decide) hk1 hFc hP1 hD1
  generalize H1 = H at hP hS ⊢
  have hP : va_P (dC, dI) classes [(h0, .inr (11, [.ref xp, .ref xtp, .ref xn, .ref xt, .ref xk, .ref xl, .ref xc, .ref xo, .ref xto, .ref xr, .ref xch, .int ts, .int ik, .int st])), (xr, .inl (aC 0, 7, .inl rf)), (xn, .inr (4, [.ref ek, .ref ef, .ref ew, .ref ep, .ref es, .int sz0, .int sy, .int dn]))] H := hP
  have hD : va_D A [(h0, .inr (11, [.ref xp, .ref xtp, .ref xn, .ref xt, .ref xk, .ref xl, .ref xc, .ref xo, .ref xto, .ref xr, .ref xch, .int ts, .int ik, .int st])), (xr, .inl (aC 0, 7, .inl rf)), (xn, .inr (4, [.ref ek, .ref ef, .ref ew, .ref ep, .ref es, .int sz0, .int sy, .int dn]))] := hD
  clear hPc hDc hFc hz1 hk1 hP1 hD1 ht hvm
  have hz_5 : x_1 = 0 := by rw [hw_1]; rcases hno with h9 | h9 <;> simp [h9]
  refine lv_if_ne (tgt := 17) hx hb dX11_bestAge_8 (by decide) (fun c_2 => ?_) (fun c_2 => ?_)
  · exact absurd hz_5 c_2
  · refine lv_aload_n hx hb dX11_bestAge_11 rfl (lv_at hl 0 rfl) ?_
    refine lv_iconst (v := -1) hx hb dX11_bestAge_12 (by decide) ?_
    have hPc := hP.sub (ws' := [(h0, .inr (11, [.ref xp, .ref xtp, .ref xn, .ref xt, .ref xk, .ref xl, .ref xc, .ref xo, .ref xto, .ref xr, .ref xch, .int ts, .int ik, .int st])), (xr, .inl (aC 0, 7, .inl rf))]) [0, 1] rfl
    have hDc := hD.sub (ws' := [(h0, .inr (11, [.ref xp, .ref xtp, .ref xn, .ref xt, .ref xk, .ref xl, .ref xc, .ref xo, .ref xto, .ref xr, .ref xch, .int ts, .int ik, .int st])), (xr, .inl (aC 0, 7, .inl rf))]) [0, 1] (by decide) rfl
    have hFc := va_free (wc := [(h0, .inr (11, [.ref xp, .ref xtp, .ref xn, .ref xt, .ref xk, .ref xl, .ref xc, .ref xo, .ref xto, .ref xr, .ref xch, .int ts, .int ik, .int st])), (xr, .inl (aC 0, 7, .inl rf))]) hD hS hA [0, 1] rfl
    refine va_calli (va_runV (As := [.int (-1)]) (rest := []) ⟨hx, hb, hml, hown, hts⟩ (c_X11_refuse l dC dI aC H.size h0 xp xtp xn xt xk xl xc xo xto xr xch ts ik st (-1) 1 rf (by decide) (by decide) (by decide) (by unfold vp_in; decide)) ⟨(callB_of 1 hts (gG kw_276) rfl rfl rfl (hts _ (gw kw_1 rfl)) (hts _ (gw kw_273 rfl)) (by decide +kernel) ⟨Nat.le_of_ble_eq_true rfl, Nat.le_of_ble_eq_true rfl⟩), (hts _ (gw kw_275 rfl)), (hts _ (gw ks_0 rfl))⟩ ⟨fun a U g mk q => by obtain ⟨q0, q1, qP, qK, qD, qN⟩ := q; exact ⟨q0, q1, qP, va_K.moved (u := U) (U := U.calling g mk a) (Vm.Alike.refl U.vm) qK, qD, NX.same (u := U) (U := U.calling g mk a) rfl qN⟩, va_recv hK hPc (ci := 11) (q0 := 0) rfl rfl, fun U hU hW => ⟨rfl, by rw [hU], by rw [hU]; exact hPc, va_K.moved hW.alike hK, hDc.weaken (fun _ _ _ _ => trivial), NX.warm hW hN⟩⟩ rfl rfl hl.1 rfl (lv_room (Nat.le_of_ble_eq_true rfl)) dX11_bestAge_13 ⟨Nat.le_of_ble_eq_true rfl, Nat.le_of_ble_eq_true rfl⟩) hS (fun q _ h => hFc q h) hFc (fun x_3 u t H1 locs ht hvm hw_3 hB hz1 hk1 hS => ?_)
    obtain ⟨u_4, rfl⟩ : ∃ z, z = u := ⟨_, rfl⟩
    obtain ⟨hP1, hK1, hD1⟩ := hB
    rw [ht] at hP1
    clear hK1
    try dsimp only at hw_3
    obtain ⟨hP, hD⟩ := va_join (wr := [(xn, .inr (4, [.ref ek, .ref ef, .ref ew, .ref ep, .ref es, .int sz0, .int sy, .int dn]))]) (w1 := [(h0, .inr (11, [.ref xp, .ref xtp, .ref xn, .ref xt, .ref xk, .ref xl, .ref xc, .ref xo, .ref xto, .ref xr, .ref xch, .int ts, .int ik, .int st])), (xr, .inl (aC 0, 7, .inl u_4))]) hP hD [0, 1] [2] rfl rfl (by decide) (by decide) hk1 hFc hP1 hD1
    generalize H1 = H at hP hS ⊢
    have hP : va_P (dC, dI) classes [(xn, .inr (4, [.ref ek, .ref ef, .ref ew, .ref ep, .ref es, .int sz0, .int sy, .int dn])), (h0, .inr (11, [.ref xp, .ref xtp, .ref xn, .ref xt, .ref xk, .ref xl, .ref xc, .ref xo, .ref xto, .ref xr, .ref xch, .int ts, .int ik, .int st])), (xr, .inl (aC 0, 7, .inl u_4))] H := hP
    have hD : va_D A [(xn, .inr (4, [.ref ek, .ref ef, .ref ew, .ref ep, .ref es, .int sz0, .int sy, .int dn])), (h0, .inr (11, [.ref xp, .ref xtp, .ref xn, .ref xt, .ref xk, .ref xl, .ref xc, .ref xo, .ref xto, .ref xr, .ref xch, .int ts, .int ik, .int st])), (xr, .inl (aC 0, 7, .inl u_4))] := hD
    clear hPc hDc hFc hz1 hk1 hP1 hD1 ht hvm
    obtain ⟨hv9, hv8⟩ := hw_3
    have hP9 := hP.sub (ws' := []) [] rfl
    have hD9 := hD.sub (ws' := []) [] (by decide) rfl
    refine W.widen (k := 0) (n := 0) (by omega) (by omega) ?_
    exact W.iret (v := x_3) hx hb hr (fun t ht hW => ⟨⟨x_3, (), rfl, hv9, by rw [ht]; exact hP9, va_K.moved hW.alike hK, hD9⟩, hS.F ht⟩) hS.2.2 dX11_bestAge_16

set_option maxHeartbeats 4000000 in
set_option maxRecDepth 100000 in
/-- X11_seeds_r -/
theorem c_X11_seeds_r (l : Launch) (dC : Nat → ClassId) (dI : Nat → Nat → Nat) (aC : Nat → ClassId) (sz : Nat) (h0 : Nat) (xp : Nat) (xtp : Nat) (xn : Nat) (xt : Nat) (xk : Nat) (xl : Nat) (xc : Nat) (xo : Nat) (xto : Nat) (xr : Nat) (xch : Nat) (ts : Int32) (ik : Int32) (st : Int32) (ek : Nat) (ef : Nat) (ew : Nat) (ep : Nat) (es : Nat) (sz0 : Int32) (sy : Int32) (dn : Int32) (rf : Nat → Int32) (i : Int32) (a2 : Int32) (a3 : Int32) (hno : i < 0 ∨ sz0 ≤ i) : Met l yX11_seeds (wW yX11_seeds cX11_seeds 7 (some .int)) ({ frames := 1, cells := 0, slots := 0, locals := 21 } : Room) (va_Pc [.ref h0, .int i, .int a2, .int a3] (fun U => U.heap.size = sz ∧ va_P (dC, dI) classes [(h0, .inr (11, [.ref xp, .ref xtp, .ref xn, .ref xt, .ref xk, .ref xl, .ref xc, .ref xo, .ref xto, .ref xr, .ref xch, .int ts, .int ik, .int st])), (xn, .inr (4, [.ref ek, .ref ef, .ref ew, .ref ep, .ref es, .int sz0, .int sy, .int dn])), (xr, .inl (aC 0, 7, .inl rf))] U.heap ∧ va_K (dC, dI) classes (TY aC) U ∧ va_D (fun _ => True) [(h0, .inr (11, [.ref xp, .ref xtp, .ref xn, .ref xt, .ref xk, .ref xl, .ref xc, .ref xo, .ref xto, .ref xr, .ref xch, .int ts, .int ik, .int st])), (xn, .inr (4, [.ref ek, .ref ef, .ref ew, .ref ep, .ref es, .int sz0, .int sy, .int dn])), (xr, .inl (aC 0, 7, .inl rf))] ∧ NX U)) (va_Qi (fun (r : Int32) (_ : Unit) => r = -1) (fun (_ : Unit) (t : State) => va_P (dC, dI) classes [] t.heap ∧ va_K (dC, dI) classes (TY aC) t ∧ va_D (va_A [(h0, .inr (11, [.ref xp, .ref xtp, .ref xn, .ref xt, .ref xk, .ref xl, .ref xc, .ref xo, .ref xto, .ref xr, .ref xch, .int ts, .int ik, .int st])), (xn, .inr (4, [.ref ek, .ref ef, .ref ew, .ref ep, .ref es, .int sz0, .int sy, .int dn])), (xr, .inl (aC 0, 7, .inl rf))] sz) []) (va_A [(h0, .inr (11, [.ref xp, .ref xtp, .ref xn, .ref xt, .ref xk, .ref xl, .ref xc, .ref xo, .ref xto, .ref xr, .ref xch, .int ts, .int ik, .int st])), (xn, .inr (4, [.ref ek, .ref ef, .ref ew, .ref ep, .ref es, .int sz0, .int sy, .int dn])), (xr, .inl (aC 0, 7, .inl rf))] sz)) 0 0 (va_A [(h0, .inr (11, [.ref xp, .ref xtp, .ref xn, .ref xt, .ref xk, .ref xl, .ref xc, .ref xo, .ref xto, .ref xr, .ref xch, .int ts, .int ik, .int st])), (xn, .inr (4, [.ref ek, .ref ef, .ref ew, .ref ep, .ref es, .int sz0, .int sy, .int dn])), (xr, .inl (aC 0, 7, .inl rf))] sz) := by
  refine Met.ofW (cc := cX11_seeds) (maxL := 7) (ret := (some .int)) (by decide) rfl ?_
  intro p e s m args below meth c s₁ B hml hv
  obtain ⟨rfl, hsz, hP, hK, hD0, hN⟩ := hv
  have hx := B.exec
  have hb := B.bytes
  have hr := B.returns
  have hts0 := atoms_spec (ws := (wW yX11_seeds cX11_seeds 7 (some .int))) B.pre
  have hts : ∀ w9 ∈ lw_G, w9.before ([.ref h0, .int i, .int a2, .int a3] : List Value).toArray s = true := fun w9 h9 => hts0 w9 (List.mem_cons_of_mem _ h9)
  have hown : s.vm.findClass RX11 = some m.cls := findClass_of_methodNamed B.named
  have hlocks := B.notSynchronized
  subst hsz
  have hD := hD0.self (sz := s.heap.size)
  generalize hAe : va_A [(h0, .inr (11, [.ref xp, .ref xtp, .ref xn, .ref xt, .ref xk, .ref xl, .ref xc, .ref xo, .ref xto, .ref xr, .ref xch, .int ts, .int ik, .int st])), (xn, .inr (4, [.ref ek, .ref ef, .ref ew, .ref ep, .ref es, .int sz0, .int sy, .int dn])), (xr, .inl (aC 0, 7, .inl rf))] s.heap.size = A at hD ⊢
  have hA : ∀ q : Nat, s.heap.size ≤ q → A q := fun q h => by rw [← hAe]; exact Or.inr h
  obtain ⟨H, hHe⟩ : ∃ H : Heap, H = s.heap := ⟨_, rfl⟩
  have hS : va_S A s.heap H [] := by rw [hHe]; exact va_S.rf
  have hP : va_P (dC, dI) classes [(h0, .inr (11, [.ref xp, .ref xtp, .ref xn, .ref xt, .ref xk, .ref xl, .ref xc, .ref xo, .ref xto, .ref xr, .ref xch, .int ts, .int ik, .int st])), (xn, .inr (4, [.ref ek, .ref ef, .ref ew, .ref ep, .ref es, .int sz0, .int sy, .int dn])), (xr, .inl (aC 0, 7, .inl rf))] H := by rw [hHe]; exact hP
  have hl := lv_entry ([.ref h0, .int i, .int a2, .int a3]) (n := 7) (Nat.le_of_ble_eq_true rfl)
  rw [lg_entry_eq]
  generalize (lg_sl ([.ref h0, .int i, .int a2, .int a3]) ++ List.replicate (7 - (lg_sl ([.ref h0, .int i, .int a2, .int a3])).length) Slot.unset).toArray = ls at hl ⊢
  have hl : lv_has ls 7 [(0, .ref h0), (1, .int i), (2, .int a2), (3, .int a3)] := hl
  rw [← hHe]
  refine lv_aload_n hx hb dX11_seeds_0 rfl (lv_at hl 0 rfl) ?_
  refine va_get (D := (dC, dI)) (ci := 11) (v := .ref xn) (C := RX11) (T := TX11) (N := 14) hx hb hts inX11 hown hK hP 0 rfl rfl 2 (by decide) (hts _ (gw kw_228 rfl)) (fun _ h9 => h9) rfl dX11_seeds_1 ?_
  refine lv_iload_n hx hb dX11_seeds_4 rfl (lv_at hl 1 rfl) ?_
  have hPc := hP.sub (ws' := [(xn, .inr (4, [.ref ek, .ref ef, .ref ew, .ref ep, .ref es, .int sz0, .int sy, .int dn]))]) [1] rfl
  have hDc := hD.sub (ws' := [(xn, .inr (4, [.ref ek, .ref ef, .ref ew, .ref ep, .ref es, .int sz0, .int sy, .int dn]))]) [1] (by decide) rfl
  have hFc := va_free (wc := [(xn, .inr (4, [.ref ek, .ref ef, .ref ew, .ref ep, .ref es, .int sz0, .int sy, .int dn]))]) hD hS hA [1] rfl
  refine va_calli (va_runV (As := [.int i]) (rest := []) ⟨hx, hb, hml, hown, hts⟩ (c_X4_has l dC dI aC H.size xn ek ef ew ep es sz0 sy dn i ) ⟨(callB_of 1 hts (gG kw_340) rfl rfl rfl (hts _ (gw kw_2 rfl)) (hts _ (gw kw_337 rfl)) (by decide +kernel) ⟨Nat.le_of_ble_eq_true rfl, Nat.le_of_ble_eq_true rfl⟩), (hts _ (gw kw_338 rfl)), (hts _ (gw kw_339 rfl))⟩ ⟨fun a U g mk q => by obtain ⟨q0, q1, qP, qK, qD, qN⟩ := q; exact ⟨q0, q1, qP, va_K.moved (u := U) (U := U.calling g mk a) (Vm.Alike.refl U.vm) qK, qD, NX.same (u := U) (U := U.calling g mk a) rfl qN⟩, va_recv hK hPc (ci := 4) (q0 := 0) rfl rfl, fun U hU hW => ⟨rfl, by rw [hU], by rw [hU]; exact hPc, va_K.moved hW.alike hK, hDc.weaken (fun _ _ _ _ => trivial), NX.warm hW hN⟩⟩ rfl rfl hl.1 rfl (lv_room (Nat.le_of_ble_eq_true rfl)) dX11_seeds_5 ⟨Nat.le_of_ble_eq_true rfl, Nat.le_of_ble_eq_true rfl⟩) hS (fun q _ h => hFc q h) hFc (fun x_1 u t H1 locs ht hvm hw_1 hB hz1 hk1 hS => ?_)
  obtain ⟨hP1, hK1, hD1⟩ := hB
  rw [ht] at hP1
  clear hK1
  try dsimp only at hw_1
  obtain ⟨hP, hD⟩ := va_join (wr := [(h0, .inr (11, [.ref xp, .ref xtp, .ref xn, .ref xt, .ref xk, .ref xl, .ref xc, .ref xo, .ref xto, .ref xr, .ref xch, .int ts, .int ik, .int st])), (xr, .inl (aC 0, 7, .inl rf))]) (w1 := [(xn, .inr (4, [.ref ek, .ref ef, .ref ew, .ref ep, .ref es, .int sz0, .int sy, .int dn]))]) hP hD [1] [0, 2] rfl rfl (by decide) (by decide) hk1 hFc hP1 hD1
  generalize H1 = H at hP hS ⊢
  have hP : va_P (dC, dI) classes [(h0, .inr (11, [.ref xp, .ref xtp, .ref xn, .ref xt, .ref xk, .ref xl, .ref xc, .ref xo, .ref xto, .ref xr, .ref xch, .int ts, .int ik, .int st])), (xr, .inl (aC 0, 7, .inl rf)), (xn, .inr (4, [.ref ek, .ref ef, .ref ew, .ref ep, .ref es, .int sz0, .int sy, .int dn]))] H := hP
  have hD : va_D A [(h0, .inr (11, [.ref xp, .ref xtp, .ref xn, .ref xt, .ref xk, .ref xl, .ref xc, .ref xo, .ref xto, .ref xr, .ref xch, .int ts, .int ik, .int st])), (xr, .inl (aC 0, 7, .inl rf)), (xn, .inr (4, [.ref ek, .ref ef, .ref ew, .ref ep, .ref es, .int sz0, .int sy, .int dn]))] := hD
  clear hPc hDc hFc hz1 hk1 hP1 hD1 ht hvm
  have hz_5 : x_1 = 0 := by rw [hw_1]; rcases hno with h9 | h9 <;> simp [h9]
  refine lv_if_ne (tgt := 17) hx hb dX11_seeds_8 (by decide) (fun c_2 => ?_) (fun c_2 => ?_)
  · exact absurd hz_5 c_2
  · refine lv_aload_n hx hb dX11_seeds_11 rfl (lv_at hl 0 rfl) ?_
    refine lv_iconst (v := -1) hx hb dX11_seeds_12 (by decide) ?_
    have hPc := hP.sub (ws' := [(h0, .inr (11, [.ref xp, .ref xtp, .ref xn, .ref xt, .ref xk, .ref xl, .ref xc, .ref xo, .ref xto, .ref xr, .ref xch, .int ts, .int ik, .int st])), (xr, .inl (aC 0, 7, .inl rf))]) [0, 1] rfl
    have hDc := hD.sub (ws' := [(h0, .inr (11, [.ref xp, .ref xtp, .ref xn, .ref xt, .ref xk, .ref xl, .ref xc, .ref xo, .ref xto, .ref xr, .ref xch, .int ts, .int ik, .int st])), (xr, .inl (aC 0, 7, .inl rf))]) [0, 1] (by decide) rfl
    have hFc := va_free (wc := [(h0, .inr (11, [.ref xp, .ref xtp, .ref xn, .ref xt, .ref xk, .ref xl, .ref xc, .ref xo, .ref xto, .ref xr, .ref xch, .int ts, .int ik, .int st])), (xr, .inl (aC 0, 7, .inl rf))]) hD hS hA [0, 1] rfl
    refine va_calli (va_runV (As := [.int (-1)]) (rest := []) ⟨hx, hb, hml, hown, hts⟩ (c_X11_refuse l dC dI aC H.size h0 xp xtp xn xt xk xl xc xo xto xr xch ts ik st (-1) 1 rf (by decide) (by decide) (by decide) (by unfold vp_in; decide)) ⟨(callB_of 1 hts (gG kw_276) rfl rfl rfl (hts _ (gw kw_1 rfl)) (hts _ (gw kw_273 rfl)) (by decide +kernel) ⟨Nat.le_of_ble_eq_true rfl, Nat.le_of_ble_eq_true rfl⟩), (hts _ (gw kw_275 rfl)), (hts _ (gw ks_0 rfl))⟩ ⟨fun a U g mk q => by obtain ⟨q0, q1, qP, qK, qD, qN⟩ := q; exact ⟨q0, q1, qP, va_K.moved (u := U) (U := U.calling g mk a) (Vm.Alike.refl U.vm) qK, qD, NX.same (u := U) (U := U.calling g mk a) rfl qN⟩, va_recv hK hPc (ci := 11) (q0 := 0) rfl rfl, fun U hU hW => ⟨rfl, by rw [hU], by rw [hU]; exact hPc, va_K.moved hW.alike hK, hDc.weaken (fun _ _ _ _ => trivial), NX.warm hW hN⟩⟩ rfl rfl hl.1 rfl (lv_room (Nat.le_of_ble_eq_true rfl)) dX11_seeds_13 ⟨Nat.le_of_ble_eq_true rfl, Nat.le_of_ble_eq_true rfl⟩) hS (fun q _ h => hFc q h) hFc (fun x_3 u t H1 locs ht hvm hw_3 hB hz1 hk1 hS => ?_)
    obtain ⟨u_4, rfl⟩ : ∃ z, z = u := ⟨_, rfl⟩
    obtain ⟨hP1, hK1, hD1⟩ := hB
    rw [ht] at hP1
    clear hK1
    try dsimp only at hw_3
    obtain ⟨hP, hD⟩ := va_join (wr := [(xn, .inr (4, [.ref ek, .ref ef, .ref ew, .ref ep, .ref es, .int sz0, .int sy, .int dn]))]) (w1 := [(h0, .inr (11, [.ref xp, .ref xtp, .ref xn, .ref xt, .ref xk, .ref xl, .ref xc, .ref xo, .ref xto, .ref xr, .ref xch, .int ts, .int ik, .int st])), (xr, .inl (aC 0, 7, .inl u_4))]) hP hD [0, 1] [2] rfl rfl (by decide) (by decide) hk1 hFc hP1 hD1
    generalize H1 = H at hP hS ⊢
    have hP : va_P (dC, dI) classes [(xn, .inr (4, [.ref ek, .ref ef, .ref ew, .ref ep, .ref es, .int sz0, .int sy, .int dn])), (h0, .inr (11, [.ref xp, .ref xtp, .ref xn, .ref xt, .ref xk, .ref xl, .ref xc, .ref xo, .ref xto, .ref xr, .ref xch, .int ts, .int ik, .int st])), (xr, .inl (aC 0, 7, .inl u_4))] H := hP
    have hD : va_D A [(xn, .inr (4, [.ref ek, .ref ef, .ref ew, .ref ep, .ref es, .int sz0, .int sy, .int dn])), (h0, .inr (11, [.ref xp, .ref xtp, .ref xn, .ref xt, .ref xk, .ref xl, .ref xc, .ref xo, .ref xto, .ref xr, .ref xch, .int ts, .int ik, .int st])), (xr, .inl (aC 0, 7, .inl u_4))] := hD
    clear hPc hDc hFc hz1 hk1 hP1 hD1 ht hvm
    obtain ⟨hv9, hv8⟩ := hw_3
    have hP9 := hP.sub (ws' := []) [] rfl
    have hD9 := hD.sub (ws' := []) [] (by decide) rfl
    refine W.widen (k := 0) (n := 0) (by omega) (by omega) ?_
    exact W.iret (v := x_3) hx hb hr (fun t ht hW => ⟨⟨x_3, (), rfl, hv9, by rw [ht]; exact hP9, va_K.moved hW.alike hK, hD9⟩, hS.F ht⟩) hS.2.2 dX11_seeds_16

set_option maxHeartbeats 4000000 in
set_option maxRecDepth 100000 in
/-- X11_judge_r -/
theorem c_X11_judge_r (l : Launch) (dC : Nat → ClassId) (dI : Nat → Nat → Nat) (aC : Nat → ClassId) (sz : Nat) (h0 : Nat) (xp : Nat) (xtp : Nat) (xn : Nat) (xt : Nat) (xk : Nat) (xl : Nat) (xc : Nat) (xo : Nat) (xto : Nat) (xr : Nat) (xch : Nat) (ts : Int32) (ik : Int32) (st : Int32) (ek : Nat) (ef : Nat) (ew : Nat) (ep : Nat) (es : Nat) (sz0 : Int32) (sy : Int32) (dn : Int32) (rf : Nat → Int32) (a1 : Int32) (hov : sz0 = 0 ∨ ¬ dn = 0) : Met l yX11_judge (wW yX11_judge cX11_judge 2 (some .int)) ({ frames := 1, cells := 0, slots := 0, locals := 21 } : Room) (va_Pc [.ref h0, .int a1] (fun U => U.heap.size = sz ∧ va_P (dC, dI) classes [(h0, .inr (11, [.ref xp, .ref xtp, .ref xn, .ref xt, .ref xk, .ref xl, .ref xc, .ref xo, .ref xto, .ref xr, .ref xch, .int ts, .int ik, .int st])), (xn, .inr (4, [.ref ek, .ref ef, .ref ew, .ref ep, .ref es, .int sz0, .int sy, .int dn])), (xr, .inl (aC 0, 7, .inl rf))] U.heap ∧ va_K (dC, dI) classes (TY aC) U ∧ va_D (fun _ => True) [(h0, .inr (11, [.ref xp, .ref xtp, .ref xn, .ref xt, .ref xk, .ref xl, .ref xc, .ref xo, .ref xto, .ref xr, .ref xch, .int ts, .int ik, .int st])), (xn, .inr (4, [.ref ek, .ref ef, .ref ew, .ref ep, .ref es, .int sz0, .int sy, .int dn])), (xr, .inl (aC 0, 7, .inl rf))] ∧ NX U)) (va_Qi (fun (r : Int32) (_ : Unit) => r = -3) (fun (_ : Unit) (t : State) => va_P (dC, dI) classes [] t.heap ∧ va_K (dC, dI) classes (TY aC) t ∧ va_D (va_A [(h0, .inr (11, [.ref xp, .ref xtp, .ref xn, .ref xt, .ref xk, .ref xl, .ref xc, .ref xo, .ref xto, .ref xr, .ref xch, .int ts, .int ik, .int st])), (xn, .inr (4, [.ref ek, .ref ef, .ref ew, .ref ep, .ref es, .int sz0, .int sy, .int dn])), (xr, .inl (aC 0, 7, .inl rf))] sz) []) (va_A [(h0, .inr (11, [.ref xp, .ref xtp, .ref xn, .ref xt, .ref xk, .ref xl, .ref xc, .ref xo, .ref xto, .ref xr, .ref xch, .int ts, .int ik, .int st])), (xn, .inr (4, [.ref ek, .ref ef, .ref ew, .ref ep, .ref es, .int sz0, .int sy, .int dn])), (xr, .inl (aC 0, 7, .inl rf))] sz)) 0 0 (va_A [(h0, .inr (11, [.ref xp, .ref xtp, .ref xn, .ref xt, .ref xk, .ref xl, .ref xc, .ref xo, .ref xto, .ref xr, .ref xch, .int ts, .int ik, .int st])), (xn, .inr (4, [.ref ek, .ref ef, .ref ew, .ref ep, .ref es, .int sz0, .int sy, .int dn])), (xr, .inl (aC 0, 7, .inl rf))] sz) := by
  refine Met.ofW (cc := cX11_judge) (maxL := 2) (ret := (some .int)) (by decide) rfl ?_
  intro p e s m args below meth c s₁ B hml hv
  obtain ⟨rfl, hsz, hP, hK, hD0, hN⟩ := hv
  have hx := B.exec
  have hb := B.bytes
  have hr := B.returns
  have hts0 := atoms_spec (ws := (wW yX11_judge cX11_judge 2 (some .int))) B.pre
  have hts : ∀ w9 ∈ lw_G, w9.before ([.ref h0, .int a1] : List Value).toArray s = true := fun w9 h9 => hts0 w9 (List.mem_cons_of_mem _ h9)
  have hown : s.vm.findClass RX11 = some m.cls := findClass_of_methodNamed B.named
  have hlocks := B.notSynchronized
  subst hsz
  have hD := hD0.self (sz := s.heap.size)
  generalize hAe : va_A [(h0, .inr (11, [.ref xp, .ref xtp, .ref xn, .ref xt, .ref xk, .ref xl, .ref xc, .ref xo, .ref xto, .ref xr, .ref xch, .int ts, .int ik, .int st])), (xn, .inr (4, [.ref ek, .ref ef, .ref ew, .ref ep, .ref es, .int sz0, .int sy, .int dn])), (xr, .inl (aC 0, 7, .inl rf))] s.heap.size = A at hD ⊢
  have hA : ∀ q : Nat, s.heap.size ≤ q → A q := fun q h => by rw [← hAe]; exact Or.inr h
  obtain ⟨H, hHe⟩ : ∃ H : Heap, H = s.heap := ⟨_, rfl⟩
  have hS : va_S A s.heap H [] := by rw [hHe]; exact va_S.rf
  have hP : va_P (dC, dI) classes [(h0, .inr (11, [.ref xp, .ref xtp, .ref xn, .ref xt, .ref xk, .ref xl, .ref xc, .ref xo, .ref xto, .ref xr, .ref xch, .int ts, .int ik, .int st])), (xn, .inr (4, [.ref ek, .ref ef, .ref ew, .ref ep, .ref es, .int sz0, .int sy, .int dn])), (xr, .inl (aC 0, 7, .inl rf))] H := by rw [hHe]; exact hP
  have hl := lv_entry ([.ref h0, .int a1]) (n := 2) (Nat.le_of_ble_eq_true rfl)
  rw [lg_entry_eq]
  generalize (lg_sl ([.ref h0, .int a1]) ++ List.replicate (2 - (lg_sl ([.ref h0, .int a1])).length) Slot.unset).toArray = ls at hl ⊢
  have hl : lv_has ls 2 [(0, .ref h0), (1, .int a1)] := hl
  rw [← hHe]
  refine lv_aload_n hx hb dX11_judge_0 rfl (lv_at hl 0 rfl) ?_
  refine va_get (D := (dC, dI)) (ci := 11) (v := .ref xn) (C := RX11) (T := TX11) (N := 14) hx hb hts inX11 hown hK hP 0 rfl rfl 2 (by decide) (hts _ (gw kw_228 rfl)) (fun _ h9 => h9) rfl dX11_judge_1 ?_
  have hPc := hP.sub (ws' := [(xn, .inr (4, [.ref ek, .ref ef, .ref ew, .ref ep, .ref es, .int sz0, .int sy, .int dn]))]) [1] rfl
  have hDc := hD.sub (ws' := [(xn, .inr (4, [.ref ek, .ref ef, .ref ew, .ref ep, .ref es, .int sz0, .int sy, .int dn]))]) [1] (by decide) rfl
  have hFc := va_free (wc := [(xn, .inr (4, [.ref ek, .ref ef, .ref ew, .ref ep, .ref es, .int sz0, .int sy, .int dn]))]) hD hS hA [1] rfl
  refine va_calli (va_runV (As := []) (rest := []) ⟨hx, hb, hml, hown, hts⟩ (c_X4_isOver l dC dI aC H.size xn ek ef ew ep es sz0 sy dn ) ⟨(callB_of 0 hts (gG kw_523) rfl rfl rfl (hts _ (gw kw_2 rfl)) (hts _ (gw kw_520 rfl)) (by decide +kernel) ⟨Nat.le_of_ble_eq_true rfl, Nat.le_of_ble_eq_true rfl⟩), (hts _ (gw kw_521 rfl)), (hts _ (gw kw_522 rfl))⟩ ⟨fun a U g mk q => by obtain ⟨q0, q1, qP, qK, qD, qN⟩ := q; exact ⟨q0, q1, qP, va_K.moved (u := U) (U := U.calling g mk a) (Vm.Alike.refl U.vm) qK, qD, NX.same (u := U) (U := U.calling g mk a) rfl qN⟩, va_recv hK hPc (ci := 4) (q0 := 0) rfl rfl, fun U hU hW => ⟨rfl, by rw [hU], by rw [hU]; exact hPc, va_K.moved hW.alike hK, hDc.weaken (fun _ _ _ _ => trivial), NX.warm hW hN⟩⟩ rfl rfl hl.1 rfl (lv_room (Nat.le_of_ble_eq_true rfl)) dX11_judge_4 ⟨Nat.le_of_ble_eq_true rfl, Nat.le_of_ble_eq_true rfl⟩) hS (fun q _ h => hFc q h) hFc (fun x_1 u t H1 locs ht hvm hw_1 hB hz1 hk1 hS => ?_)
  obtain ⟨hP1, hK1, hD1⟩ := hB
  rw [ht] at hP1
  clear hK1
  try dsimp only at hw_1
  obtain ⟨hP, hD⟩ := va_join (wr := [(h0, .inr (11, [.ref xp, .ref xtp, .ref xn, .ref xt, .ref xk, .ref xl, .ref xc, .ref xo, .ref xto, .ref xr, .ref xch, .int ts, .int ik, .int st])), (xr, .inl (aC 0, 7, .inl rf))]) (w1 := [(xn, .inr (4, [.ref ek, .ref ef, .ref ew, .ref ep, .ref es, .int sz0, .int sy, .int dn]))]) hP hD [1] [0, 2] rfl rfl (by decide) (by decide) hk1 hFc hP1 hD1
  generalize H1 = H at hP hS ⊢
  have hP : va_P (dC, dI) classes [(h0, .inr (11, [.ref xp, .ref xtp, .ref xn, .ref xt, .ref xk, .ref xl, .ref xc, .ref xo, .ref xto, .ref xr, .ref xch, .int ts, .int ik, .int st])), (xr, .inl (aC 0, 7, .inl rf)), (xn, .inr (4, [.ref ek, .ref ef, .ref ew, .ref ep, .ref es, .int sz0, .int sy, .int dn]))] H := hP
  have hD : va_D A [(h0, .inr (11, [.ref xp, .ref xtp, .ref xn, .ref xt, .ref xk, .ref xl, .ref xc, .ref xo, .ref xto, .ref xr, .ref xch, .int ts, .int ik, .int st])), (xr, .inl (aC 0, 7, .inl rf)), (xn, .inr (4, [.ref ek, .ref ef, .ref ew, .ref ep, .ref es, .int sz0, .int sy, .int dn]))] := hD
  clear hPc hDc hFc hz1 hk1 hP1 hD1 ht hvm
  have hz_4 : x_1 = 1 := by rw [hw_1]; rcases hov with h9 | h9 <;> simp [h9]
  refine lv_if_eq (tgt := 17) hx hb dX11_judge_7 (by decide) (fun c_2 => ?_) (fun c_2 => ?_)
  · exact absurd c_2 (by rw [hz_4]; decide)
  · refine lv_aload_n hx hb dX11_judge_10 rfl (lv_at hl 0 rfl) ?_
    refine lv_bipush (v := -3) hx hb dX11_judge_11 (by decide) ?_
    have hPc := hP.sub (ws' := [(h0, .inr (11, [.ref xp, .ref xtp, .ref xn, .ref xt, .ref xk, .ref xl, .ref xc, .ref xo, .ref xto, .ref xr, .ref xch, .int ts, .int ik, .int st])), (xr, .inl (aC 0, 7, .inl rf))]) [0, 1] rfl
    have hDc := hD.sub (ws' := [(h0, .inr (11, [.ref xp, .ref xtp, .ref xn, .ref xt, .ref xk, .ref xl, .ref xc, .ref xo, .ref xto, .ref xr, .ref xch, .int ts, .int ik, .int st])), (xr, .inl (aC 0, 7, .inl rf))]) [0, 1] (by decide) rfl
    have hFc := va_free (wc := [(h0, .inr (11, [.ref xp, .ref xtp, .ref xn, .ref xt, .ref xk, .ref xl, .ref xc, .ref xo, .ref xto, .ref xr, .ref xch, .int ts, .int ik, .int st])), (xr, .inl (aC 0, 7, .inl rf))]) hD hS hA [0, 1] rfl
    refine va_calli (va_runV (As := [.int (-3)]) (rest := []) ⟨hx, hb, hml, hown, hts⟩ (c_X11_refuse l dC dI aC H.size h0 xp xtp xn xt xk xl xc xo xto xr xch ts ik st (-3) 3 rf (by decide) (by decide) (by decide) (by unfold vp_in; decide)) ⟨(callB_of 1 hts (gG kw_276) rfl rfl rfl (hts _ (gw kw_1 rfl)) (hts _ (gw kw_273 rfl)) (by decide +kernel) ⟨Nat.le_of_ble_eq_true rfl, Nat.le_of_ble_eq_true rfl⟩), (hts _ (gw kw_275 rfl)), (hts _ (gw ks_0 rfl))⟩ ⟨fun a U g mk q => by obtain ⟨q0, q1, qP, qK, qD, qN⟩ := q; exact ⟨q0, q1, qP, va_K.moved (u := U) (U := U.calling g mk a) (Vm.Alike.refl U.vm) qK, qD, NX.same (u := U) (U := U.calling g mk a) rfl qN⟩, va_recv hK hPc (ci := 11) (q0 := 0) rfl rfl, fun U hU hW => ⟨rfl, by rw [hU], by rw [hU]; exact hPc, va_K.moved hW.alike hK, hDc.weaken (fun _ _ _ _ => trivial), NX.warm hW hN⟩⟩ rfl rfl hl.1 rfl (lv_room (Nat.le_of_ble_eq_true rfl)) dX11_judge_13 ⟨Nat.le_of_ble_eq_true rfl, Nat.le_of_ble_eq_true rfl⟩) hS (fun q _ h => hFc q h) hFc (fun x_3 u t H1 locs ht hvm hw_3 hB hz1 hk1 hS => ?_)
    obtain ⟨u_4, rfl⟩ : ∃ z, z = u := ⟨_, rfl⟩
    obtain ⟨hP1, hK1, hD1⟩ := hB
    rw [ht] at hP1
    clear hK1
    try dsimp only at hw_3
    obtain ⟨hP, hD⟩ := va_join (wr := [(xn, .inr (4, [.ref ek, .ref ef, .ref ew, .ref ep, .ref es, .int sz0, .int sy, .int dn]))]) (w1 := [(h0, .inr (11, [.ref xp, .ref xtp, .ref xn, .ref xt, .ref xk, .ref xl, .ref xc, .ref xo, .ref xto, .ref xr, .ref xch, .int ts, .int ik, .int st])), (xr, .inl (aC 0, 7, .inl u_4))]) hP hD [0, 1] [2] rfl rfl (by decide) (by decide) hk1 hFc hP1 hD1
    generalize H1 = H at hP hS ⊢
    have hP : va_P (dC, dI) classes [(xn, .inr (4, [.ref ek, .ref ef, .ref ew, .ref ep, .ref es, .int sz0, .int sy, .int dn])), (h0, .inr (11, [.ref xp, .ref xtp, .ref xn, .ref xt, .ref xk, .ref xl, .ref xc, .ref xo, .ref xto, .ref xr, .ref xch, .int ts, .int ik, .int st])), (xr, .inl (aC 0, 7, .inl u_4))] H := hP
    have hD : va_D A [(xn, .inr (4, [.ref ek, .ref ef, .ref ew, .ref ep, .ref es, .int sz0, .int sy, .int dn])), (h0, .inr (11, [.ref xp, .ref xtp, .ref xn, .ref xt, .ref xk, .ref xl, .ref xc, .ref xo, .ref xto, .ref xr, .ref xch, .int ts, .int ik, .int st])), (xr, .inl (aC 0, 7, .inl u_4))] := hD
    clear hPc hDc hFc hz1 hk1 hP1 hD1 ht hvm
    obtain ⟨hv9, hv8⟩ := hw_3
    have hP9 := hP.sub (ws' := []) [] rfl
    have hD9 := hD.sub (ws' := []) [] (by decide) rfl
    refine W.widen (k := 0) (n := 0) (by omega) (by omega) ?_
    exact W.iret (v := x_3) hx hb hr (fun t ht hW => ⟨⟨x_3, (), rfl, hv9, by rw [ht]; exact hP9, va_K.moved hW.alike hK, hD9⟩, hS.F ht⟩) hS.2.2 dX11_judge_16

set_option maxHeartbeats 4000000 in
set_option maxRecDepth 100000 in
/-- X11_goes_r -/
theorem c_X11_goes_r (l : Launch) (dC : Nat → ClassId) (dI : Nat → Nat → Nat) (aC : Nat → ClassId) (sz : Nat) (h0 : Nat) (xp : Nat) (xtp : Nat) (xn : Nat) (xt : Nat) (xk : Nat) (xl : Nat) (xc : Nat) (xo : Nat) (xto : Nat) (xr : Nat) (xch : Nat) (ts : Int32) (ik : Int32) (st : Int32) (ek : Nat) (ef : Nat) (ew : Nat) (ep : Nat) (es : Nat) (sz0 : Int32) (sy : Int32) (dn : Int32) (rf : Nat → Int32) (a1 : Int32) (hov : sz0 = 0 ∨ ¬ dn = 0) : Met l yX11_goes (wW yX11_goes cX11_goes 3 (some .int)) ({ frames := 1, cells := 0, slots := 0, locals := 21 } : Room) (va_Pc [.ref h0, .int a1] (fun U => U.heap.size = sz ∧ va_P (dC, dI) classes [(h0, .inr (11, [.ref xp, .ref xtp, .ref xn, .ref xt, .ref xk, .ref xl, .ref xc, .ref xo, .ref xto, .ref xr, .ref xch, .int ts, .int ik, .int st])), (xn, .inr (4, [.ref ek, .ref ef, .ref ew, .ref ep, .ref es, .int sz0, .int sy, .int dn])), (xr, .inl (aC 0, 7, .inl rf))] U.heap ∧ va_K (dC, dI) classes (TY aC) U ∧ va_D (fun _ => True) [(h0, .inr (11, [.ref xp, .ref xtp, .ref xn, .ref xt, .ref xk, .ref xl, .ref xc, .ref xo, .ref xto, .ref xr, .ref xch, .int ts, .int ik, .int st])), (xn, .inr (4, [.ref ek, .ref ef, .ref ew, .ref ep, .ref es, .int sz0, .int sy, .int dn])), (xr, .inl (aC 0, 7, .inl rf))] ∧ NX U)) (va_Qi (fun (r : Int32) (_ : Unit) => r = -3) (fun (_ : Unit) (t : State) => va_P (dC, dI) classes [] t.heap ∧ va_K (dC, dI) classes (TY aC) t ∧ va_D (va_A [(h0, .inr (11, [.ref xp, .ref xtp, .ref xn, .ref xt, .ref xk, .ref xl, .ref xc, .ref xo, .ref xto, .ref xr, .ref xch, .int ts, .int ik, .int st])), (xn, .inr (4, [.ref ek, .ref ef, .ref ew, .ref ep, .ref es, .int sz0, .int sy, .int dn])), (xr, .inl (aC 0, 7, .inl rf))] sz) []) (va_A [(h0, .inr (11, [.ref xp, .ref xtp, .ref xn, .ref xt, .ref xk, .ref xl, .ref xc, .ref xo, .ref xto, .ref xr, .ref xch, .int ts, .int ik, .int st])), (xn, .inr (4, [.ref ek, .ref ef, .ref ew, .ref ep, .ref es, .int sz0, .int sy, .int dn])), (xr, .inl (aC 0, 7, .inl rf))] sz)) 0 0 (va_A [(h0, .inr (11, [.ref xp, .ref xtp, .ref xn, .ref xt, .ref xk, .ref xl, .ref xc, .ref xo, .ref xto, .ref xr, .ref xch, .int ts, .int ik, .int st])), (xn, .inr (4, [.ref ek, .ref ef, .ref ew, .ref ep, .ref es, .int sz0, .int sy, .int dn])), (xr, .inl (aC 0, 7, .inl rf))] sz) := by
  refine Met.ofW (cc := cX11_goes) (maxL := 3) (ret := (some .int)) (by decide) rfl ?_
  intro p e s m args below meth c s₁ B hml hv
  obtain ⟨rfl, hsz, hP, hK, hD0, hN⟩ := hv
  have hx := B.exec
  have hb := B.bytes
  have hr := B.returns
  have hts0 := atoms_spec (ws := (wW yX11_goes cX11_goes 3 (some .int))) B.pre
  have hts : ∀ w9 ∈ lw_G, w9.before ([.ref h0, .int a1] : List Value).toArray s = true := fun w9 h9 => hts0 w9 (List.mem_cons_of_mem _ h9)
  have hown : s.vm.findClass RX11 = some m.cls := findClass_of_methodNamed B.named
  have hlocks := B.notSynchronized
  subst hsz
  have hD := hD0.self (sz := s.heap.size)
  generalize hAe : va_A [(h0, .inr (11, [.ref xp, .ref xtp, .ref xn, .ref xt, .ref xk, .ref xl, .ref xc, .ref xo, .ref xto, .ref xr, .ref xch, .int ts, .int ik, .int st])), (xn, .inr (4, [.ref ek, .ref ef, .ref ew, .ref ep, .ref es, .int sz0, .int sy, .int dn])), (xr, .inl (aC 0, 7, .inl rf))] s.heap.size = A at hD ⊢
  have hA : ∀ q : Nat, s.heap.size ≤ q → A q := fun q h => by rw [← hAe]; exact Or.inr h
  obtain ⟨H, hHe⟩ : ∃ H : Heap, H = s.heap := ⟨_, rfl⟩
  have hS : va_S A s.heap H [] := by rw [hHe]; exact va_S.rf
  have hP : va_P (dC, dI) classes [(h0, .inr (11, [.ref xp, .ref xtp, .ref xn, .ref xt, .ref xk, .ref xl, .ref xc, .ref xo, .ref xto, .ref xr, .ref xch, .int ts, .int ik, .int st])), (xn, .inr (4, [.ref ek, .ref ef, .ref ew, .ref ep, .ref es, .int sz0, .int sy, .int dn])), (xr, .inl (aC 0, 7, .inl rf))] H := by rw [hHe]; exact hP
  have hl := lv_entry ([.ref h0, .int a1]) (n := 3) (Nat.le_of_ble_eq_true rfl)
  rw [lg_entry_eq]
  generalize (lg_sl ([.ref h0, .int a1]) ++ List.replicate (3 - (lg_sl ([.ref h0, .int a1])).length) Slot.unset).toArray = ls at hl ⊢
  have hl : lv_has ls 3 [(0, .ref h0), (1, .int a1)] := hl
  rw [← hHe]
  refine lv_aload_n hx hb dX11_goes_0 rfl (lv_at hl 0 rfl) ?_
  refine va_get (D := (dC, dI)) (ci := 11) (v := .ref xn) (C := RX11) (T := TX11) (N := 14) hx hb hts inX11 hown hK hP 0 rfl rfl 2 (by decide) (hts _ (gw kw_228 rfl)) (fun _ h9 => h9) rfl dX11_goes_1 ?_
  have hPc := hP.sub (ws' := [(xn, .inr (4, [.ref ek, .ref ef, .ref ew, .ref ep, .ref es, .int sz0, .int sy, .int dn]))]) [1] rfl
  have hDc := hD.sub (ws' := [(xn, .inr (4, [.ref ek, .ref ef, .ref ew, .ref ep, .ref es, .int sz0, .int sy, .int dn]))]) [1] (by decide) rfl
  have hFc := va_free (wc := [(xn, .inr (4, [.ref ek, .ref ef, .ref ew, .ref ep, .ref es, .int sz0, .int sy, .int dn]))]) hD hS hA [1] rfl
  refine va_calli (va_runV (As := []) (rest := []) ⟨hx, hb, hml, hown, hts⟩ (c_X4_isOver l dC dI aC H.size xn ek ef ew ep es sz0 sy dn ) ⟨(callB_of 0 hts (gG kw_523) rfl rfl rfl (hts _ (gw kw_2 rfl)) (hts _ (gw kw_520 rfl)) (by decide +kernel) ⟨Nat.le_of_ble_eq_true rfl, Nat.le_of_ble_eq_true rfl⟩), (hts _ (gw kw_521 rfl)), (hts _ (gw kw_522 rfl))⟩ ⟨fun a U g mk q => by obtain ⟨q0, q1, qP, qK, qD, qN⟩ := q; exact ⟨q0, q1, qP, va_K.moved (u := U) (U := U.calling g mk a) (Vm.Alike.refl U.vm) qK, qD, NX.same (u := U) (U := U.calling g mk a) rfl qN⟩, va_recv hK hPc (ci := 4) (q0 := 0) rfl rfl, fun U hU hW => ⟨rfl, by rw [hU], by rw [hU]; exact hPc, va_K.moved hW.alike hK, hDc.weaken (fun _ _ _ _ => trivial), NX.warm hW hN⟩⟩ rfl rfl hl.1 rfl (lv_room (Nat.le_of_ble_eq_true rfl)) dX11_goes_4 ⟨Nat.le_of_ble_eq_true rfl, Nat.le_of_ble_eq_true rfl⟩) hS (fun q _ h => hFc q h) hFc (fun x_1 u t H1 locs ht hvm hw_1 hB hz1 hk1 hS => ?_)
  obtain ⟨hP1, hK1, hD1⟩ := hB
  rw [ht] at hP1
  clear hK1
  try dsimp only at hw_1
  obtain ⟨hP, hD⟩ := va_join (wr := [(h0, .inr (11, [.ref xp, .ref xtp, .ref xn, .ref xt, .ref xk, .ref xl, .ref xc, .ref xo, .ref xto, .ref xr, .ref xch, .int ts, .int ik, .int st])), (xr, .inl (aC 0, 7, .inl rf))]) (w1 := [(xn, .inr (4, [.ref ek, .ref ef, .ref ew, .ref ep, .ref es, .int sz0, .int sy, .int dn]))]) hP hD [1] [0, 2] rfl rfl (by decide) (by decide) hk1 hFc hP1 hD1
  generalize H1 = H at hP hS ⊢
  have hP : va_P (dC, dI) classes [(h0, .inr (11, [.ref xp, .ref xtp, .ref xn, .ref xt, .ref xk, .ref xl, .ref xc, .ref xo, .ref xto, .ref xr, .ref xch, .int ts, .int ik, .int st])), (xr, .inl (aC 0, 7, .inl rf)), (xn, .inr (4, [.ref ek, .ref ef, .ref ew, .ref ep, .ref es, .int sz0, .int sy, .int dn]))] H := hP
  have hD : va_D A [(h0, .inr (11, [.ref xp, .ref xtp, .ref xn, .ref xt, .ref xk, .ref xl, .ref xc, .ref xo, .ref xto, .ref xr, .ref xch, .int ts, .int ik, .int st])), (xr, .inl (aC 0, 7, .inl rf)), (xn, .inr (4, [.ref ek, .ref ef, .ref ew, .ref ep, .ref es, .int sz0, .int sy, .int dn]))] := hD
  clear hPc hDc hFc hz1 hk1 hP1 hD1 ht hvm
  have hz_4 : x_1 = 1 := by rw [hw_1]; rcases hov with h9 | h9 <;> simp [h9]
  refine lv_if_ne (tgt := 17) hx hb dX11_goes_7 (by decide) (fun c_2 => ?_) (fun c_2 => ?_)
  · refine lv_aload_n hx hb dX11_goes_17 rfl (lv_at hl 0 rfl) ?_
    refine lv_bipush (v := -3) hx hb dX11_goes_18 (by decide) ?_
    have hPc := hP.sub (ws' := [(h0, .inr (11, [.ref xp, .ref xtp, .ref xn, .ref xt, .ref xk, .ref xl, .ref xc, .ref xo, .ref xto, .ref xr, .ref xch, .int ts, .int ik, .int st])), (xr, .inl (aC 0, 7, .inl rf))]) [0, 1] rfl
    have hDc := hD.sub (ws' := [(h0, .inr (11, [.ref xp, .ref xtp, .ref xn, .ref xt, .ref xk, .ref xl, .ref xc, .ref xo, .ref xto, .ref xr, .ref xch, .int ts, .int ik, .int st])), (xr, .inl (aC 0, 7, .inl rf))]) [0, 1] (by decide) rfl
    have hFc := va_free (wc := [(h0, .inr (11, [.ref xp, .ref xtp, .ref xn, .ref xt, .ref xk, .ref xl, .ref xc, .ref xo, .ref xto, .ref xr, .ref xch, .int ts, .int ik, .int st])), (xr, .inl (aC 0, 7, .inl rf))]) hD hS hA [0, 1] rfl
    refine va_calli (va_runV (As := [.int (-3)]) (rest := []) ⟨hx, hb, hml, hown, hts⟩ (c_X11_refuse l dC dI aC H.size h0 xp xtp xn xt xk xl xc xo xto xr xch ts ik st (-3) 3 rf (by decide) (by decide) (by decide) (by unfold vp_in; decide)) ⟨(callB_of 1 hts (gG kw_276) rfl rfl rfl (hts _ (gw kw_1 rfl)) (hts _ (gw kw_273 rfl)) (by decide +kernel) ⟨Nat.le_of_ble_eq_true rfl, Nat.le_of_ble_eq_true rfl⟩), (hts _ (gw kw_275 rfl)), (hts _ (gw ks_0 rfl))⟩ ⟨fun a U g mk q => by obtain ⟨q0, q1, qP, qK, qD, qN⟩ := q; exact ⟨q0, q1, qP, va_K.moved (u := U) (U := U.calling g mk a) (Vm.Alike.refl U.vm) qK, qD, NX.same (u := U) (U := U.calling g mk a) rfl qN⟩, va_recv hK hPc (ci := 11) (q0 := 0) rfl rfl, fun U hU hW => ⟨rfl, by rw [hU], by rw [hU]; exact hPc, va_K.moved hW.alike hK, hDc.weaken (fun _ _ _ _ => trivial), NX.warm hW hN⟩⟩ rfl rfl hl.1 rfl (lv_room (Nat.le_of_ble_eq_true rfl)) dX11_goes_20 ⟨Nat.le_of_ble_eq_true rfl, Nat.le_of_ble_eq_true rfl⟩) hS (fun q _ h => hFc q h) hFc (fun x_3 u t H1 locs ht hvm hw_3 hB hz1 hk1 hS => ?_)
    obtain ⟨u_4, rfl⟩ : ∃ z, z = u := ⟨_, rfl⟩
    obtain ⟨hP1, hK1, hD1⟩ := hB
    rw [ht] at hP1
    clear hK1
    try dsimp only at hw_3
    obtain ⟨hP, hD⟩ := va_join (wr := [(xn, .inr (4, [.ref ek, .ref ef, .ref ew, .ref ep, .ref es, .int sz0, .int sy, .int dn]))]) (w1 := [(h0, .inr (11, [.ref xp, .ref xtp, .ref xn, .ref xt, .ref xk, .ref xl, .ref xc, .ref xo, .ref xto, .ref xr, .ref xch, .int ts, .int ik, .int st])), (xr, .inl (aC 0, 7, .inl u_4))]) hP hD [0, 1] [2] rfl rfl (by decide) (by decide) hk1 hFc hP1 hD1
    generalize H1 = H at hP hS ⊢
    have hP : va_P (dC, dI) classes [(xn, .inr (4, [.ref ek, .ref ef, .ref ew, .ref ep, .ref es, .int sz0, .int sy, .int dn])), (h0, .inr (11, [.ref xp, .ref xtp, .ref xn, .ref xt, .ref xk, .ref xl, .ref xc, .ref xo, .ref xto, .ref xr, .ref xch, .int ts, .int ik, .int st])), (xr, .inl (aC 0, 7, .inl u_4))] H := hP
    have hD : va_D A [(xn, .inr (4, [.ref ek, .ref ef, .ref ew, .ref ep, .ref es, .int sz0, .int sy, .int dn])), (h0, .inr (11, [.ref xp, .ref xtp, .ref xn, .ref xt, .ref xk, .ref xl, .ref xc, .ref xo, .ref xto, .ref xr, .ref xch, .int ts, .int ik, .int st])), (xr, .inl (aC 0, 7, .inl u_4))] := hD
    clear hPc hDc hFc hz1 hk1 hP1 hD1 ht hvm
    obtain ⟨hv9, hv8⟩ := hw_3
    have hP9 := hP.sub (ws' := []) [] rfl
    have hD9 := hD.sub (ws' := []) [] (by decide) rfl
    refine W.widen (k := 0) (n := 0) (by omega) (by omega) ?_
    exact W.iret (v := x_3) hx hb hr (fun t ht hW => ⟨⟨x_3, (), rfl, hv9, by rw [ht]; exact hP9, va_K.moved hW.alike hK, hD9⟩, hS.F ht⟩) hS.2.2 dX11_goes_23
  · exact absurd c_2 (by rw [hz_4]; decide)

set_option maxHeartbeats 4000000 in
set_option maxRecDepth 100000 in
/-- X11_says_r -/
theorem c_X11_says_r (l : Launch) (dC : Nat → ClassId) (dI : Nat → Nat → Nat) (aC : Nat → ClassId) (sz : Nat) (h0 : Nat) (xp : Nat) (xtp : Nat) (xn : Nat) (xt : Nat) (xk : Nat) (xl : Nat) (xc : Nat) (xo : Nat) (xto : Nat) (xr : Nat) (xch : Nat) (ts : Int32) (ik : Int32) (st : Int32) (ek : Nat) (ef : Nat) (ew : Nat) (ep : Nat) (es : Nat) (sz0 : Int32) (sy : Int32) (dn : Int32) (rf : Nat → Int32) (hov : sz0 = 0 ∨ ¬ dn = 0) : Met l yX11_says (wW yX11_says cX11_says 2 (some .int)) ({ frames := 1, cells := 0, slots := 0, locals := 21 } : Room) (va_Pc [.ref h0] (fun U => U.heap.size = sz ∧ va_P (dC, dI) classes [(h0, .inr (11, [.ref xp, .ref xtp, .ref xn, .ref xt, .ref xk, .ref xl, .ref xc, .ref xo, .ref xto, .ref xr, .ref xch, .int ts, .int ik, .int st])), (xn, .inr (4, [.ref ek, .ref ef, .ref ew, .ref ep, .ref es, .int sz0, .int sy, .int dn])), (xr, .inl (aC 0, 7, .inl rf))] U.heap ∧ va_K (dC, dI) classes (TY aC) U ∧ va_D (fun _ => True) [(h0, .inr (11, [.ref xp, .ref xtp, .ref xn, .ref xt, .ref xk, .ref xl, .ref xc, .ref xo, .ref xto, .ref xr, .ref xch, .int ts, .int ik, .int st])), (xn, .inr (4, [.ref ek, .ref ef, .ref ew, .ref ep, .ref es, .int sz0, .int sy, .int dn])), (xr, .inl (aC 0, 7, .inl rf))] ∧ NX U)) (va_Qi (fun (r : Int32) (_ : Unit) => r = -3) (fun (_ : Unit) (t : State) => va_P (dC, dI) classes [] t.heap ∧ va_K (dC, dI) classes (TY aC) t ∧ va_D (va_A [(h0, .inr (11, [.ref xp, .ref xtp, .ref xn, .ref xt, .ref xk, .ref xl, .ref xc, .ref xo, .ref xto, .ref xr, .ref xch, .int ts, .int ik, .int st])), (xn, .inr (4, [.ref ek, .ref ef, .ref ew, .ref ep, .ref es, .int sz0, .int sy, .int dn])), (xr, .inl (aC 0, 7, .inl rf))] sz) []) (va_A [(h0, .inr (11, [.ref xp, .ref xtp, .ref xn, .ref xt, .ref xk, .ref xl, .ref xc, .ref xo, .ref xto, .ref xr, .ref xch, .int ts, .int ik, .int st])), (xn, .inr (4, [.ref ek, .ref ef, .ref ew, .ref ep, .ref es, .int sz0, .int sy, .int dn])), (xr, .inl (aC 0, 7, .inl rf))] sz)) 0 0 (va_A [(h0, .inr (11, [.ref xp, .ref xtp, .ref xn, .ref xt, .ref xk, .ref xl, .ref xc, .ref xo, .ref xto, .ref xr, .ref xch, .int ts, .int ik, .int st])), (xn, .inr (4, [.ref ek, .ref ef, .ref ew, .ref ep, .ref es, .int sz0, .int sy, .int dn])), (xr, .inl (aC 0, 7, .inl rf))] sz) := by
  refine Met.ofW (cc := cX11_says) (maxL := 2) (ret := (some .int)) (by decide) rfl ?_
  intro p e s m args below meth c s₁ B hml hv
  obtain ⟨rfl, hsz, hP, hK, hD0, hN⟩ := hv
  have hx := B.exec
  have hb := B.bytes
  have hr := B.returns
  have hts0 := atoms_spec (ws := (wW yX11_says cX11_says 2 (some .int))) B.pre
  have hts : ∀ w9 ∈ lw_G, w9.before ([.ref h0] : List Value).toArray s = true := fun w9 h9 => hts0 w9 (List.mem_cons_of_mem _ h9)
  have hown : s.vm.findClass RX11 = some m.cls := findClass_of_methodNamed B.named
  have hlocks := B.notSynchronized
  subst hsz
  have hD := hD0.self (sz := s.heap.size)
  generalize hAe : va_A [(h0, .inr (11, [.ref xp, .ref xtp, .ref xn, .ref xt, .ref xk, .ref xl, .ref xc, .ref xo, .ref xto, .ref xr, .ref xch, .int ts, .int ik, .int st])), (xn, .inr (4, [.ref ek, .ref ef, .ref ew, .ref ep, .ref es, .int sz0, .int sy, .int dn])), (xr, .inl (aC 0, 7, .inl rf))] s.heap.size = A at hD ⊢
  have hA : ∀ q : Nat, s.heap.size ≤ q → A q := fun q h => by rw [← hAe]; exact Or.inr h
  obtain ⟨H, hHe⟩ : ∃ H : Heap, H = s.heap := ⟨_, rfl⟩
  have hS : va_S A s.heap H [] := by rw [hHe]; exact va_S.rf
  have hP : va_P (dC, dI) classes [(h0, .inr (11, [.ref xp, .ref xtp, .ref xn, .ref xt, .ref xk, .ref xl, .ref xc, .ref xo, .ref xto, .ref xr, .ref xch, .int ts, .int ik, .int st])), (xn, .inr (4, [.ref ek, .ref ef, .ref ew, .ref ep, .ref es, .int sz0, .int sy, .int dn])), (xr, .inl (aC 0, 7, .inl rf))] H := by rw [hHe]; exact hP
  have hl := lv_entry ([.ref h0]) (n := 2) (Nat.le_of_ble_eq_true rfl)
  rw [lg_entry_eq]
  generalize (lg_sl ([.ref h0]) ++ List.replicate (2 - (lg_sl ([.ref h0])).length) Slot.unset).toArray = ls at hl ⊢
  have hl : lv_has ls 2 [(0, .ref h0)] := hl
  rw [← hHe]
  refine lv_aload_n hx hb dX11_says_0 rfl (lv_at hl 0 rfl) ?_
  refine va_get (D := (dC, dI)) (ci := 11) (v := .ref xn) (C := RX11) (T := TX11) (N := 14) hx hb hts inX11 hown hK hP 0 rfl rfl 2 (by decide) (hts _ (gw kw_228 rfl)) (fun _ h9 => h9) rfl dX11_says_1 ?_
  have hPc := hP.sub (ws' := [(xn, .inr (4, [.ref ek, .ref ef, .ref ew, .ref ep, .ref es, .int sz0, .int sy, .int dn]))]) [1] rfl
  have hDc := hD.sub (ws' := [(xn, .inr (4, [.ref ek, .ref ef, .ref ew, .ref ep, .ref es, .int sz0, .int sy, .int dn]))]) [1] (by decide) rfl
  have hFc := va_free (wc := [(xn, .inr (4, [.ref ek, .ref ef, .ref ew, .ref ep, .ref es, .int sz0, .int sy, .int dn]))]) hD hS hA [1] rfl
  refine va_calli (va_runV (As := []) (rest := []) ⟨hx, hb, hml, hown, hts⟩ (c_X4_isOver l dC dI aC H.size xn ek ef ew ep es sz0 sy dn ) ⟨(callB_of 0 hts (gG kw_523) rfl rfl rfl (hts _ (gw kw_2 rfl)) (hts _ (gw kw_520 rfl)) (by decide +kernel) ⟨Nat.le_of_ble_eq_true rfl, Nat.le_of_ble_eq_true rfl⟩), (hts _ (gw kw_521 rfl)), (hts _ (gw kw_522 rfl))⟩ ⟨fun a U g mk q => by obtain ⟨q0, q1, qP, qK, qD, qN⟩ := q; exact ⟨q0, q1, qP, va_K.moved (u := U) (U := U.calling g mk a) (Vm.Alike.refl U.vm) qK, qD, NX.same (u := U) (U := U.calling g mk a) rfl qN⟩, va_recv hK hPc (ci := 4) (q0 := 0) rfl rfl, fun U hU hW => ⟨rfl, by rw [hU], by rw [hU]; exact hPc, va_K.moved hW.alike hK, hDc.weaken (fun _ _ _ _ => trivial), NX.warm hW hN⟩⟩ rfl rfl hl.1 rfl (lv_room (Nat.le_of_ble_eq_true rfl)) dX11_says_4 ⟨Nat.le_of_ble_eq_true rfl, Nat.le_of_ble_eq_true rfl⟩) hS (fun q _ h => hFc q h) hFc (fun x_1 u t H1 locs ht hvm hw_1 hB hz1 hk1 hS => ?_)
  obtain ⟨hP1, hK1, hD1⟩ := hB
  rw [ht] at hP1
  clear hK1
  try dsimp only at hw_1
  obtain ⟨hP, hD⟩ := va_join (wr := [(h0, .inr (11, [.ref xp, .ref xtp, .ref xn, .ref xt, .ref xk, .ref xl, .ref xc, .ref xo, .ref xto, .ref xr, .ref xch, .int ts, .int ik, .int st])), (xr, .inl (aC 0, 7, .inl rf))]) (w1 := [(xn, .inr (4, [.ref ek, .ref ef, .ref ew, .ref ep, .ref es, .int sz0, .int sy, .int dn]))]) hP hD [1] [0, 2] rfl rfl (by decide) (by decide) hk1 hFc hP1 hD1
  generalize H1 = H at hP hS ⊢
  have hP : va_P (dC, dI) classes [(h0, .inr (11, [.ref xp, .ref xtp, .ref xn, .ref xt, .ref xk, .ref xl, .ref xc, .ref xo, .ref xto, .ref xr, .ref xch, .int ts, .int ik, .int st])), (xr, .inl (aC 0, 7, .inl rf)), (xn, .inr (4, [.ref ek, .ref ef, .ref ew, .ref ep, .ref es, .int sz0, .int sy, .int dn]))] H := hP
  have hD : va_D A [(h0, .inr (11, [.ref xp, .ref xtp, .ref xn, .ref xt, .ref xk, .ref xl, .ref xc, .ref xo, .ref xto, .ref xr, .ref xch, .int ts, .int ik, .int st])), (xr, .inl (aC 0, 7, .inl rf)), (xn, .inr (4, [.ref ek, .ref ef, .ref ew, .ref ep, .ref es, .int sz0, .int sy, .int dn]))] := hD
  clear hPc hDc hFc hz1 hk1 hP1 hD1 ht hvm
  have hz_4 : x_1 = 1 := by rw [hw_1]; rcases hov with h9 | h9 <;> simp [h9]
  refine lv_if_eq (tgt := 17) hx hb dX11_says_7 (by decide) (fun c_2 => ?_) (fun c_2 => ?_)
  · exact absurd c_2 (by rw [hz_4]; decide)
  · refine lv_aload_n hx hb dX11_says_10 rfl (lv_at hl 0 rfl) ?_
    refine lv_bipush (v := -3) hx hb dX11_says_11 (by decide) ?_
    have hPc := hP.sub (ws' := [(h0, .inr (11, [.ref xp, .ref xtp, .ref xn, .ref xt, .ref xk, .ref xl, .ref xc, .ref xo, .ref xto, .ref xr, .ref xch, .int ts, .int ik, .int st])), (xr, .inl (aC 0, 7, .inl rf))]) [0, 1] rfl
    have hDc := hD.sub (ws' := [(h0, .inr (11, [.ref xp, .ref xtp, .ref xn, .ref xt, .ref xk, .ref xl, .ref xc, .ref xo, .ref xto, .ref xr, .ref xch, .int ts, .int ik, .int st])), (xr, .inl (aC 0, 7, .inl rf))]) [0, 1] (by decide) rfl
    have hFc := va_free (wc := [(h0, .inr (11, [.ref xp, .ref xtp, .ref xn, .ref xt, .ref xk, .ref xl, .ref xc, .ref xo, .ref xto, .ref xr, .ref xch, .int ts, .int ik, .int st])), (xr, .inl (aC 0, 7, .inl rf))]) hD hS hA [0, 1] rfl
    refine va_calli (va_runV (As := [.int (-3)]) (rest := []) ⟨hx, hb, hml, hown, hts⟩ (c_X11_refuse l dC dI aC H.size h0 xp xtp xn xt xk xl xc xo xto xr xch ts ik st (-3) 3 rf (by decide) (by decide) (by decide) (by unfold vp_in; decide)) ⟨(callB_of 1 hts (gG kw_276) rfl rfl rfl (hts _ (gw kw_1 rfl)) (hts _ (gw kw_273 rfl)) (by decide +kernel) ⟨Nat.le_of_ble_eq_true rfl, Nat.le_of_ble_eq_true rfl⟩), (hts _ (gw kw_275 rfl)), (hts _ (gw ks_0 rfl))⟩ ⟨fun a U g mk q => by obtain ⟨q0, q1, qP, qK, qD, qN⟩ := q; exact ⟨q0, q1, qP, va_K.moved (u := U) (U := U.calling g mk a) (Vm.Alike.refl U.vm) qK, qD, NX.same (u := U) (U := U.calling g mk a) rfl qN⟩, va_recv hK hPc (ci := 11) (q0 := 0) rfl rfl, fun U hU hW => ⟨rfl, by rw [hU], by rw [hU]; exact hPc, va_K.moved hW.alike hK, hDc.weaken (fun _ _ _ _ => trivial), NX.warm hW hN⟩⟩ rfl rfl hl.1 rfl (lv_room (Nat.le_of_ble_eq_true rfl)) dX11_says_13 ⟨Nat.le_of_ble_eq_true rfl, Nat.le_of_ble_eq_true rfl⟩) hS (fun q _ h => hFc q h) hFc (fun x_3 u t H1 locs ht hvm hw_3 hB hz1 hk1 hS => ?_)
    obtain ⟨u_4, rfl⟩ : ∃ z, z = u := ⟨_, rfl⟩
    obtain ⟨hP1, hK1, hD1⟩ := hB
    rw [ht] at hP1
    clear hK1
    try dsimp only at hw_3
    obtain ⟨hP, hD⟩ := va_join (wr := [(xn, .inr (4, [.ref ek, .ref ef, .ref ew, .ref ep, .ref es, .int sz0, .int sy, .int dn]))]) (w1 := [(h0, .inr (11, [.ref xp, .ref xtp, .ref xn, .ref xt, .ref xk, .ref xl, .ref xc, .ref xo, .ref xto, .ref xr, .ref xch, .int ts, .int ik, .int st])), (xr, .inl (aC 0, 7, .inl u_4))]) hP hD [0, 1] [2] rfl rfl (by decide) (by decide) hk1 hFc hP1 hD1
    generalize H1 = H at hP hS ⊢
    have hP : va_P (dC, dI) classes [(xn, .inr (4, [.ref ek, .ref ef, .ref ew, .ref ep, .ref es, .int sz0, .int sy, .int dn])), (h0, .inr (11, [.ref xp, .ref xtp, .ref xn, .ref xt, .ref xk, .ref xl, .ref xc, .ref xo, .ref xto, .ref xr, .ref xch, .int ts, .int ik, .int st])), (xr, .inl (aC 0, 7, .inl u_4))] H := hP
    have hD : va_D A [(xn, .inr (4, [.ref ek, .ref ef, .ref ew, .ref ep, .ref es, .int sz0, .int sy, .int dn])), (h0, .inr (11, [.ref xp, .ref xtp, .ref xn, .ref xt, .ref xk, .ref xl, .ref xc, .ref xo, .ref xto, .ref xr, .ref xch, .int ts, .int ik, .int st])), (xr, .inl (aC 0, 7, .inl u_4))] := hD
    clear hPc hDc hFc hz1 hk1 hP1 hD1 ht hvm
    obtain ⟨hv9, hv8⟩ := hw_3
    have hP9 := hP.sub (ws' := []) [] rfl
    have hD9 := hD.sub (ws' := []) [] (by decide) rfl
    refine W.widen (k := 0) (n := 0) (by omega) (by omega) ?_
    exact W.iret (v := x_3) hx hb hr (fun t ht hW => ⟨⟨x_3, (), rfl, hv9, by rw [ht]; exact hP9, va_K.moved hW.alike hK, hD9⟩, hS.F ht⟩) hS.2.2 dX11_says_16

set_option maxHeartbeats 4000000 in
set_option maxRecDepth 100000 in
/-- X11_fewest_r -/
theorem c_X11_fewest_r (l : Launch) (dC : Nat → ClassId) (dI : Nat → Nat → Nat) (aC : Nat → ClassId) (sz : Nat) (h0 : Nat) (xp : Nat) (xtp : Nat) (xn : Nat) (xt : Nat) (xk : Nat) (xl : Nat) (xc : Nat) (xo : Nat) (xto : Nat) (xr : Nat) (xch : Nat) (ts : Int32) (ik : Int32) (st : Int32) (ek : Nat) (ef : Nat) (ew : Nat) (ep : Nat) (es : Nat) (sz0 : Int32) (sy : Int32) (dn : Int32) (rf : Nat → Int32) (hov : sz0 = 0 ∨ ¬ dn = 0) : Met l yX11_fewest (wW yX11_fewest cX11_fewest 2 (some .int)) ({ frames := 1, cells := 0, slots := 0, locals := 21 } : Room) (va_Pc [.ref h0] (fun U => U.heap.size = sz ∧ va_P (dC, dI) classes [(h0, .inr (11, [.ref xp, .ref xtp, .ref xn, .ref xt, .ref xk, .ref xl, .ref xc, .ref xo, .ref xto, .ref xr, .ref xch, .int ts, .int ik, .int st])), (xn, .inr (4, [.ref ek, .ref ef, .ref ew, .ref ep, .ref es, .int sz0, .int sy, .int dn])), (xr, .inl (aC 0, 7, .inl rf))] U.heap ∧ va_K (dC, dI) classes (TY aC) U ∧ va_D (fun _ => True) [(h0, .inr (11, [.ref xp, .ref xtp, .ref xn, .ref xt, .ref xk, .ref xl, .ref xc, .ref xo, .ref xto, .ref xr, .ref xch, .int ts, .int ik, .int st])), (xn, .inr (4, [.ref ek, .ref ef, .ref ew, .ref ep, .ref es, .int sz0, .int sy, .int dn])), (xr, .inl (aC 0, 7, .inl rf))] ∧ NX U)) (va_Qi (fun (r : Int32) (_ : Unit) => r = -3) (fun (_ : Unit) (t : State) => va_P (dC, dI) classes [] t.heap ∧ va_K (dC, dI) classes (TY aC) t ∧ va_D (va_A [(h0, .inr (11, [.ref xp, .ref xtp, .ref xn, .ref xt, .ref xk, .ref xl, .ref xc, .ref xo, .ref xto, .ref xr, .ref xch, .int ts, .int ik, .int st])), (xn, .inr (4, [.ref ek, .ref ef, .ref ew, .ref ep, .ref es, .int sz0, .int sy, .int dn])), (xr, .inl (aC 0, 7, .inl rf))] sz) []) (va_A [(h0, .inr (11, [.ref xp, .ref xtp, .ref xn, .ref xt, .ref xk, .ref xl, .ref xc, .ref xo, .ref xto, .ref xr, .ref xch, .int ts, .int ik, .int st])), (xn, .inr (4, [.ref ek, .ref ef, .ref ew, .ref ep, .ref es, .int sz0, .int sy, .int dn])), (xr, .inl (aC 0, 7, .inl rf))] sz)) 0 0 (va_A [(h0, .inr (11, [.ref xp, .ref xtp, .ref xn, .ref xt, .ref xk, .ref xl, .ref xc, .ref xo, .ref xto, .ref xr, .ref xch, .int ts, .int ik, .int st])), (xn, .inr (4, [.ref ek, .ref ef, .ref ew, .ref ep, .ref es, .int sz0, .int sy, .int dn])), (xr, .inl (aC 0, 7, .inl rf))] sz) := by
  refine Met.ofW (cc := cX11_fewest) (maxL := 2) (ret := (some .int)) (by decide) rfl ?_
  intro p e s m args below meth c s₁ B hml hv
  obtain ⟨rfl, hsz, hP, hK, hD0, hN⟩ := hv
  have hx := B.exec
  have hb := B.bytes
  have hr := B.returns
  have hts0 := atoms_spec (ws := (wW yX11_fewest cX11_fewest 2 (some .int))) B.pre
  have hts : ∀ w9 ∈ lw_G, w9.before ([.ref h0] : List Value).toArray s = true := fun w9 h9 => hts0 w9 (List.mem_cons_of_mem _ h9)
  have hown : s.vm.findClass RX11 = some m.cls := findClass_of_methodNamed B.named
  have hlocks := B.notSynchronized
  subst hsz
  have hD := hD0.self (sz := s.heap.size)
  generalize hAe : va_A [(h0, .inr (11, [.ref xp, .ref xtp, .ref xn, .ref xt, .ref xk, .ref xl, .ref xc, .ref xo, .ref xto, .ref xr, .ref xch, .int ts, .int ik, .int st])), (xn, .inr (4, [.ref ek, .ref ef, .ref ew, .ref ep, .ref es, .int sz0, .int sy, .int dn])), (xr, .inl (aC 0, 7, .inl rf))] s.heap.size = A at hD ⊢
  have hA : ∀ q : Nat, s.heap.size ≤ q → A q := fun q h => by rw [← hAe]; exact Or.inr h
  obtain ⟨H, hHe⟩ : ∃ H : Heap, H = s.heap := ⟨_, rfl⟩
  have hS : va_S A s.heap H [] := by rw [hHe]; exact va_S.rf
  have hP : va_P (dC, dI) classes [(h0, .inr (11, [.ref xp, .ref xtp, .ref xn, .ref xt, .ref xk, .ref xl, .ref xc, .ref xo, .ref xto, .ref xr, .ref xch, .int ts, .int ik, .int st])), (xn, .inr (4, [.ref ek, .ref ef, .ref ew, .ref ep, .ref es, .int sz0, .int sy, .int dn])), (xr, .inl (aC 0, 7, .inl rf))] H := by rw [hHe]; exact hP
  have hl := lv_entry ([.ref h0]) (n := 2) (Nat.le_of_ble_eq_true rfl)
  rw [lg_entry_eq]
  generalize (lg_sl ([.ref h0]) ++ List.replicate (2 - (lg_sl ([.ref h0])).length) Slot.unset).toArray = ls at hl ⊢
  have hl : lv_has ls 2 [(0, .ref h0)] := hl
  rw [← hHe]
  refine lv_aload_n hx hb dX11_fewest_0 rfl (lv_at hl 0 rfl) ?_
  refine va_get (D := (dC, dI)) (ci := 11) (v := .ref xn) (C := RX11) (T := TX11) (N := 14) hx hb hts inX11 hown hK hP 0 rfl rfl 2 (by decide) (hts _ (gw kw_228 rfl)) (fun _ h9 => h9) rfl dX11_fewest_1 ?_
  have hPc := hP.sub (ws' := [(xn, .inr (4, [.ref ek, .ref ef, .ref ew, .ref ep, .ref es, .int sz0, .int sy, .int dn]))]) [1] rfl
  have hDc := hD.sub (ws' := [(xn, .inr (4, [.ref ek, .ref ef, .ref ew, .ref ep, .ref es, .int sz0, .int sy, .int dn]))]) [1] (by decide) rfl
  have hFc := va_free (wc := [(xn, .inr (4, [.ref ek, .ref ef, .ref ew, .ref ep, .ref es, .int sz0, .int sy, .int dn]))]) hD hS hA [1] rfl
  refine va_calli (va_runV (As := []) (rest := []) ⟨hx, hb, hml, hown, hts⟩ (c_X4_isOver l dC dI aC H.size xn ek ef ew ep es sz0 sy dn ) ⟨(callB_of 0 hts (gG kw_523) rfl rfl rfl (hts _ (gw kw_2 rfl)) (hts _ (gw kw_520 rfl)) (by decide +kernel) ⟨Nat.le_of_ble_eq_true rfl, Nat.le_of_ble_eq_true rfl⟩), (hts _ (gw kw_521 rfl)), (hts _ (gw kw_522 rfl))⟩ ⟨fun a U g mk q => by obtain ⟨q0, q1, qP, qK, qD, qN⟩ := q; exact ⟨q0, q1, qP, va_K.moved (u := U) (U := U.calling g mk a) (Vm.Alike.refl U.vm) qK, qD, NX.same (u := U) (U := U.calling g mk a) rfl qN⟩, va_recv hK hPc (ci := 4) (q0 := 0) rfl rfl, fun U hU hW => ⟨rfl, by rw [hU], by rw [hU]; exact hPc, va_K.moved hW.alike hK, hDc.weaken (fun _ _ _ _ => trivial), NX.warm hW hN⟩⟩ rfl rfl hl.1 rfl (lv_room (Nat.le_of_ble_eq_true rfl)) dX11_fewest_4 ⟨Nat.le_of_ble_eq_true rfl, Nat.le_of_ble_eq_true rfl⟩) hS (fun q _ h => hFc q h) hFc (fun x_1 u t H1 locs ht hvm hw_1 hB hz1 hk1 hS => ?_)
  obtain ⟨hP1, hK1, hD1⟩ := hB
  rw [ht] at hP1
  clear hK1
  try dsimp only at hw_1
  obtain ⟨hP, hD⟩ := va_join (wr := [(h0, .inr (11, [.ref xp, .ref xtp, .ref xn, .ref xt, .ref xk, .ref xl, .ref xc, .ref xo, .ref xto, .ref xr, .ref xch, .int ts, .int ik, .int st])), (xr, .inl (aC 0, 7, .inl rf))]) (w1 := [(xn, .inr (4, [.ref ek, .ref ef, .ref ew, .ref ep, .ref es, .int sz0, .int sy, .int dn]))]) hP hD [1] [0, 2] rfl rfl (by decide) (by decide) hk1 hFc hP1 hD1
  generalize H1 = H at hP hS ⊢
  have hP : va_P (dC, dI) classes [(h0, .inr (11, [.ref xp, .ref xtp, .ref xn, .ref xt, .ref xk, .ref xl, .ref xc, .ref xo, .ref xto, .ref xr, .ref xch, .int ts, .int ik, .int st])), (xr, .inl (aC 0, 7, .inl rf)), (xn, .inr (4, [.ref ek, .ref ef, .ref ew, .ref ep, .ref es, .int sz0, .int sy, .int dn]))] H := hP
  have hD : va_D A [(h0, .inr (11, [.ref xp, .ref xtp, .ref xn, .ref xt, .ref xk, .ref xl, .ref xc, .ref xo, .ref xto, .ref xr, .ref xch, .int ts, .int ik, .int st])), (xr, .inl (aC 0, 7, .inl rf)), (xn, .inr (4, [.ref ek, .ref ef, .ref ew, .ref ep, .ref es, .int sz0, .int sy, .int dn]))] := hD
  clear hPc hDc hFc hz1 hk1 hP1 hD1 ht hvm
  have hz_4 : x_1 = 1 := by rw [hw_1]; rcases hov with h9 | h9 <;> simp [h9]
  refine lv_if_eq (tgt := 17) hx hb dX11_fewest_7 (by decide) (fun c_2 => ?_) (fun c_2 => ?_)
  · exact absurd c_2 (by rw [hz_4]; decide)
  · refine lv_aload_n hx hb dX11_fewest_10 rfl (lv_at hl 0 rfl) ?_
    refine lv_bipush (v := -3) hx hb dX11_fewest_11 (by decide) ?_
    have hPc := hP.sub (ws' := [(h0, .inr (11, [.ref xp, .ref xtp, .ref xn, .ref xt, .ref xk, .ref xl, .ref xc, .ref xo, .ref xto, .ref xr, .ref xch, .int ts, .int ik, .int st])), (xr, .inl (aC 0, 7, .inl rf))]) [0, 1] rfl
    have hDc := hD.sub (ws' := [(h0, .inr (11, [.ref xp, .ref xtp, .ref xn, .ref xt, .ref xk, .ref xl, .ref xc, .ref xo, .ref xto, .ref xr, .ref xch, .int ts, .int ik, .int st])), (xr, .inl (aC 0, 7, .inl rf))]) [0, 1] (by decide) rfl
    have hFc := va_free (wc := [(h0, .inr (11, [.ref xp, .ref xtp, .ref xn, .ref xt, .ref xk, .ref xl, .ref xc, .ref xo, .ref xto, .ref xr, .ref xch, .int ts, .int ik, .int st])), (xr, .inl (aC 0, 7, .inl rf))]) hD hS hA [0, 1] rfl
    refine va_calli (va_runV (As := [.int (-3)]) (rest := []) ⟨hx, hb, hml, hown, hts⟩ (c_X11_refuse l dC dI aC H.size h0 xp xtp xn xt xk xl xc xo xto xr xch ts ik st (-3) 3 rf (by decide) (by decide) (by decide) (by unfold vp_in; decide)) ⟨(callB_of 1 hts (gG kw_276) rfl rfl rfl (hts _ (gw kw_1 rfl)) (hts _ (gw kw_273 rfl)) (by decide +kernel) ⟨Nat.le_of_ble_eq_true rfl, Nat.le_of_ble_eq_true rfl⟩), (hts _ (gw kw_275 rfl)), (hts _ (gw ks_0 rfl))⟩ ⟨fun a U g mk q => by obtain ⟨q0, q1, qP, qK, qD, qN⟩ := q; exact ⟨q0, q1, qP, va_K.moved (u := U) (U := U.calling g mk a) (Vm.Alike.refl U.vm) qK, qD, NX.same (u := U) (U := U.calling g mk a) rfl qN⟩, va_recv hK hPc (ci := 11) (q0 := 0) rfl rfl, fun U hU hW => ⟨rfl, by rw [hU], by rw [hU]; exact hPc, va_K.moved hW.alike hK, hDc.weaken (fun _ _ _ _ => trivial), NX.warm hW hN⟩⟩ rfl rfl hl.1 rfl (lv_room (Nat.le_of_ble_eq_true rfl)) dX11_fewest_13 ⟨Nat.le_of_ble_eq_true rfl, Nat.le_of_ble_eq_true rfl⟩) hS (fun q _ h => hFc q h) hFc (fun x_3 u t H1 locs ht hvm hw_3 hB hz1 hk1 hS => ?_)
    obtain ⟨u_4, rfl⟩ : ∃ z, z = u := ⟨_, rfl⟩
    obtain ⟨hP1, hK1, hD1⟩ := hB
    rw [ht] at hP1
    clear hK1
    try dsimp only at hw_3
    obtain ⟨hP, hD⟩ := va_join (wr := [(xn, .inr (4, [.ref ek, .ref ef, .ref ew, .ref ep, .ref es, .int sz0, .int sy, .int dn]))]) (w1 := [(h0, .inr (11, [.ref xp, .ref xtp, .ref xn, .ref xt, .ref xk, .ref xl, .ref xc, .ref xo, .ref xto, .ref xr, .ref xch, .int ts, .int ik, .int st])), (xr, .inl (aC 0, 7, .inl u_4))]) hP hD [0, 1] [2] rfl rfl (by decide) (by decide) hk1 hFc hP1 hD1
    generalize H1 = H at hP hS ⊢
    have hP : va_P (dC, dI) classes [(xn, .inr (4, [.ref ek, .ref ef, .ref ew, .ref ep, .ref es, .int sz0, .int sy, .int dn])), (h0, .inr (11, [.ref xp, .ref xtp, .ref xn, .ref xt, .ref xk, .ref xl, .ref xc, .ref xo, .ref xto, .ref xr, .ref xch, .int ts, .int ik, .int st])), (xr, .inl (aC 0, 7, .inl u_4))] H := hP
    have hD : va_D A [(xn, .inr (4, [.ref ek, .ref ef, .ref ew, .ref ep, .ref es, .int sz0, .int sy, .int dn])), (h0, .inr (11, [.ref xp, .ref xtp, .ref xn, .ref xt, .ref xk, .ref xl, .ref xc, .ref xo, .ref xto, .ref xr, .ref xch, .int ts, .int ik, .int st])), (xr, .inl (aC 0, 7, .inl u_4))] := hD
    clear hPc hDc hFc hz1 hk1 hP1 hD1 ht hvm
    obtain ⟨hv9, hv8⟩ := hw_3
    have hP9 := hP.sub (ws' := []) [] rfl
    have hD9 := hD.sub (ws' := []) [] (by decide) rfl
    refine W.widen (k := 0) (n := 0) (by omega) (by omega) ?_
    exact W.iret (v := x_3) hx hb hr (fun t ht hW => ⟨⟨x_3, (), rfl, hv9, by rw [ht]; exact hP9, va_K.moved hW.alike hK, hD9⟩, hS.F ht⟩) hS.2.2 dX11_fewest_16

set_option maxHeartbeats 4000000 in
set_option maxRecDepth 100000 in
/-- X11_league_r -/
theorem c_X11_league_r (l : Launch) (dC : Nat → ClassId) (dI : Nat → Nat → Nat) (aC : Nat → ClassId) (sz : Nat) (h0 : Nat) (xp : Nat) (xtp : Nat) (xn : Nat) (xt : Nat) (xk : Nat) (xl : Nat) (xc : Nat) (xo : Nat) (xto : Nat) (xr : Nat) (xch : Nat) (ts : Int32) (ik : Int32) (st : Int32) (ek : Nat) (ef : Nat) (ew : Nat) (ep : Nat) (es : Nat) (sz0 : Int32) (sy : Int32) (dn : Int32) (rf : Nat → Int32) (a1 : Int32) (hov : sz0 = 0 ∨ ¬ dn = 0) : Met l yX11_league (wW yX11_league cX11_league 3 (some .int)) ({ frames := 1, cells := 0, slots := 0, locals := 21 } : Room) (va_Pc [.ref h0, .int a1] (fun U => U.heap.size = sz ∧ va_P (dC, dI) classes [(h0, .inr (11, [.ref xp, .ref xtp, .ref xn, .ref xt, .ref xk, .ref xl, .ref xc, .ref xo, .ref xto, .ref xr, .ref xch, .int ts, .int ik, .int st])), (xn, .inr (4, [.ref ek, .ref ef, .ref ew, .ref ep, .ref es, .int sz0, .int sy, .int dn])), (xr, .inl (aC 0, 7, .inl rf))] U.heap ∧ va_K (dC, dI) classes (TY aC) U ∧ va_D (fun _ => True) [(h0, .inr (11, [.ref xp, .ref xtp, .ref xn, .ref xt, .ref xk, .ref xl, .ref xc, .ref xo, .ref xto, .ref xr, .ref xch, .int ts, .int ik, .int st])), (xn, .inr (4, [.ref ek, .ref ef, .ref ew, .ref ep, .ref es, .int sz0, .int sy, .int dn])), (xr, .inl (aC 0, 7, .inl rf))] ∧ NX U)) (va_Qi (fun (r : Int32) (_ : Unit) => r = -3) (fun (_ : Unit) (t : State) => va_P (dC, dI) classes [] t.heap ∧ va_K (dC, dI) classes (TY aC) t ∧ va_D (va_A [(h0, .inr (11, [.ref xp, .ref xtp, .ref xn, .ref xt, .ref xk, .ref xl, .ref xc, .ref xo, .ref xto, .ref xr, .ref xch, .int ts, .int ik, .int st])), (xn, .inr (4, [.ref ek, .ref ef, .ref ew, .ref ep, .ref es, .int sz0, .int sy, .int dn])), (xr, .inl (aC 0, 7, .inl rf))] sz) []) (va_A [(h0, .inr (11, [.ref xp, .ref xtp, .ref xn, .ref xt, .ref xk, .ref xl, .ref xc, .ref xo, .ref xto, .ref xr, .ref xch, .int ts, .int ik, .int st])), (xn, .inr (4, [.ref ek, .ref ef, .ref ew, .ref ep, .ref es, .int sz0, .int sy, .int dn])), (xr, .inl (aC 0, 7, .inl rf))] sz)) 0 0 (va_A [(h0, .inr (11, [.ref xp, .ref xtp, .ref xn, .ref xt, .ref xk, .ref xl, .ref xc, .ref xo, .ref xto, .ref xr, .ref xch, .int ts, .int ik, .int st])), (xn, .inr (4, [.ref ek, .ref ef, .ref ew, .ref ep, .ref es, .int sz0, .int sy, .int dn])), (xr, .inl (aC 0, 7, .inl rf))] sz) := by
  refine Met.ofW (cc := cX11_league) (maxL := 3) (ret := (some .int)) (by decide) rfl ?_
  intro p e s m args below meth c s₁ B hml hv
  obtain ⟨rfl, hsz, hP, hK, hD0, hN⟩ := hv
  have hx := B.exec
  have hb := B.bytes
  have hr := B.returns
  have hts0 := atoms_spec (ws := (wW yX11_league cX11_league 3 (some .int))) B.pre
  have hts : ∀ w9 ∈ lw_G, w9.before ([.ref h0, .int a1] : List Value).toArray s = true := fun w9 h9 => hts0 w9 (List.mem_cons_of_mem _ h9)
  have hown : s.vm.findClass RX11 = some m.cls := findClass_of_methodNamed B.named
  have hlocks := B.notSynchronized
  subst hsz
  have hD := hD0.self (sz := s.heap.size)
  generalize hAe : va_A [(h0, .inr (11, [.ref xp, .ref xtp, .ref xn, .ref xt, .ref xk, .ref xl, .ref xc, .ref xo, .ref xto, .ref xr, .ref xch, .int ts, .int ik, .int st])), (xn, .inr (4, [.ref ek, .ref ef, .ref ew, .ref ep, .ref es, .int sz0, .int sy, .int dn])), (xr, .inl (aC 0, 7, .inl rf))] s.heap.size = A at hD ⊢
  have hA : ∀ q : Nat, s.heap.size ≤ q → A q := fun q h => by rw [← hAe]; exact Or.inr h
  obtain ⟨H, hHe⟩ : ∃ H : Heap, H = s.heap := ⟨_, rfl⟩
  have hS : va_S A s.heap H [] := by rw [hHe]; exact va_S.rf
  have hP : va_P (dC, dI) classes [(h0, .inr (11, [.ref xp, .ref xtp, .ref xn, .ref xt, .ref xk, .ref xl, .ref xc, .ref xo, .ref xto, .ref xr, .ref xch, .int ts, .int ik, .int st])), (xn, .inr (4, [.ref ek, .ref ef, .ref ew, .ref ep, .ref es, .int sz0, .int sy, .int dn])), (xr, .inl (aC 0, 7, .inl rf))] H := by rw [hHe]; exact hP
  have hl := lv_entry ([.ref h0, .int a1]) (n := 3) (Nat.le_of_ble_eq_true rfl)
  rw [lg_entry_eq]
  generalize (lg_sl ([.ref h0, .int a1]) ++ List.replicate (3 - (lg_sl ([.ref h0, .int a1])).length) Slot.unset).toArray = ls at hl ⊢
  have hl : lv_has ls 3 [(0, .ref h0), (1, .int a1)] := hl
  rw [← hHe]
  refine lv_aload_n hx hb dX11_league_0 rfl (lv_at hl 0 rfl) ?_
  refine va_get (D := (dC, dI)) (ci := 11) (v := .ref xn) (C := RX11) (T := TX11) (N := 14) hx hb hts inX11 hown hK hP 0 rfl rfl 2 (by decide) (hts _ (gw kw_228 rfl)) (fun _ h9 => h9) rfl dX11_league_1 ?_
  have hPc := hP.sub (ws' := [(xn, .inr (4, [.ref ek, .ref ef, .ref ew, .ref ep, .ref es, .int sz0, .int sy, .int dn]))]) [1] rfl
  have hDc := hD.sub (ws' := [(xn, .inr (4, [.ref ek, .ref ef, .ref ew, .ref ep, .ref es, .int sz0, .int sy, .int dn]))]) [1] (by decide) rfl
  have hFc := va_free (wc := [(xn, .inr (4, [.ref ek, .ref ef, .ref ew, .ref ep, .ref es, .int sz0, .int sy, .int dn]))]) hD hS hA [1] rfl
  refine va_calli (va_runV (As := []) (rest := []) ⟨hx, hb, hml, hown, hts⟩ (c_X4_isOver l dC dI aC H.size xn ek ef ew ep es sz0 sy dn ) ⟨(callB_of 0 hts (gG kw_523) rfl rfl rfl (hts _ (gw kw_2 rfl)) (hts _ (gw kw_520 rfl)) (by decide +kernel) ⟨Nat.le_of_ble_eq_true rfl, Nat.le_of_ble_eq_true rfl⟩), (hts _ (gw kw_521 rfl)), (hts _ (gw kw_522 rfl))⟩ ⟨fun a U g mk q => by obtain ⟨q0, q1, qP, qK, qD, qN⟩ := q; exact ⟨q0, q1, qP, va_K.moved (u := U) (U := U.calling g mk a) (Vm.Alike.refl U.vm) qK, qD, NX.same (u := U) (U := U.calling g mk a) rfl qN⟩, va_recv hK hPc (ci := 4) (q0 := 0) rfl rfl, fun U hU hW => ⟨rfl, by rw [hU], by rw [hU]; exact hPc, va_K.moved hW.alike hK, hDc.weaken (fun _ _ _ _ => trivial), NX.warm hW hN⟩⟩ rfl rfl hl.1 rfl (lv_room (Nat.le_of_ble_eq_true rfl)) dX11_league_4 ⟨Nat.le_of_ble_eq_true rfl, Nat.le_of_ble_eq_true rfl⟩) hS (fun q _ h => hFc q h) hFc (fun x_1 u t H1 locs ht hvm hw_1 hB hz1 hk1 hS => ?_)
  obtain ⟨hP1, hK1, hD1⟩ := hB
  rw [ht] at hP1
  clear hK1
  try dsimp only at hw_1
  obtain ⟨hP, hD⟩ := va_join (wr := [(h0, .inr (11, [.ref xp, .ref xtp, .ref xn, .ref xt, .ref xk, .ref xl, .ref xc, .ref xo, .ref xto, .ref xr, .ref xch, .int ts, .int ik, .int st])), (xr, .inl (aC 0, 7, .inl rf))]) (w1 := [(xn, .inr (4, [.ref ek, .ref ef, .ref ew, .ref ep, .ref es, .int sz0, .int sy, .int dn]))]) hP hD [1] [0, 2] rfl rfl (by decide) (by decide) hk1 hFc hP1 hD1
  generalize H1 = H at hP hS ⊢
  have hP : va_P (dC, dI) classes [(h0, .inr (11, [.ref xp, .ref xtp, .ref xn, .ref xt, .ref xk, .ref xl, .ref xc, .ref xo, .ref xto, .ref xr, .ref xch, .int ts, .int ik, .int st])), (xr, .inl (aC 0, 7, .inl rf)), (xn, .inr (4, [.ref ek, .ref ef, .ref ew, .ref ep, .ref es, .int sz0, .int sy, .int dn]))] H := hP
  have hD : va_D A [(h0, .inr (11, [.ref xp, .ref xtp, .ref xn, .ref xt, .ref xk, .ref xl, .ref xc, .ref xo, .ref xto, .ref xr, .ref xch, .int ts, .int ik, .int st])), (xr, .inl (aC 0, 7, .inl rf)), (xn, .inr (4, [.ref ek, .ref ef, .ref ew, .ref ep, .ref es, .int sz0, .int sy, .int dn]))] := hD
  clear hPc hDc hFc hz1 hk1 hP1 hD1 ht hvm
  have hz_4 : x_1 = 1 := by rw [hw_1]; rcases hov with h9 | h9 <;> simp [h9]
  refine lv_if_eq (tgt := 17) hx hb dX11_league_7 (by decide) (fun c_2 => ?_) (fun c_2 => ?_)
  · exact absurd c_2 (by rw [hz_4]; decide)
  · refine lv_aload_n hx hb dX11_league_10 rfl (lv_at hl 0 rfl) ?_
    refine lv_bipush (v := -3) hx hb dX11_league_11 (by decide) ?_
    have hPc := hP.sub (ws' := [(h0, .inr (11, [.ref xp, .ref xtp, .ref xn, .ref xt, .ref xk, .ref xl, .ref xc, .ref xo, .ref xto, .ref xr, .ref xch, .int ts, .int ik, .int st])), (xr, .inl (aC 0, 7, .inl rf))]) [0, 1] rfl
    have hDc := hD.sub (ws' := [(h0, .inr (11, [.ref xp, .ref xtp, .ref xn, .ref xt, .ref xk, .ref xl, .ref xc, .ref xo, .ref xto, .ref xr, .ref xch, .int ts, .int ik, .int st])), (xr, .inl (aC 0, 7, .inl rf))]) [0, 1] (by decide) rfl
    have hFc := va_free (wc := [(h0, .inr (11, [.ref xp, .ref xtp, .ref xn, .ref xt, .ref xk, .ref xl, .ref xc, .ref xo, .ref xto, .ref xr, .ref xch, .int ts, .int ik, .int st])), (xr, .inl (aC 0, 7, .inl rf))]) hD hS hA [0, 1] rfl
    refine va_calli (va_runV (As := [.int (-3)]) (rest := []) ⟨hx, hb, hml, hown, hts⟩ (c_X11_refuse l dC dI aC H.size h0 xp xtp xn xt xk xl xc xo xto xr xch ts ik st (-3) 3 rf (by decide) (by decide) (by decide) (by unfold vp_in; decide)) ⟨(callB_of 1 hts (gG kw_276) rfl rfl rfl (hts _ (gw kw_1 rfl)) (hts _ (gw kw_273 rfl)) (by decide +kernel) ⟨Nat.le_of_ble_eq_true rfl, Nat.le_of_ble_eq_true rfl⟩), (hts _ (gw kw_275 rfl)), (hts _ (gw ks_0 rfl))⟩ ⟨fun a U g mk q => by obtain ⟨q0, q1, qP, qK, qD, qN⟩ := q; exact ⟨q0, q1, qP, va_K.moved (u := U) (U := U.calling g mk a) (Vm.Alike.refl U.vm) qK, qD, NX.same (u := U) (U := U.calling g mk a) rfl qN⟩, va_recv hK hPc (ci := 11) (q0 := 0) rfl rfl, fun U hU hW => ⟨rfl, by rw [hU], by rw [hU]; exact hPc, va_K.moved hW.alike hK, hDc.weaken (fun _ _ _ _ => trivial), NX.warm hW hN⟩⟩ rfl rfl hl.1 rfl (lv_room (Nat.le_of_ble_eq_true rfl)) dX11_league_13 ⟨Nat.le_of_ble_eq_true rfl, Nat.le_of_ble_eq_true rfl⟩) hS (fun q _ h => hFc q h) hFc (fun x_3 u t H1 locs ht hvm hw_3 hB hz1 hk1 hS => ?_)
    obtain ⟨u_4, rfl⟩ : ∃ z, z = u := ⟨_, rfl⟩
    obtain ⟨hP1, hK1, hD1⟩ := hB
    rw [ht] at hP1
    clear hK1
    try dsimp only at hw_3
    obtain ⟨hP, hD⟩ := va_join (wr := [(xn, .inr (4, [.ref ek, .ref ef, .ref ew, .ref ep, .ref es, .int sz0, .int sy, .int dn]))]) (w1 := [(h0, .inr (11, [.ref xp, .ref xtp, .ref xn, .ref xt, .ref xk, .ref xl, .ref xc, .ref xo, .ref xto, .ref xr, .ref xch, .int ts, .int ik, .int st])), (xr, .inl (aC 0, 7, .inl u_4))]) hP hD [0, 1] [2] rfl rfl (by decide) (by decide) hk1 hFc hP1 hD1
    generalize H1 = H at hP hS ⊢
    have hP : va_P (dC, dI) classes [(xn, .inr (4, [.ref ek, .ref ef, .ref ew, .ref ep, .ref es, .int sz0, .int sy, .int dn])), (h0, .inr (11, [.ref xp, .ref xtp, .ref xn, .ref xt, .ref xk, .ref xl, .ref xc, .ref xo, .ref xto, .ref xr, .ref xch, .int ts, .int ik, .int st])), (xr, .inl (aC 0, 7, .inl u_4))] H := hP
    have hD : va_D A [(xn, .inr (4, [.ref ek, .ref ef, .ref ew, .ref ep, .ref es, .int sz0, .int sy, .int dn])), (h0, .inr (11, [.ref xp, .ref xtp, .ref xn, .ref xt, .ref xk, .ref xl, .ref xc, .ref xo, .ref xto, .ref xr, .ref xch, .int ts, .int ik, .int st])), (xr, .inl (aC 0, 7, .inl u_4))] := hD
    clear hPc hDc hFc hz1 hk1 hP1 hD1 ht hvm
    obtain ⟨hv9, hv8⟩ := hw_3
    have hP9 := hP.sub (ws' := []) [] rfl
    have hD9 := hD.sub (ws' := []) [] (by decide) rfl
    refine W.widen (k := 0) (n := 0) (by omega) (by omega) ?_
    exact W.iret (v := x_3) hx hb hr (fun t ht hW => ⟨⟨x_3, (), rfl, hv9, by rw [ht]; exact hP9, va_K.moved hW.alike hK, hD9⟩, hS.F ht⟩) hS.2.2 dX11_league_16

set_option maxHeartbeats 4000000 in
set_option maxRecDepth 100000 in
/-- X11_clear -/
theorem c_X11_clear (l : Launch) (dC : Nat → ClassId) (dI : Nat → Nat → Nat) (aC : Nat → ClassId) (sz : Nat) (h0 : Nat) (xp : Nat) (xtp : Nat) (xn : Nat) (xt : Nat) (xk : Nat) (xl : Nat) (xc : Nat) (xo : Nat) (xto : Nat) (xr : Nat) (xch : Nat) (ts : Int32) (ik : Int32) (st : Int32)  : Met l yX11_clear (wW yX11_clear cX11_clear 2 (some .int)) ({ frames := 0, cells := 0, slots := 0, locals := 0 } : Room) (va_Pc [.ref h0] (fun U => U.heap.size = sz ∧ va_P (dC, dI) classes [(h0, .inr (11, [.ref xp, .ref xtp, .ref xn, .ref xt, .ref xk, .ref xl, .ref xc, .ref xo, .ref xto, .ref xr, .ref xch, .int ts, .int ik, .int st]))] U.heap ∧ va_K (dC, dI) classes (TY aC) U ∧ va_D (fun _ => True) [(h0, .inr (11, [.ref xp, .ref xtp, .ref xn, .ref xt, .ref xk, .ref xl, .ref xc, .ref xo, .ref xto, .ref xr, .ref xch, .int ts, .int ik, .int st]))] ∧ NX U)) (va_Qi (fun (r : Int32) (_ : Unit) => r = ts) (fun (_ : Unit) (t : State) => va_P (dC, dI) classes [(h0, .inr (11, [.ref xp, .ref xtp, .ref xn, .ref xt, .ref xk, .ref xl, .ref xc, .ref xo, .ref xto, .ref xr, .ref xch, .int 0, .int ik, .int st]))] t.heap ∧ va_K (dC, dI) classes (TY aC) t ∧ va_D (va_A [(h0, .inr (11, [.ref xp, .ref xtp, .ref xn, .ref xt, .ref xk, .ref xl, .ref xc, .ref xo, .ref xto, .ref xr, .ref xch, .int ts, .int ik, .int st]))] sz) [(h0, .inr (11, [.ref xp, .ref xtp, .ref xn, .ref xt, .ref xk, .ref xl, .ref xc, .ref xo, .ref xto, .ref xr, .ref xch, .int 0, .int ik, .int st]))]) (va_A [(h0, .inr (11, [.ref xp, .ref xtp, .ref xn, .ref xt, .ref xk, .ref xl, .ref xc, .ref xo, .ref xto, .ref xr, .ref xch, .int ts, .int ik, .int st]))] sz)) 0 0 (va_A [(h0, .inr (11, [.ref xp, .ref xtp, .ref xn, .ref xt, .ref xk, .ref xl, .ref xc, .ref xo, .ref xto, .ref xr, .ref xch, .int ts, .int ik, .int st]))] sz) := by
  refine Met.ofW (cc := cX11_clear) (maxL := 2) (ret := (some .int)) (by decide) rfl ?_
  intro p e s m args below meth c s₁ B hml hv
  obtain ⟨rfl, hsz, hP, hK, hD0, hN⟩ := hv
  have hx := B.exec
  have hb := B.bytes
  have hr := B.returns
  have hts0 := atoms_spec (ws := (wW yX11_clear cX11_clear 2 (some .int))) B.pre
  have hts : ∀ w9 ∈ lw_G, w9.before ([.ref h0] : List Value).toArray s = true := fun w9 h9 => hts0 w9 (List.mem_cons_of_mem _ h9)
  have hown : s.vm.findClass RX11 = some m.cls := findClass_of_methodNamed B.named
  have hlocks := B.notSynchronized
  subst hsz
  have hD := hD0.self (sz := s.heap.size)
  generalize hAe : va_A [(h0, .inr (11, [.ref xp, .ref xtp, .ref xn, .ref xt, .ref xk, .ref xl, .ref xc, .ref xo, .ref xto, .ref xr, .ref xch, .int ts, .int ik, .int st]))] s.heap.size = A at hD ⊢
  have hA : ∀ q : Nat, s.heap.size ≤ q → A q := fun q h => by rw [← hAe]; exact Or.inr h
  obtain ⟨H, hHe⟩ : ∃ H : Heap, H = s.heap := ⟨_, rfl⟩
  have hS : va_S A s.heap H [] := by rw [hHe]; exact va_S.rf
  have hP : va_P (dC, dI) classes [(h0, .inr (11, [.ref xp, .ref xtp, .ref xn, .ref xt, .ref xk, .ref xl, .ref xc, .ref xo, .ref xto, .ref xr, .ref xch, .int ts, .int ik, .int st]))] H := by rw [hHe]; exact hP
  have hl := lv_entry ([.ref h0]) (n := 2) (Nat.le_of_ble_eq_true rfl)
  rw [lg_entry_eq]
  generalize (lg_sl ([.ref h0]) ++ List.replicate (2 - (lg_sl ([.ref h0])).length) Slot.unset).toArray = ls at hl ⊢
  have hl : lv_has ls 2 [(0, .ref h0)] := hl
  rw [← hHe]
  refine lv_aload_n hx hb dX11_clear_0 rfl (lv_at hl 0 rfl) ?_
  refine va_get (D := (dC, dI)) (ci := 11) (v := .int ts) (C := RX11) (T := TX11) (N := 14) hx hb hts inX11 hown hK hP 0 rfl rfl 11 (by decide) (hts _ (gw kw_237 rfl)) (fun _ h9 => h9) rfl dX11_clear_1 ?_
  refine lv_istore_n (lv' := [(1, .int ts), (0, .ref h0)]) hx hb dX11_clear_4 rfl hl (by decide) rfl (fun ls hl => ?_)
  refine lv_aload_n hx hb dX11_clear_5 rfl (lv_at hl 1 rfl) ?_
  refine lv_iconst (v := 0) hx hb dX11_clear_6 (by decide) ?_
  refine va_put (D := (dC, dI)) (ci := 11) (v := .int 0) (ty := .int) (C := RX11) (T := TX11) (N := 14) hx hb hts inX11 tyX11 tyX11_ok nmX11 hown hK hP hD hS 0 rfl rfl 11 (by decide) (hts _ (gw kw_237 rfl)) (fun _ h9 => h9) rfl (by decide +kernel) rfl rfl (Nat.le_of_ble_eq_true rfl) dX11_clear_7 (fun H locs hP hD hS => ?_)
  have hP : va_P (dC, dI) classes [(h0, .inr (11, [.ref xp, .ref xtp, .ref xn, .ref xt, .ref xk, .ref xl, .ref xc, .ref xo, .ref xto, .ref xr, .ref xch, .int 0, .int ik, .int st]))] H := hP
  have hD : va_D A [(h0, .inr (11, [.ref xp, .ref xtp, .ref xn, .ref xt, .ref xk, .ref xl, .ref xc, .ref xo, .ref xto, .ref xr, .ref xch, .int 0, .int ik, .int st]))] := hD
  refine lv_iload_n hx hb dX11_clear_10 rfl (lv_at hl 0 rfl) ?_
  have hP9 := hP.sub (ws' := [(h0, .inr (11, [.ref xp, .ref xtp, .ref xn, .ref xt, .ref xk, .ref xl, .ref xc, .ref xo, .ref xto, .ref xr, .ref xch, .int 0, .int ik, .int st]))]) [0] rfl
  have hD9 := hD.sub (ws' := [(h0, .inr (11, [.ref xp, .ref xtp, .ref xn, .ref xt, .ref xk, .ref xl, .ref xc, .ref xo, .ref xto, .ref xr, .ref xch, .int 0, .int ik, .int st]))]) [0] (by decide) rfl
  refine W.widen (k := 0) (n := 0) (by omega) (by omega) ?_
  exact W.iret (v := ts) hx hb hr (fun t ht hW => ⟨⟨ts, (), rfl, rfl, by rw [ht]; exact hP9, va_K.moved hW.alike hK, hD9⟩, hS.F ht⟩) hS.2.2 dX11_clear_11

set_option maxHeartbeats 4000000 in
set_option maxRecDepth 100000 in
/-- X11_gains_r -/
theorem c_X11_gains_r (l : Launch) (dC : Nat → ClassId) (dI : Nat → Nat → Nat) (aC : Nat → ClassId) (sz : Nat) (h0 : Nat) (xp : Nat) (xtp : Nat) (xn : Nat) (xt : Nat) (xk : Nat) (xl : Nat) (xc : Nat) (xo : Nat) (xto : Nat) (xr : Nat) (xch : Nat) (ts : Int32) (ik : Int32) (st : Int32) (ek : Nat) (ef : Nat) (ew : Nat) (ep : Nat) (es : Nat) (sy : Int32) (dn : Int32)  : Met l yX11_gains (wW yX11_gains cX11_gains 4 (some .int)) ({ frames := 0, cells := 0, slots := 0, locals := 0 } : Room) (va_Pc [.ref h0] (fun U => U.heap.size = sz ∧ va_P (dC, dI) classes [(h0, .inr (11, [.ref xp, .ref xtp, .ref xn, .ref xt, .ref xk, .ref xl, .ref xc, .ref xo, .ref xto, .ref xr, .ref xch, .int ts, .int ik, .int st])), (xn, .inr (4, [.ref ek, .ref ef, .ref ew, .ref ep, .ref es, .int 0, .int sy, .int dn]))] U.heap ∧ va_K (dC, dI) classes (TY aC) U ∧ va_D (fun _ => True) [(h0, .inr (11, [.ref xp, .ref xtp, .ref xn, .ref xt, .ref xk, .ref xl, .ref xc, .ref xo, .ref xto, .ref xr, .ref xch, .int ts, .int ik, .int st])), (xn, .inr (4, [.ref ek, .ref ef, .ref ew, .ref ep, .ref es, .int 0, .int sy, .int dn]))] ∧ NX U)) (va_Qi (fun (r : Int32) (_ : Unit) => r = 0) (fun (_ : Unit) (t : State) => va_P (dC, dI) classes [] t.heap ∧ va_K (dC, dI) classes (TY aC) t ∧ va_D (va_A [(h0, .inr (11, [.ref xp, .ref xtp, .ref xn, .ref xt, .ref xk, .ref xl, .ref xc, .ref xo, .ref xto, .ref xr, .ref xch, .int ts, .int ik, .int st])), (xn, .inr (4, [.ref ek, .ref ef, .ref ew, .ref ep, .ref es, .int 0, .int sy, .int dn]))] sz) []) (va_A [(h0, .inr (11, [.ref xp, .ref xtp, .ref xn, .ref xt, .ref xk, .ref xl, .ref xc, .ref xo, .ref xto, .ref xr, .ref xch, .int ts, .int ik, .int st])), (xn, .inr (4, [.ref ek, .ref ef, .ref ew, .ref ep, .ref es, .int 0, .int sy, .int dn]))] sz)) 0 0 (va_A [(h0, .inr (11, [.ref xp, .ref xtp, .ref xn, .ref xt, .ref xk, .ref xl, .ref xc, .ref xo, .ref xto, .ref xr, .ref xch, .int ts, .int ik, .int st])), (xn, .inr (4, [.ref ek, .ref ef, .ref ew, .ref ep, .ref es, .int 0, .int sy, .int dn]))] sz) := by
  refine Met.ofW (cc := cX11_gains) (maxL := 4) (ret := (some .int)) (by decide) rfl ?_
  intro p e s m args below meth c s₁ B hml hv
  obtain ⟨rfl, hsz, hP, hK, hD0, hN⟩ := hv
  have hx := B.exec
  have hb := B.bytes
  have hr := B.returns
  have hts0 := atoms_spec (ws := (wW yX11_gains cX11_gains 4 (some .int))) B.pre
  have hts : ∀ w9 ∈ lw_G, w9.before ([.ref h0] : List Value).toArray s = true := fun w9 h9 => hts0 w9 (List.mem_cons_of_mem _ h9)
  have hown : s.vm.findClass RX11 = some m.cls := findClass_of_methodNamed B.named
  have hlocks := B.notSynchronized
  subst hsz
  have hD := hD0.self (sz := s.heap.size)
  generalize hAe : va_A [(h0, .inr (11, [.ref xp, .ref xtp, .ref xn, .ref xt, .ref xk, .ref xl, .ref xc, .ref xo, .ref xto, .ref xr, .ref xch, .int ts, .int ik, .int st])), (xn, .inr (4, [.ref ek, .ref ef, .ref ew, .ref ep, .ref es, .int 0, .int sy, .int dn]))] s.heap.size = A at hD ⊢
  have hA : ∀ q : Nat, s.heap.size ≤ q → A q := fun q h => by rw [← hAe]; exact Or.inr h
  obtain ⟨H, hHe⟩ : ∃ H : Heap, H = s.heap := ⟨_, rfl⟩
  have hS : va_S A s.heap H [] := by rw [hHe]; exact va_S.rf
  have hP : va_P (dC, dI) classes [(h0, .inr (11, [.ref xp, .ref xtp, .ref xn, .ref xt, .ref xk, .ref xl, .ref xc, .ref xo, .ref xto, .ref xr, .ref xch, .int ts, .int ik, .int st])), (xn, .inr (4, [.ref ek, .ref ef, .ref ew, .ref ep, .ref es, .int 0, .int sy, .int dn]))] H := by rw [hHe]; exact hP
  have hl := lv_entry ([.ref h0]) (n := 4) (Nat.le_of_ble_eq_true rfl)
  rw [lg_entry_eq]
  generalize (lg_sl ([.ref h0]) ++ List.replicate (4 - (lg_sl ([.ref h0])).length) Slot.unset).toArray = ls at hl ⊢
  have hl : lv_has ls 4 [(0, .ref h0)] := hl
  rw [← hHe]
  refine lv_aload_n hx hb dX11_gains_0 rfl (lv_at hl 0 rfl) ?_
  refine va_get (D := (dC, dI)) (ci := 11) (v := .ref xn) (C := RX11) (T := TX11) (N := 14) hx hb hts inX11 hown hK hP 0 rfl rfl 2 (by decide) (hts _ (gw kw_228 rfl)) (fun _ h9 => h9) rfl dX11_gains_1 ?_
  refine va_get (D := (dC, dI)) (ci := 4) (v := .int 0) (C := RX4) (T := TX4) (N := 8) hx hb hts inX4 hown hK hP 1 rfl rfl 5 (by decide) (hts _ (gw kw_50 rfl)) (fun _ h9 => h9) rfl dX11_gains_4 ?_
  refine lv_if_eq (tgt := 22) hx hb dX11_gains_7 (by decide) (fun c_1 => ?_) (fun c_1 => ?_)
  · refine lv_iconst (v := 0) hx hb dX11_gains_22 (by decide) ?_
    have hP9 := hP.sub (ws' := []) [] rfl
    have hD9 := hD.sub (ws' := []) [] (by decide) rfl
    refine W.widen (k := 0) (n := 0) (by omega) (by omega) ?_
    exact W.iret (v := 0) hx hb hr (fun t ht hW => ⟨⟨0, (), rfl, rfl, by rw [ht]; exact hP9, va_K.moved hW.alike hK, hD9⟩, hS.F ht⟩) hS.2.2 dX11_gains_23
  · exact absurd rfl c_1

set_option maxHeartbeats 4000000 in
set_option maxRecDepth 100000 in
/-- X11_restore_r -/
theorem c_X11_restore_r (l : Launch) (dC : Nat → ClassId) (dI : Nat → Nat → Nat) (aC : Nat → ClassId) (sz : Nat) (h0 : Nat) (xp : Nat) (xtp : Nat) (xn : Nat) (xt : Nat) (xk : Nat) (xl : Nat) (xc : Nat) (xo : Nat) (xto : Nat) (xr : Nat) (xch : Nat) (ts : Int32) (st : Int32) (rf : Nat → Int32)  : Met l yX11_restore (wW yX11_restore cX11_restore 1 (some .int)) ({ frames := 1, cells := 0, slots := 0, locals := 21 } : Room) (va_Pc [.ref h0] (fun U => U.heap.size = sz ∧ va_P (dC, dI) classes [(h0, .inr (11, [.ref xp, .ref xtp, .ref xn, .ref xt, .ref xk, .ref xl, .ref xc, .ref xo, .ref xto, .ref xr, .ref xch, .int ts, .int 0, .int st])), (xr, .inl (aC 0, 7, .inl rf))] U.heap ∧ va_K (dC, dI) classes (TY aC) U ∧ va_D (fun _ => True) [(h0, .inr (11, [.ref xp, .ref xtp, .ref xn, .ref xt, .ref xk, .ref xl, .ref xc, .ref xo, .ref xto, .ref xr, .ref xch, .int ts, .int 0, .int st])), (xr, .inl (aC 0, 7, .inl rf))] ∧ NX U)) (va_Qi (fun (r : Int32) (_ : Unit) => r = -3) (fun (_ : Unit) (t : State) => va_P (dC, dI) classes [] t.heap ∧ va_K (dC, dI) classes (TY aC) t ∧ va_D (va_A [(h0, .inr (11, [.ref xp, .ref xtp, .ref xn, .ref xt, .ref xk, .ref xl, .ref xc, .ref xo, .ref xto, .ref xr, .ref xch, .int ts, .int 0, .int st])), (xr, .inl (aC 0, 7, .inl rf))] sz) []) (va_A [(h0, .inr (11, [.ref xp, .ref xtp, .ref xn, .ref xt, .ref xk, .ref xl, .ref xc, .ref xo, .ref xto, .ref xr, .ref xch, .int ts, .int 0, .int st])), (xr, .inl (aC 0, 7, .inl rf))] sz)) 0 0 (va_A [(h0, .inr (11, [.ref xp, .ref xtp, .ref xn, .ref xt, .ref xk, .ref xl, .ref xc, .ref xo, .ref xto, .ref xr, .ref xch, .int ts, .int 0, .int st])), (xr, .inl (aC 0, 7, .inl rf))] sz) := by
  refine Met.ofW (cc := cX11_restore) (maxL := 1) (ret := (some .int)) (by decide) rfl ?_
  intro p e s m args below meth c s₁ B hml hv
  obtain ⟨rfl, hsz, hP, hK, hD0, hN⟩ := hv
  have hx := B.exec
  have hb := B.bytes
  have hr := B.returns
  have hts0 := atoms_spec (ws := (wW yX11_restore cX11_restore 1 (some .int))) B.pre
  have hts : ∀ w9 ∈ lw_G, w9.before ([.ref h0] : List Value).toArray s = true := fun w9 h9 => hts0 w9 (List.mem_cons_of_mem _ h9)
  have hown : s.vm.findClass RX11 = some m.cls := findClass_of_methodNamed B.named
  have hlocks := B.notSynchronized
  subst hsz
  have hD := hD0.self (sz := s.heap.size)
  generalize hAe : va_A [(h0, .inr (11, [.ref xp, .ref xtp, .ref xn, .ref xt, .ref xk, .ref xl, .ref xc, .ref xo, .ref xto, .ref xr, .ref xch, .int ts, .int 0, .int st])), (xr, .inl (aC 0, 7, .inl rf))] s.heap.size = A at hD ⊢
  have hA : ∀ q : Nat, s.heap.size ≤ q → A q := fun q h => by rw [← hAe]; exact Or.inr h
  obtain ⟨H, hHe⟩ : ∃ H : Heap, H = s.heap := ⟨_, rfl⟩
  have hS : va_S A s.heap H [] := by rw [hHe]; exact va_S.rf
  have hP : va_P (dC, dI) classes [(h0, .inr (11, [.ref xp, .ref xtp, .ref xn, .ref xt, .ref xk, .ref xl, .ref xc, .ref xo, .ref xto, .ref xr, .ref xch, .int ts, .int 0, .int st])), (xr, .inl (aC 0, 7, .inl rf))] H := by rw [hHe]; exact hP
  have hl := lv_entry ([.ref h0]) (n := 1) (Nat.le_of_ble_eq_true rfl)
  rw [lg_entry_eq]
  generalize (lg_sl ([.ref h0]) ++ List.replicate (1 - (lg_sl ([.ref h0])).length) Slot.unset).toArray = ls at hl ⊢
  have hl : lv_has ls 1 [(0, .ref h0)] := hl
  rw [← hHe]
  refine lv_aload_n hx hb dX11_restore_0 rfl (lv_at hl 0 rfl) ?_
  refine va_get (D := (dC, dI)) (ci := 11) (v := .int 0) (C := RX11) (T := TX11) (N := 14) hx hb hts inX11 hown hK hP 0 rfl rfl 12 (by decide) (hts _ (gw kw_238 rfl)) (fun _ h9 => h9) rfl dX11_restore_1 ?_
  refine lv_if_ne (tgt := 14) hx hb dX11_restore_4 (by decide) (fun c_1 => ?_) (fun c_1 => ?_)
  · exact absurd rfl c_1
  · refine lv_aload_n hx hb dX11_restore_7 rfl (lv_at hl 0 rfl) ?_
    refine lv_bipush (v := -3) hx hb dX11_restore_8 (by decide) ?_
    have hPc := hP.sub (ws' := [(h0, .inr (11, [.ref xp, .ref xtp, .ref xn, .ref xt, .ref xk, .ref xl, .ref xc, .ref xo, .ref xto, .ref xr, .ref xch, .int ts, .int 0, .int st])), (xr, .inl (aC 0, 7, .inl rf))]) [0, 1] rfl
    have hDc := hD.sub (ws' := [(h0, .inr (11, [.ref xp, .ref xtp, .ref xn, .ref xt, .ref xk, .ref xl, .ref xc, .ref xo, .ref xto, .ref xr, .ref xch, .int ts, .int 0, .int st])), (xr, .inl (aC 0, 7, .inl rf))]) [0, 1] (by decide) rfl
    have hFc := va_free (wc := [(h0, .inr (11, [.ref xp, .ref xtp, .ref xn, .ref xt, .ref xk, .ref xl, .ref xc, .ref xo, .ref xto, .ref xr, .ref xch, .int ts, .int 0, .int st])), (xr, .inl (aC 0, 7, .inl rf))]) hD hS hA [0, 1] rfl
    refine va_calli (va_runV (As := [.int (-3)]) (rest := []) ⟨hx, hb, hml, hown, hts⟩ (c_X11_refuse l dC dI aC H.size h0 xp xtp xn xt xk xl xc xo xto xr xch ts 0 st (-3) 3 rf (by decide) (by decide) (by decide) (by unfold vp_in; decide)) ⟨(callB_of 1 hts (gG kw_276) rfl rfl rfl (hts _ (gw kw_1 rfl)) (hts _ (gw kw_273 rfl)) (by decide +kernel) ⟨Nat.le_of_ble_eq_true rfl, Nat.le_of_ble_eq_true rfl⟩), (hts _ (gw kw_275 rfl)), (hts _ (gw ks_0 rfl))⟩ ⟨fun a U g mk q => by obtain ⟨q0, q1, qP, qK, qD, qN⟩ := q; exact ⟨q0, q1, qP, va_K.moved (u := U) (U := U.calling g mk a) (Vm.Alike.refl U.vm) qK, qD, NX.same (u := U) (U := U.calling g mk a) rfl qN⟩, va_recv hK hPc (ci := 11) (q0 := 0) rfl rfl, fun U hU hW => ⟨rfl, by rw [hU], by rw [hU]; exact hPc, va_K.moved hW.alike hK, hDc.weaken (fun _ _ _ _ => trivial), NX.warm hW hN⟩⟩ rfl rfl hl.1 rfl (lv_room (Nat.le_of_ble_eq_true rfl)) dX11_restore_10 ⟨Nat.le_of_ble_eq_true rfl, Nat.le_of_ble_eq_true rfl⟩) hS (fun q _ h => hFc q h) hFc (fun x_2 u t H1 locs ht hvm hw_2 hB hz1 hk1 hS => ?_)
    obtain ⟨u_3, rfl⟩ : ∃ z, z = u := ⟨_, rfl⟩
    obtain ⟨hP1, hK1, hD1⟩ := hB
    rw [ht] at hP1
    clear hK1
    try dsimp only at hw_2
    obtain ⟨hP, hD⟩ := va_join (wr := []) (w1 := [(h0, .inr (11, [.ref xp, .ref xtp, .ref xn, .ref xt, .ref xk, .ref xl, .ref xc, .ref xo, .ref xto, .ref xr, .ref xch, .int ts, .int 0, .int st])), (xr, .inl (aC 0, 7, .inl u_3))]) hP hD [0, 1] [] rfl rfl (by decide) (by decide) hk1 hFc hP1 hD1
    generalize H1 = H at hP hS ⊢
    have hP : va_P (dC, dI) classes [(h0, .inr (11, [.ref xp, .ref xtp, .ref xn, .ref xt, .ref xk, .ref xl, .ref xc, .ref xo, .ref xto, .ref xr, .ref xch, .int ts, .int 0, .int st])), (xr, .inl (aC 0, 7, .inl u_3))] H := hP
    have hD : va_D A [(h0, .inr (11, [.ref xp, .ref xtp, .ref xn, .ref xt, .ref xk, .ref xl, .ref xc, .ref xo, .ref xto, .ref xr, .ref xch, .int ts, .int 0, .int st])), (xr, .inl (aC 0, 7, .inl u_3))] := hD
    clear hPc hDc hFc hz1 hk1 hP1 hD1 ht hvm
    obtain ⟨hv9, hv8⟩ := hw_2
    have hP9 := hP.sub (ws' := []) [] rfl
    have hD9 := hD.sub (ws' := []) [] (by decide) rfl
    refine W.widen (k := 0) (n := 0) (by omega) (by omega) ?_
    exact W.iret (v := x_2) hx hb hr (fun t ht hW => ⟨⟨x_2, (), rfl, hv9, by rw [ht]; exact hP9, va_K.moved hW.alike hK, hD9⟩, hS.F ht⟩) hS.2.2 dX11_restore_13

set_option maxHeartbeats 4000000 in
set_option maxRecDepth 100000 in
/-- X11_shaken_r -/
theorem c_X11_shaken_r (l : Launch) (dC : Nat → ClassId) (dI : Nat → Nat → Nat) (aC : Nat → ClassId) (sz : Nat) (h0 : Nat) (xp : Nat) (xtp : Nat) (xn : Nat) (xt : Nat) (xk : Nat) (xl : Nat) (xc : Nat) (xo : Nat) (xto : Nat) (xr : Nat) (xch : Nat) (ts : Int32) (ik : Int32) (st : Int32) (ek : Nat) (ef : Nat) (ew : Nat) (ep : Nat) (es : Nat) (sz0 : Int32) (sy : Int32) (dn : Int32) (rf : Nat → Int32) (a1 : Int32) (hov : sz0 = 0 ∨ ¬ dn = 0) : Met l yX11_shaken (wW yX11_shaken cX11_shaken 8 (some .long)) ({ frames := 1, cells := 0, slots := 0, locals := 21 } : Room) (va_Pc [.ref h0, .int a1] (fun U => U.heap.size = sz ∧ va_P (dC, dI) classes [(h0, .inr (11, [.ref xp, .ref xtp, .ref xn, .ref xt, .ref xk, .ref xl, .ref xc, .ref xo, .ref xto, .ref xr, .ref xch, .int ts, .int ik, .int st])), (xn, .inr (4, [.ref ek, .ref ef, .ref ew, .ref ep, .ref es, .int sz0, .int sy, .int dn])), (xr, .inl (aC 0, 7, .inl rf))] U.heap ∧ va_K (dC, dI) classes (TY aC) U ∧ va_D (fun _ => True) [(h0, .inr (11, [.ref xp, .ref xtp, .ref xn, .ref xt, .ref xk, .ref xl, .ref xc, .ref xo, .ref xto, .ref xr, .ref xch, .int ts, .int ik, .int st])), (xn, .inr (4, [.ref ek, .ref ef, .ref ew, .ref ep, .ref es, .int sz0, .int sy, .int dn])), (xr, .inl (aC 0, 7, .inl rf))] ∧ NX U)) (va_Ql (fun (r : Int64) (_ : Unit) => r = if a1 < 0 then 4000000000000000002 else if 1 < a1 then 4000000000000000002 else 4000000000000000003) (fun (_ : Unit) (t : State) => va_P (dC, dI) classes [] t.heap ∧ va_K (dC, dI) classes (TY aC) t ∧ va_D (va_A [(h0, .inr (11, [.ref xp, .ref xtp, .ref xn, .ref xt, .ref xk, .ref xl, .ref xc, .ref xo, .ref xto, .ref xr, .ref xch, .int ts, .int ik, .int st])), (xn, .inr (4, [.ref ek, .ref ef, .ref ew, .ref ep, .ref es, .int sz0, .int sy, .int dn])), (xr, .inl (aC 0, 7, .inl rf))] sz) []) (va_A [(h0, .inr (11, [.ref xp, .ref xtp, .ref xn, .ref xt, .ref xk, .ref xl, .ref xc, .ref xo, .ref xto, .ref xr, .ref xch, .int ts, .int ik, .int st])), (xn, .inr (4, [.ref ek, .ref ef, .ref ew, .ref ep, .ref es, .int sz0, .int sy, .int dn])), (xr, .inl (aC 0, 7, .inl rf))] sz)) 0 0 (va_A [(h0, .inr (11, [.ref xp, .ref xtp, .ref xn, .ref xt, .ref xk, .ref xl, .ref xc, .ref xo, .ref xto, .ref xr, .ref xch, .int ts, .int ik, .int st])), (xn, .inr (4, [.ref ek, .ref ef, .ref ew, .ref ep, .ref es, .int sz0, .int sy, .int dn])), (xr, .inl (aC 0, 7, .inl rf))] sz) := by
  refine Met.ofW (cc := cX11_shaken) (maxL := 8) (ret := (some .long)) (by decide) rfl ?_
  intro p e s m args below meth c s₁ B hml hv
  obtain ⟨rfl, hsz, hP, hK, hD0, hN⟩ := hv
  have hx := B.exec
  have hb := B.bytes
  have hr := B.returns
  have hts0 := atoms_spec (ws := (wW yX11_shaken cX11_shaken 8 (some .long))) B.pre
  have hts : ∀ w9 ∈ lw_G, w9.before ([.ref h0, .int a1] : List Value).toArray s = true := fun w9 h9 => hts0 w9 (List.mem_cons_of_mem _ h9)
  have hown : s.vm.findClass RX11 = some m.cls := findClass_of_methodNamed B.named
  have hlocks := B.notSynchronized
  subst hsz
  have hD := hD0.self (sz := s.heap.size)
  generalize hAe : va_A [(h0, .inr (11, [.ref xp, .ref xtp, .ref xn, .ref xt, .ref xk, .ref xl, .ref xc, .ref xo, .ref xto, .ref xr, .ref xch, .int ts, .int ik, .int st])), (xn, .inr (4, [.ref ek, .ref ef, .ref ew, .ref ep, .ref es, .int sz0, .int sy, .int dn])), (xr, .inl (aC 0, 7, .inl rf))] s.heap.size = A at hD ⊢
  have hA : ∀ q : Nat, s.heap.size ≤ q → A q := fun q h => by rw [← hAe]; exact Or.inr h
  obtain ⟨H, hHe⟩ : ∃ H : Heap, H = s.heap := ⟨_, rfl⟩
  have hS : va_S A s.heap H [] := by rw [hHe]; exact va_S.rf
  have hP : va_P (dC, dI) classes [(h0, .inr (11, [.ref xp, .ref xtp, .ref xn, .ref xt, .ref xk, .ref xl, .ref xc, .ref xo, .ref xto, .ref xr, .ref xch, .int ts, .int ik, .int st])), (xn, .inr (4, [.ref ek, .ref ef, .ref ew, .ref ep, .ref es, .int sz0, .int sy, .int dn])), (xr, .inl (aC 0, 7, .inl rf))] H := by rw [hHe]; exact hP
  have hl := lv_entry ([.ref h0, .int a1]) (n := 8) (Nat.le_of_ble_eq_true rfl)
  rw [lg_entry_eq]
  generalize (lg_sl ([.ref h0, .int a1]) ++ List.replicate (8 - (lg_sl ([.ref h0, .int a1])).length) Slot.unset).toArray = ls at hl ⊢
  have hl : lv_has ls 8 [(0, .ref h0), (1, .int a1)] := hl
  rw [← hHe]
  refine lv_iload_n hx hb dX11_shaken_0 rfl (lv_at hl 1 rfl) ?_
  refine lv_if_lt (tgt := 9) hx hb dX11_shaken_1 (by decide) (fun c_1 => ?_) (fun c_1 => ?_)
  · refine lv_ldc2 hx hb hown (hts _ (gw kw_648 rfl)) dX11_shaken_9 ?_
    refine lv_aload_n hx hb dX11_shaken_12 rfl (lv_at hl 0 rfl) ?_
    refine lv_bipush (v := -2) hx hb dX11_shaken_13 (by decide) ?_
    have hPc := hP.sub (ws' := [(h0, .inr (11, [.ref xp, .ref xtp, .ref xn, .ref xt, .ref xk, .ref xl, .ref xc, .ref xo, .ref xto, .ref xr, .ref xch, .int ts, .int ik, .int st])), (xr, .inl (aC 0, 7, .inl rf))]) [0, 2] rfl
    have hDc := hD.sub (ws' := [(h0, .inr (11, [.ref xp, .ref xtp, .ref xn, .ref xt, .ref xk, .ref xl, .ref xc, .ref xo, .ref xto, .ref xr, .ref xch, .int ts, .int ik, .int st])), (xr, .inl (aC 0, 7, .inl rf))]) [0, 2] (by decide) rfl
    have hFc := va_free (wc := [(h0, .inr (11, [.ref xp, .ref xtp, .ref xn, .ref xt, .ref xk, .ref xl, .ref xc, .ref xo, .ref xto, .ref xr, .ref xch, .int ts, .int ik, .int st])), (xr, .inl (aC 0, 7, .inl rf))]) hD hS hA [0, 2] rfl
    refine va_calli (va_runV (As := [.int (-2)]) (rest := [.long 4000000000000000000]) ⟨hx, hb, hml, hown, hts⟩ (c_X11_refuse l dC dI aC H.size h0 xp xtp xn xt xk xl xc xo xto xr xch ts ik st (-2) 2 rf (by decide) (by decide) (by decide) (by unfold vp_in; decide)) ⟨(callB_of 1 hts (gG kw_276) rfl rfl rfl (hts _ (gw kw_1 rfl)) (hts _ (gw kw_273 rfl)) (by decide +kernel) ⟨Nat.le_of_ble_eq_true rfl, Nat.le_of_ble_eq_true rfl⟩), (hts _ (gw kw_275 rfl)), (hts _ (gw ks_0 rfl))⟩ ⟨fun a U g mk q => by obtain ⟨q0, q1, qP, qK, qD, qN⟩ := q; exact ⟨q0, q1, qP, va_K.moved (u := U) (U := U.calling g mk a) (Vm.Alike.refl U.vm) qK, qD, NX.same (u := U) (U := U.calling g mk a) rfl qN⟩, va_recv hK hPc (ci := 11) (q0 := 0) rfl rfl, fun U hU hW => ⟨rfl, by rw [hU], by rw [hU]; exact hPc, va_K.moved hW.alike hK, hDc.weaken (fun _ _ _ _ => trivial), NX.warm hW hN⟩⟩ rfl rfl hl.1 rfl (lv_room (Nat.le_of_ble_eq_true rfl)) dX11_shaken_15 ⟨Nat.le_of_ble_eq_true rfl, Nat.le_of_ble_eq_true rfl⟩) hS (fun q _ h => hFc q h) hFc (fun x_2 u t H1 locs ht hvm hw_2 hB hz1 hk1 hS => ?_)
    obtain ⟨u_3, rfl⟩ : ∃ z, z = u := ⟨_, rfl⟩
    obtain ⟨hP1, hK1, hD1⟩ := hB
    rw [ht] at hP1
    clear hK1
    try dsimp only at hw_2
    obtain ⟨hP, hD⟩ := va_join (wr := [(xn, .inr (4, [.ref ek, .ref ef, .ref ew, .ref ep, .ref es, .int sz0, .int sy, .int dn]))]) (w1 := [(h0, .inr (11, [.ref xp, .ref xtp, .ref xn, .ref xt, .ref xk, .ref xl, .ref xc, .ref xo, .ref xto, .ref xr, .ref xch, .int ts, .int ik, .int st])), (xr, .inl (aC 0, 7, .inl u_3))]) hP hD [0, 2] [1] rfl rfl (by decide) (by decide) hk1 hFc hP1 hD1
    generalize H1 = H at hP hS ⊢
    have hP : va_P (dC, dI) classes [(xn, .inr (4, [.ref ek, .ref ef, .ref ew, .ref ep, .ref es, .int sz0, .int sy, .int dn])), (h0, .inr (11, [.ref xp, .ref xtp, .ref xn, .ref xt, .ref xk, .ref xl, .ref xc, .ref xo, .ref xto, .ref xr, .ref xch, .int ts, .int ik, .int st])), (xr, .inl (aC 0, 7, .inl u_3))] H := hP
    have hD : va_D A [(xn, .inr (4, [.ref ek, .ref ef, .ref ew, .ref ep, .ref es, .int sz0, .int sy, .int dn])), (h0, .inr (11, [.ref xp, .ref xtp, .ref xn, .ref xt, .ref xk, .ref xl, .ref xc, .ref xo, .ref xto, .ref xr, .ref xch, .int ts, .int ik, .int st])), (xr, .inl (aC 0, 7, .inl u_3))] := hD
    clear hPc hDc hFc hz1 hk1 hP1 hD1 ht hvm
    obtain ⟨hv9, hv8⟩ := hw_2
    refine lv_i2l hx hb dX11_shaken_18 rfl ?_
    refine lv_topl (fun x_4 e_4 => ?_)
    refine lv_lsub hx hb dX11_shaken_19 ?_
    refine lv_topl (fun x_5 e_5 => ?_)
    have hP9 := hP.sub (ws' := []) [] rfl
    have hD9 := hD.sub (ws' := []) [] (by decide) rfl
    refine W.widen (k := 0) (n := 0) (by omega) (by omega) ?_
    exact W.lret (v := x_5) hx hb hr (fun t ht hW => ⟨⟨x_5, (), rfl, by subst e_5; subst e_4; rw [hv9]; first | (rw [if_pos c_1]; rfl) | (rw [if_neg c_1, if_pos (Int32.not_le.mp {C1})]; rfl) | simp_all, by rw [ht]; exact hP9, va_K.moved hW.alike hK, hD9⟩, hS.F ht⟩) hS.2.2 dX11_shaken_20
  · refine lv_iload_n hx hb dX11_shaken_4 rfl (lv_at hl 1 rfl) ?_
    refine lv_iconst (v := 1) hx hb dX11_shaken_5 (by decide) ?_
    refine lv_icmp_le (tgt := 21) hx hb dX11_shaken_6 (by decide) (fun c_6 => ?_) (fun c_6 => ?_)
    · refine lv_aload_n hx hb dX11_shaken_21 rfl (lv_at hl 0 rfl) ?_
      refine va_get (D := (dC, dI)) (ci := 11) (v := .ref xn) (C := RX11) (T := TX11) (N := 14) hx hb hts inX11 hown hK hP 0 rfl rfl 2 (by decide) (hts _ (gw kw_228 rfl)) (fun _ h9 => h9) rfl dX11_shaken_22 ?_
      have hPc := hP.sub (ws' := [(xn, .inr (4, [.ref ek, .ref ef, .ref ew, .ref ep, .ref es, .int sz0, .int sy, .int dn]))]) [1] rfl
      have hDc := hD.sub (ws' := [(xn, .inr (4, [.ref ek, .ref ef, .ref ew, .ref ep, .ref es, .int sz0, .int sy, .int dn]))]) [1] (by decide) rfl
      have hFc := va_free (wc := [(xn, .inr (4, [.ref ek, .ref ef, .ref ew, .ref ep, .ref es, .int sz0, .int sy, .int dn]))]) hD hS hA [1] rfl
      refine va_calli (va_runV (As := []) (rest := []) ⟨hx, hb, hml, hown, hts⟩ (c_X4_isOver l dC dI aC H.size xn ek ef ew ep es sz0 sy dn ) ⟨(callB_of 0 hts (gG kw_523) rfl rfl rfl (hts _ (gw kw_2 rfl)) (hts _ (gw kw_520 rfl)) (by decide +kernel) ⟨Nat.le_of_ble_eq_true rfl, Nat.le_of_ble_eq_true rfl⟩), (hts _ (gw kw_521 rfl)), (hts _ (gw kw_522 rfl))⟩ ⟨fun a U g mk q => by obtain ⟨q0, q1, qP, qK, qD, qN⟩ := q; exact ⟨q0, q1, qP, va_K.moved (u := U) (U := U.calling g mk a) (Vm.Alike.refl U.vm) qK, qD, NX.same (u := U) (U := U.calling g mk a) rfl qN⟩, va_recv hK hPc (ci := 4) (q0 := 0) rfl rfl, fun U hU hW => ⟨rfl, by rw [hU], by rw [hU]; exact hPc, va_K.moved hW.alike hK, hDc.weaken (fun _ _ _ _ => trivial), NX.warm hW hN⟩⟩ rfl rfl hl.1 rfl (lv_room (Nat.le_of_ble_eq_true rfl)) dX11_shaken_25 ⟨Nat.le_of_ble_eq_true rfl, Nat.le_of_ble_eq_true rfl⟩) hS (fun q _ h => hFc q h) hFc (fun x_7 u t H1 locs ht hvm hw_7 hB hz1 hk1 hS => ?_)
      obtain ⟨hP1, hK1, hD1⟩ := hB
      rw [ht] at hP1
      clear hK1
      try dsimp only at hw_7
      obtain ⟨hP, hD⟩ := va_join (wr := [(h0, .inr (11, [.ref xp, .ref xtp, .ref xn, .ref xt, .ref xk, .ref xl, .ref xc, .ref xo, .ref xto, .ref xr, .ref xch, .int ts, .int ik, .int st])), (xr, .inl (aC 0, 7, .inl rf))]) (w1 := [(xn, .inr (4, [.ref ek, .ref ef, .ref ew, .ref ep, .ref es, .int sz0, .int sy, .int dn]))]) hP hD [1] [0, 2] rfl rfl (by decide) (by decide) hk1 hFc hP1 hD1
      generalize H1 = H at hP hS ⊢
      have hP : va_P (dC, dI) classes [(h0, .inr (11, [.ref xp, .ref xtp, .ref xn, .ref xt, .ref xk, .ref xl, .ref xc, .ref xo, .ref xto, .ref xr, .ref xch, .int ts, .int ik, .int st])), (xr, .inl (aC 0, 7, .inl rf)), (xn, .inr (4, [.ref ek, .ref ef, .ref ew, .ref ep, .ref es, .int sz0, .int sy, .int dn]))] H := hP
      have hD : va_D A [(h0, .inr (11, [.ref xp, .ref xtp, .ref xn, .ref xt, .ref xk, .ref xl, .ref xc, .ref xo, .ref xto, .ref xr, .ref xch, .int ts, .int ik, .int st])), (xr, .inl (aC 0, 7, .inl rf)), (xn, .inr (4, [.ref ek, .ref ef, .ref ew, .ref ep, .ref es, .int sz0, .int sy, .int dn]))] := hD
      clear hPc hDc hFc hz1 hk1 hP1 hD1 ht hvm
      have hz_25 : x_7 = 1 := by rw [hw_7]; rcases hov with h9 | h9 <;> simp [h9]
      refine lv_if_eq (tgt := 43) hx hb dX11_shaken_28 (by decide) (fun c_8 => ?_) (fun c_8 => ?_)
      · exact absurd c_8 (by rw [hz_25]; decide)
      · refine lv_ldc2 hx hb hown (hts _ (gw kw_648 rfl)) dX11_shaken_31 ?_
        refine lv_aload_n hx hb dX11_shaken_34 rfl (lv_at hl 0 rfl) ?_
        refine lv_bipush (v := -3) hx hb dX11_shaken_35 (by decide) ?_
        have hPc := hP.sub (ws' := [(h0, .inr (11, [.ref xp, .ref xtp, .ref xn, .ref xt, .ref xk, .ref xl, .ref xc, .ref xo, .ref xto, .ref xr, .ref xch, .int ts, .int ik, .int st])), (xr, .inl (aC 0, 7, .inl rf))]) [0, 1] rfl
        have hDc := hD.sub (ws' := [(h0, .inr (11, [.ref xp, .ref xtp, .ref xn, .ref xt, .ref xk, .ref xl, .ref xc, .ref xo, .ref xto, .ref xr, .ref xch, .int ts, .int ik, .int st])), (xr, .inl (aC 0, 7, .inl rf))]) [0, 1] (by decide) rfl
        have hFc := va_free (wc := [(h0, .inr (11, [.ref xp, .ref xtp, .ref xn, .ref xt, .ref xk, .ref xl, .ref xc, .ref xo, .ref xto, .ref xr, .ref xch, .int ts, .int ik, .int st])), (xr, .inl (aC 0, 7, .inl rf))]) hD hS hA [0, 1] rfl
        refine va_calli (va_runV (As := [.int (-3)]) (rest := [.long 4000000000000000000]) ⟨hx, hb, hml, hown, hts⟩ (c_X11_refuse l dC dI aC H.size h0 xp xtp xn xt xk xl xc xo xto xr xch ts ik st (-3) 3 rf (by decide) (by decide) (by decide) (by unfold vp_in; decide)) ⟨(callB_of 1 hts (gG kw_276) rfl rfl rfl (hts _ (gw kw_1 rfl)) (hts _ (gw kw_273 rfl)) (by decide +kernel) ⟨Nat.le_of_ble_eq_true rfl, Nat.le_of_ble_eq_true rfl⟩), (hts _ (gw kw_275 rfl)), (hts _ (gw ks_0 rfl))⟩ ⟨fun a U g mk q => by obtain ⟨q0, q1, qP, qK, qD, qN⟩ := q; exact ⟨q0, q1, qP, va_K.moved (u := U) (U := U.calling g mk a) (Vm.Alike.refl U.vm) qK, qD, NX.same (u := U) (U := U.calling g mk a) rfl qN⟩, va_recv hK hPc (ci := 11) (q0 := 0) rfl rfl, fun U hU hW => ⟨rfl, by rw [hU], by rw [hU]; exact hPc, va_K.moved hW.alike hK, hDc.weaken (fun _ _ _ _ => trivial), NX.warm hW hN⟩⟩ rfl rfl hl.1 rfl (lv_room (Nat.le_of_ble_eq_true rfl)) dX11_shaken_37 ⟨Nat.le_of_ble_eq_true rfl, Nat.le_of_ble_eq_true rfl⟩) hS (fun q _ h => hFc q h) hFc (fun x_9 u t H1 locs ht hvm hw_9 hB hz1 hk1 hS => ?_)
        obtain ⟨u_10, rfl⟩ : ∃ z, z = u := ⟨_, rfl⟩
        obtain ⟨hP1, hK1, hD1⟩ := hB
        rw [ht] at hP1
        clear hK1
        try dsimp only at hw_9
        obtain ⟨hP, hD⟩ := va_join (wr := [(xn, .inr (4, [.ref ek, .ref ef, .ref ew, .ref ep, .ref es, .int sz0, .int sy, .int dn]))]) (w1 := [(h0, .inr (11, [.ref xp, .ref xtp, .ref xn, .ref xt, .ref xk, .ref xl, .ref xc, .ref xo, .ref xto, .ref xr, .ref xch, .int ts, .int ik, .int st])), (xr, .inl (aC 0, 7, .inl u_10))]) hP hD [0, 1] [2] rfl rfl (by decide) (by decide) hk1 hFc hP1 hD1
        generalize H1 = H at hP hS ⊢
        have hP : va_P (dC, dI) classes [(xn, .inr (4, [.ref ek, .ref ef, .ref ew, .ref ep, .ref es, .int sz0, .int sy, .int dn])), (h0, .inr (11, [.ref xp, .ref xtp, .ref xn, .ref xt, .ref xk, .ref xl, .ref xc, .ref xo, .ref xto, .ref xr, .ref xch, .int ts, .int ik, .int st])), (xr, .inl (aC 0, 7, .inl u_10))] H := hP
        have hD : va_D A [(xn, .inr (4, [.ref ek, .ref ef, .ref ew, .ref ep, .ref es, .int sz0, .int sy, .int dn])), (h0, .inr (11, [.ref xp, .ref xtp, .ref xn, .ref xt, .ref xk, .ref xl, .ref xc, .ref xo, .ref xto, .ref xr, .ref xch, .int ts, .int ik, .int st])), (xr, .inl (aC 0, 7, .inl u_10))] := hD
        clear hPc hDc hFc hz1 hk1 hP1 hD1 ht hvm
        obtain ⟨hv9, hv8⟩ := hw_9
        refine lv_i2l hx hb dX11_shaken_40 rfl ?_
        refine lv_topl (fun x_11 e_11 => ?_)
        refine lv_lsub hx hb dX11_shaken_41 ?_
        refine lv_topl (fun x_12 e_12 => ?_)
        have hP9 := hP.sub (ws' := []) [] rfl
        have hD9 := hD.sub (ws' := []) [] (by decide) rfl
        refine W.widen (k := 0) (n := 0) (by omega) (by omega) ?_
        exact W.lret (v := x_12) hx hb hr (fun t ht hW => ⟨⟨x_12, (), rfl, by subst e_12; subst e_11; rw [hv9]; rw [if_neg c_1, if_neg (Int32.not_lt.mpr c_6)]; rfl, by rw [ht]; exact hP9, va_K.moved hW.alike hK, hD9⟩, hS.F ht⟩) hS.2.2 dX11_shaken_42
    · refine lv_ldc2 hx hb hown (hts _ (gw kw_648 rfl)) dX11_shaken_9 ?_
      refine lv_aload_n hx hb dX11_shaken_12 rfl (lv_at hl 0 rfl) ?_
      refine lv_bipush (v := -2) hx hb dX11_shaken_13 (by decide) ?_
      have hPc := hP.sub (ws' := [(h0, .inr (11, [.ref xp, .ref xtp, .ref xn, .ref xt, .ref xk, .ref xl, .ref xc, .ref xo, .ref xto, .ref xr, .ref xch, .int ts, .int ik, .int st])), (xr, .inl (aC 0, 7, .inl rf))]) [0, 2] rfl
      have hDc := hD.sub (ws' := [(h0, .inr (11, [.ref xp, .ref xtp, .ref xn, .ref xt, .ref xk, .ref xl, .ref xc, .ref xo, .ref xto, .ref xr, .ref xch, .int ts, .int ik, .int st])), (xr, .inl (aC 0, 7, .inl rf))]) [0, 2] (by decide) rfl
      have hFc := va_free (wc := [(h0, .inr (11, [.ref xp, .ref xtp, .ref xn, .ref xt, .ref xk, .ref xl, .ref xc, .ref xo, .ref xto, .ref xr, .ref xch, .int ts, .int ik, .int st])), (xr, .inl (aC 0, 7, .inl rf))]) hD hS hA [0, 2] rfl
      refine va_calli (va_runV (As := [.int (-2)]) (rest := [.long 4000000000000000000]) ⟨hx, hb, hml, hown, hts⟩ (c_X11_refuse l dC dI aC H.size h0 xp xtp xn xt xk xl xc xo xto xr xch ts ik st (-2) 2 rf (by decide) (by decide) (by decide) (by unfold vp_in; decide)) ⟨(callB_of 1 hts (gG kw_276) rfl rfl rfl (hts _ (gw kw_1 rfl)) (hts _ (gw kw_273 rfl)) (by decide +kernel) ⟨Nat.le_of_ble_eq_true rfl, Nat.le_of_ble_eq_true rfl⟩), (hts _ (gw kw_275 rfl)), (hts _ (gw ks_0 rfl))⟩ ⟨fun a U g mk q => by obtain ⟨q0, q1, qP, qK, qD, qN⟩ := q; exact ⟨q0, q1, qP, va_K.moved (u := U) (U := U.calling g mk a) (Vm.Alike.refl U.vm) qK, qD, NX.same (u := U) (U := U.calling g mk a) rfl qN⟩, va_recv hK hPc (ci := 11) (q0 := 0) rfl rfl, fun U hU hW => ⟨rfl, by rw [hU], by rw [hU]; exact hPc, va_K.moved hW.alike hK, hDc.weaken (fun _ _ _ _ => trivial), NX.warm hW hN⟩⟩ rfl rfl hl.1 rfl (lv_room (Nat.le_of_ble_eq_true rfl)) dX11_shaken_15 ⟨Nat.le_of_ble_eq_true rfl, Nat.le_of_ble_eq_true rfl⟩) hS (fun q _ h => hFc q h) hFc (fun x_13 u t H1 locs ht hvm hw_13 hB hz1 hk1 hS => ?_)
      obtain ⟨u_14, rfl⟩ : ∃ z, z = u := ⟨_, rfl⟩
      obtain ⟨hP1, hK1, hD1⟩ := hB
      rw [ht] at hP1
      clear hK1
      try dsimp only at hw_13
      obtain ⟨hP, hD⟩ := va_join (wr := [(xn, .inr (4, [.ref ek, .ref ef, .ref ew, .ref ep, .ref es, .int sz0, .int sy, .int dn]))]) (w1 := [(h0, .inr (11, [.ref xp, .ref xtp, .ref xn, .ref xt, .ref xk, .ref xl, .ref xc, .ref xo, .ref xto, .ref xr, .ref xch, .int ts, .int ik, .int st])), (xr, .inl (aC 0, 7, .inl u_14))]) hP hD [0, 2] [1] rfl rfl (by decide) (by decide) hk1 hFc hP1 hD1
      generalize H1 = H at hP hS ⊢
      have hP : va_P (dC, dI) classes [(xn, .inr (4, [.ref ek, .ref ef, .ref ew, .ref ep, .ref es, .int sz0, .int sy, .int dn])), (h0, .inr (11, [.ref xp, .ref xtp, .ref xn, .ref xt, .ref xk, .ref xl, .ref xc, .ref xo, .ref xto, .ref xr, .ref xch, .int ts, .int ik, .int st])), (xr, .inl (aC 0, 7, .inl u_14))] H := hP
      have hD : va_D A [(xn, .inr (4, [.ref ek, .ref ef, .ref ew, .ref ep, .ref es, .int sz0, .int sy, .int dn])), (h0, .inr (11, [.ref xp, .ref xtp, .ref xn, .ref xt, .ref xk, .ref xl, .ref xc, .ref xo, .ref xto, .ref xr, .ref xch, .int ts, .int ik, .int st])), (xr, .inl (aC 0, 7, .inl u_14))] := hD
      clear hPc hDc hFc hz1 hk1 hP1 hD1 ht hvm
      obtain ⟨hv9, hv8⟩ := hw_13
      refine lv_i2l hx hb dX11_shaken_18 rfl ?_
      refine lv_topl (fun x_15 e_15 => ?_)
      refine lv_lsub hx hb dX11_shaken_19 ?_
      refine lv_topl (fun x_16 e_16 => ?_)
      have hP9 := hP.sub (ws' := []) [] rfl
      have hD9 := hD.sub (ws' := []) [] (by decide) rfl
      refine W.widen (k := 0) (n := 0) (by omega) (by omega) ?_
      exact W.lret (v := x_16) hx hb hr (fun t ht hW => ⟨⟨x_16, (), rfl, by subst e_16; subst e_15; rw [hv9]; first | (rw [if_pos c_1]; rfl) | (rw [if_neg c_1, if_pos (Int32.not_le.mp c_6)]; rfl) | simp_all, by rw [ht]; exact hP9, va_K.moved hW.alike hK, hD9⟩, hS.F ht⟩) hS.2.2 dX11_shaken_20

set_option maxHeartbeats 4000000 in
set_option maxRecDepth 100000 in
/-- X12_areInOrder_r -/
theorem c_X12_areInOrder_r (l : Launch) (dC : Nat → ClassId) (dI : Nat → Nat → Nat) (aC : Nat → ClassId) (sz : Nat) (g0 : Nat) (m_refused : Nat) (m_kind : Nat) (m_figure : Nat) (m_weight : Nat) (m_got : Nat) (m_setting : Nat) (m_tape : Nat) (m_letter : Nat) (m_letterAt : Nat) (m_told : Nat) (m_kept : Nat) (m_price : Nat) (m_offer : Nat) (m_gets : Nat) (m_yes : Nat) (m_buys : Nat) (m_ends : Nat) (m_carried : Nat) (m_row : Nat) (m_keptRow : Nat) (m_likeGets : Nat) (m_likePrice : Nat) (m_ahead : Nat) (men : Int32) (msy : Int32) (mdn : Int32) (tp : Int32) (mat : Int32) (stm : Int32) (hi : Int32) (ki : Int32) (cu : Int32) (rm : Int32) (i : Int32) (j : Int32) (hno : i < 0 ∨ men ≤ i) : Met l yX12_areInOrder (wW yX12_areInOrder cX12_areInOrder 3 (some .boolean)) ({ frames := 1, cells := 0, slots := 0, locals := 21 } : Room) (va_Pc [.ref g0, .int i, .int j] (fun U => U.heap.size = sz ∧ va_P (dC, dI) classes [(g0, .inr (12, [.ref m_refused, .ref m_kind, .ref m_figure, .ref m_weight, .ref m_got, .ref m_setting, .int men, .int msy, .int mdn, .ref m_tape, .ref m_letter, .ref m_letterAt, .ref m_told, .int tp, .int mat, .int stm, .ref m_kept, .int hi, .int ki, .int cu, .ref m_price, .ref m_offer, .ref m_gets, .ref m_yes, .ref m_buys, .ref m_ends, .ref m_carried, .ref m_row, .int rm, .ref m_keptRow, .ref m_likeGets, .ref m_likePrice, .ref m_ahead]))] U.heap ∧ va_K (dC, dI) classes (TY aC) U ∧ va_D (fun _ => True) [(g0, .inr (12, [.ref m_refused, .ref m_kind, .ref m_figure, .ref m_weight, .ref m_got, .ref m_setting, .int men, .int msy, .int mdn, .ref m_tape, .ref m_letter, .ref m_letterAt, .ref m_told, .int tp, .int mat, .int stm, .ref m_kept, .int hi, .int ki, .int cu, .ref m_price, .ref m_offer, .ref m_gets, .ref m_yes, .ref m_buys, .ref m_ends, .ref m_carried, .ref m_row, .int rm, .ref m_keptRow, .ref m_likeGets, .ref m_likePrice, .ref m_ahead]))] ∧ NX U)) (va_Qi (fun (r : Int32) (_ : Unit) => r = 0) (fun (_ : Unit) (t : State) => va_P (dC, dI) classes [(g0, .inr (12, [.ref m_refused, .ref m_kind, .ref m_figure, .ref m_weight, .ref m_got, .ref m_setting, .int men, .int msy, .int mdn, .ref m_tape, .ref m_letter, .ref m_letterAt, .ref m_told, .int tp, .int mat, .int stm, .ref m_kept, .int hi, .int ki, .int cu, .ref m_price, .ref m_offer, .ref m_gets, .ref m_yes, .ref m_buys, .ref m_ends, .ref m_carried, .ref m_row, .int rm, .ref m_keptRow, .ref m_likeGets, .ref m_likePrice, .ref m_ahead]))] t.heap ∧ va_K (dC, dI) classes (TY aC) t ∧ va_D (va_A [(g0, .inr (12, [.ref m_refused, .ref m_kind, .ref m_figure, .ref m_weight, .ref m_got, .ref m_setting, .int men, .int msy, .int mdn, .ref m_tape, .ref m_letter, .ref m_letterAt, .ref m_told, .int tp, .int mat, .int stm, .ref m_kept, .int hi, .int ki, .int cu, .ref m_price, .ref m_offer, .ref m_gets, .ref m_yes, .ref m_buys, .ref m_ends, .ref m_carried, .ref m_row, .int rm, .ref m_keptRow, .ref m_likeGets, .ref m_likePrice, .ref m_ahead]))] sz) [(g0, .inr (12, [.ref m_refused, .ref m_kind, .ref m_figure, .ref m_weight, .ref m_got, .ref m_setting, .int men, .int msy, .int mdn, .ref m_tape, .ref m_letter, .ref m_letterAt, .ref m_told, .int tp, .int mat, .int stm, .ref m_kept, .int hi, .int ki, .int cu, .ref m_price, .ref m_offer, .ref m_gets, .ref m_yes, .ref m_buys, .ref m_ends, .ref m_carried, .ref m_row, .int rm, .ref m_keptRow, .ref m_likeGets, .ref m_likePrice, .ref m_ahead]))]) (va_A [(g0, .inr (12, [.ref m_refused, .ref m_kind, .ref m_figure, .ref m_weight, .ref m_got, .ref m_setting, .int men, .int msy, .int mdn, .ref m_tape, .ref m_letter, .ref m_letterAt, .ref m_told, .int tp, .int mat, .int stm, .ref m_kept, .int hi, .int ki, .int cu, .ref m_price, .ref m_offer, .ref m_gets, .ref m_yes, .ref m_buys, .ref m_ends, .ref m_carried, .ref m_row, .int rm, .ref m_keptRow, .ref m_likeGets, .ref m_likePrice, .ref m_ahead]))] sz)) 0 0 (va_A [(g0, .inr (12, [.ref m_refused, .ref m_kind, .ref m_figure, .ref m_weight, .ref m_got, .ref m_setting, .int men, .int msy, .int mdn, .ref m_tape, .ref m_letter, .ref m_letterAt, .ref m_told, .int tp, .int mat, .int stm, .ref m_kept, .int hi, .int ki, .int cu, .ref m_price, .ref m_offer, .ref m_gets, .ref m_yes, .ref m_buys, .ref m_ends, .ref m_carried, .ref m_row, .int rm, .ref m_keptRow, .ref m_likeGets, .ref m_likePrice, .ref m_ahead]))] sz) := by
  refine Met.ofW (cc := cX12_areInOrder) (maxL := 3) (ret := (some .boolean)) (by decide) rfl ?_
  intro p e s m args below meth c s₁ B hml hv
  obtain ⟨rfl, hsz, hP, hK, hD0, hN⟩ := hv
  have hx := B.exec
  have hb := B.bytes
  have hr := B.returns
  have hts0 := atoms_spec (ws := (wW yX12_areInOrder cX12_areInOrder 3 (some .boolean))) B.pre
  have hts : ∀ w9 ∈ lw_G, w9.before ([.ref g0, .int i, .int j] : List Value).toArray s = true := fun w9 h9 => hts0 w9 (List.mem_cons_of_mem _ h9)
  have hown : s.vm.findClass RX12 = some m.cls := findClass_of_methodNamed B.named
  have hlocks := B.notSynchronized
  subst hsz
  have hD := hD0.self (sz := s.heap.size)
  generalize hAe : va_A [(g0, .inr (12, [.ref m_refused, .ref m_kind, .ref m_figure, .ref m_weight, .ref m_got, .ref m_setting, .int men, .int msy, .int mdn, .ref m_tape, .ref m_letter, .ref m_letterAt, .ref m_told, .int tp, .int mat, .int stm, .ref m_kept, .int hi, .int ki, .int cu, .ref m_price, .ref m_offer, .ref m_gets, .ref m_yes, .ref m_buys, .ref m_ends, .ref m_carried, .ref m_row, .int rm, .ref m_keptRow, .ref m_likeGets, .ref m_likePrice, .ref m_ahead]))] s.heap.size = A at hD ⊢
  have hA : ∀ q : Nat, s.heap.size ≤ q → A q := fun q h => by rw [← hAe]; exact Or.inr h
  obtain ⟨H, hHe⟩ : ∃ H : Heap, H = s.heap := ⟨_, rfl⟩
  have hS : va_S A s.heap H [] := by rw [hHe]; exact va_S.rf
  have hP : va_P (dC, dI) classes [(g0, .inr (12, [.ref m_refused, .ref m_kind, .ref m_figure, .ref m_weight, .ref m_got, .ref m_setting, .int men, .int msy, .int mdn, .ref m_tape, .ref m_letter, .ref m_letterAt, .ref m_told, .int tp, .int mat, .int stm, .ref m_kept, .int hi, .int ki, .int cu, .ref m_price, .ref m_offer, .ref m_gets, .ref m_yes, .ref m_buys, .ref m_ends, .ref m_carried, .ref m_row, .int rm, .ref m_keptRow, .ref m_likeGets, .ref m_likePrice, .ref m_ahead]))] H := by rw [hHe]; exact hP
  have hl := lv_entry ([.ref g0, .int i, .int j]) (n := 3) (Nat.le_of_ble_eq_true rfl)
  rw [lg_entry_eq]
  generalize (lg_sl ([.ref g0, .int i, .int j]) ++ List.replicate (3 - (lg_sl ([.ref g0, .int i, .int j])).length) Slot.unset).toArray = ls at hl ⊢
  have hl : lv_has ls 3 [(0, .ref g0), (1, .int i), (2, .int j)] := hl
  rw [← hHe]
  refine lv_aload_n hx hb dX12_areInOrder_0 rfl (lv_at hl 0 rfl) ?_
  refine lv_iload_n hx hb dX12_areInOrder_1 rfl (lv_at hl 1 rfl) ?_
  have hPc := hP.sub (ws' := [(g0, .inr (12, [.ref m_refused, .ref m_kind, .ref m_figure, .ref m_weight, .ref m_got, .ref m_setting, .int men, .int msy, .int mdn, .ref m_tape, .ref m_letter, .ref m_letterAt, .ref m_told, .int tp, .int mat, .int stm, .ref m_kept, .int hi, .int ki, .int cu, .ref m_price, .ref m_offer, .ref m_gets, .ref m_yes, .ref m_buys, .ref m_ends, .ref m_carried, .ref m_row, .int rm, .ref m_keptRow, .ref m_likeGets, .ref m_likePrice, .ref m_ahead]))]) [0] rfl
  have hDc := hD.sub (ws' := [(g0, .inr (12, [.ref m_refused, .ref m_kind, .ref m_figure, .ref m_weight, .ref m_got, .ref m_setting, .int men, .int msy, .int mdn, .ref m_tape, .ref m_letter, .ref m_letterAt, .ref m_told, .int tp, .int mat, .int stm, .ref m_kept, .int hi, .int ki, .int cu, .ref m_price, .ref m_offer, .ref m_gets, .ref m_yes, .ref m_buys, .ref m_ends, .ref m_carried, .ref m_row, .int rm, .ref m_keptRow, .ref m_likeGets, .ref m_likePrice, .ref m_ahead]))]) [0] (by decide) rfl
  have hFc := va_free (wc := [(g0, .inr (12, [.ref m_refused, .ref m_kind, .ref m_figure, .ref m_weight, .ref m_got, .ref m_setting, .int men, .int msy, .int mdn, .ref m_tape, .ref m_letter, .ref m_letterAt, .ref m_told, .int tp, .int mat, .int stm, .ref m_kept, .int hi, .int ki, .int cu, .ref m_price, .ref m_offer, .ref m_gets, .ref m_yes, .ref m_buys, .ref m_ends, .ref m_carried, .ref m_row, .int rm, .ref m_keptRow, .ref m_likeGets, .ref m_likePrice, .ref m_ahead]))]) hD hS hA [0] rfl
  refine va_calli (va_runV (As := [.int i]) (rest := []) ⟨hx, hb, hml, hown, hts⟩ (c_X12_isMan l dC dI aC H.size g0 m_refused m_kind m_figure m_weight m_got m_setting m_tape m_letter m_letterAt m_told m_kept m_price m_offer m_gets m_yes m_buys m_ends m_carried m_row m_keptRow m_likeGets m_likePrice m_ahead men msy mdn tp mat stm hi ki cu rm i ) ⟨(callB_of 1 hts (gG kw_878) rfl rfl rfl (hts _ (gw kw_13 rfl)) (hts _ (gw kw_875 rfl)) (by decide +kernel) ⟨Nat.le_of_ble_eq_true rfl, Nat.le_of_ble_eq_true rfl⟩), (hts _ (gw kw_877 rfl)), (hts _ (gw ks_43 rfl))⟩ ⟨fun a U g mk q => by obtain ⟨q0, q1, qP, qK, qD, qN⟩ := q; exact ⟨q0, q1, qP, va_K.moved (u := U) (U := U.calling g mk a) (Vm.Alike.refl U.vm) qK, qD, NX.same (u := U) (U := U.calling g mk a) rfl qN⟩, va_recv hK hPc (ci := 12) (q0 := 0) rfl rfl, fun U hU hW => ⟨rfl, by rw [hU], by rw [hU]; exact hPc, va_K.moved hW.alike hK, hDc.weaken (fun _ _ _ _ => trivial), NX.warm hW hN⟩⟩ rfl rfl hl.1 rfl (lv_room (Nat.le_of_ble_eq_true rfl)) dX12_areInOrder_2 ⟨Nat.le_of_ble_eq_true rfl, Nat.le_of_ble_eq_true rfl⟩) hS (fun q _ h => hFc q h) hFc (fun x_1 u t H1 locs ht hvm hw_1 hB hz1 hk1 hS => ?_)
  obtain ⟨hP1, hK1, hD1⟩ := hB
  rw [ht] at hP1
  clear hK1
  try dsimp only at hw_1
  obtain ⟨hP, hD⟩ := va_join (wr := []) (w1 := [(g0, .inr (12, [.ref m_refused, .ref m_kind, .ref m_figure, .ref m_weight, .ref m_got, .ref m_setting, .int men, .int msy, .int mdn, .ref m_tape, .ref m_letter, .ref m_letterAt, .ref m_told, .int tp, .int mat, .int stm, .ref m_kept, .int hi, .int ki, .int cu, .ref m_price, .ref m_offer, .ref m_gets, .ref m_yes, .ref m_buys, .ref m_ends, .ref m_carried, .ref m_row, .int rm, .ref m_keptRow, .ref m_likeGets, .ref m_likePrice, .ref m_ahead]))]) hP hD [0] [] rfl rfl (by decide) (by decide) hk1 hFc hP1 hD1
  generalize H1 = H at hP hS ⊢
  have hP : va_P (dC, dI) classes [(g0, .inr (12, [.ref m_refused, .ref m_kind, .ref m_figure, .ref m_weight, .ref m_got, .ref m_setting, .int men, .int msy, .int mdn, .ref m_tape, .ref m_letter, .ref m_letterAt, .ref m_told, .int tp, .int mat, .int stm, .ref m_kept, .int hi, .int ki, .int cu, .ref m_price, .ref m_offer, .ref m_gets, .ref m_yes, .ref m_buys, .ref m_ends, .ref m_carried, .ref m_row, .int rm, .ref m_keptRow, .ref m_likeGets, .ref m_likePrice, .ref m_ahead]))] H := hP
  have hD : va_D A [(g0, .inr (12, [.ref m_refused, .ref m_kind, .ref m_figure, .ref m_weight, .ref m_got, .ref m_setting, .int men, .int msy, .int mdn, .ref m_tape, .ref m_letter, .ref m_letterAt, .ref m_told, .int tp, .int mat, .int stm, .ref m_kept, .int hi, .int ki, .int cu, .ref m_price, .ref m_offer, .ref m_gets, .ref m_yes, .ref m_buys, .ref m_ends, .ref m_carried, .ref m_row, .int rm, .ref m_keptRow, .ref m_likeGets, .ref m_likePrice, .ref m_ahead]))] := hD
  clear hPc hDc hFc hz1 hk1 hP1 hD1 ht hvm
  have hz_2 : x_1 = 0 := by rw [hw_1]; rcases hno with h9 | h9 <;> simp [h9]
  refine lv_if_eq (tgt := 25) hx hb dX12_areInOrder_5 (by decide) (fun c_2 => ?_) (fun c_2 => ?_)
  · refine lv_iconst (v := 0) hx hb dX12_areInOrder_25 (by decide) ?_
    have hP9 := hP.sub (ws' := [(g0, .inr (12, [.ref m_refused, .ref m_kind, .ref m_figure, .ref m_weight, .ref m_got, .ref m_setting, .int men, .int msy, .int mdn, .ref m_tape, .ref m_letter, .ref m_letterAt, .ref m_told, .int tp, .int mat, .int stm, .ref m_kept, .int hi, .int ki, .int cu, .ref m_price, .ref m_offer, .ref m_gets, .ref m_yes, .ref m_buys, .ref m_ends, .ref m_carried, .ref m_row, .int rm, .ref m_keptRow, .ref m_likeGets, .ref m_likePrice, .ref m_ahead]))]) [0] rfl
    have hD9 := hD.sub (ws' := [(g0, .inr (12, [.ref m_refused, .ref m_kind, .ref m_figure, .ref m_weight, .ref m_got, .ref m_setting, .int men, .int msy, .int mdn, .ref m_tape, .ref m_letter, .ref m_letterAt, .ref m_told, .int tp, .int mat, .int stm, .ref m_kept, .int hi, .int ki, .int cu, .ref m_price, .ref m_offer, .ref m_gets, .ref m_yes, .ref m_buys, .ref m_ends, .ref m_carried, .ref m_row, .int rm, .ref m_keptRow, .ref m_likeGets, .ref m_likePrice, .ref m_ahead]))]) [0] (by decide) rfl
    refine W.widen (k := 0) (n := 0) (by omega) (by omega) ?_
    exact W.zret (v := 0) hx hb hr rfl (fun t ht hW => ⟨⟨0, (), rfl, rfl, by rw [ht]; exact hP9, va_K.moved hW.alike hK, hD9⟩, hS.F ht⟩) hS.2.2 dX12_areInOrder_26
  · exact absurd hz_2 c_2

set_option maxHeartbeats 4000000 in
set_option maxRecDepth 100000 in
/-- X12_man_r -/
theorem c_X12_man_r (l : Launch) (dC : Nat → ClassId) (dI : Nat → Nat → Nat) (aC : Nat → ClassId) (sz : Nat) (g0 : Nat) (m_refused : Nat) (m_kind : Nat) (m_figure : Nat) (m_weight : Nat) (m_got : Nat) (m_setting : Nat) (m_tape : Nat) (m_letter : Nat) (m_letterAt : Nat) (m_told : Nat) (m_kept : Nat) (m_price : Nat) (m_offer : Nat) (m_gets : Nat) (m_yes : Nat) (m_buys : Nat) (m_ends : Nat) (m_carried : Nat) (m_row : Nat) (m_keptRow : Nat) (m_likeGets : Nat) (m_likePrice : Nat) (m_ahead : Nat) (men : Int32) (msy : Int32) (mdn : Int32) (tp : Int32) (mat : Int32) (stm : Int32) (hi : Int32) (ki : Int32) (cu : Int32) (rm : Int32) (mr : Nat → Int32) (i : Int32) (a2 : Int32) (hno : i < 0 ∨ men ≤ i) : Met l yX12_man (wW yX12_man cX12_man 3 (some .int)) ({ frames := 1, cells := 0, slots := 0, locals := 21 } : Room) (va_Pc [.ref g0, .int i, .int a2] (fun U => U.heap.size = sz ∧ va_P (dC, dI) classes [(g0, .inr (12, [.ref m_refused, .ref m_kind, .ref m_figure, .ref m_weight, .ref m_got, .ref m_setting, .int men, .int msy, .int mdn, .ref m_tape, .ref m_letter, .ref m_letterAt, .ref m_told, .int tp, .int mat, .int stm, .ref m_kept, .int hi, .int ki, .int cu, .ref m_price, .ref m_offer, .ref m_gets, .ref m_yes, .ref m_buys, .ref m_ends, .ref m_carried, .ref m_row, .int rm, .ref m_keptRow, .ref m_likeGets, .ref m_likePrice, .ref m_ahead])), (m_refused, .inl (aC 0, 7, .inl mr))] U.heap ∧ va_K (dC, dI) classes (TY aC) U ∧ va_D (fun _ => True) [(g0, .inr (12, [.ref m_refused, .ref m_kind, .ref m_figure, .ref m_weight, .ref m_got, .ref m_setting, .int men, .int msy, .int mdn, .ref m_tape, .ref m_letter, .ref m_letterAt, .ref m_told, .int tp, .int mat, .int stm, .ref m_kept, .int hi, .int ki, .int cu, .ref m_price, .ref m_offer, .ref m_gets, .ref m_yes, .ref m_buys, .ref m_ends, .ref m_carried, .ref m_row, .int rm, .ref m_keptRow, .ref m_likeGets, .ref m_likePrice, .ref m_ahead])), (m_refused, .inl (aC 0, 7, .inl mr))] ∧ NX U)) (va_Qi (fun (r : Int32) (_ : Unit) => r = -1) (fun (_ : Unit) (t : State) => va_P (dC, dI) classes [] t.heap ∧ va_K (dC, dI) classes (TY aC) t ∧ va_D (va_A [(g0, .inr (12, [.ref m_refused, .ref m_kind, .ref m_figure, .ref m_weight, .ref m_got, .ref m_setting, .int men, .int msy, .int mdn, .ref m_tape, .ref m_letter, .ref m_letterAt, .ref m_told, .int tp, .int mat, .int stm, .ref m_kept, .int hi, .int ki, .int cu, .ref m_price, .ref m_offer, .ref m_gets, .ref m_yes, .ref m_buys, .ref m_ends, .ref m_carried, .ref m_row, .int rm, .ref m_keptRow, .ref m_likeGets, .ref m_likePrice, .ref m_ahead])), (m_refused, .inl (aC 0, 7, .inl mr))] sz) []) (va_A [(g0, .inr (12, [.ref m_refused, .ref m_kind, .ref m_figure, .ref m_weight, .ref m_got, .ref m_setting, .int men, .int msy, .int mdn, .ref m_tape, .ref m_letter, .ref m_letterAt, .ref m_told, .int tp, .int mat, .int stm, .ref m_kept, .int hi, .int ki, .int cu, .ref m_price, .ref m_offer, .ref m_gets, .ref m_yes, .ref m_buys, .ref m_ends, .ref m_carried, .ref m_row, .int rm, .ref m_keptRow, .ref m_likeGets, .ref m_likePrice, .ref m_ahead])), (m_refused, .inl (aC 0, 7, .inl mr))] sz)) 0 0 (va_A [(g0, .inr (12, [.ref m_refused, .ref m_kind, .ref m_figure, .ref m_weight, .ref m_got, .ref m_setting, .int men, .int msy, .int mdn, .ref m_tape, .ref m_letter, .ref m_letterAt, .ref m_told, .int tp, .int mat, .int stm, .ref m_kept, .int hi, .int ki, .int cu, .ref m_price, .ref m_offer, .ref m_gets, .ref m_yes, .ref m_buys, .ref m_ends, .ref m_carried, .ref m_row, .int rm, .ref m_keptRow, .ref m_likeGets, .ref m_likePrice, .ref m_ahead])), (m_refused, .inl (aC 0, 7, .inl mr))] sz) := by
  refine Met.ofW (cc := cX12_man) (maxL := 3) (ret := (some .int)) (by decide) rfl ?_
  intro p e s m args below meth c s₁ B hml hv
  obtain ⟨rfl, hsz, hP, hK, hD0, hN⟩ := hv
  have hx := B.exec
  have hb := B.bytes
  have hr := B.returns
  have hts0 := atoms_spec (ws := (wW yX12_man cX12_man 3 (some .int))) B.pre
  have hts : ∀ w9 ∈ lw_G, w9.before ([.ref g0, .int i, .int a2] : List Value).toArray s = true := fun w9 h9 => hts0 w9 (List.mem_cons_of_mem _ h9)
  have hown : s.vm.findClass RX12 = some m.cls := findClass_of_methodNamed B.named
  have hlocks := B.notSynchronized
  subst hsz
  have hD := hD0.self (sz := s.heap.size)
  generalize hAe : va_A [(g0, .inr (12, [.ref m_refused, .ref m_kind, .ref m_figure, .ref m_weight, .ref m_got, .ref m_setting, .int men, .int msy, .int mdn, .ref m_tape, .ref m_letter, .ref m_letterAt, .ref m_told, .int tp, .int mat, .int stm, .ref m_kept, .int hi, .int ki, .int cu, .ref m_price, .ref m_offer, .ref m_gets, .ref m_yes, .ref m_buys, .ref m_ends, .ref m_carried, .ref m_row, .int rm, .ref m_keptRow, .ref m_likeGets, .ref m_likePrice, .ref m_ahead])), (m_refused, .inl (aC 0, 7, .inl mr))] s.heap.size = A at hD ⊢
  have hA : ∀ q : Nat, s.heap.size ≤ q → A q := fun q h => by rw [← hAe]; exact Or.inr h
  obtain ⟨H, hHe⟩ : ∃ H : Heap, H = s.heap := ⟨_, rfl⟩
  have hS : va_S A s.heap H [] := by rw [hHe]; exact va_S.rf
  have hP : va_P (dC, dI) classes [(g0, .inr (12, [.ref m_refused, .ref m_kind, .ref m_figure, .ref m_weight, .ref m_got, .ref m_setting, .int men, .int msy, .int mdn, .ref m_tape, .ref m_letter, .ref m_letterAt, .ref m_told, .int tp, .int mat, .int stm, .ref m_kept, .int hi, .int ki, .int cu, .ref m_price, .ref m_offer, .ref m_gets, .ref m_yes, .ref m_buys, .ref m_ends, .ref m_carried, .ref m_row, .int rm, .ref m_keptRow, .ref m_likeGets, .ref m_likePrice, .ref m_ahead])), (m_refused, .inl (aC 0, 7, .inl mr))] H := by rw [hHe]; exact hP
  have hl := lv_entry ([.ref g0, .int i, .int a2]) (n := 3) (Nat.le_of_ble_eq_true rfl)
  rw [lg_entry_eq]
  generalize (lg_sl ([.ref g0, .int i, .int a2]) ++ List.replicate (3 - (lg_sl ([.ref g0, .int i, .int a2])).length) Slot.unset).toArray = ls at hl ⊢
  have hl : lv_has ls 3 [(0, .ref g0), (1, .int i), (2, .int a2)] := hl
  rw [← hHe]
  refine lv_aload_n hx hb dX12_man_0 rfl (lv_at hl 0 rfl) ?_
  refine lv_iload_n hx hb dX12_man_1 rfl (lv_at hl 1 rfl) ?_
  have hPc := hP.sub (ws' := [(g0, .inr (12, [.ref m_refused, .ref m_kind, .ref m_figure, .ref m_weight, .ref m_got, .ref m_setting, .int men, .int msy, .int mdn, .ref m_tape, .ref m_letter, .ref m_letterAt, .ref m_told, .int tp, .int mat, .int stm, .ref m_kept, .int hi, .int ki, .int cu, .ref m_price, .ref m_offer, .ref m_gets, .ref m_yes, .ref m_buys, .ref m_ends, .ref m_carried, .ref m_row, .int rm, .ref m_keptRow, .ref m_likeGets, .ref m_likePrice, .ref m_ahead]))]) [0] rfl
  have hDc := hD.sub (ws' := [(g0, .inr (12, [.ref m_refused, .ref m_kind, .ref m_figure, .ref m_weight, .ref m_got, .ref m_setting, .int men, .int msy, .int mdn, .ref m_tape, .ref m_letter, .ref m_letterAt, .ref m_told, .int tp, .int mat, .int stm, .ref m_kept, .int hi, .int ki, .int cu, .ref m_price, .ref m_offer, .ref m_gets, .ref m_yes, .ref m_buys, .ref m_ends, .ref m_carried, .ref m_row, .int rm, .ref m_keptRow, .ref m_likeGets, .ref m_likePrice, .ref m_ahead]))]) [0] (by decide) rfl
  have hFc := va_free (wc := [(g0, .inr (12, [.ref m_refused, .ref m_kind, .ref m_figure, .ref m_weight, .ref m_got, .ref m_setting, .int men, .int msy, .int mdn, .ref m_tape, .ref m_letter, .ref m_letterAt, .ref m_told, .int tp, .int mat, .int stm, .ref m_kept, .int hi, .int ki, .int cu, .ref m_price, .ref m_offer, .ref m_gets, .ref m_yes, .ref m_buys, .ref m_ends, .ref m_carried, .ref m_row, .int rm, .ref m_keptRow, .ref m_likeGets, .ref m_likePrice, .ref m_ahead]))]) hD hS hA [0] rfl
  refine va_calli (va_runV (As := [.int i]) (rest := []) ⟨hx, hb, hml, hown, hts⟩ (c_X12_isMan l dC dI aC H.size g0 m_refused m_kind m_figure m_weight m_got m_setting m_tape m_letter m_letterAt m_told m_kept m_price m_offer m_gets m_yes m_buys m_ends m_carried m_row m_keptRow m_likeGets m_likePrice m_ahead men msy mdn tp mat stm hi ki cu rm i ) ⟨(callB_of 1 hts (gG kw_878) rfl rfl rfl (hts _ (gw kw_13 rfl)) (hts _ (gw kw_875 rfl)) (by decide +kernel) ⟨Nat.le_of_ble_eq_true rfl, Nat.le_of_ble_eq_true rfl⟩), (hts _ (gw kw_877 rfl)), (hts _ (gw ks_43 rfl))⟩ ⟨fun a U g mk q => by obtain ⟨q0, q1, qP, qK, qD, qN⟩ := q; exact ⟨q0, q1, qP, va_K.moved (u := U) (U := U.calling g mk a) (Vm.Alike.refl U.vm) qK, qD, NX.same (u := U) (U := U.calling g mk a) rfl qN⟩, va_recv hK hPc (ci := 12) (q0 := 0) rfl rfl, fun U hU hW => ⟨rfl, by rw [hU], by rw [hU]; exact hPc, va_K.moved hW.alike hK, hDc.weaken (fun _ _ _ _ => trivial), NX.warm hW hN⟩⟩ rfl rfl hl.1 rfl (lv_room (Nat.le_of_ble_eq_true rfl)) dX12_man_2 ⟨Nat.le_of_ble_eq_true rfl, Nat.le_of_ble_eq_true rfl⟩) hS (fun q _ h => hFc q h) hFc (fun x_1 u t H1 locs ht hvm hw_1 hB hz1 hk1 hS => ?_)
  obtain ⟨hP1, hK1, hD1⟩ := hB
  rw [ht] at hP1
  clear hK1
  try dsimp only at hw_1
  obtain ⟨hP, hD⟩ := va_join (wr := [(m_refused, .inl (aC 0, 7, .inl mr))]) (w1 := [(g0, .inr (12, [.ref m_refused, .ref m_kind, .ref m_figure, .ref m_weight, .ref m_got, .ref m_setting, .int men, .int msy, .int mdn, .ref m_tape, .ref m_letter, .ref m_letterAt, .ref m_told, .int tp, .int mat, .int stm, .ref m_kept, .int hi, .int ki, .int cu, .ref m_price, .ref m_offer, .ref m_gets, .ref m_yes, .ref m_buys, .ref m_ends, .ref m_carried, .ref m_row, .int rm, .ref m_keptRow, .ref m_likeGets, .ref m_likePrice, .ref m_ahead]))]) hP hD [0] [1] rfl rfl (by decide) (by decide) hk1 hFc hP1 hD1
  generalize H1 = H at hP hS ⊢
  have hP : va_P (dC, dI) classes [(m_refused, .inl (aC 0, 7, .inl mr)), (g0, .inr (12, [.ref m_refused, .ref m_kind, .ref m_figure, .ref m_weight, .ref m_got, .ref m_setting, .int men, .int msy, .int mdn, .ref m_tape, .ref m_letter, .ref m_letterAt, .ref m_told, .int tp, .int mat, .int stm, .ref m_kept, .int hi, .int ki, .int cu, .ref m_price, .ref m_offer, .ref m_gets, .ref m_yes, .ref m_buys, .ref m_ends, .ref m_carried, .ref m_row, .int rm, .ref m_keptRow, .ref m_likeGets, .ref m_likePrice, .ref m_ahead]))] H := hP
  have hD : va_D A [(m_refused, .inl (aC 0, 7, .inl mr)), (g0, .inr (12, [.ref m_refused, .ref m_kind, .ref m_figure, .ref m_weight, .ref m_got, .ref m_setting, .int men, .int msy, .int mdn, .ref m_tape, .ref m_letter, .ref m_letterAt, .ref m_told, .int tp, .int mat, .int stm, .ref m_kept, .int hi, .int ki, .int cu, .ref m_price, .ref m_offer, .ref m_gets, .ref m_yes, .ref m_buys, .ref m_ends, .ref m_carried, .ref m_row, .int rm, .ref m_keptRow, .ref m_likeGets, .ref m_likePrice, .ref m_ahead]))] := hD
  clear hPc hDc hFc hz1 hk1 hP1 hD1 ht hvm
  have hz_2 : x_1 = 0 := by rw [hw_1]; rcases hno with h9 | h9 <;> simp [h9]
  refine lv_if_ne (tgt := 14) hx hb dX12_man_5 (by decide) (fun c_2 => ?_) (fun c_2 => ?_)
  · exact absurd hz_2 c_2
  · refine lv_aload_n hx hb dX12_man_8 rfl (lv_at hl 0 rfl) ?_
    refine lv_iconst (v := -1) hx hb dX12_man_9 (by decide) ?_
    have hPc := hP.sub (ws' := [(g0, .inr (12, [.ref m_refused, .ref m_kind, .ref m_figure, .ref m_weight, .ref m_got, .ref m_setting, .int men, .int msy, .int mdn, .ref m_tape, .ref m_letter, .ref m_letterAt, .ref m_told, .int tp, .int mat, .int stm, .ref m_kept, .int hi, .int ki, .int cu, .ref m_price, .ref m_offer, .ref m_gets, .ref m_yes, .ref m_buys, .ref m_ends, .ref m_carried, .ref m_row, .int rm, .ref m_keptRow, .ref m_likeGets, .ref m_likePrice, .ref m_ahead])), (m_refused, .inl (aC 0, 7, .inl mr))]) [1, 0] rfl
    have hDc := hD.sub (ws' := [(g0, .inr (12, [.ref m_refused, .ref m_kind, .ref m_figure, .ref m_weight, .ref m_got, .ref m_setting, .int men, .int msy, .int mdn, .ref m_tape, .ref m_letter, .ref m_letterAt, .ref m_told, .int tp, .int mat, .int stm, .ref m_kept, .int hi, .int ki, .int cu, .ref m_price, .ref m_offer, .ref m_gets, .ref m_yes, .ref m_buys, .ref m_ends, .ref m_carried, .ref m_row, .int rm, .ref m_keptRow, .ref m_likeGets, .ref m_likePrice, .ref m_ahead])), (m_refused, .inl (aC 0, 7, .inl mr))]) [1, 0] (by decide) rfl
    have hFc := va_free (wc := [(g0, .inr (12, [.ref m_refused, .ref m_kind, .ref m_figure, .ref m_weight, .ref m_got, .ref m_setting, .int men, .int msy, .int mdn, .ref m_tape, .ref m_letter, .ref m_letterAt, .ref m_told, .int tp, .int mat, .int stm, .ref m_kept, .int hi, .int ki, .int cu, .ref m_price, .ref m_offer, .ref m_gets, .ref m_yes, .ref m_buys, .ref m_ends, .ref m_carried, .ref m_row, .int rm, .ref m_keptRow, .ref m_likeGets, .ref m_likePrice, .ref m_ahead])), (m_refused, .inl (aC 0, 7, .inl mr))]) hD hS hA [1, 0] rfl
    refine va_calli (va_runV (As := [.int (-1)]) (rest := []) ⟨hx, hb, hml, hown, hts⟩ (c_X12_no l dC dI aC H.size g0 m_refused m_kind m_figure m_weight m_got m_setting m_tape m_letter m_letterAt m_told m_kept m_price m_offer m_gets m_yes m_buys m_ends m_carried m_row m_keptRow m_likeGets m_likePrice m_ahead men msy mdn tp mat stm hi ki cu rm (-1) 1 mr (by decide) (by unfold vp_in; decide)) ⟨(callB_of 1 hts (gG kw_827) rfl rfl rfl (hts _ (gw kw_13 rfl)) (hts _ (gw kw_824 rfl)) (by decide +kernel) ⟨Nat.le_of_ble_eq_true rfl, Nat.le_of_ble_eq_true rfl⟩), (hts _ (gw kw_826 rfl)), (hts _ (gw ks_35 rfl))⟩ ⟨fun a U g mk q => by obtain ⟨q0, q1, qP, qK, qD, qN⟩ := q; exact ⟨q0, q1, qP, va_K.moved (u := U) (U := U.calling g mk a) (Vm.Alike.refl U.vm) qK, qD, NX.same (u := U) (U := U.calling g mk a) rfl qN⟩, va_recv hK hPc (ci := 12) (q0 := 0) rfl rfl, fun U hU hW => ⟨rfl, by rw [hU], by rw [hU]; exact hPc, va_K.moved hW.alike hK, hDc.weaken (fun _ _ _ _ => trivial), NX.warm hW hN⟩⟩ rfl rfl hl.1 rfl (lv_room (Nat.le_of_ble_eq_true rfl)) dX12_man_10 ⟨Nat.le_of_ble_eq_true rfl, Nat.le_of_ble_eq_true rfl⟩) hS (fun q _ h => hFc q h) hFc (fun x_3 u t H1 locs ht hvm hw_3 hB hz1 hk1 hS => ?_)
    obtain ⟨u_4, rfl⟩ : ∃ z, z = u := ⟨_, rfl⟩
    obtain ⟨hP1, hK1, hD1⟩ := hB
    rw [ht] at hP1
    clear hK1
    try dsimp only at hw_3
    obtain ⟨hP, hD⟩ := va_join (wr := []) (w1 := [(g0, .inr (12, [.ref m_refused, .ref m_kind, .ref m_figure, .ref m_weight, .ref m_got, .ref m_setting, .int men, .int msy, .int mdn, .ref m_tape, .ref m_letter, .ref m_letterAt, .ref m_told, .int tp, .int mat, .int stm, .ref m_kept, .int hi, .int ki, .int cu, .ref m_price, .ref m_offer, .ref m_gets, .ref m_yes, .ref m_buys, .ref m_ends, .ref m_carried, .ref m_row, .int rm, .ref m_keptRow, .ref m_likeGets, .ref m_likePrice, .ref m_ahead])), (m_refused, .inl (aC 0, 7, .inl u_4))]) hP hD [1, 0] [] rfl rfl (by decide) (by decide) hk1 hFc hP1 hD1
    generalize H1 = H at hP hS ⊢
    have hP : va_P (dC, dI) classes [(g0, .inr (12, [.ref m_refused, .ref m_kind, .ref m_figure, .ref m_weight, .ref m_got, .ref m_setting, .int men, .int msy, .int mdn, .ref m_tape, .ref m_letter, .ref m_letterAt, .ref m_told, .int tp, .int mat, .int stm, .ref m_kept, .int hi, .int ki, .int cu, .ref m_price, .ref m_offer, .ref m_gets, .ref m_yes, .ref m_buys, .ref m_ends, .ref m_carried, .ref m_row, .int rm, .ref m_keptRow, .ref m_likeGets, .ref m_likePrice, .ref m_ahead])), (m_refused, .inl (aC 0, 7, .inl u_4))] H := hP
    have hD : va_D A [(g0, .inr (12, [.ref m_refused, .ref m_kind, .ref m_figure, .ref m_weight, .ref m_got, .ref m_setting, .int men, .int msy, .int mdn, .ref m_tape, .ref m_letter, .ref m_letterAt, .ref m_told, .int tp, .int mat, .int stm, .ref m_kept, .int hi, .int ki, .int cu, .ref m_price, .ref m_offer, .ref m_gets, .ref m_yes, .ref m_buys, .ref m_ends, .ref m_carried, .ref m_row, .int rm, .ref m_keptRow, .ref m_likeGets, .ref m_likePrice, .ref m_ahead])), (m_refused, .inl (aC 0, 7, .inl u_4))] := hD
    clear hPc hDc hFc hz1 hk1 hP1 hD1 ht hvm
    obtain ⟨hv9, hv8⟩ := hw_3
    have hP9 := hP.sub (ws' := []) [] rfl
    have hD9 := hD.sub (ws' := []) [] (by decide) rfl
    refine W.widen (k := 0) (n := 0) (by omega) (by omega) ?_
    exact W.iret (v := x_3) hx hb hr (fun t ht hW => ⟨⟨x_3, (), rfl, hv9, by rw [ht]; exact hP9, va_K.moved hW.alike hK, hD9⟩, hS.F ht⟩) hS.2.2 dX12_man_13

set_option maxHeartbeats 4000000 in
set_option maxRecDepth 100000 in
/-- X12_offered_r -/
theorem c_X12_offered_r (l : Launch) (dC : Nat → ClassId) (dI : Nat → Nat → Nat) (aC : Nat → ClassId) (sz : Nat) (g0 : Nat) (m_refused : Nat) (m_kind : Nat) (m_figure : Nat) (m_weight : Nat) (m_got : Nat) (m_setting : Nat) (m_tape : Nat) (m_letter : Nat) (m_letterAt : Nat) (m_told : Nat) (m_kept : Nat) (m_price : Nat) (m_offer : Nat) (m_gets : Nat) (m_yes : Nat) (m_buys : Nat) (m_ends : Nat) (m_carried : Nat) (m_row : Nat) (m_keptRow : Nat) (m_likeGets : Nat) (m_likePrice : Nat) (m_ahead : Nat) (men : Int32) (msy : Int32) (mdn : Int32) (tp : Int32) (mat : Int32) (stm : Int32) (hi : Int32) (ki : Int32) (cu : Int32) (rm : Int32) (mr : Nat → Int32) (i : Int32) (a2 : Int32) (hno : i < 0 ∨ men ≤ i) : Met l yX12_offered (wW yX12_offered cX12_offered 3 (some .int)) ({ frames := 2, cells := 0, slots := 0, locals := 43 } : Room) (va_Pc [.ref g0, .int i, .int a2] (fun U => U.heap.size = sz ∧ va_P (dC, dI) classes [(g0, .inr (12, [.ref m_refused, .ref m_kind, .ref m_figure, .ref m_weight, .ref m_got, .ref m_setting, .int men, .int msy, .int mdn, .ref m_tape, .ref m_letter, .ref m_letterAt, .ref m_told, .int tp, .int mat, .int stm, .ref m_kept, .int hi, .int ki, .int cu, .ref m_price, .ref m_offer, .ref m_gets, .ref m_yes, .ref m_buys, .ref m_ends, .ref m_carried, .ref m_row, .int rm, .ref m_keptRow, .ref m_likeGets, .ref m_likePrice, .ref m_ahead])), (m_refused, .inl (aC 0, 7, .inl mr))] U.heap ∧ va_K (dC, dI) classes (TY aC) U ∧ va_D (fun _ => True) [(g0, .inr (12, [.ref m_refused, .ref m_kind, .ref m_figure, .ref m_weight, .ref m_got, .ref m_setting, .int men, .int msy, .int mdn, .ref m_tape, .ref m_letter, .ref m_letterAt, .ref m_told, .int tp, .int mat, .int stm, .ref m_kept, .int hi, .int ki, .int cu, .ref m_price, .ref m_offer, .ref m_gets, .ref m_yes, .ref m_buys, .ref m_ends, .ref m_carried, .ref m_row, .int rm, .ref m_keptRow, .ref m_likeGets, .ref m_likePrice, .ref m_ahead])), (m_refused, .inl (aC 0, 7, .inl mr))] ∧ NX U)) (va_Qi (fun (r : Int32) (_ : Unit) => r = -1) (fun (_ : Unit) (t : State) => va_P (dC, dI) classes [] t.heap ∧ va_K (dC, dI) classes (TY aC) t ∧ va_D (va_A [(g0, .inr (12, [.ref m_refused, .ref m_kind, .ref m_figure, .ref m_weight, .ref m_got, .ref m_setting, .int men, .int msy, .int mdn, .ref m_tape, .ref m_letter, .ref m_letterAt, .ref m_told, .int tp, .int mat, .int stm, .ref m_kept, .int hi, .int ki, .int cu, .ref m_price, .ref m_offer, .ref m_gets, .ref m_yes, .ref m_buys, .ref m_ends, .ref m_carried, .ref m_row, .int rm, .ref m_keptRow, .ref m_likeGets, .ref m_likePrice, .ref m_ahead])), (m_refused, .inl (aC 0, 7, .inl mr))] sz) []) (va_A [(g0, .inr (12, [.ref m_refused, .ref m_kind, .ref m_figure, .ref m_weight, .ref m_got, .ref m_setting, .int men, .int msy, .int mdn, .ref m_tape, .ref m_letter, .ref m_letterAt, .ref m_told, .int tp, .int mat, .int stm, .ref m_kept, .int hi, .int ki, .int cu, .ref m_price, .ref m_offer, .ref m_gets, .ref m_yes, .ref m_buys, .ref m_ends, .ref m_carried, .ref m_row, .int rm, .ref m_keptRow, .ref m_likeGets, .ref m_likePrice, .ref m_ahead])), (m_refused, .inl (aC 0, 7, .inl mr))] sz)) 0 0 (va_A [(g0, .inr (12, [.ref m_refused, .ref m_kind, .ref m_figure, .ref m_weight, .ref m_got, .ref m_setting, .int men, .int msy, .int mdn, .ref m_tape, .ref m_letter, .ref m_letterAt, .ref m_told, .int tp, .int mat, .int stm, .ref m_kept, .int hi, .int ki, .int cu, .ref m_price, .ref m_offer, .ref m_gets, .ref m_yes, .ref m_buys, .ref m_ends, .ref m_carried, .ref m_row, .int rm, .ref m_keptRow, .ref m_likeGets, .ref m_likePrice, .ref m_ahead])), (m_refused, .inl (aC 0, 7, .inl mr))] sz) := by
  refine Met.ofW (cc := cX12_offered) (maxL := 3) (ret := (some .int)) (by decide) rfl ?_
  intro p e s m args below meth c s₁ B hml hv
  obtain ⟨rfl, hsz, hP, hK, hD0, hN⟩ := hv
  have hx := B.exec
  have hb := B.bytes
  have hr := B.returns
  have hts0 := atoms_spec (ws := (wW yX12_offered cX12_offered 3 (some .int))) B.pre
  have hts : ∀ w9 ∈ lw_G, w9.before ([.ref g0, .int i, .int a2] : List Value).toArray s = true := fun w9 h9 => hts0 w9 (List.mem_cons_of_mem _ h9)
  have hown : s.vm.findClass RX12 = some m.cls := findClass_of_methodNamed B.named
  have hlocks := B.notSynchronized
  subst hsz
  have hD := hD0.self (sz := s.heap.size)
  generalize hAe : va_A [(g0, .inr (12, [.ref m_refused, .ref m_kind, .ref m_figure, .ref m_weight, .ref m_got, .ref m_setting, .int men, .int msy, .int mdn, .ref m_tape, .ref m_letter, .ref m_letterAt, .ref m_told, .int tp, .int mat, .int stm, .ref m_kept, .int hi, .int ki, .int cu, .ref m_price, .ref m_offer, .ref m_gets, .ref m_yes, .ref m_buys, .ref m_ends, .ref m_carried, .ref m_row, .int rm, .ref m_keptRow, .ref m_likeGets, .ref m_likePrice, .ref m_ahead])), (m_refused, .inl (aC 0, 7, .inl mr))] s.heap.size = A at hD ⊢
  have hA : ∀ q : Nat, s.heap.size ≤ q → A q := fun q h => by rw [← hAe]; exact Or.inr h
  obtain ⟨H, hHe⟩ : ∃ H : Heap, H = s.heap := ⟨_, rfl⟩
  have hS : va_S A s.heap H [] := by rw [hHe]; exact va_S.rf
  have hP : va_P (dC, dI) classes [(g0, .inr (12, [.ref m_refused, .ref m_kind, .ref m_figure, .ref m_weight, .ref m_got, .ref m_setting, .int men, .int msy, .int mdn, .ref m_tape, .ref m_letter, .ref m_letterAt, .ref m_told, .int tp, .int mat, .int stm, .ref m_kept, .int hi, .int ki, .int cu, .ref m_price, .ref m_offer, .ref m_gets, .ref m_yes, .ref m_buys, .ref m_ends, .ref m_carried, .ref m_row, .int rm, .ref m_keptRow, .ref m_likeGets, .ref m_likePrice, .ref m_ahead])), (m_refused, .inl (aC 0, 7, .inl mr))] H := by rw [hHe]; exact hP
  have hl := lv_entry ([.ref g0, .int i, .int a2]) (n := 3) (Nat.le_of_ble_eq_true rfl)
  rw [lg_entry_eq]
  generalize (lg_sl ([.ref g0, .int i, .int a2]) ++ List.replicate (3 - (lg_sl ([.ref g0, .int i, .int a2])).length) Slot.unset).toArray = ls at hl ⊢
  have hl : lv_has ls 3 [(0, .ref g0), (1, .int i), (2, .int a2)] := hl
  rw [← hHe]
  refine lv_aload_n hx hb dX12_offered_0 rfl (lv_at hl 0 rfl) ?_
  refine lv_iload_n hx hb dX12_offered_1 rfl (lv_at hl 1 rfl) ?_
  refine lv_iload_n hx hb dX12_offered_2 rfl (lv_at hl 2 rfl) ?_
  have hPc := hP.sub (ws' := [(g0, .inr (12, [.ref m_refused, .ref m_kind, .ref m_figure, .ref m_weight, .ref m_got, .ref m_setting, .int men, .int msy, .int mdn, .ref m_tape, .ref m_letter, .ref m_letterAt, .ref m_told, .int tp, .int mat, .int stm, .ref m_kept, .int hi, .int ki, .int cu, .ref m_price, .ref m_offer, .ref m_gets, .ref m_yes, .ref m_buys, .ref m_ends, .ref m_carried, .ref m_row, .int rm, .ref m_keptRow, .ref m_likeGets, .ref m_likePrice, .ref m_ahead]))]) [0] rfl
  have hDc := hD.sub (ws' := [(g0, .inr (12, [.ref m_refused, .ref m_kind, .ref m_figure, .ref m_weight, .ref m_got, .ref m_setting, .int men, .int msy, .int mdn, .ref m_tape, .ref m_letter, .ref m_letterAt, .ref m_told, .int tp, .int mat, .int stm, .ref m_kept, .int hi, .int ki, .int cu, .ref m_price, .ref m_offer, .ref m_gets, .ref m_yes, .ref m_buys, .ref m_ends, .ref m_carried, .ref m_row, .int rm, .ref m_keptRow, .ref m_likeGets, .ref m_likePrice, .ref m_ahead]))]) [0] (by decide) rfl
  have hFc := va_free (wc := [(g0, .inr (12, [.ref m_refused, .ref m_kind, .ref m_figure, .ref m_weight, .ref m_got, .ref m_setting, .int men, .int msy, .int mdn, .ref m_tape, .ref m_letter, .ref m_letterAt, .ref m_told, .int tp, .int mat, .int stm, .ref m_kept, .int hi, .int ki, .int cu, .ref m_price, .ref m_offer, .ref m_gets, .ref m_yes, .ref m_buys, .ref m_ends, .ref m_carried, .ref m_row, .int rm, .ref m_keptRow, .ref m_likeGets, .ref m_likePrice, .ref m_ahead]))]) hD hS hA [0] rfl
  refine va_calli (va_runV (As := [.int i, .int a2]) (rest := []) ⟨hx, hb, hml, hown, hts⟩ (c_X12_areInOrder_r l dC dI aC H.size g0 m_refused m_kind m_figure m_weight m_got m_setting m_tape m_letter m_letterAt m_told m_kept m_price m_offer m_gets m_yes m_buys m_ends m_carried m_row m_keptRow m_likeGets m_likePrice m_ahead men msy mdn tp mat stm hi ki cu rm i a2 (by first | assumption | decide | omega)) ⟨(callB_of 2 hts (gG kw_892) rfl rfl rfl (hts _ (gw kw_13 rfl)) (hts _ (gw kw_889 rfl)) (by decide +kernel) ⟨Nat.le_of_ble_eq_true rfl, Nat.le_of_ble_eq_true rfl⟩), (hts _ (gw kw_891 rfl)), (hts _ (gw ks_44 rfl))⟩ ⟨fun a U g mk q => by obtain ⟨q0, q1, qP, qK, qD, qN⟩ := q; exact ⟨q0, q1, qP, va_K.moved (u := U) (U := U.calling g mk a) (Vm.Alike.refl U.vm) qK, qD, NX.same (u := U) (U := U.calling g mk a) rfl qN⟩, va_recv hK hPc (ci := 12) (q0 := 0) rfl rfl, fun U hU hW => ⟨rfl, by rw [hU], by rw [hU]; exact hPc, va_K.moved hW.alike hK, hDc.weaken (fun _ _ _ _ => trivial), NX.warm hW hN⟩⟩ rfl rfl hl.1 rfl (lv_room (Nat.le_of_ble_eq_true rfl)) dX12_offered_3 ⟨Nat.le_of_ble_eq_true rfl, Nat.le_of_ble_eq_true rfl⟩) hS (fun q _ h => hFc q h) hFc (fun x_1 u t H1 locs ht hvm hw_1 hB hz1 hk1 hS => ?_)
  obtain ⟨hP1, hK1, hD1⟩ := hB
  rw [ht] at hP1
  clear hK1
  try dsimp only at hw_1
  obtain ⟨hP, hD⟩ := va_join (wr := [(m_refused, .inl (aC 0, 7, .inl mr))]) (w1 := [(g0, .inr (12, [.ref m_refused, .ref m_kind, .ref m_figure, .ref m_weight, .ref m_got, .ref m_setting, .int men, .int msy, .int mdn, .ref m_tape, .ref m_letter, .ref m_letterAt, .ref m_told, .int tp, .int mat, .int stm, .ref m_kept, .int hi, .int ki, .int cu, .ref m_price, .ref m_offer, .ref m_gets, .ref m_yes, .ref m_buys, .ref m_ends, .ref m_carried, .ref m_row, .int rm, .ref m_keptRow, .ref m_likeGets, .ref m_likePrice, .ref m_ahead]))]) hP hD [0] [1] rfl rfl (by decide) (by decide) hk1 hFc hP1 hD1
  generalize H1 = H at hP hS ⊢
  have hP : va_P (dC, dI) classes [(m_refused, .inl (aC 0, 7, .inl mr)), (g0, .inr (12, [.ref m_refused, .ref m_kind, .ref m_figure, .ref m_weight, .ref m_got, .ref m_setting, .int men, .int msy, .int mdn, .ref m_tape, .ref m_letter, .ref m_letterAt, .ref m_told, .int tp, .int mat, .int stm, .ref m_kept, .int hi, .int ki, .int cu, .ref m_price, .ref m_offer, .ref m_gets, .ref m_yes, .ref m_buys, .ref m_ends, .ref m_carried, .ref m_row, .int rm, .ref m_keptRow, .ref m_likeGets, .ref m_likePrice, .ref m_ahead]))] H := hP
  have hD : va_D A [(m_refused, .inl (aC 0, 7, .inl mr)), (g0, .inr (12, [.ref m_refused, .ref m_kind, .ref m_figure, .ref m_weight, .ref m_got, .ref m_setting, .int men, .int msy, .int mdn, .ref m_tape, .ref m_letter, .ref m_letterAt, .ref m_told, .int tp, .int mat, .int stm, .ref m_kept, .int hi, .int ki, .int cu, .ref m_price, .ref m_offer, .ref m_gets, .ref m_yes, .ref m_buys, .ref m_ends, .ref m_carried, .ref m_row, .int rm, .ref m_keptRow, .ref m_likeGets, .ref m_likePrice, .ref m_ahead]))] := hD
  clear hPc hDc hFc hz1 hk1 hP1 hD1 ht hvm
  have hz_3 : x_1 = 0 := hw_1
  refine lv_if_ne (tgt := 15) hx hb dX12_offered_6 (by decide) (fun c_2 => ?_) (fun c_2 => ?_)
  · exact absurd hz_3 c_2
  · refine lv_aload_n hx hb dX12_offered_9 rfl (lv_at hl 0 rfl) ?_
    refine lv_iconst (v := -1) hx hb dX12_offered_10 (by decide) ?_
    have hPc := hP.sub (ws' := [(g0, .inr (12, [.ref m_refused, .ref m_kind, .ref m_figure, .ref m_weight, .ref m_got, .ref m_setting, .int men, .int msy, .int mdn, .ref m_tape, .ref m_letter, .ref m_letterAt, .ref m_told, .int tp, .int mat, .int stm, .ref m_kept, .int hi, .int ki, .int cu, .ref m_price, .ref m_offer, .ref m_gets, .ref m_yes, .ref m_buys, .ref m_ends, .ref m_carried, .ref m_row, .int rm, .ref m_keptRow, .ref m_likeGets, .ref m_likePrice, .ref m_ahead])), (m_refused, .inl (aC 0, 7, .inl mr))]) [1, 0] rfl
    have hDc := hD.sub (ws' := [(g0, .inr (12, [.ref m_refused, .ref m_kind, .ref m_figure, .ref m_weight, .ref m_got, .ref m_setting, .int men, .int msy, .int mdn, .ref m_tape, .ref m_letter, .ref m_letterAt, .ref m_told, .int tp, .int mat, .int stm, .ref m_kept, .int hi, .int ki, .int cu, .ref m_price, .ref m_offer, .ref m_gets, .ref m_yes, .ref m_buys, .ref m_ends, .ref m_carried, .ref m_row, .int rm, .ref m_keptRow, .ref m_likeGets, .ref m_likePrice, .ref m_ahead])), (m_refused, .inl (aC 0, 7, .inl mr))]) [1, 0] (by decide) rfl
    have hFc := va_free (wc := [(g0, .inr (12, [.ref m_refused, .ref m_kind, .ref m_figure, .ref m_weight, .ref m_got, .ref m_setting, .int men, .int msy, .int mdn, .ref m_tape, .ref m_letter, .ref m_letterAt, .ref m_told, .int tp, .int mat, .int stm, .ref m_kept, .int hi, .int ki, .int cu, .ref m_price, .ref m_offer, .ref m_gets, .ref m_yes, .ref m_buys, .ref m_ends, .ref m_carried, .ref m_row, .int rm, .ref m_keptRow, .ref m_likeGets, .ref m_likePrice, .ref m_ahead])), (m_refused, .inl (aC 0, 7, .inl mr))]) hD hS hA [1, 0] rfl
    refine va_calli (va_runV (As := [.int (-1)]) (rest := []) ⟨hx, hb, hml, hown, hts⟩ (c_X12_no l dC dI aC H.size g0 m_refused m_kind m_figure m_weight m_got m_setting m_tape m_letter m_letterAt m_told m_kept m_price m_offer m_gets m_yes m_buys m_ends m_carried m_row m_keptRow m_likeGets m_likePrice m_ahead men msy mdn tp mat stm hi ki cu rm (-1) 1 mr (by decide) (by unfold vp_in; decide)) ⟨(callB_of 1 hts (gG kw_827) rfl rfl rfl (hts _ (gw kw_13 rfl)) (hts _ (gw kw_824 rfl)) (by decide +kernel) ⟨Nat.le_of_ble_eq_true rfl, Nat.le_of_ble_eq_true rfl⟩), (hts _ (gw kw_826 rfl)), (hts _ (gw ks_35 rfl))⟩ ⟨fun a U g mk q => by obtain ⟨q0, q1, qP, qK, qD, qN⟩ := q; exact ⟨q0, q1, qP, va_K.moved (u := U) (U := U.calling g mk a) (Vm.Alike.refl U.vm) qK, qD, NX.same (u := U) (U := U.calling g mk a) rfl qN⟩, va_recv hK hPc (ci := 12) (q0 := 0) rfl rfl, fun U hU hW => ⟨rfl, by rw [hU], by rw [hU]; exact hPc, va_K.moved hW.alike hK, hDc.weaken (fun _ _ _ _ => trivial), NX.warm hW hN⟩⟩ rfl rfl hl.1 rfl (lv_room (Nat.le_of_ble_eq_true rfl)) dX12_offered_11 ⟨Nat.le_of_ble_eq_true rfl, Nat.le_of_ble_eq_true rfl⟩) hS (fun q _ h => hFc q h) hFc (fun x_3 u t H1 locs ht hvm hw_3 hB hz1 hk1 hS => ?_)
    obtain ⟨u_4, rfl⟩ : ∃ z, z = u := ⟨_, rfl⟩
    obtain ⟨hP1, hK1, hD1⟩ := hB
    rw [ht] at hP1
    clear hK1
    try dsimp only at hw_3
    obtain ⟨hP, hD⟩ := va_join (wr := []) (w1 := [(g0, .inr (12, [.ref m_refused, .ref m_kind, .ref m_figure, .ref m_weight, .ref m_got, .ref m_setting, .int men, .int msy, .int mdn, .ref m_tape, .ref m_letter, .ref m_letterAt, .ref m_told, .int tp, .int mat, .int stm, .ref m_kept, .int hi, .int ki, .int cu, .ref m_price, .ref m_offer, .ref m_gets, .ref m_yes, .ref m_buys, .ref m_ends, .ref m_carried, .ref m_row, .int rm, .ref m_keptRow, .ref m_likeGets, .ref m_likePrice, .ref m_ahead])), (m_refused, .inl (aC 0, 7, .inl u_4))]) hP hD [1, 0] [] rfl rfl (by decide) (by decide) hk1 hFc hP1 hD1
    generalize H1 = H at hP hS ⊢
    have hP : va_P (dC, dI) classes [(g0, .inr (12, [.ref m_refused, .ref m_kind, .ref m_figure, .ref m_weight, .ref m_got, .ref m_setting, .int men, .int msy, .int mdn, .ref m_tape, .ref m_letter, .ref m_letterAt, .ref m_told, .int tp, .int mat, .int stm, .ref m_kept, .int hi, .int ki, .int cu, .ref m_price, .ref m_offer, .ref m_gets, .ref m_yes, .ref m_buys, .ref m_ends, .ref m_carried, .ref m_row, .int rm, .ref m_keptRow, .ref m_likeGets, .ref m_likePrice, .ref m_ahead])), (m_refused, .inl (aC 0, 7, .inl u_4))] H := hP
    have hD : va_D A [(g0, .inr (12, [.ref m_refused, .ref m_kind, .ref m_figure, .ref m_weight, .ref m_got, .ref m_setting, .int men, .int msy, .int mdn, .ref m_tape, .ref m_letter, .ref m_letterAt, .ref m_told, .int tp, .int mat, .int stm, .ref m_kept, .int hi, .int ki, .int cu, .ref m_price, .ref m_offer, .ref m_gets, .ref m_yes, .ref m_buys, .ref m_ends, .ref m_carried, .ref m_row, .int rm, .ref m_keptRow, .ref m_likeGets, .ref m_likePrice, .ref m_ahead])), (m_refused, .inl (aC 0, 7, .inl u_4))] := hD
    clear hPc hDc hFc hz1 hk1 hP1 hD1 ht hvm
    obtain ⟨hv9, hv8⟩ := hw_3
    have hP9 := hP.sub (ws' := []) [] rfl
    have hD9 := hD.sub (ws' := []) [] (by decide) rfl
    refine W.widen (k := 0) (n := 0) (by omega) (by omega) ?_
    exact W.iret (v := x_3) hx hb hr (fun t ht hW => ⟨⟨x_3, (), rfl, hv9, by rw [ht]; exact hP9, va_K.moved hW.alike hK, hD9⟩, hS.F ht⟩) hS.2.2 dX12_offered_14

set_option maxHeartbeats 4000000 in
set_option maxRecDepth 100000 in
/-- X12_price_r -/
theorem c_X12_price_r (l : Launch) (dC : Nat → ClassId) (dI : Nat → Nat → Nat) (aC : Nat → ClassId) (sz : Nat) (g0 : Nat) (m_refused : Nat) (m_kind : Nat) (m_figure : Nat) (m_weight : Nat) (m_got : Nat) (m_setting : Nat) (m_tape : Nat) (m_letter : Nat) (m_letterAt : Nat) (m_told : Nat) (m_kept : Nat) (m_price : Nat) (m_offer : Nat) (m_gets : Nat) (m_yes : Nat) (m_buys : Nat) (m_ends : Nat) (m_carried : Nat) (m_row : Nat) (m_keptRow : Nat) (m_likeGets : Nat) (m_likePrice : Nat) (m_ahead : Nat) (men : Int32) (msy : Int32) (mdn : Int32) (tp : Int32) (mat : Int32) (stm : Int32) (hi : Int32) (ki : Int32) (cu : Int32) (rm : Int32) (mr : Nat → Int32) (i : Int32) (a2 : Int32) (hno : i < 0 ∨ men ≤ i) : Met l yX12_price (wW yX12_price cX12_price 3 (some .int)) ({ frames := 1, cells := 0, slots := 0, locals := 21 } : Room) (va_Pc [.ref g0, .int i, .int a2] (fun U => U.heap.size = sz ∧ va_P (dC, dI) classes [(g0, .inr (12, [.ref m_refused, .ref m_kind, .ref m_figure, .ref m_weight, .ref m_got, .ref m_setting, .int men, .int msy, .int mdn, .ref m_tape, .ref m_letter, .ref m_letterAt, .ref m_told, .int tp, .int mat, .int stm, .ref m_kept, .int hi, .int ki, .int cu, .ref m_price, .ref m_offer, .ref m_gets, .ref m_yes, .ref m_buys, .ref m_ends, .ref m_carried, .ref m_row, .int rm, .ref m_keptRow, .ref m_likeGets, .ref m_likePrice, .ref m_ahead])), (m_refused, .inl (aC 0, 7, .inl mr))] U.heap ∧ va_K (dC, dI) classes (TY aC) U ∧ va_D (fun _ => True) [(g0, .inr (12, [.ref m_refused, .ref m_kind, .ref m_figure, .ref m_weight, .ref m_got, .ref m_setting, .int men, .int msy, .int mdn, .ref m_tape, .ref m_letter, .ref m_letterAt, .ref m_told, .int tp, .int mat, .int stm, .ref m_kept, .int hi, .int ki, .int cu, .ref m_price, .ref m_offer, .ref m_gets, .ref m_yes, .ref m_buys, .ref m_ends, .ref m_carried, .ref m_row, .int rm, .ref m_keptRow, .ref m_likeGets, .ref m_likePrice, .ref m_ahead])), (m_refused, .inl (aC 0, 7, .inl mr))] ∧ NX U)) (va_Qi (fun (r : Int32) (_ : Unit) => r = -1) (fun (_ : Unit) (t : State) => va_P (dC, dI) classes [] t.heap ∧ va_K (dC, dI) classes (TY aC) t ∧ va_D (va_A [(g0, .inr (12, [.ref m_refused, .ref m_kind, .ref m_figure, .ref m_weight, .ref m_got, .ref m_setting, .int men, .int msy, .int mdn, .ref m_tape, .ref m_letter, .ref m_letterAt, .ref m_told, .int tp, .int mat, .int stm, .ref m_kept, .int hi, .int ki, .int cu, .ref m_price, .ref m_offer, .ref m_gets, .ref m_yes, .ref m_buys, .ref m_ends, .ref m_carried, .ref m_row, .int rm, .ref m_keptRow, .ref m_likeGets, .ref m_likePrice, .ref m_ahead])), (m_refused, .inl (aC 0, 7, .inl mr))] sz) []) (va_A [(g0, .inr (12, [.ref m_refused, .ref m_kind, .ref m_figure, .ref m_weight, .ref m_got, .ref m_setting, .int men, .int msy, .int mdn, .ref m_tape, .ref m_letter, .ref m_letterAt, .ref m_told, .int tp, .int mat, .int stm, .ref m_kept, .int hi, .int ki, .int cu, .ref m_price, .ref m_offer, .ref m_gets, .ref m_yes, .ref m_buys, .ref m_ends, .ref m_carried, .ref m_row, .int rm, .ref m_keptRow, .ref m_likeGets, .ref m_likePrice, .ref m_ahead])), (m_refused, .inl (aC 0, 7, .inl mr))] sz)) 0 0 (va_A [(g0, .inr (12, [.ref m_refused, .ref m_kind, .ref m_figure, .ref m_weight, .ref m_got, .ref m_setting, .int men, .int msy, .int mdn, .ref m_tape, .ref m_letter, .ref m_letterAt, .ref m_told, .int tp, .int mat, .int stm, .ref m_kept, .int hi, .int ki, .int cu, .ref m_price, .ref m_offer, .ref m_gets, .ref m_yes, .ref m_buys, .ref m_ends, .ref m_carried, .ref m_row, .int rm, .ref m_keptRow, .ref m_likeGets, .ref m_likePrice, .ref m_ahead])), (m_refused, .inl (aC 0, 7, .inl mr))] sz) := by
  refine Met.ofW (cc := cX12_price) (maxL := 3) (ret := (some .int)) (by decide) rfl ?_
  intro p e s m args below meth c s₁ B hml hv
  obtain ⟨rfl, hsz, hP, hK, hD0, hN⟩ := hv
  have hx := B.exec
  have hb := B.bytes
  have hr := B.returns
  have hts0 := atoms_spec (ws := (wW yX12_price cX12_price 3 (some .int))) B.pre
  have hts : ∀ w9 ∈ lw_G, w9.before ([.ref g0, .int i, .int a2] : List Value).toArray s = true := fun w9 h9 => hts0 w9 (List.mem_cons_of_mem _ h9)
  have hown : s.vm.findClass RX12 = some m.cls := findClass_of_methodNamed B.named
  have hlocks := B.notSynchronized
  subst hsz
  have hD := hD0.self (sz := s.heap.size)
  generalize hAe : va_A [(g0, .inr (12, [.ref m_refused, .ref m_kind, .ref m_figure, .ref m_weight, .ref m_got, .ref m_setting, .int men, .int msy, .int mdn, .ref m_tape, .ref m_letter, .ref m_letterAt, .ref m_told, .int tp, .int mat, .int stm, .ref m_kept, .int hi, .int ki, .int cu, .ref m_price, .ref m_offer, .ref m_gets, .ref m_yes, .ref m_buys, .ref m_ends, .ref m_carried, .ref m_row, .int rm, .ref m_keptRow, .ref m_likeGets, .ref m_likePrice, .ref m_ahead])), (m_refused, .inl (aC 0, 7, .inl mr))] s.heap.size = A at hD ⊢
  have hA : ∀ q : Nat, s.heap.size ≤ q → A q := fun q h => by rw [← hAe]; exact Or.inr h
  obtain ⟨H, hHe⟩ : ∃ H : Heap, H = s.heap := ⟨_, rfl⟩
  have hS : va_S A s.heap H [] := by rw [hHe]; exact va_S.rf
  have hP : va_P (dC, dI) classes [(g0, .inr (12, [.ref m_refused, .ref m_kind, .ref m_figure, .ref m_weight, .ref m_got, .ref m_setting, .int men, .int msy, .int mdn, .ref m_tape, .ref m_letter, .ref m_letterAt, .ref m_told, .int tp, .int mat, .int stm, .ref m_kept, .int hi, .int ki, .int cu, .ref m_price, .ref m_offer, .ref m_gets, .ref m_yes, .ref m_buys, .ref m_ends, .ref m_carried, .ref m_row, .int rm, .ref m_keptRow, .ref m_likeGets, .ref m_likePrice, .ref m_ahead])), (m_refused, .inl (aC 0, 7, .inl mr))] H := by rw [hHe]; exact hP
  have hl := lv_entry ([.ref g0, .int i, .int a2]) (n := 3) (Nat.le_of_ble_eq_true rfl)
  rw [lg_entry_eq]
  generalize (lg_sl ([.ref g0, .int i, .int a2]) ++ List.replicate (3 - (lg_sl ([.ref g0, .int i, .int a2])).length) Slot.unset).toArray = ls at hl ⊢
  have hl : lv_has ls 3 [(0, .ref g0), (1, .int i), (2, .int a2)] := hl
  rw [← hHe]
  refine lv_aload_n hx hb dX12_price_0 rfl (lv_at hl 0 rfl) ?_
  refine lv_iload_n hx hb dX12_price_1 rfl (lv_at hl 1 rfl) ?_
  have hPc := hP.sub (ws' := [(g0, .inr (12, [.ref m_refused, .ref m_kind, .ref m_figure, .ref m_weight, .ref m_got, .ref m_setting, .int men, .int msy, .int mdn, .ref m_tape, .ref m_letter, .ref m_letterAt, .ref m_told, .int tp, .int mat, .int stm, .ref m_kept, .int hi, .int ki, .int cu, .ref m_price, .ref m_offer, .ref m_gets, .ref m_yes, .ref m_buys, .ref m_ends, .ref m_carried, .ref m_row, .int rm, .ref m_keptRow, .ref m_likeGets, .ref m_likePrice, .ref m_ahead]))]) [0] rfl
  have hDc := hD.sub (ws' := [(g0, .inr (12, [.ref m_refused, .ref m_kind, .ref m_figure, .ref m_weight, .ref m_got, .ref m_setting, .int men, .int msy, .int mdn, .ref m_tape, .ref m_letter, .ref m_letterAt, .ref m_told, .int tp, .int mat, .int stm, .ref m_kept, .int hi, .int ki, .int cu, .ref m_price, .ref m_offer, .ref m_gets, .ref m_yes, .ref m_buys, .ref m_ends, .ref m_carried, .ref m_row, .int rm, .ref m_keptRow, .ref m_likeGets, .ref m_likePrice, .ref m_ahead]))]) [0] (by decide) rfl
  have hFc := va_free (wc := [(g0, .inr (12, [.ref m_refused, .ref m_kind, .ref m_figure, .ref m_weight, .ref m_got, .ref m_setting, .int men, .int msy, .int mdn, .ref m_tape, .ref m_letter, .ref m_letterAt, .ref m_told, .int tp, .int mat, .int stm, .ref m_kept, .int hi, .int ki, .int cu, .ref m_price, .ref m_offer, .ref m_gets, .ref m_yes, .ref m_buys, .ref m_ends, .ref m_carried, .ref m_row, .int rm, .ref m_keptRow, .ref m_likeGets, .ref m_likePrice, .ref m_ahead]))]) hD hS hA [0] rfl
  refine va_calli (va_runV (As := [.int i]) (rest := []) ⟨hx, hb, hml, hown, hts⟩ (c_X12_isMan l dC dI aC H.size g0 m_refused m_kind m_figure m_weight m_got m_setting m_tape m_letter m_letterAt m_told m_kept m_price m_offer m_gets m_yes m_buys m_ends m_carried m_row m_keptRow m_likeGets m_likePrice m_ahead men msy mdn tp mat stm hi ki cu rm i ) ⟨(callB_of 1 hts (gG kw_878) rfl rfl rfl (hts _ (gw kw_13 rfl)) (hts _ (gw kw_875 rfl)) (by decide +kernel) ⟨Nat.le_of_ble_eq_true rfl, Nat.le_of_ble_eq_true rfl⟩), (hts _ (gw kw_877 rfl)), (hts _ (gw ks_43 rfl))⟩ ⟨fun a U g mk q => by obtain ⟨q0, q1, qP, qK, qD, qN⟩ := q; exact ⟨q0, q1, qP, va_K.moved (u := U) (U := U.calling g mk a) (Vm.Alike.refl U.vm) qK, qD, NX.same (u := U) (U := U.calling g mk a) rfl qN⟩, va_recv hK hPc (ci := 12) (q0 := 0) rfl rfl, fun U hU hW => ⟨rfl, by rw [hU], by rw [hU]; exact hPc, va_K.moved hW.alike hK, hDc.weaken (fun _ _ _ _ => trivial), NX.warm hW hN⟩⟩ rfl rfl hl.1 rfl (lv_room (Nat.le_of_ble_eq_true rfl)) dX12_price_2 ⟨Nat.le_of_ble_eq_true rfl, Nat.le_of_ble_eq_true rfl⟩) hS (fun q _ h => hFc q h) hFc (fun x_1 u t H1 locs ht hvm hw_1 hB hz1 hk1 hS => ?_)
  obtain ⟨hP1, hK1, hD1⟩ := hB
  rw [ht] at hP1
  clear hK1
  try dsimp only at hw_1
  obtain ⟨hP, hD⟩ := va_join (wr := [(m_refused, .inl (aC 0, 7, .inl mr))]) (w1 := [(g0, .inr (12, [.ref m_refused, .ref m_kind, .ref m_figure, .ref m_weight, .ref m_got, .ref m_setting, .int men, .int msy, .int mdn, .ref m_tape, .ref m_letter, .ref m_letterAt, .ref m_told, .int tp, .int mat, .int stm, .ref m_kept, .int hi, .int ki, .int cu, .ref m_price, .ref m_offer, .ref m_gets, .ref m_yes, .ref m_buys, .ref m_ends, .ref m_carried, .ref m_row, .int rm, .ref m_keptRow, .ref m_likeGets, .ref m_likePrice, .ref m_ahead]))]) hP hD [0] [1] rfl rfl (by decide) (by decide) hk1 hFc hP1 hD1
  generalize H1 = H at hP hS ⊢
  have hP : va_P (dC, dI) classes [(m_refused, .inl (aC 0, 7, .inl mr)), (g0, .inr (12, [.ref m_refused, .ref m_kind, .ref m_figure, .ref m_weight, .ref m_got, .ref m_setting, .int men, .int msy, .int mdn, .ref m_tape, .ref m_letter, .ref m_letterAt, .ref m_told, .int tp, .int mat, .int stm, .ref m_kept, .int hi, .int ki, .int cu, .ref m_price, .ref m_offer, .ref m_gets, .ref m_yes, .ref m_buys, .ref m_ends, .ref m_carried, .ref m_row, .int rm, .ref m_keptRow, .ref m_likeGets, .ref m_likePrice, .ref m_ahead]))] H := hP
  have hD : va_D A [(m_refused, .inl (aC 0, 7, .inl mr)), (g0, .inr (12, [.ref m_refused, .ref m_kind, .ref m_figure, .ref m_weight, .ref m_got, .ref m_setting, .int men, .int msy, .int mdn, .ref m_tape, .ref m_letter, .ref m_letterAt, .ref m_told, .int tp, .int mat, .int stm, .ref m_kept, .int hi, .int ki, .int cu, .ref m_price, .ref m_offer, .ref m_gets, .ref m_yes, .ref m_buys, .ref m_ends, .ref m_carried, .ref m_row, .int rm, .ref m_keptRow, .ref m_likeGets, .ref m_likePrice, .ref m_ahead]))] := hD
  clear hPc hDc hFc hz1 hk1 hP1 hD1 ht hvm
  have hz_2 : x_1 = 0 := by rw [hw_1]; rcases hno with h9 | h9 <;> simp [h9]
  refine lv_if_eq (tgt := 16) hx hb dX12_price_5 (by decide) (fun c_2 => ?_) (fun c_2 => ?_)
  · refine lv_aload_n hx hb dX12_price_16 rfl (lv_at hl 0 rfl) ?_
    refine lv_iconst (v := -1) hx hb dX12_price_17 (by decide) ?_
    have hPc := hP.sub (ws' := [(g0, .inr (12, [.ref m_refused, .ref m_kind, .ref m_figure, .ref m_weight, .ref m_got, .ref m_setting, .int men, .int msy, .int mdn, .ref m_tape, .ref m_letter, .ref m_letterAt, .ref m_told, .int tp, .int mat, .int stm, .ref m_kept, .int hi, .int ki, .int cu, .ref m_price, .ref m_offer, .ref m_gets, .ref m_yes, .ref m_buys, .ref m_ends, .ref m_carried, .ref m_row, .int rm, .ref m_keptRow, .ref m_likeGets, .ref m_likePrice, .ref m_ahead])), (m_refused, .inl (aC 0, 7, .inl mr))]) [1, 0] rfl
    have hDc := hD.sub (ws' := [(g0, .inr (12, [.ref m_refused, .ref m_kind, .ref m_figure, .ref m_weight, .ref m_got, .ref m_setting, .int men, .int msy, .int mdn, .ref m_tape, .ref m_letter, .ref m_letterAt, .ref m_told, .int tp, .int mat, .int stm, .ref m_kept, .int hi, .int ki, .int cu, .ref m_price, .ref m_offer, .ref m_gets, .ref m_yes, .ref m_buys, .ref m_ends, .ref m_carried, .ref m_row, .int rm, .ref m_keptRow, .ref m_likeGets, .ref m_likePrice, .ref m_ahead])), (m_refused, .inl (aC 0, 7, .inl mr))]) [1, 0] (by decide) rfl
    have hFc := va_free (wc := [(g0, .inr (12, [.ref m_refused, .ref m_kind, .ref m_figure, .ref m_weight, .ref m_got, .ref m_setting, .int men, .int msy, .int mdn, .ref m_tape, .ref m_letter, .ref m_letterAt, .ref m_told, .int tp, .int mat, .int stm, .ref m_kept, .int hi, .int ki, .int cu, .ref m_price, .ref m_offer, .ref m_gets, .ref m_yes, .ref m_buys, .ref m_ends, .ref m_carried, .ref m_row, .int rm, .ref m_keptRow, .ref m_likeGets, .ref m_likePrice, .ref m_ahead])), (m_refused, .inl (aC 0, 7, .inl mr))]) hD hS hA [1, 0] rfl
    refine va_calli (va_runV (As := [.int (-1)]) (rest := []) ⟨hx, hb, hml, hown, hts⟩ (c_X12_no l dC dI aC H.size g0 m_refused m_kind m_figure m_weight m_got m_setting m_tape m_letter m_letterAt m_told m_kept m_price m_offer m_gets m_yes m_buys m_ends m_carried m_row m_keptRow m_likeGets m_likePrice m_ahead men msy mdn tp mat stm hi ki cu rm (-1) 1 mr (by decide) (by unfold vp_in; decide)) ⟨(callB_of 1 hts (gG kw_827) rfl rfl rfl (hts _ (gw kw_13 rfl)) (hts _ (gw kw_824 rfl)) (by decide +kernel) ⟨Nat.le_of_ble_eq_true rfl, Nat.le_of_ble_eq_true rfl⟩), (hts _ (gw kw_826 rfl)), (hts _ (gw ks_35 rfl))⟩ ⟨fun a U g mk q => by obtain ⟨q0, q1, qP, qK, qD, qN⟩ := q; exact ⟨q0, q1, qP, va_K.moved (u := U) (U := U.calling g mk a) (Vm.Alike.refl U.vm) qK, qD, NX.same (u := U) (U := U.calling g mk a) rfl qN⟩, va_recv hK hPc (ci := 12) (q0 := 0) rfl rfl, fun U hU hW => ⟨rfl, by rw [hU], by rw [hU]; exact hPc, va_K.moved hW.alike hK, hDc.weaken (fun _ _ _ _ => trivial), NX.warm hW hN⟩⟩ rfl rfl hl.1 rfl (lv_room (Nat.le_of_ble_eq_true rfl)) dX12_price_18 ⟨Nat.le_of_ble_eq_true rfl, Nat.le_of_ble_eq_true rfl⟩) hS (fun q _ h => hFc q h) hFc (fun x_3 u t H1 locs ht hvm hw_3 hB hz1 hk1 hS => ?_)
    obtain ⟨u_4, rfl⟩ : ∃ z, z = u := ⟨_, rfl⟩
    obtain ⟨hP1, hK1, hD1⟩ := hB
    rw [ht] at hP1
    clear hK1
    try dsimp only at hw_3
    obtain ⟨hP, hD⟩ := va_join (wr := []) (w1 := [(g0, .inr (12, [.ref m_refused, .ref m_kind, .ref m_figure, .ref m_weight, .ref m_got, .ref m_setting, .int men, .int msy, .int mdn, .ref m_tape, .ref m_letter, .ref m_letterAt, .ref m_told, .int tp, .int mat, .int stm, .ref m_kept, .int hi, .int ki, .int cu, .ref m_price, .ref m_offer, .ref m_gets, .ref m_yes, .ref m_buys, .ref m_ends, .ref m_carried, .ref m_row, .int rm, .ref m_keptRow, .ref m_likeGets, .ref m_likePrice, .ref m_ahead])), (m_refused, .inl (aC 0, 7, .inl u_4))]) hP hD [1, 0] [] rfl rfl (by decide) (by decide) hk1 hFc hP1 hD1
    generalize H1 = H at hP hS ⊢
    have hP : va_P (dC, dI) classes [(g0, .inr (12, [.ref m_refused, .ref m_kind, .ref m_figure, .ref m_weight, .ref m_got, .ref m_setting, .int men, .int msy, .int mdn, .ref m_tape, .ref m_letter, .ref m_letterAt, .ref m_told, .int tp, .int mat, .int stm, .ref m_kept, .int hi, .int ki, .int cu, .ref m_price, .ref m_offer, .ref m_gets, .ref m_yes, .ref m_buys, .ref m_ends, .ref m_carried, .ref m_row, .int rm, .ref m_keptRow, .ref m_likeGets, .ref m_likePrice, .ref m_ahead])), (m_refused, .inl (aC 0, 7, .inl u_4))] H := hP
    have hD : va_D A [(g0, .inr (12, [.ref m_refused, .ref m_kind, .ref m_figure, .ref m_weight, .ref m_got, .ref m_setting, .int men, .int msy, .int mdn, .ref m_tape, .ref m_letter, .ref m_letterAt, .ref m_told, .int tp, .int mat, .int stm, .ref m_kept, .int hi, .int ki, .int cu, .ref m_price, .ref m_offer, .ref m_gets, .ref m_yes, .ref m_buys, .ref m_ends, .ref m_carried, .ref m_row, .int rm, .ref m_keptRow, .ref m_likeGets, .ref m_likePrice, .ref m_ahead])), (m_refused, .inl (aC 0, 7, .inl u_4))] := hD
    clear hPc hDc hFc hz1 hk1 hP1 hD1 ht hvm
    obtain ⟨hv9, hv8⟩ := hw_3
    have hP9 := hP.sub (ws' := []) [] rfl
    have hD9 := hD.sub (ws' := []) [] (by decide) rfl
    refine W.widen (k := 0) (n := 0) (by omega) (by omega) ?_
    exact W.iret (v := x_3) hx hb hr (fun t ht hW => ⟨⟨x_3, (), rfl, hv9, by rw [ht]; exact hP9, va_K.moved hW.alike hK, hD9⟩, hS.F ht⟩) hS.2.2 dX12_price_21
  · exact absurd hz_2 c_2

set_option maxHeartbeats 4000000 in
set_option maxRecDepth 100000 in
/-- X12_votes_r -/
theorem c_X12_votes_r (l : Launch) (dC : Nat → ClassId) (dI : Nat → Nat → Nat) (aC : Nat → ClassId) (sz : Nat) (g0 : Nat) (m_refused : Nat) (m_kind : Nat) (m_figure : Nat) (m_weight : Nat) (m_got : Nat) (m_setting : Nat) (m_tape : Nat) (m_letter : Nat) (m_letterAt : Nat) (m_told : Nat) (m_kept : Nat) (m_price : Nat) (m_offer : Nat) (m_gets : Nat) (m_yes : Nat) (m_buys : Nat) (m_ends : Nat) (m_carried : Nat) (m_row : Nat) (m_keptRow : Nat) (m_likeGets : Nat) (m_likePrice : Nat) (m_ahead : Nat) (men : Int32) (msy : Int32) (mdn : Int32) (tp : Int32) (mat : Int32) (stm : Int32) (hi : Int32) (ki : Int32) (cu : Int32) (rm : Int32) (mr : Nat → Int32) (i : Int32) (hno : i < 0 ∨ men ≤ i) : Met l yX12_votes (wW yX12_votes cX12_votes 2 (some .int)) ({ frames := 1, cells := 0, slots := 0, locals := 21 } : Room) (va_Pc [.ref g0, .int i] (fun U => U.heap.size = sz ∧ va_P (dC, dI) classes [(g0, .inr (12, [.ref m_refused, .ref m_kind, .ref m_figure, .ref m_weight, .ref m_got, .ref m_setting, .int men, .int msy, .int mdn, .ref m_tape, .ref m_letter, .ref m_letterAt, .ref m_told, .int tp, .int mat, .int stm, .ref m_kept, .int hi, .int ki, .int cu, .ref m_price, .ref m_offer, .ref m_gets, .ref m_yes, .ref m_buys, .ref m_ends, .ref m_carried, .ref m_row, .int rm, .ref m_keptRow, .ref m_likeGets, .ref m_likePrice, .ref m_ahead])), (m_refused, .inl (aC 0, 7, .inl mr))] U.heap ∧ va_K (dC, dI) classes (TY aC) U ∧ va_D (fun _ => True) [(g0, .inr (12, [.ref m_refused, .ref m_kind, .ref m_figure, .ref m_weight, .ref m_got, .ref m_setting, .int men, .int msy, .int mdn, .ref m_tape, .ref m_letter, .ref m_letterAt, .ref m_told, .int tp, .int mat, .int stm, .ref m_kept, .int hi, .int ki, .int cu, .ref m_price, .ref m_offer, .ref m_gets, .ref m_yes, .ref m_buys, .ref m_ends, .ref m_carried, .ref m_row, .int rm, .ref m_keptRow, .ref m_likeGets, .ref m_likePrice, .ref m_ahead])), (m_refused, .inl (aC 0, 7, .inl mr))] ∧ NX U)) (va_Qi (fun (r : Int32) (_ : Unit) => r = -1) (fun (_ : Unit) (t : State) => va_P (dC, dI) classes [] t.heap ∧ va_K (dC, dI) classes (TY aC) t ∧ va_D (va_A [(g0, .inr (12, [.ref m_refused, .ref m_kind, .ref m_figure, .ref m_weight, .ref m_got, .ref m_setting, .int men, .int msy, .int mdn, .ref m_tape, .ref m_letter, .ref m_letterAt, .ref m_told, .int tp, .int mat, .int stm, .ref m_kept, .int hi, .int ki, .int cu, .ref m_price, .ref m_offer, .ref m_gets, .ref m_yes, .ref m_buys, .ref m_ends, .ref m_carried, .ref m_row, .int rm, .ref m_keptRow, .ref m_likeGets, .ref m_likePrice, .ref m_ahead])), (m_refused, .inl (aC 0, 7, .inl mr))] sz) []) (va_A [(g0, .inr (12, [.ref m_refused, .ref m_kind, .ref m_figure, .ref m_weight, .ref m_got, .ref m_setting, .int men, .int msy, .int mdn, .ref m_tape, .ref m_letter, .ref m_letterAt, .ref m_told, .int tp, .int mat, .int stm, .ref m_kept, .int hi, .int ki, .int cu, .ref m_price, .ref m_offer, .ref m_gets, .ref m_yes, .ref m_buys, .ref m_ends, .ref m_carried, .ref m_row, .int rm, .ref m_keptRow, .ref m_likeGets, .ref m_likePrice, .ref m_ahead])), (m_refused, .inl (aC 0, 7, .inl mr))] sz)) 0 0 (va_A [(g0, .inr (12, [.ref m_refused, .ref m_kind, .ref m_figure, .ref m_weight, .ref m_got, .ref m_setting, .int men, .int msy, .int mdn, .ref m_tape, .ref m_letter, .ref m_letterAt, .ref m_told, .int tp, .int mat, .int stm, .ref m_kept, .int hi, .int ki, .int cu, .ref m_price, .ref m_offer, .ref m_gets, .ref m_yes, .ref m_buys, .ref m_ends, .ref m_carried, .ref m_row, .int rm, .ref m_keptRow, .ref m_likeGets, .ref m_likePrice, .ref m_ahead])), (m_refused, .inl (aC 0, 7, .inl mr))] sz) := by
  refine Met.ofW (cc := cX12_votes) (maxL := 2) (ret := (some .int)) (by decide) rfl ?_
  intro p e s m args below meth c s₁ B hml hv
  obtain ⟨rfl, hsz, hP, hK, hD0, hN⟩ := hv
  have hx := B.exec
  have hb := B.bytes
  have hr := B.returns
  have hts0 := atoms_spec (ws := (wW yX12_votes cX12_votes 2 (some .int))) B.pre
  have hts : ∀ w9 ∈ lw_G, w9.before ([.ref g0, .int i] : List Value).toArray s = true := fun w9 h9 => hts0 w9 (List.mem_cons_of_mem _ h9)
  have hown : s.vm.findClass RX12 = some m.cls := findClass_of_methodNamed B.named
  have hlocks := B.notSynchronized
  subst hsz
  have hD := hD0.self (sz := s.heap.size)
  generalize hAe : va_A [(g0, .inr (12, [.ref m_refused, .ref m_kind, .ref m_figure, .ref m_weight, .ref m_got, .ref m_setting, .int men, .int msy, .int mdn, .ref m_tape, .ref m_letter, .ref m_letterAt, .ref m_told, .int tp, .int mat, .int stm, .ref m_kept, .int hi, .int ki, .int cu, .ref m_price, .ref m_offer, .ref m_gets, .ref m_yes, .ref m_buys, .ref m_ends, .ref m_carried, .ref m_row, .int rm, .ref m_keptRow, .ref m_likeGets, .ref m_likePrice, .ref m_ahead])), (m_refused, .inl (aC 0, 7, .inl mr))] s.heap.size = A at hD ⊢
  have hA : ∀ q : Nat, s.heap.size ≤ q → A q := fun q h => by rw [← hAe]; exact Or.inr h
  obtain ⟨H, hHe⟩ : ∃ H : Heap, H = s.heap := ⟨_, rfl⟩
  have hS : va_S A s.heap H [] := by rw [hHe]; exact va_S.rf
  have hP : va_P (dC, dI) classes [(g0, .inr (12, [.ref m_refused, .ref m_kind, .ref m_figure, .ref m_weight, .ref m_got, .ref m_setting, .int men, .int msy, .int mdn, .ref m_tape, .ref m_letter, .ref m_letterAt, .ref m_told, .int tp, .int mat, .int stm, .ref m_kept, .int hi, .int ki, .int cu, .ref m_price, .ref m_offer, .ref m_gets, .ref m_yes, .ref m_buys, .ref m_ends, .ref m_carried, .ref m_row, .int rm, .ref m_keptRow, .ref m_likeGets, .ref m_likePrice, .ref m_ahead])), (m_refused, .inl (aC 0, 7, .inl mr))] H := by rw [hHe]; exact hP
  have hl := lv_entry ([.ref g0, .int i]) (n := 2) (Nat.le_of_ble_eq_true rfl)
  rw [lg_entry_eq]
  generalize (lg_sl ([.ref g0, .int i]) ++ List.replicate (2 - (lg_sl ([.ref g0, .int i])).length) Slot.unset).toArray = ls at hl ⊢
  have hl : lv_has ls 2 [(0, .ref g0), (1, .int i)] := hl
  rw [← hHe]
  refine lv_aload_n hx hb dX12_votes_0 rfl (lv_at hl 0 rfl) ?_
  refine lv_iload_n hx hb dX12_votes_1 rfl (lv_at hl 1 rfl) ?_
  have hPc := hP.sub (ws' := [(g0, .inr (12, [.ref m_refused, .ref m_kind, .ref m_figure, .ref m_weight, .ref m_got, .ref m_setting, .int men, .int msy, .int mdn, .ref m_tape, .ref m_letter, .ref m_letterAt, .ref m_told, .int tp, .int mat, .int stm, .ref m_kept, .int hi, .int ki, .int cu, .ref m_price, .ref m_offer, .ref m_gets, .ref m_yes, .ref m_buys, .ref m_ends, .ref m_carried, .ref m_row, .int rm, .ref m_keptRow, .ref m_likeGets, .ref m_likePrice, .ref m_ahead]))]) [0] rfl
  have hDc := hD.sub (ws' := [(g0, .inr (12, [.ref m_refused, .ref m_kind, .ref m_figure, .ref m_weight, .ref m_got, .ref m_setting, .int men, .int msy, .int mdn, .ref m_tape, .ref m_letter, .ref m_letterAt, .ref m_told, .int tp, .int mat, .int stm, .ref m_kept, .int hi, .int ki, .int cu, .ref m_price, .ref m_offer, .ref m_gets, .ref m_yes, .ref m_buys, .ref m_ends, .ref m_carried, .ref m_row, .int rm, .ref m_keptRow, .ref m_likeGets, .ref m_likePrice, .ref m_ahead]))]) [0] (by decide) rfl
  have hFc := va_free (wc := [(g0, .inr (12, [.ref m_refused, .ref m_kind, .ref m_figure, .ref m_weight, .ref m_got, .ref m_setting, .int men, .int msy, .int mdn, .ref m_tape, .ref m_letter, .ref m_letterAt, .ref m_told, .int tp, .int mat, .int stm, .ref m_kept, .int hi, .int ki, .int cu, .ref m_price, .ref m_offer, .ref m_gets, .ref m_yes, .ref m_buys, .ref m_ends, .ref m_carried, .ref m_row, .int rm, .ref m_keptRow, .ref m_likeGets, .ref m_likePrice, .ref m_ahead]))]) hD hS hA [0] rfl
  refine va_calli (va_runV (As := [.int i]) (rest := []) ⟨hx, hb, hml, hown, hts⟩ (c_X12_isMan l dC dI aC H.size g0 m_refused m_kind m_figure m_weight m_got m_setting m_tape m_letter m_letterAt m_told m_kept m_price m_offer m_gets m_yes m_buys m_ends m_carried m_row m_keptRow m_likeGets m_likePrice m_ahead men msy mdn tp mat stm hi ki cu rm i ) ⟨(callB_of 1 hts (gG kw_878) rfl rfl rfl (hts _ (gw kw_13 rfl)) (hts _ (gw kw_875 rfl)) (by decide +kernel) ⟨Nat.le_of_ble_eq_true rfl, Nat.le_of_ble_eq_true rfl⟩), (hts _ (gw kw_877 rfl)), (hts _ (gw ks_43 rfl))⟩ ⟨fun a U g mk q => by obtain ⟨q0, q1, qP, qK, qD, qN⟩ := q; exact ⟨q0, q1, qP, va_K.moved (u := U) (U := U.calling g mk a) (Vm.Alike.refl U.vm) qK, qD, NX.same (u := U) (U := U.calling g mk a) rfl qN⟩, va_recv hK hPc (ci := 12) (q0 := 0) rfl rfl, fun U hU hW => ⟨rfl, by rw [hU], by rw [hU]; exact hPc, va_K.moved hW.alike hK, hDc.weaken (fun _ _ _ _ => trivial), NX.warm hW hN⟩⟩ rfl rfl hl.1 rfl (lv_room (Nat.le_of_ble_eq_true rfl)) dX12_votes_2 ⟨Nat.le_of_ble_eq_true rfl, Nat.le_of_ble_eq_true rfl⟩) hS (fun q _ h => hFc q h) hFc (fun x_1 u t H1 locs ht hvm hw_1 hB hz1 hk1 hS => ?_)
  obtain ⟨hP1, hK1, hD1⟩ := hB
  rw [ht] at hP1
  clear hK1
  try dsimp only at hw_1
  obtain ⟨hP, hD⟩ := va_join (wr := [(m_refused, .inl (aC 0, 7, .inl mr))]) (w1 := [(g0, .inr (12, [.ref m_refused, .ref m_kind, .ref m_figure, .ref m_weight, .ref m_got, .ref m_setting, .int men, .int msy, .int mdn, .ref m_tape, .ref m_letter, .ref m_letterAt, .ref m_told, .int tp, .int mat, .int stm, .ref m_kept, .int hi, .int ki, .int cu, .ref m_price, .ref m_offer, .ref m_gets, .ref m_yes, .ref m_buys, .ref m_ends, .ref m_carried, .ref m_row, .int rm, .ref m_keptRow, .ref m_likeGets, .ref m_likePrice, .ref m_ahead]))]) hP hD [0] [1] rfl rfl (by decide) (by decide) hk1 hFc hP1 hD1
  generalize H1 = H at hP hS ⊢
  have hP : va_P (dC, dI) classes [(m_refused, .inl (aC 0, 7, .inl mr)), (g0, .inr (12, [.ref m_refused, .ref m_kind, .ref m_figure, .ref m_weight, .ref m_got, .ref m_setting, .int men, .int msy, .int mdn, .ref m_tape, .ref m_letter, .ref m_letterAt, .ref m_told, .int tp, .int mat, .int stm, .ref m_kept, .int hi, .int ki, .int cu, .ref m_price, .ref m_offer, .ref m_gets, .ref m_yes, .ref m_buys, .ref m_ends, .ref m_carried, .ref m_row, .int rm, .ref m_keptRow, .ref m_likeGets, .ref m_likePrice, .ref m_ahead]))] H := hP
  have hD : va_D A [(m_refused, .inl (aC 0, 7, .inl mr)), (g0, .inr (12, [.ref m_refused, .ref m_kind, .ref m_figure, .ref m_weight, .ref m_got, .ref m_setting, .int men, .int msy, .int mdn, .ref m_tape, .ref m_letter, .ref m_letterAt, .ref m_told, .int tp, .int mat, .int stm, .ref m_kept, .int hi, .int ki, .int cu, .ref m_price, .ref m_offer, .ref m_gets, .ref m_yes, .ref m_buys, .ref m_ends, .ref m_carried, .ref m_row, .int rm, .ref m_keptRow, .ref m_likeGets, .ref m_likePrice, .ref m_ahead]))] := hD
  clear hPc hDc hFc hz1 hk1 hP1 hD1 ht hvm
  have hz_2 : x_1 = 0 := by rw [hw_1]; rcases hno with h9 | h9 <;> simp [h9]
  refine lv_if_ne (tgt := 14) hx hb dX12_votes_5 (by decide) (fun c_2 => ?_) (fun c_2 => ?_)
  · exact absurd hz_2 c_2
  · refine lv_aload_n hx hb dX12_votes_8 rfl (lv_at hl 0 rfl) ?_
    refine lv_iconst (v := -1) hx hb dX12_votes_9 (by decide) ?_
    have hPc := hP.sub (ws' := [(g0, .inr (12, [.ref m_refused, .ref m_kind, .ref m_figure, .ref m_weight, .ref m_got, .ref m_setting, .int men, .int msy, .int mdn, .ref m_tape, .ref m_letter, .ref m_letterAt, .ref m_told, .int tp, .int mat, .int stm, .ref m_kept, .int hi, .int ki, .int cu, .ref m_price, .ref m_offer, .ref m_gets, .ref m_yes, .ref m_buys, .ref m_ends, .ref m_carried, .ref m_row, .int rm, .ref m_keptRow, .ref m_likeGets, .ref m_likePrice, .ref m_ahead])), (m_refused, .inl (aC 0, 7, .inl mr))]) [1, 0] rfl
    have hDc := hD.sub (ws' := [(g0, .inr (12, [.ref m_refused, .ref m_kind, .ref m_figure, .ref m_weight, .ref m_got, .ref m_setting, .int men, .int msy, .int mdn, .ref m_tape, .ref m_letter, .ref m_letterAt, .ref m_told, .int tp, .int mat, .int stm, .ref m_kept, .int hi, .int ki, .int cu, .ref m_price, .ref m_offer, .ref m_gets, .ref m_yes, .ref m_buys, .ref m_ends, .ref m_carried, .ref m_row, .int rm, .ref m_keptRow, .ref m_likeGets, .ref m_likePrice, .ref m_ahead])), (m_refused, .inl (aC 0, 7, .inl mr))]) [1, 0] (by decide) rfl
    have hFc := va_free (wc := [(g0, .inr (12, [.ref m_refused, .ref m_kind, .ref m_figure, .ref m_weight, .ref m_got, .ref m_setting, .int men, .int msy, .int mdn, .ref m_tape, .ref m_letter, .ref m_letterAt, .ref m_told, .int tp, .int mat, .int stm, .ref m_kept, .int hi, .int ki, .int cu, .ref m_price, .ref m_offer, .ref m_gets, .ref m_yes, .ref m_buys, .ref m_ends, .ref m_carried, .ref m_row, .int rm, .ref m_keptRow, .ref m_likeGets, .ref m_likePrice, .ref m_ahead])), (m_refused, .inl (aC 0, 7, .inl mr))]) hD hS hA [1, 0] rfl
    refine va_calli (va_runV (As := [.int (-1)]) (rest := []) ⟨hx, hb, hml, hown, hts⟩ (c_X12_no l dC dI aC H.size g0 m_refused m_kind m_figure m_weight m_got m_setting m_tape m_letter m_letterAt m_told m_kept m_price m_offer m_gets m_yes m_buys m_ends m_carried m_row m_keptRow m_likeGets m_likePrice m_ahead men msy mdn tp mat stm hi ki cu rm (-1) 1 mr (by decide) (by unfold vp_in; decide)) ⟨(callB_of 1 hts (gG kw_827) rfl rfl rfl (hts _ (gw kw_13 rfl)) (hts _ (gw kw_824 rfl)) (by decide +kernel) ⟨Nat.le_of_ble_eq_true rfl, Nat.le_of_ble_eq_true rfl⟩), (hts _ (gw kw_826 rfl)), (hts _ (gw ks_35 rfl))⟩ ⟨fun a U g mk q => by obtain ⟨q0, q1, qP, qK, qD, qN⟩ := q; exact ⟨q0, q1, qP, va_K.moved (u := U) (U := U.calling g mk a) (Vm.Alike.refl U.vm) qK, qD, NX.same (u := U) (U := U.calling g mk a) rfl qN⟩, va_recv hK hPc (ci := 12) (q0 := 0) rfl rfl, fun U hU hW => ⟨rfl, by rw [hU], by rw [hU]; exact hPc, va_K.moved hW.alike hK, hDc.weaken (fun _ _ _ _ => trivial), NX.warm hW hN⟩⟩ rfl rfl hl.1 rfl (lv_room (Nat.le_of_ble_eq_true rfl)) dX12_votes_10 ⟨Nat.le_of_ble_eq_true rfl, Nat.le_of_ble_eq_true rfl⟩) hS (fun q _ h => hFc q h) hFc (fun x_3 u t H1 locs ht hvm hw_3 hB hz1 hk1 hS => ?_)
    obtain ⟨u_4, rfl⟩ : ∃ z, z = u := ⟨_, rfl⟩
    obtain ⟨hP1, hK1, hD1⟩ := hB
    rw [ht] at hP1
    clear hK1
    try dsimp only at hw_3
    obtain ⟨hP, hD⟩ := va_join (wr := []) (w1 := [(g0, .inr (12, [.ref m_refused, .ref m_kind, .ref m_figure, .ref m_weight, .ref m_got, .ref m_setting, .int men, .int msy, .int mdn, .ref m_tape, .ref m_letter, .ref m_letterAt, .ref m_told, .int tp, .int mat, .int stm, .ref m_kept, .int hi, .int ki, .int cu, .ref m_price, .ref m_offer, .ref m_gets, .ref m_yes, .ref m_buys, .ref m_ends, .ref m_carried, .ref m_row, .int rm, .ref m_keptRow, .ref m_likeGets, .ref m_likePrice, .ref m_ahead])), (m_refused, .inl (aC 0, 7, .inl u_4))]) hP hD [1, 0] [] rfl rfl (by decide) (by decide) hk1 hFc hP1 hD1
    generalize H1 = H at hP hS ⊢
    have hP : va_P (dC, dI) classes [(g0, .inr (12, [.ref m_refused, .ref m_kind, .ref m_figure, .ref m_weight, .ref m_got, .ref m_setting, .int men, .int msy, .int mdn, .ref m_tape, .ref m_letter, .ref m_letterAt, .ref m_told, .int tp, .int mat, .int stm, .ref m_kept, .int hi, .int ki, .int cu, .ref m_price, .ref m_offer, .ref m_gets, .ref m_yes, .ref m_buys, .ref m_ends, .ref m_carried, .ref m_row, .int rm, .ref m_keptRow, .ref m_likeGets, .ref m_likePrice, .ref m_ahead])), (m_refused, .inl (aC 0, 7, .inl u_4))] H := hP
    have hD : va_D A [(g0, .inr (12, [.ref m_refused, .ref m_kind, .ref m_figure, .ref m_weight, .ref m_got, .ref m_setting, .int men, .int msy, .int mdn, .ref m_tape, .ref m_letter, .ref m_letterAt, .ref m_told, .int tp, .int mat, .int stm, .ref m_kept, .int hi, .int ki, .int cu, .ref m_price, .ref m_offer, .ref m_gets, .ref m_yes, .ref m_buys, .ref m_ends, .ref m_carried, .ref m_row, .int rm, .ref m_keptRow, .ref m_likeGets, .ref m_likePrice, .ref m_ahead])), (m_refused, .inl (aC 0, 7, .inl u_4))] := hD
    clear hPc hDc hFc hz1 hk1 hP1 hD1 ht hvm
    obtain ⟨hv9, hv8⟩ := hw_3
    have hP9 := hP.sub (ws' := []) [] rfl
    have hD9 := hD.sub (ws' := []) [] (by decide) rfl
    refine W.widen (k := 0) (n := 0) (by omega) (by omega) ?_
    exact W.iret (v := x_3) hx hb hr (fun t ht hW => ⟨⟨x_3, (), rfl, hv9, by rw [ht]; exact hP9, va_K.moved hW.alike hK, hD9⟩, hS.F ht⟩) hS.2.2 dX12_votes_13

set_option maxHeartbeats 4000000 in
set_option maxRecDepth 100000 in
/-- X12_carries_r -/
theorem c_X12_carries_r (l : Launch) (dC : Nat → ClassId) (dI : Nat → Nat → Nat) (aC : Nat → ClassId) (sz : Nat) (g0 : Nat) (m_refused : Nat) (m_kind : Nat) (m_figure : Nat) (m_weight : Nat) (m_got : Nat) (m_setting : Nat) (m_tape : Nat) (m_letter : Nat) (m_letterAt : Nat) (m_told : Nat) (m_kept : Nat) (m_price : Nat) (m_offer : Nat) (m_gets : Nat) (m_yes : Nat) (m_buys : Nat) (m_ends : Nat) (m_carried : Nat) (m_row : Nat) (m_keptRow : Nat) (m_likeGets : Nat) (m_likePrice : Nat) (m_ahead : Nat) (men : Int32) (msy : Int32) (mdn : Int32) (tp : Int32) (mat : Int32) (stm : Int32) (hi : Int32) (ki : Int32) (cu : Int32) (rm : Int32) (mr : Nat → Int32) (i : Int32) (hno : i < 0 ∨ men ≤ i) : Met l yX12_carries (wW yX12_carries cX12_carries 2 (some .int)) ({ frames := 1, cells := 0, slots := 0, locals := 21 } : Room) (va_Pc [.ref g0, .int i] (fun U => U.heap.size = sz ∧ va_P (dC, dI) classes [(g0, .inr (12, [.ref m_refused, .ref m_kind, .ref m_figure, .ref m_weight, .ref m_got, .ref m_setting, .int men, .int msy, .int mdn, .ref m_tape, .ref m_letter, .ref m_letterAt, .ref m_told, .int tp, .int mat, .int stm, .ref m_kept, .int hi, .int ki, .int cu, .ref m_price, .ref m_offer, .ref m_gets, .ref m_yes, .ref m_buys, .ref m_ends, .ref m_carried, .ref m_row, .int rm, .ref m_keptRow, .ref m_likeGets, .ref m_likePrice, .ref m_ahead])), (m_refused, .inl (aC 0, 7, .inl mr))] U.heap ∧ va_K (dC, dI) classes (TY aC) U ∧ va_D (fun _ => True) [(g0, .inr (12, [.ref m_refused, .ref m_kind, .ref m_figure, .ref m_weight, .ref m_got, .ref m_setting, .int men, .int msy, .int mdn, .ref m_tape, .ref m_letter, .ref m_letterAt, .ref m_told, .int tp, .int mat, .int stm, .ref m_kept, .int hi, .int ki, .int cu, .ref m_price, .ref m_offer, .ref m_gets, .ref m_yes, .ref m_buys, .ref m_ends, .ref m_carried, .ref m_row, .int rm, .ref m_keptRow, .ref m_likeGets, .ref m_likePrice, .ref m_ahead])), (m_refused, .inl (aC 0, 7, .inl mr))] ∧ NX U)) (va_Qi (fun (r : Int32) (_ : Unit) => r = -1) (fun (_ : Unit) (t : State) => va_P (dC, dI) classes [] t.heap ∧ va_K (dC, dI) classes (TY aC) t ∧ va_D (va_A [(g0, .inr (12, [.ref m_refused, .ref m_kind, .ref m_figure, .ref m_weight, .ref m_got, .ref m_setting, .int men, .int msy, .int mdn, .ref m_tape, .ref m_letter, .ref m_letterAt, .ref m_told, .int tp, .int mat, .int stm, .ref m_kept, .int hi, .int ki, .int cu, .ref m_price, .ref m_offer, .ref m_gets, .ref m_yes, .ref m_buys, .ref m_ends, .ref m_carried, .ref m_row, .int rm, .ref m_keptRow, .ref m_likeGets, .ref m_likePrice, .ref m_ahead])), (m_refused, .inl (aC 0, 7, .inl mr))] sz) []) (va_A [(g0, .inr (12, [.ref m_refused, .ref m_kind, .ref m_figure, .ref m_weight, .ref m_got, .ref m_setting, .int men, .int msy, .int mdn, .ref m_tape, .ref m_letter, .ref m_letterAt, .ref m_told, .int tp, .int mat, .int stm, .ref m_kept, .int hi, .int ki, .int cu, .ref m_price, .ref m_offer, .ref m_gets, .ref m_yes, .ref m_buys, .ref m_ends, .ref m_carried, .ref m_row, .int rm, .ref m_keptRow, .ref m_likeGets, .ref m_likePrice, .ref m_ahead])), (m_refused, .inl (aC 0, 7, .inl mr))] sz)) 0 0 (va_A [(g0, .inr (12, [.ref m_refused, .ref m_kind, .ref m_figure, .ref m_weight, .ref m_got, .ref m_setting, .int men, .int msy, .int mdn, .ref m_tape, .ref m_letter, .ref m_letterAt, .ref m_told, .int tp, .int mat, .int stm, .ref m_kept, .int hi, .int ki, .int cu, .ref m_price, .ref m_offer, .ref m_gets, .ref m_yes, .ref m_buys, .ref m_ends, .ref m_carried, .ref m_row, .int rm, .ref m_keptRow, .ref m_likeGets, .ref m_likePrice, .ref m_ahead])), (m_refused, .inl (aC 0, 7, .inl mr))] sz) := by
  refine Met.ofW (cc := cX12_carries) (maxL := 2) (ret := (some .int)) (by decide) rfl ?_
  intro p e s m args below meth c s₁ B hml hv
  obtain ⟨rfl, hsz, hP, hK, hD0, hN⟩ := hv
  have hx := B.exec
  have hb := B.bytes
  have hr := B.returns
  have hts0 := atoms_spec (ws := (wW yX12_carries cX12_carries 2 (some .int))) B.pre
  have hts : ∀ w9 ∈ lw_G, w9.before ([.ref g0, .int i] : List Value).toArray s = true := fun w9 h9 => hts0 w9 (List.mem_cons_of_mem _ h9)
  have hown : s.vm.findClass RX12 = some m.cls := findClass_of_methodNamed B.named
  have hlocks := B.notSynchronized
  subst hsz
  have hD := hD0.self (sz := s.heap.size)
  generalize hAe : va_A [(g0, .inr (12, [.ref m_refused, .ref m_kind, .ref m_figure, .ref m_weight, .ref m_got, .ref m_setting, .int men, .int msy, .int mdn, .ref m_tape, .ref m_letter, .ref m_letterAt, .ref m_told, .int tp, .int mat, .int stm, .ref m_kept, .int hi, .int ki, .int cu, .ref m_price, .ref m_offer, .ref m_gets, .ref m_yes, .ref m_buys, .ref m_ends, .ref m_carried, .ref m_row, .int rm, .ref m_keptRow, .ref m_likeGets, .ref m_likePrice, .ref m_ahead])), (m_refused, .inl (aC 0, 7, .inl mr))] s.heap.size = A at hD ⊢
  have hA : ∀ q : Nat, s.heap.size ≤ q → A q := fun q h => by rw [← hAe]; exact Or.inr h
  obtain ⟨H, hHe⟩ : ∃ H : Heap, H = s.heap := ⟨_, rfl⟩
  have hS : va_S A s.heap H [] := by rw [hHe]; exact va_S.rf
  have hP : va_P (dC, dI) classes [(g0, .inr (12, [.ref m_refused, .ref m_kind, .ref m_figure, .ref m_weight, .ref m_got, .ref m_setting, .int men, .int msy, .int mdn, .ref m_tape, .ref m_letter, .ref m_letterAt, .ref m_told, .int tp, .int mat, .int stm, .ref m_kept, .int hi, .int ki, .int cu, .ref m_price, .ref m_offer, .ref m_gets, .ref m_yes, .ref m_buys, .ref m_ends, .ref m_carried, .ref m_row, .int rm, .ref m_keptRow, .ref m_likeGets, .ref m_likePrice, .ref m_ahead])), (m_refused, .inl (aC 0, 7, .inl mr))] H := by rw [hHe]; exact hP
  have hl := lv_entry ([.ref g0, .int i]) (n := 2) (Nat.le_of_ble_eq_true rfl)
  rw [lg_entry_eq]
  generalize (lg_sl ([.ref g0, .int i]) ++ List.replicate (2 - (lg_sl ([.ref g0, .int i])).length) Slot.unset).toArray = ls at hl ⊢
  have hl : lv_has ls 2 [(0, .ref g0), (1, .int i)] := hl
  rw [← hHe]
  refine lv_aload_n hx hb dX12_carries_0 rfl (lv_at hl 0 rfl) ?_
  refine lv_iload_n hx hb dX12_carries_1 rfl (lv_at hl 1 rfl) ?_
  have hPc := hP.sub (ws' := [(g0, .inr (12, [.ref m_refused, .ref m_kind, .ref m_figure, .ref m_weight, .ref m_got, .ref m_setting, .int men, .int msy, .int mdn, .ref m_tape, .ref m_letter, .ref m_letterAt, .ref m_told, .int tp, .int mat, .int stm, .ref m_kept, .int hi, .int ki, .int cu, .ref m_price, .ref m_offer, .ref m_gets, .ref m_yes, .ref m_buys, .ref m_ends, .ref m_carried, .ref m_row, .int rm, .ref m_keptRow, .ref m_likeGets, .ref m_likePrice, .ref m_ahead]))]) [0] rfl
  have hDc := hD.sub (ws' := [(g0, .inr (12, [.ref m_refused, .ref m_kind, .ref m_figure, .ref m_weight, .ref m_got, .ref m_setting, .int men, .int msy, .int mdn, .ref m_tape, .ref m_letter, .ref m_letterAt, .ref m_told, .int tp, .int mat, .int stm, .ref m_kept, .int hi, .int ki, .int cu, .ref m_price, .ref m_offer, .ref m_gets, .ref m_yes, .ref m_buys, .ref m_ends, .ref m_carried, .ref m_row, .int rm, .ref m_keptRow, .ref m_likeGets, .ref m_likePrice, .ref m_ahead]))]) [0] (by decide) rfl
  have hFc := va_free (wc := [(g0, .inr (12, [.ref m_refused, .ref m_kind, .ref m_figure, .ref m_weight, .ref m_got, .ref m_setting, .int men, .int msy, .int mdn, .ref m_tape, .ref m_letter, .ref m_letterAt, .ref m_told, .int tp, .int mat, .int stm, .ref m_kept, .int hi, .int ki, .int cu, .ref m_price, .ref m_offer, .ref m_gets, .ref m_yes, .ref m_buys, .ref m_ends, .ref m_carried, .ref m_row, .int rm, .ref m_keptRow, .ref m_likeGets, .ref m_likePrice, .ref m_ahead]))]) hD hS hA [0] rfl
  refine va_calli (va_runV (As := [.int i]) (rest := []) ⟨hx, hb, hml, hown, hts⟩ (c_X12_isMan l dC dI aC H.size g0 m_refused m_kind m_figure m_weight m_got m_setting m_tape m_letter m_letterAt m_told m_kept m_price m_offer m_gets m_yes m_buys m_ends m_carried m_row m_keptRow m_likeGets m_likePrice m_ahead men msy mdn tp mat stm hi ki cu rm i ) ⟨(callB_of 1 hts (gG kw_878) rfl rfl rfl (hts _ (gw kw_13 rfl)) (hts _ (gw kw_875 rfl)) (by decide +kernel) ⟨Nat.le_of_ble_eq_true rfl, Nat.le_of_ble_eq_true rfl⟩), (hts _ (gw kw_877 rfl)), (hts _ (gw ks_43 rfl))⟩ ⟨fun a U g mk q => by obtain ⟨q0, q1, qP, qK, qD, qN⟩ := q; exact ⟨q0, q1, qP, va_K.moved (u := U) (U := U.calling g mk a) (Vm.Alike.refl U.vm) qK, qD, NX.same (u := U) (U := U.calling g mk a) rfl qN⟩, va_recv hK hPc (ci := 12) (q0 := 0) rfl rfl, fun U hU hW => ⟨rfl, by rw [hU], by rw [hU]; exact hPc, va_K.moved hW.alike hK, hDc.weaken (fun _ _ _ _ => trivial), NX.warm hW hN⟩⟩ rfl rfl hl.1 rfl (lv_room (Nat.le_of_ble_eq_true rfl)) dX12_carries_2 ⟨Nat.le_of_ble_eq_true rfl, Nat.le_of_ble_eq_true rfl⟩) hS (fun q _ h => hFc q h) hFc (fun x_1 u t H1 locs ht hvm hw_1 hB hz1 hk1 hS => ?_)
  obtain ⟨hP1, hK1, hD1⟩ := hB
  rw [ht] at hP1
  clear hK1
  try dsimp only at hw_1
  obtain ⟨hP, hD⟩ := va_join (wr := [(m_refused, .inl (aC 0, 7, .inl mr))]) (w1 := [(g0, .inr (12, [.ref m_refused, .ref m_kind, .ref m_figure, .ref m_weight, .ref m_got, .ref m_setting, .int men, .int msy, .int mdn, .ref m_tape, .ref m_letter, .ref m_letterAt, .ref m_told, .int tp, .int mat, .int stm, .ref m_kept, .int hi, .int ki, .int cu, .ref m_price, .ref m_offer, .ref m_gets, .ref m_yes, .ref m_buys, .ref m_ends, .ref m_carried, .ref m_row, .int rm, .ref m_keptRow, .ref m_likeGets, .ref m_likePrice, .ref m_ahead]))]) hP hD [0] [1] rfl rfl (by decide) (by decide) hk1 hFc hP1 hD1
  generalize H1 = H at hP hS ⊢
  have hP : va_P (dC, dI) classes [(m_refused, .inl (aC 0, 7, .inl mr)), (g0, .inr (12, [.ref m_refused, .ref m_kind, .ref m_figure, .ref m_weight, .ref m_got, .ref m_setting, .int men, .int msy, .int mdn, .ref m_tape, .ref m_letter, .ref m_letterAt, .ref m_told, .int tp, .int mat, .int stm, .ref m_kept, .int hi, .int ki, .int cu, .ref m_price, .ref m_offer, .ref m_gets, .ref m_yes, .ref m_buys, .ref m_ends, .ref m_carried, .ref m_row, .int rm, .ref m_keptRow, .ref m_likeGets, .ref m_likePrice, .ref m_ahead]))] H := hP
  have hD : va_D A [(m_refused, .inl (aC 0, 7, .inl mr)), (g0, .inr (12, [.ref m_refused, .ref m_kind, .ref m_figure, .ref m_weight, .ref m_got, .ref m_setting, .int men, .int msy, .int mdn, .ref m_tape, .ref m_letter, .ref m_letterAt, .ref m_told, .int tp, .int mat, .int stm, .ref m_kept, .int hi, .int ki, .int cu, .ref m_price, .ref m_offer, .ref m_gets, .ref m_yes, .ref m_buys, .ref m_ends, .ref m_carried, .ref m_row, .int rm, .ref m_keptRow, .ref m_likeGets, .ref m_likePrice, .ref m_ahead]))] := hD
  clear hPc hDc hFc hz1 hk1 hP1 hD1 ht hvm
  have hz_2 : x_1 = 0 := by rw [hw_1]; rcases hno with h9 | h9 <;> simp [h9]
  refine lv_if_ne (tgt := 14) hx hb dX12_carries_5 (by decide) (fun c_2 => ?_) (fun c_2 => ?_)
  · exact absurd hz_2 c_2
  · refine lv_aload_n hx hb dX12_carries_8 rfl (lv_at hl 0 rfl) ?_
    refine lv_iconst (v := -1) hx hb dX12_carries_9 (by decide) ?_
    have hPc := hP.sub (ws' := [(g0, .inr (12, [.ref m_refused, .ref m_kind, .ref m_figure, .ref m_weight, .ref m_got, .ref m_setting, .int men, .int msy, .int mdn, .ref m_tape, .ref m_letter, .ref m_letterAt, .ref m_told, .int tp, .int mat, .int stm, .ref m_kept, .int hi, .int ki, .int cu, .ref m_price, .ref m_offer, .ref m_gets, .ref m_yes, .ref m_buys, .ref m_ends, .ref m_carried, .ref m_row, .int rm, .ref m_keptRow, .ref m_likeGets, .ref m_likePrice, .ref m_ahead])), (m_refused, .inl (aC 0, 7, .inl mr))]) [1, 0] rfl
    have hDc := hD.sub (ws' := [(g0, .inr (12, [.ref m_refused, .ref m_kind, .ref m_figure, .ref m_weight, .ref m_got, .ref m_setting, .int men, .int msy, .int mdn, .ref m_tape, .ref m_letter, .ref m_letterAt, .ref m_told, .int tp, .int mat, .int stm, .ref m_kept, .int hi, .int ki, .int cu, .ref m_price, .ref m_offer, .ref m_gets, .ref m_yes, .ref m_buys, .ref m_ends, .ref m_carried, .ref m_row, .int rm, .ref m_keptRow, .ref m_likeGets, .ref m_likePrice, .ref m_ahead])), (m_refused, .inl (aC 0, 7, .inl mr))]) [1, 0] (by decide) rfl
    have hFc := va_free (wc := [(g0, .inr (12, [.ref m_refused, .ref m_kind, .ref m_figure, .ref m_weight, .ref m_got, .ref m_setting, .int men, .int msy, .int mdn, .ref m_tape, .ref m_letter, .ref m_letterAt, .ref m_told, .int tp, .int mat, .int stm, .ref m_kept, .int hi, .int ki, .int cu, .ref m_price, .ref m_offer, .ref m_gets, .ref m_yes, .ref m_buys, .ref m_ends, .ref m_carried, .ref m_row, .int rm, .ref m_keptRow, .ref m_likeGets, .ref m_likePrice, .ref m_ahead])), (m_refused, .inl (aC 0, 7, .inl mr))]) hD hS hA [1, 0] rfl
    refine va_calli (va_runV (As := [.int (-1)]) (rest := []) ⟨hx, hb, hml, hown, hts⟩ (c_X12_no l dC dI aC H.size g0 m_refused m_kind m_figure m_weight m_got m_setting m_tape m_letter m_letterAt m_told m_kept m_price m_offer m_gets m_yes m_buys m_ends m_carried m_row m_keptRow m_likeGets m_likePrice m_ahead men msy mdn tp mat stm hi ki cu rm (-1) 1 mr (by decide) (by unfold vp_in; decide)) ⟨(callB_of 1 hts (gG kw_827) rfl rfl rfl (hts _ (gw kw_13 rfl)) (hts _ (gw kw_824 rfl)) (by decide +kernel) ⟨Nat.le_of_ble_eq_true rfl, Nat.le_of_ble_eq_true rfl⟩), (hts _ (gw kw_826 rfl)), (hts _ (gw ks_35 rfl))⟩ ⟨fun a U g mk q => by obtain ⟨q0, q1, qP, qK, qD, qN⟩ := q; exact ⟨q0, q1, qP, va_K.moved (u := U) (U := U.calling g mk a) (Vm.Alike.refl U.vm) qK, qD, NX.same (u := U) (U := U.calling g mk a) rfl qN⟩, va_recv hK hPc (ci := 12) (q0 := 0) rfl rfl, fun U hU hW => ⟨rfl, by rw [hU], by rw [hU]; exact hPc, va_K.moved hW.alike hK, hDc.weaken (fun _ _ _ _ => trivial), NX.warm hW hN⟩⟩ rfl rfl hl.1 rfl (lv_room (Nat.le_of_ble_eq_true rfl)) dX12_carries_10 ⟨Nat.le_of_ble_eq_true rfl, Nat.le_of_ble_eq_true rfl⟩) hS (fun q _ h => hFc q h) hFc (fun x_3 u t H1 locs ht hvm hw_3 hB hz1 hk1 hS => ?_)
    obtain ⟨u_4, rfl⟩ : ∃ z, z = u := ⟨_, rfl⟩
    obtain ⟨hP1, hK1, hD1⟩ := hB
    rw [ht] at hP1
    clear hK1
    try dsimp only at hw_3
    obtain ⟨hP, hD⟩ := va_join (wr := []) (w1 := [(g0, .inr (12, [.ref m_refused, .ref m_kind, .ref m_figure, .ref m_weight, .ref m_got, .ref m_setting, .int men, .int msy, .int mdn, .ref m_tape, .ref m_letter, .ref m_letterAt, .ref m_told, .int tp, .int mat, .int stm, .ref m_kept, .int hi, .int ki, .int cu, .ref m_price, .ref m_offer, .ref m_gets, .ref m_yes, .ref m_buys, .ref m_ends, .ref m_carried, .ref m_row, .int rm, .ref m_keptRow, .ref m_likeGets, .ref m_likePrice, .ref m_ahead])), (m_refused, .inl (aC 0, 7, .inl u_4))]) hP hD [1, 0] [] rfl rfl (by decide) (by decide) hk1 hFc hP1 hD1
    generalize H1 = H at hP hS ⊢
    have hP : va_P (dC, dI) classes [(g0, .inr (12, [.ref m_refused, .ref m_kind, .ref m_figure, .ref m_weight, .ref m_got, .ref m_setting, .int men, .int msy, .int mdn, .ref m_tape, .ref m_letter, .ref m_letterAt, .ref m_told, .int tp, .int mat, .int stm, .ref m_kept, .int hi, .int ki, .int cu, .ref m_price, .ref m_offer, .ref m_gets, .ref m_yes, .ref m_buys, .ref m_ends, .ref m_carried, .ref m_row, .int rm, .ref m_keptRow, .ref m_likeGets, .ref m_likePrice, .ref m_ahead])), (m_refused, .inl (aC 0, 7, .inl u_4))] H := hP
    have hD : va_D A [(g0, .inr (12, [.ref m_refused, .ref m_kind, .ref m_figure, .ref m_weight, .ref m_got, .ref m_setting, .int men, .int msy, .int mdn, .ref m_tape, .ref m_letter, .ref m_letterAt, .ref m_told, .int tp, .int mat, .int stm, .ref m_kept, .int hi, .int ki, .int cu, .ref m_price, .ref m_offer, .ref m_gets, .ref m_yes, .ref m_buys, .ref m_ends, .ref m_carried, .ref m_row, .int rm, .ref m_keptRow, .ref m_likeGets, .ref m_likePrice, .ref m_ahead])), (m_refused, .inl (aC 0, 7, .inl u_4))] := hD
    clear hPc hDc hFc hz1 hk1 hP1 hD1 ht hvm
    obtain ⟨hv9, hv8⟩ := hw_3
    have hP9 := hP.sub (ws' := []) [] rfl
    have hD9 := hD.sub (ws' := []) [] (by decide) rfl
    refine W.widen (k := 0) (n := 0) (by omega) (by omega) ?_
    exact W.iret (v := x_3) hx hb hr (fun t ht hW => ⟨⟨x_3, (), rfl, hv9, by rw [ht]; exact hP9, va_K.moved hW.alike hK, hD9⟩, hS.F ht⟩) hS.2.2 dX12_carries_13

set_option maxHeartbeats 4000000 in
set_option maxRecDepth 100000 in
/-- X12_ends_r -/
theorem c_X12_ends_r (l : Launch) (dC : Nat → ClassId) (dI : Nat → Nat → Nat) (aC : Nat → ClassId) (sz : Nat) (g0 : Nat) (m_refused : Nat) (m_kind : Nat) (m_figure : Nat) (m_weight : Nat) (m_got : Nat) (m_setting : Nat) (m_tape : Nat) (m_letter : Nat) (m_letterAt : Nat) (m_told : Nat) (m_kept : Nat) (m_price : Nat) (m_offer : Nat) (m_gets : Nat) (m_yes : Nat) (m_buys : Nat) (m_ends : Nat) (m_carried : Nat) (m_row : Nat) (m_keptRow : Nat) (m_likeGets : Nat) (m_likePrice : Nat) (m_ahead : Nat) (men : Int32) (msy : Int32) (mdn : Int32) (tp : Int32) (mat : Int32) (stm : Int32) (hi : Int32) (ki : Int32) (cu : Int32) (rm : Int32) (mr : Nat → Int32) (i : Int32) (hno : i < 0 ∨ men ≤ i) : Met l yX12_ends (wW yX12_ends cX12_ends 2 (some .int)) ({ frames := 1, cells := 0, slots := 0, locals := 21 } : Room) (va_Pc [.ref g0, .int i] (fun U => U.heap.size = sz ∧ va_P (dC, dI) classes [(g0, .inr (12, [.ref m_refused, .ref m_kind, .ref m_figure, .ref m_weight, .ref m_got, .ref m_setting, .int men, .int msy, .int mdn, .ref m_tape, .ref m_letter, .ref m_letterAt, .ref m_told, .int tp, .int mat, .int stm, .ref m_kept, .int hi, .int ki, .int cu, .ref m_price, .ref m_offer, .ref m_gets, .ref m_yes, .ref m_buys, .ref m_ends, .ref m_carried, .ref m_row, .int rm, .ref m_keptRow, .ref m_likeGets, .ref m_likePrice, .ref m_ahead])), (m_refused, .inl (aC 0, 7, .inl mr))] U.heap ∧ va_K (dC, dI) classes (TY aC) U ∧ va_D (fun _ => True) [(g0, .inr (12, [.ref m_refused, .ref m_kind, .ref m_figure, .ref m_weight, .ref m_got, .ref m_setting, .int men, .int msy, .int mdn, .ref m_tape, .ref m_letter, .ref m_letterAt, .ref m_told, .int tp, .int mat, .int stm, .ref m_kept, .int hi, .int ki, .int cu, .ref m_price, .ref m_offer, .ref m_gets, .ref m_yes, .ref m_buys, .ref m_ends, .ref m_carried, .ref m_row, .int rm, .ref m_keptRow, .ref m_likeGets, .ref m_likePrice, .ref m_ahead])), (m_refused, .inl (aC 0, 7, .inl mr))] ∧ NX U)) (va_Qi (fun (r : Int32) (_ : Unit) => r = -1) (fun (_ : Unit) (t : State) => va_P (dC, dI) classes [] t.heap ∧ va_K (dC, dI) classes (TY aC) t ∧ va_D (va_A [(g0, .inr (12, [.ref m_refused, .ref m_kind, .ref m_figure, .ref m_weight, .ref m_got, .ref m_setting, .int men, .int msy, .int mdn, .ref m_tape, .ref m_letter, .ref m_letterAt, .ref m_told, .int tp, .int mat, .int stm, .ref m_kept, .int hi, .int ki, .int cu, .ref m_price, .ref m_offer, .ref m_gets, .ref m_yes, .ref m_buys, .ref m_ends, .ref m_carried, .ref m_row, .int rm, .ref m_keptRow, .ref m_likeGets, .ref m_likePrice, .ref m_ahead])), (m_refused, .inl (aC 0, 7, .inl mr))] sz) []) (va_A [(g0, .inr (12, [.ref m_refused, .ref m_kind, .ref m_figure, .ref m_weight, .ref m_got, .ref m_setting, .int men, .int msy, .int mdn, .ref m_tape, .ref m_letter, .ref m_letterAt, .ref m_told, .int tp, .int mat, .int stm, .ref m_kept, .int hi, .int ki, .int cu, .ref m_price, .ref m_offer, .ref m_gets, .ref m_yes, .ref m_buys, .ref m_ends, .ref m_carried, .ref m_row, .int rm, .ref m_keptRow, .ref m_likeGets, .ref m_likePrice, .ref m_ahead])), (m_refused, .inl (aC 0, 7, .inl mr))] sz)) 0 0 (va_A [(g0, .inr (12, [.ref m_refused, .ref m_kind, .ref m_figure, .ref m_weight, .ref m_got, .ref m_setting, .int men, .int msy, .int mdn, .ref m_tape, .ref m_letter, .ref m_letterAt, .ref m_told, .int tp, .int mat, .int stm, .ref m_kept, .int hi, .int ki, .int cu, .ref m_price, .ref m_offer, .ref m_gets, .ref m_yes, .ref m_buys, .ref m_ends, .ref m_carried, .ref m_row, .int rm, .ref m_keptRow, .ref m_likeGets, .ref m_likePrice, .ref m_ahead])), (m_refused, .inl (aC 0, 7, .inl mr))] sz) := by
  refine Met.ofW (cc := cX12_ends) (maxL := 2) (ret := (some .int)) (by decide) rfl ?_
  intro p e s m args below meth c s₁ B hml hv
  obtain ⟨rfl, hsz, hP, hK, hD0, hN⟩ := hv
  have hx := B.exec
  have hb := B.bytes
  have hr := B.returns
  have hts0 := atoms_spec (ws := (wW yX12_ends cX12_ends 2 (some .int))) B.pre
  have hts : ∀ w9 ∈ lw_G, w9.before ([.ref g0, .int i] : List Value).toArray s = true := fun w9 h9 => hts0 w9 (List.mem_cons_of_mem _ h9)
  have hown : s.vm.findClass RX12 = some m.cls := findClass_of_methodNamed B.named
  have hlocks := B.notSynchronized
  subst hsz
  have hD := hD0.self (sz := s.heap.size)
  generalize hAe : va_A [(g0, .inr (12, [.ref m_refused, .ref m_kind, .ref m_figure, .ref m_weight, .ref m_got, .ref m_setting, .int men, .int msy, .int mdn, .ref m_tape, .ref m_letter, .ref m_letterAt, .ref m_told, .int tp, .int mat, .int stm, .ref m_kept, .int hi, .int ki, .int cu, .ref m_price, .ref m_offer, .ref m_gets, .ref m_yes, .ref m_buys, .ref m_ends, .ref m_carried, .ref m_row, .int rm, .ref m_keptRow, .ref m_likeGets, .ref m_likePrice, .ref m_ahead])), (m_refused, .inl (aC 0, 7, .inl mr))] s.heap.size = A at hD ⊢
  have hA : ∀ q : Nat, s.heap.size ≤ q → A q := fun q h => by rw [← hAe]; exact Or.inr h
  obtain ⟨H, hHe⟩ : ∃ H : Heap, H = s.heap := ⟨_, rfl⟩
  have hS : va_S A s.heap H [] := by rw [hHe]; exact va_S.rf
  have hP : va_P (dC, dI) classes [(g0, .inr (12, [.ref m_refused, .ref m_kind, .ref m_figure, .ref m_weight, .ref m_got, .ref m_setting, .int men, .int msy, .int mdn, .ref m_tape, .ref m_letter, .ref m_letterAt, .ref m_told, .int tp, .int mat, .int stm, .ref m_kept, .int hi, .int ki, .int cu, .ref m_price, .ref m_offer, .ref m_gets, .ref m_yes, .ref m_buys, .ref m_ends, .ref m_carried, .ref m_row, .int rm, .ref m_keptRow, .ref m_likeGets, .ref m_likePrice, .ref m_ahead])), (m_refused, .inl (aC 0, 7, .inl mr))] H := by rw [hHe]; exact hP
  have hl := lv_entry ([.ref g0, .int i]) (n := 2) (Nat.le_of_ble_eq_true rfl)
  rw [lg_entry_eq]
  generalize (lg_sl ([.ref g0, .int i]) ++ List.replicate (2 - (lg_sl ([.ref g0, .int i])).length) Slot.unset).toArray = ls at hl ⊢
  have hl : lv_has ls 2 [(0, .ref g0), (1, .int i)] := hl
  rw [← hHe]
  refine lv_aload_n hx hb dX12_ends_0 rfl (lv_at hl 0 rfl) ?_
  refine lv_iload_n hx hb dX12_ends_1 rfl (lv_at hl 1 rfl) ?_
  have hPc := hP.sub (ws' := [(g0, .inr (12, [.ref m_refused, .ref m_kind, .ref m_figure, .ref m_weight, .ref m_got, .ref m_setting, .int men, .int msy, .int mdn, .ref m_tape, .ref m_letter, .ref m_letterAt, .ref m_told, .int tp, .int mat, .int stm, .ref m_kept, .int hi, .int ki, .int cu, .ref m_price, .ref m_offer, .ref m_gets, .ref m_yes, .ref m_buys, .ref m_ends, .ref m_carried, .ref m_row, .int rm, .ref m_keptRow, .ref m_likeGets, .ref m_likePrice, .ref m_ahead]))]) [0] rfl
  have hDc := hD.sub (ws' := [(g0, .inr (12, [.ref m_refused, .ref m_kind, .ref m_figure, .ref m_weight, .ref m_got, .ref m_setting, .int men, .int msy, .int mdn, .ref m_tape, .ref m_letter, .ref m_letterAt, .ref m_told, .int tp, .int mat, .int stm, .ref m_kept, .int hi, .int ki, .int cu, .ref m_price, .ref m_offer, .ref m_gets, .ref m_yes, .ref m_buys, .ref m_ends, .ref m_carried, .ref m_row, .int rm, .ref m_keptRow, .ref m_likeGets, .ref m_likePrice, .ref m_ahead]))]) [0] (by decide) rfl
  have hFc := va_free (wc := [(g0, .inr (12, [.ref m_refused, .ref m_kind, .ref m_figure, .ref m_weight, .ref m_got, .ref m_setting, .int men, .int msy, .int mdn, .ref m_tape, .ref m_letter, .ref m_letterAt, .ref m_told, .int tp, .int mat, .int stm, .ref m_kept, .int hi, .int ki, .int cu, .ref m_price, .ref m_offer, .ref m_gets, .ref m_yes, .ref m_buys, .ref m_ends, .ref m_carried, .ref m_row, .int rm, .ref m_keptRow, .ref m_likeGets, .ref m_likePrice, .ref m_ahead]))]) hD hS hA [0] rfl
  refine va_calli (va_runV (As := [.int i]) (rest := []) ⟨hx, hb, hml, hown, hts⟩ (c_X12_isMan l dC dI aC H.size g0 m_refused m_kind m_figure m_weight m_got m_setting m_tape m_letter m_letterAt m_told m_kept m_price m_offer m_gets m_yes m_buys m_ends m_carried m_row m_keptRow m_likeGets m_likePrice m_ahead men msy mdn tp mat stm hi ki cu rm i ) ⟨(callB_of 1 hts (gG kw_878) rfl rfl rfl (hts _ (gw kw_13 rfl)) (hts _ (gw kw_875 rfl)) (by decide +kernel) ⟨Nat.le_of_ble_eq_true rfl, Nat.le_of_ble_eq_true rfl⟩), (hts _ (gw kw_877 rfl)), (hts _ (gw ks_43 rfl))⟩ ⟨fun a U g mk q => by obtain ⟨q0, q1, qP, qK, qD, qN⟩ := q; exact ⟨q0, q1, qP, va_K.moved (u := U) (U := U.calling g mk a) (Vm.Alike.refl U.vm) qK, qD, NX.same (u := U) (U := U.calling g mk a) rfl qN⟩, va_recv hK hPc (ci := 12) (q0 := 0) rfl rfl, fun U hU hW => ⟨rfl, by rw [hU], by rw [hU]; exact hPc, va_K.moved hW.alike hK, hDc.weaken (fun _ _ _ _ => trivial), NX.warm hW hN⟩⟩ rfl rfl hl.1 rfl (lv_room (Nat.le_of_ble_eq_true rfl)) dX12_ends_2 ⟨Nat.le_of_ble_eq_true rfl, Nat.le_of_ble_eq_true rfl⟩) hS (fun q _ h => hFc q h) hFc (fun x_1 u t H1 locs ht hvm hw_1 hB hz1 hk1 hS => ?_)
  obtain ⟨hP1, hK1, hD1⟩ := hB
  rw [ht] at hP1
  clear hK1
  try dsimp only at hw_1
  obtain ⟨hP, hD⟩ := va_join (wr := [(m_refused, .inl (aC 0, 7, .inl mr))]) (w1 := [(g0, .inr (12, [.ref m_refused, .ref m_kind, .ref m_figure, .ref m_weight, .ref m_got, .ref m_setting, .int men, .int msy, .int mdn, .ref m_tape, .ref m_letter, .ref m_letterAt, .ref m_told, .int tp, .int mat, .int stm, .ref m_kept, .int hi, .int ki, .int cu, .ref m_price, .ref m_offer, .ref m_gets, .ref m_yes, .ref m_buys, .ref m_ends, .ref m_carried, .ref m_row, .int rm, .ref m_keptRow, .ref m_likeGets, .ref m_likePrice, .ref m_ahead]))]) hP hD [0] [1] rfl rfl (by decide) (by decide) hk1 hFc hP1 hD1
  generalize H1 = H at hP hS ⊢
  have hP : va_P (dC, dI) classes [(m_refused, .inl (aC 0, 7, .inl mr)), (g0, .inr (12, [.ref m_refused, .ref m_kind, .ref m_figure, .ref m_weight, .ref m_got, .ref m_setting, .int men, .int msy, .int mdn, .ref m_tape, .ref m_letter, .ref m_letterAt, .ref m_told, .int tp, .int mat, .int stm, .ref m_kept, .int hi, .int ki, .int cu, .ref m_price, .ref m_offer, .ref m_gets, .ref m_yes, .ref m_buys, .ref m_ends, .ref m_carried, .ref m_row, .int rm, .ref m_keptRow, .ref m_likeGets, .ref m_likePrice, .ref m_ahead]))] H := hP
  have hD : va_D A [(m_refused, .inl (aC 0, 7, .inl mr)), (g0, .inr (12, [.ref m_refused, .ref m_kind, .ref m_figure, .ref m_weight, .ref m_got, .ref m_setting, .int men, .int msy, .int mdn, .ref m_tape, .ref m_letter, .ref m_letterAt, .ref m_told, .int tp, .int mat, .int stm, .ref m_kept, .int hi, .int ki, .int cu, .ref m_price, .ref m_offer, .ref m_gets, .ref m_yes, .ref m_buys, .ref m_ends, .ref m_carried, .ref m_row, .int rm, .ref m_keptRow, .ref m_likeGets, .ref m_likePrice, .ref m_ahead]))] := hD
  clear hPc hDc hFc hz1 hk1 hP1 hD1 ht hvm
  have hz_2 : x_1 = 0 := by rw [hw_1]; rcases hno with h9 | h9 <;> simp [h9]
  refine lv_if_ne (tgt := 14) hx hb dX12_ends_5 (by decide) (fun c_2 => ?_) (fun c_2 => ?_)
  · exact absurd hz_2 c_2
  · refine lv_aload_n hx hb dX12_ends_8 rfl (lv_at hl 0 rfl) ?_
    refine lv_iconst (v := -1) hx hb dX12_ends_9 (by decide) ?_
    have hPc := hP.sub (ws' := [(g0, .inr (12, [.ref m_refused, .ref m_kind, .ref m_figure, .ref m_weight, .ref m_got, .ref m_setting, .int men, .int msy, .int mdn, .ref m_tape, .ref m_letter, .ref m_letterAt, .ref m_told, .int tp, .int mat, .int stm, .ref m_kept, .int hi, .int ki, .int cu, .ref m_price, .ref m_offer, .ref m_gets, .ref m_yes, .ref m_buys, .ref m_ends, .ref m_carried, .ref m_row, .int rm, .ref m_keptRow, .ref m_likeGets, .ref m_likePrice, .ref m_ahead])), (m_refused, .inl (aC 0, 7, .inl mr))]) [1, 0] rfl
    have hDc := hD.sub (ws' := [(g0, .inr (12, [.ref m_refused, .ref m_kind, .ref m_figure, .ref m_weight, .ref m_got, .ref m_setting, .int men, .int msy, .int mdn, .ref m_tape, .ref m_letter, .ref m_letterAt, .ref m_told, .int tp, .int mat, .int stm, .ref m_kept, .int hi, .int ki, .int cu, .ref m_price, .ref m_offer, .ref m_gets, .ref m_yes, .ref m_buys, .ref m_ends, .ref m_carried, .ref m_row, .int rm, .ref m_keptRow, .ref m_likeGets, .ref m_likePrice, .ref m_ahead])), (m_refused, .inl (aC 0, 7, .inl mr))]) [1, 0] (by decide) rfl
    have hFc := va_free (wc := [(g0, .inr (12, [.ref m_refused, .ref m_kind, .ref m_figure, .ref m_weight, .ref m_got, .ref m_setting, .int men, .int msy, .int mdn, .ref m_tape, .ref m_letter, .ref m_letterAt, .ref m_told, .int tp, .int mat, .int stm, .ref m_kept, .int hi, .int ki, .int cu, .ref m_price, .ref m_offer, .ref m_gets, .ref m_yes, .ref m_buys, .ref m_ends, .ref m_carried, .ref m_row, .int rm, .ref m_keptRow, .ref m_likeGets, .ref m_likePrice, .ref m_ahead])), (m_refused, .inl (aC 0, 7, .inl mr))]) hD hS hA [1, 0] rfl
    refine va_calli (va_runV (As := [.int (-1)]) (rest := []) ⟨hx, hb, hml, hown, hts⟩ (c_X12_no l dC dI aC H.size g0 m_refused m_kind m_figure m_weight m_got m_setting m_tape m_letter m_letterAt m_told m_kept m_price m_offer m_gets m_yes m_buys m_ends m_carried m_row m_keptRow m_likeGets m_likePrice m_ahead men msy mdn tp mat stm hi ki cu rm (-1) 1 mr (by decide) (by unfold vp_in; decide)) ⟨(callB_of 1 hts (gG kw_827) rfl rfl rfl (hts _ (gw kw_13 rfl)) (hts _ (gw kw_824 rfl)) (by decide +kernel) ⟨Nat.le_of_ble_eq_true rfl, Nat.le_of_ble_eq_true rfl⟩), (hts _ (gw kw_826 rfl)), (hts _ (gw ks_35 rfl))⟩ ⟨fun a U g mk q => by obtain ⟨q0, q1, qP, qK, qD, qN⟩ := q; exact ⟨q0, q1, qP, va_K.moved (u := U) (U := U.calling g mk a) (Vm.Alike.refl U.vm) qK, qD, NX.same (u := U) (U := U.calling g mk a) rfl qN⟩, va_recv hK hPc (ci := 12) (q0 := 0) rfl rfl, fun U hU hW => ⟨rfl, by rw [hU], by rw [hU]; exact hPc, va_K.moved hW.alike hK, hDc.weaken (fun _ _ _ _ => trivial), NX.warm hW hN⟩⟩ rfl rfl hl.1 rfl (lv_room (Nat.le_of_ble_eq_true rfl)) dX12_ends_10 ⟨Nat.le_of_ble_eq_true rfl, Nat.le_of_ble_eq_true rfl⟩) hS (fun q _ h => hFc q h) hFc (fun x_3 u t H1 locs ht hvm hw_3 hB hz1 hk1 hS => ?_)
    obtain ⟨u_4, rfl⟩ : ∃ z, z = u := ⟨_, rfl⟩
    obtain ⟨hP1, hK1, hD1⟩ := hB
    rw [ht] at hP1
    clear hK1
    try dsimp only at hw_3
    obtain ⟨hP, hD⟩ := va_join (wr := []) (w1 := [(g0, .inr (12, [.ref m_refused, .ref m_kind, .ref m_figure, .ref m_weight, .ref m_got, .ref m_setting, .int men, .int msy, .int mdn, .ref m_tape, .ref m_letter, .ref m_letterAt, .ref m_told, .int tp, .int mat, .int stm, .ref m_kept, .int hi, .int ki, .int cu, .ref m_price, .ref m_offer, .ref m_gets, .ref m_yes, .ref m_buys, .ref m_ends, .ref m_carried, .ref m_row, .int rm, .ref m_keptRow, .ref m_likeGets, .ref m_likePrice, .ref m_ahead])), (m_refused, .inl (aC 0, 7, .inl u_4))]) hP hD [1, 0] [] rfl rfl (by decide) (by decide) hk1 hFc hP1 hD1
    generalize H1 = H at hP hS ⊢
    have hP : va_P (dC, dI) classes [(g0, .inr (12, [.ref m_refused, .ref m_kind, .ref m_figure, .ref m_weight, .ref m_got, .ref m_setting, .int men, .int msy, .int mdn, .ref m_tape, .ref m_letter, .ref m_letterAt, .ref m_told, .int tp, .int mat, .int stm, .ref m_kept, .int hi, .int ki, .int cu, .ref m_price, .ref m_offer, .ref m_gets, .ref m_yes, .ref m_buys, .ref m_ends, .ref m_carried, .ref m_row, .int rm, .ref m_keptRow, .ref m_likeGets, .ref m_likePrice, .ref m_ahead])), (m_refused, .inl (aC 0, 7, .inl u_4))] H := hP
    have hD : va_D A [(g0, .inr (12, [.ref m_refused, .ref m_kind, .ref m_figure, .ref m_weight, .ref m_got, .ref m_setting, .int men, .int msy, .int mdn, .ref m_tape, .ref m_letter, .ref m_letterAt, .ref m_told, .int tp, .int mat, .int stm, .ref m_kept, .int hi, .int ki, .int cu, .ref m_price, .ref m_offer, .ref m_gets, .ref m_yes, .ref m_buys, .ref m_ends, .ref m_carried, .ref m_row, .int rm, .ref m_keptRow, .ref m_likeGets, .ref m_likePrice, .ref m_ahead])), (m_refused, .inl (aC 0, 7, .inl u_4))] := hD
    clear hPc hDc hFc hz1 hk1 hP1 hD1 ht hvm
    obtain ⟨hv9, hv8⟩ := hw_3
    have hP9 := hP.sub (ws' := []) [] rfl
    have hD9 := hD.sub (ws' := []) [] (by decide) rfl
    refine W.widen (k := 0) (n := 0) (by omega) (by omega) ?_
    exact W.iret (v := x_3) hx hb hr (fun t ht hW => ⟨⟨x_3, (), rfl, hv9, by rw [ht]; exact hP9, va_K.moved hW.alike hK, hD9⟩, hS.F ht⟩) hS.2.2 dX12_ends_13

set_option maxHeartbeats 4000000 in
set_option maxRecDepth 100000 in
/-- X12_gets_r -/
theorem c_X12_gets_r (l : Launch) (dC : Nat → ClassId) (dI : Nat → Nat → Nat) (aC : Nat → ClassId) (sz : Nat) (g0 : Nat) (m_refused : Nat) (m_kind : Nat) (m_figure : Nat) (m_weight : Nat) (m_got : Nat) (m_setting : Nat) (m_tape : Nat) (m_letter : Nat) (m_letterAt : Nat) (m_told : Nat) (m_kept : Nat) (m_price : Nat) (m_offer : Nat) (m_gets : Nat) (m_yes : Nat) (m_buys : Nat) (m_ends : Nat) (m_carried : Nat) (m_row : Nat) (m_keptRow : Nat) (m_likeGets : Nat) (m_likePrice : Nat) (m_ahead : Nat) (men : Int32) (msy : Int32) (mdn : Int32) (tp : Int32) (mat : Int32) (stm : Int32) (hi : Int32) (ki : Int32) (cu : Int32) (rm : Int32) (mr : Nat → Int32) (i : Int32) (a2 : Int32) (hno : i < 0 ∨ men ≤ i) : Met l yX12_gets (wW yX12_gets cX12_gets 3 (some .int)) ({ frames := 2, cells := 0, slots := 0, locals := 43 } : Room) (va_Pc [.ref g0, .int i, .int a2] (fun U => U.heap.size = sz ∧ va_P (dC, dI) classes [(g0, .inr (12, [.ref m_refused, .ref m_kind, .ref m_figure, .ref m_weight, .ref m_got, .ref m_setting, .int men, .int msy, .int mdn, .ref m_tape, .ref m_letter, .ref m_letterAt, .ref m_told, .int tp, .int mat, .int stm, .ref m_kept, .int hi, .int ki, .int cu, .ref m_price, .ref m_offer, .ref m_gets, .ref m_yes, .ref m_buys, .ref m_ends, .ref m_carried, .ref m_row, .int rm, .ref m_keptRow, .ref m_likeGets, .ref m_likePrice, .ref m_ahead])), (m_refused, .inl (aC 0, 7, .inl mr))] U.heap ∧ va_K (dC, dI) classes (TY aC) U ∧ va_D (fun _ => True) [(g0, .inr (12, [.ref m_refused, .ref m_kind, .ref m_figure, .ref m_weight, .ref m_got, .ref m_setting, .int men, .int msy, .int mdn, .ref m_tape, .ref m_letter, .ref m_letterAt, .ref m_told, .int tp, .int mat, .int stm, .ref m_kept, .int hi, .int ki, .int cu, .ref m_price, .ref m_offer, .ref m_gets, .ref m_yes, .ref m_buys, .ref m_ends, .ref m_carried, .ref m_row, .int rm, .ref m_keptRow, .ref m_likeGets, .ref m_likePrice, .ref m_ahead])), (m_refused, .inl (aC 0, 7, .inl mr))] ∧ NX U)) (va_Qi (fun (r : Int32) (_ : Unit) => r = 1000000001) (fun (_ : Unit) (t : State) => va_P (dC, dI) classes [] t.heap ∧ va_K (dC, dI) classes (TY aC) t ∧ va_D (va_A [(g0, .inr (12, [.ref m_refused, .ref m_kind, .ref m_figure, .ref m_weight, .ref m_got, .ref m_setting, .int men, .int msy, .int mdn, .ref m_tape, .ref m_letter, .ref m_letterAt, .ref m_told, .int tp, .int mat, .int stm, .ref m_kept, .int hi, .int ki, .int cu, .ref m_price, .ref m_offer, .ref m_gets, .ref m_yes, .ref m_buys, .ref m_ends, .ref m_carried, .ref m_row, .int rm, .ref m_keptRow, .ref m_likeGets, .ref m_likePrice, .ref m_ahead])), (m_refused, .inl (aC 0, 7, .inl mr))] sz) []) (va_A [(g0, .inr (12, [.ref m_refused, .ref m_kind, .ref m_figure, .ref m_weight, .ref m_got, .ref m_setting, .int men, .int msy, .int mdn, .ref m_tape, .ref m_letter, .ref m_letterAt, .ref m_told, .int tp, .int mat, .int stm, .ref m_kept, .int hi, .int ki, .int cu, .ref m_price, .ref m_offer, .ref m_gets, .ref m_yes, .ref m_buys, .ref m_ends, .ref m_carried, .ref m_row, .int rm, .ref m_keptRow, .ref m_likeGets, .ref m_likePrice, .ref m_ahead])), (m_refused, .inl (aC 0, 7, .inl mr))] sz)) 0 0 (va_A [(g0, .inr (12, [.ref m_refused, .ref m_kind, .ref m_figure, .ref m_weight, .ref m_got, .ref m_setting, .int men, .int msy, .int mdn, .ref m_tape, .ref m_letter, .ref m_letterAt, .ref m_told, .int tp, .int mat, .int stm, .ref m_kept, .int hi, .int ki, .int cu, .ref m_price, .ref m_offer, .ref m_gets, .ref m_yes, .ref m_buys, .ref m_ends, .ref m_carried, .ref m_row, .int rm, .ref m_keptRow, .ref m_likeGets, .ref m_likePrice, .ref m_ahead])), (m_refused, .inl (aC 0, 7, .inl mr))] sz) := by
  refine Met.ofW (cc := cX12_gets) (maxL := 3) (ret := (some .int)) (by decide) rfl ?_
  intro p e s m args below meth c s₁ B hml hv
  obtain ⟨rfl, hsz, hP, hK, hD0, hN⟩ := hv
  have hx := B.exec
  have hb := B.bytes
  have hr := B.returns
  have hts0 := atoms_spec (ws := (wW yX12_gets cX12_gets 3 (some .int))) B.pre
  have hts : ∀ w9 ∈ lw_G, w9.before ([.ref g0, .int i, .int a2] : List Value).toArray s = true := fun w9 h9 => hts0 w9 (List.mem_cons_of_mem _ h9)
  have hown : s.vm.findClass RX12 = some m.cls := findClass_of_methodNamed B.named
  have hlocks := B.notSynchronized
  subst hsz
  have hD := hD0.self (sz := s.heap.size)
  generalize hAe : va_A [(g0, .inr (12, [.ref m_refused, .ref m_kind, .ref m_figure, .ref m_weight, .ref m_got, .ref m_setting, .int men, .int msy, .int mdn, .ref m_tape, .ref m_letter, .ref m_letterAt, .ref m_told, .int tp, .int mat, .int stm, .ref m_kept, .int hi, .int ki, .int cu, .ref m_price, .ref m_offer, .ref m_gets, .ref m_yes, .ref m_buys, .ref m_ends, .ref m_carried, .ref m_row, .int rm, .ref m_keptRow, .ref m_likeGets, .ref m_likePrice, .ref m_ahead])), (m_refused, .inl (aC 0, 7, .inl mr))] s.heap.size = A at hD ⊢
  have hA : ∀ q : Nat, s.heap.size ≤ q → A q := fun q h => by rw [← hAe]; exact Or.inr h
  obtain ⟨H, hHe⟩ : ∃ H : Heap, H = s.heap := ⟨_, rfl⟩
  have hS : va_S A s.heap H [] := by rw [hHe]; exact va_S.rf
  have hP : va_P (dC, dI) classes [(g0, .inr (12, [.ref m_refused, .ref m_kind, .ref m_figure, .ref m_weight, .ref m_got, .ref m_setting, .int men, .int msy, .int mdn, .ref m_tape, .ref m_letter, .ref m_letterAt, .ref m_told, .int tp, .int mat, .int stm, .ref m_kept, .int hi, .int ki, .int cu, .ref m_price, .ref m_offer, .ref m_gets, .ref m_yes, .ref m_buys, .ref m_ends, .ref m_carried, .ref m_row, .int rm, .ref m_keptRow, .ref m_likeGets, .ref m_likePrice, .ref m_ahead])), (m_refused, .inl (aC 0, 7, .inl mr))] H := by rw [hHe]; exact hP
  have hl := lv_entry ([.ref g0, .int i, .int a2]) (n := 3) (Nat.le_of_ble_eq_true rfl)
  rw [lg_entry_eq]
  generalize (lg_sl ([.ref g0, .int i, .int a2]) ++ List.replicate (3 - (lg_sl ([.ref g0, .int i, .int a2])).length) Slot.unset).toArray = ls at hl ⊢
  have hl : lv_has ls 3 [(0, .ref g0), (1, .int i), (2, .int a2)] := hl
  rw [← hHe]
  refine lv_aload_n hx hb dX12_gets_0 rfl (lv_at hl 0 rfl) ?_
  refine lv_iload_n hx hb dX12_gets_1 rfl (lv_at hl 1 rfl) ?_
  refine lv_iload_n hx hb dX12_gets_2 rfl (lv_at hl 2 rfl) ?_
  have hPc := hP.sub (ws' := [(g0, .inr (12, [.ref m_refused, .ref m_kind, .ref m_figure, .ref m_weight, .ref m_got, .ref m_setting, .int men, .int msy, .int mdn, .ref m_tape, .ref m_letter, .ref m_letterAt, .ref m_told, .int tp, .int mat, .int stm, .ref m_kept, .int hi, .int ki, .int cu, .ref m_price, .ref m_offer, .ref m_gets, .ref m_yes, .ref m_buys, .ref m_ends, .ref m_carried, .ref m_row, .int rm, .ref m_keptRow, .ref m_likeGets, .ref m_likePrice, .ref m_ahead]))]) [0] rfl
  have hDc := hD.sub (ws' := [(g0, .inr (12, [.ref m_refused, .ref m_kind, .ref m_figure, .ref m_weight, .ref m_got, .ref m_setting, .int men, .int msy, .int mdn, .ref m_tape, .ref m_letter, .ref m_letterAt, .ref m_told, .int tp, .int mat, .int stm, .ref m_kept, .int hi, .int ki, .int cu, .ref m_price, .ref m_offer, .ref m_gets, .ref m_yes, .ref m_buys, .ref m_ends, .ref m_carried, .ref m_row, .int rm, .ref m_keptRow, .ref m_likeGets, .ref m_likePrice, .ref m_ahead]))]) [0] (by decide) rfl
  have hFc := va_free (wc := [(g0, .inr (12, [.ref m_refused, .ref m_kind, .ref m_figure, .ref m_weight, .ref m_got, .ref m_setting, .int men, .int msy, .int mdn, .ref m_tape, .ref m_letter, .ref m_letterAt, .ref m_told, .int tp, .int mat, .int stm, .ref m_kept, .int hi, .int ki, .int cu, .ref m_price, .ref m_offer, .ref m_gets, .ref m_yes, .ref m_buys, .ref m_ends, .ref m_carried, .ref m_row, .int rm, .ref m_keptRow, .ref m_likeGets, .ref m_likePrice, .ref m_ahead]))]) hD hS hA [0] rfl
  refine va_calli (va_runV (As := [.int i, .int a2]) (rest := []) ⟨hx, hb, hml, hown, hts⟩ (c_X12_areInOrder_r l dC dI aC H.size g0 m_refused m_kind m_figure m_weight m_got m_setting m_tape m_letter m_letterAt m_told m_kept m_price m_offer m_gets m_yes m_buys m_ends m_carried m_row m_keptRow m_likeGets m_likePrice m_ahead men msy mdn tp mat stm hi ki cu rm i a2 (by first | assumption | decide | omega)) ⟨(callB_of 2 hts (gG kw_892) rfl rfl rfl (hts _ (gw kw_13 rfl)) (hts _ (gw kw_889 rfl)) (by decide +kernel) ⟨Nat.le_of_ble_eq_true rfl, Nat.le_of_ble_eq_true rfl⟩), (hts _ (gw kw_891 rfl)), (hts _ (gw ks_44 rfl))⟩ ⟨fun a U g mk q => by obtain ⟨q0, q1, qP, qK, qD, qN⟩ := q; exact ⟨q0, q1, qP, va_K.moved (u := U) (U := U.calling g mk a) (Vm.Alike.refl U.vm) qK, qD, NX.same (u := U) (U := U.calling g mk a) rfl qN⟩, va_recv hK hPc (ci := 12) (q0 := 0) rfl rfl, fun U hU hW => ⟨rfl, by rw [hU], by rw [hU]; exact hPc, va_K.moved hW.alike hK, hDc.weaken (fun _ _ _ _ => trivial), NX.warm hW hN⟩⟩ rfl rfl hl.1 rfl (lv_room (Nat.le_of_ble_eq_true rfl)) dX12_gets_3 ⟨Nat.le_of_ble_eq_true rfl, Nat.le_of_ble_eq_true rfl⟩) hS (fun q _ h => hFc q h) hFc (fun x_1 u t H1 locs ht hvm hw_1 hB hz1 hk1 hS => ?_)
  obtain ⟨hP1, hK1, hD1⟩ := hB
  rw [ht] at hP1
  clear hK1
  try dsimp only at hw_1
  obtain ⟨hP, hD⟩ := va_join (wr := [(m_refused, .inl (aC 0, 7, .inl mr))]) (w1 := [(g0, .inr (12, [.ref m_refused, .ref m_kind, .ref m_figure, .ref m_weight, .ref m_got, .ref m_setting, .int men, .int msy, .int mdn, .ref m_tape, .ref m_letter, .ref m_letterAt, .ref m_told, .int tp, .int mat, .int stm, .ref m_kept, .int hi, .int ki, .int cu, .ref m_price, .ref m_offer, .ref m_gets, .ref m_yes, .ref m_buys, .ref m_ends, .ref m_carried, .ref m_row, .int rm, .ref m_keptRow, .ref m_likeGets, .ref m_likePrice, .ref m_ahead]))]) hP hD [0] [1] rfl rfl (by decide) (by decide) hk1 hFc hP1 hD1
  generalize H1 = H at hP hS ⊢
  have hP : va_P (dC, dI) classes [(m_refused, .inl (aC 0, 7, .inl mr)), (g0, .inr (12, [.ref m_refused, .ref m_kind, .ref m_figure, .ref m_weight, .ref m_got, .ref m_setting, .int men, .int msy, .int mdn, .ref m_tape, .ref m_letter, .ref m_letterAt, .ref m_told, .int tp, .int mat, .int stm, .ref m_kept, .int hi, .int ki, .int cu, .ref m_price, .ref m_offer, .ref m_gets, .ref m_yes, .ref m_buys, .ref m_ends, .ref m_carried, .ref m_row, .int rm, .ref m_keptRow, .ref m_likeGets, .ref m_likePrice, .ref m_ahead]))] H := hP
  have hD : va_D A [(m_refused, .inl (aC 0, 7, .inl mr)), (g0, .inr (12, [.ref m_refused, .ref m_kind, .ref m_figure, .ref m_weight, .ref m_got, .ref m_setting, .int men, .int msy, .int mdn, .ref m_tape, .ref m_letter, .ref m_letterAt, .ref m_told, .int tp, .int mat, .int stm, .ref m_kept, .int hi, .int ki, .int cu, .ref m_price, .ref m_offer, .ref m_gets, .ref m_yes, .ref m_buys, .ref m_ends, .ref m_carried, .ref m_row, .int rm, .ref m_keptRow, .ref m_likeGets, .ref m_likePrice, .ref m_ahead]))] := hD
  clear hPc hDc hFc hz1 hk1 hP1 hD1 ht hvm
  have hz_3 : x_1 = 0 := hw_1
  refine lv_if_ne (tgt := 15) hx hb dX12_gets_6 (by decide) (fun c_2 => ?_) (fun c_2 => ?_)
  · exact absurd hz_3 c_2
  · refine lv_aload_n hx hb dX12_gets_9 rfl (lv_at hl 0 rfl) ?_
    refine lv_iconst (v := -1) hx hb dX12_gets_10 (by decide) ?_
    have hPc := hP.sub (ws' := [(g0, .inr (12, [.ref m_refused, .ref m_kind, .ref m_figure, .ref m_weight, .ref m_got, .ref m_setting, .int men, .int msy, .int mdn, .ref m_tape, .ref m_letter, .ref m_letterAt, .ref m_told, .int tp, .int mat, .int stm, .ref m_kept, .int hi, .int ki, .int cu, .ref m_price, .ref m_offer, .ref m_gets, .ref m_yes, .ref m_buys, .ref m_ends, .ref m_carried, .ref m_row, .int rm, .ref m_keptRow, .ref m_likeGets, .ref m_likePrice, .ref m_ahead])), (m_refused, .inl (aC 0, 7, .inl mr))]) [1, 0] rfl
    have hDc := hD.sub (ws' := [(g0, .inr (12, [.ref m_refused, .ref m_kind, .ref m_figure, .ref m_weight, .ref m_got, .ref m_setting, .int men, .int msy, .int mdn, .ref m_tape, .ref m_letter, .ref m_letterAt, .ref m_told, .int tp, .int mat, .int stm, .ref m_kept, .int hi, .int ki, .int cu, .ref m_price, .ref m_offer, .ref m_gets, .ref m_yes, .ref m_buys, .ref m_ends, .ref m_carried, .ref m_row, .int rm, .ref m_keptRow, .ref m_likeGets, .ref m_likePrice, .ref m_ahead])), (m_refused, .inl (aC 0, 7, .inl mr))]) [1, 0] (by decide) rfl
    have hFc := va_free (wc := [(g0, .inr (12, [.ref m_refused, .ref m_kind, .ref m_figure, .ref m_weight, .ref m_got, .ref m_setting, .int men, .int msy, .int mdn, .ref m_tape, .ref m_letter, .ref m_letterAt, .ref m_told, .int tp, .int mat, .int stm, .ref m_kept, .int hi, .int ki, .int cu, .ref m_price, .ref m_offer, .ref m_gets, .ref m_yes, .ref m_buys, .ref m_ends, .ref m_carried, .ref m_row, .int rm, .ref m_keptRow, .ref m_likeGets, .ref m_likePrice, .ref m_ahead])), (m_refused, .inl (aC 0, 7, .inl mr))]) hD hS hA [1, 0] rfl
    refine va_calli (va_runV (As := [.int (-1)]) (rest := []) ⟨hx, hb, hml, hown, hts⟩ (c_X12_lower l dC dI aC H.size g0 m_refused m_kind m_figure m_weight m_got m_setting m_tape m_letter m_letterAt m_told m_kept m_price m_offer m_gets m_yes m_buys m_ends m_carried m_row m_keptRow m_likeGets m_likePrice m_ahead men msy mdn tp mat stm hi ki cu rm (-1) 1 mr (by decide) (by unfold vp_in; decide)) ⟨(callB_of 1 hts (gG kw_973) rfl rfl rfl (hts _ (gw kw_13 rfl)) (hts _ (gw kw_970 rfl)) (by decide +kernel) ⟨Nat.le_of_ble_eq_true rfl, Nat.le_of_ble_eq_true rfl⟩), (hts _ (gw kw_972 rfl)), (hts _ (gw ks_57 rfl))⟩ ⟨fun a U g mk q => by obtain ⟨q0, q1, qP, qK, qD, qN⟩ := q; exact ⟨q0, q1, qP, va_K.moved (u := U) (U := U.calling g mk a) (Vm.Alike.refl U.vm) qK, qD, NX.same (u := U) (U := U.calling g mk a) rfl qN⟩, va_recv hK hPc (ci := 12) (q0 := 0) rfl rfl, fun U hU hW => ⟨rfl, by rw [hU], by rw [hU]; exact hPc, va_K.moved hW.alike hK, hDc.weaken (fun _ _ _ _ => trivial), NX.warm hW hN⟩⟩ rfl rfl hl.1 rfl (lv_room (Nat.le_of_ble_eq_true rfl)) dX12_gets_11 ⟨Nat.le_of_ble_eq_true rfl, Nat.le_of_ble_eq_true rfl⟩) hS (fun q _ h => hFc q h) hFc (fun x_3 u t H1 locs ht hvm hw_3 hB hz1 hk1 hS => ?_)
    obtain ⟨u_4, rfl⟩ : ∃ z, z = u := ⟨_, rfl⟩
    obtain ⟨hP1, hK1, hD1⟩ := hB
    rw [ht] at hP1
    clear hK1
    try dsimp only at hw_3
    obtain ⟨hP, hD⟩ := va_join (wr := []) (w1 := [(g0, .inr (12, [.ref m_refused, .ref m_kind, .ref m_figure, .ref m_weight, .ref m_got, .ref m_setting, .int men, .int msy, .int mdn, .ref m_tape, .ref m_letter, .ref m_letterAt, .ref m_told, .int tp, .int mat, .int stm, .ref m_kept, .int hi, .int ki, .int cu, .ref m_price, .ref m_offer, .ref m_gets, .ref m_yes, .ref m_buys, .ref m_ends, .ref m_carried, .ref m_row, .int rm, .ref m_keptRow, .ref m_likeGets, .ref m_likePrice, .ref m_ahead])), (m_refused, .inl (aC 0, 7, .inl u_4))]) hP hD [1, 0] [] rfl rfl (by decide) (by decide) hk1 hFc hP1 hD1
    generalize H1 = H at hP hS ⊢
    have hP : va_P (dC, dI) classes [(g0, .inr (12, [.ref m_refused, .ref m_kind, .ref m_figure, .ref m_weight, .ref m_got, .ref m_setting, .int men, .int msy, .int mdn, .ref m_tape, .ref m_letter, .ref m_letterAt, .ref m_told, .int tp, .int mat, .int stm, .ref m_kept, .int hi, .int ki, .int cu, .ref m_price, .ref m_offer, .ref m_gets, .ref m_yes, .ref m_buys, .ref m_ends, .ref m_carried, .ref m_row, .int rm, .ref m_keptRow, .ref m_likeGets, .ref m_likePrice, .ref m_ahead])), (m_refused, .inl (aC 0, 7, .inl u_4))] H := hP
    have hD : va_D A [(g0, .inr (12, [.ref m_refused, .ref m_kind, .ref m_figure, .ref m_weight, .ref m_got, .ref m_setting, .int men, .int msy, .int mdn, .ref m_tape, .ref m_letter, .ref m_letterAt, .ref m_told, .int tp, .int mat, .int stm, .ref m_kept, .int hi, .int ki, .int cu, .ref m_price, .ref m_offer, .ref m_gets, .ref m_yes, .ref m_buys, .ref m_ends, .ref m_carried, .ref m_row, .int rm, .ref m_keptRow, .ref m_likeGets, .ref m_likePrice, .ref m_ahead])), (m_refused, .inl (aC 0, 7, .inl u_4))] := hD
    clear hPc hDc hFc hz1 hk1 hP1 hD1 ht hvm
    obtain ⟨hv9, hv8⟩ := hw_3
    have hP9 := hP.sub (ws' := []) [] rfl
    have hD9 := hD.sub (ws' := []) [] (by decide) rfl
    refine W.widen (k := 0) (n := 0) (by omega) (by omega) ?_
    exact W.iret (v := x_3) hx hb hr (fun t ht hW => ⟨⟨x_3, (), rfl, by skip; rw [hv9]; rfl, by rw [ht]; exact hP9, va_K.moved hW.alike hK, hD9⟩, hS.F ht⟩) hS.2.2 dX12_gets_14

set_option maxHeartbeats 4000000 in
set_option maxRecDepth 100000 in
/-- X12_bought_r -/
theorem c_X12_bought_r (l : Launch) (dC : Nat → ClassId) (dI : Nat → Nat → Nat) (aC : Nat → ClassId) (sz : Nat) (g0 : Nat) (m_refused : Nat) (m_kind : Nat) (m_figure : Nat) (m_weight : Nat) (m_got : Nat) (m_setting : Nat) (m_tape : Nat) (m_letter : Nat) (m_letterAt : Nat) (m_told : Nat) (m_kept : Nat) (m_price : Nat) (m_offer : Nat) (m_gets : Nat) (m_yes : Nat) (m_buys : Nat) (m_ends : Nat) (m_carried : Nat) (m_row : Nat) (m_keptRow : Nat) (m_likeGets : Nat) (m_likePrice : Nat) (m_ahead : Nat) (men : Int32) (msy : Int32) (mdn : Int32) (tp : Int32) (mat : Int32) (stm : Int32) (hi : Int32) (ki : Int32) (cu : Int32) (rm : Int32) (mr : Nat → Int32) (i : Int32) (hno : i < 0 ∨ men ≤ i) : Met l yX12_bought (wW yX12_bought cX12_bought 2 (some .int)) ({ frames := 1, cells := 0, slots := 0, locals := 21 } : Room) (va_Pc [.ref g0, .int i] (fun U => U.heap.size = sz ∧ va_P (dC, dI) classes [(g0, .inr (12, [.ref m_refused, .ref m_kind, .ref m_figure, .ref m_weight, .ref m_got, .ref m_setting, .int men, .int msy, .int mdn, .ref m_tape, .ref m_letter, .ref m_letterAt, .ref m_told, .int tp, .int mat, .int stm, .ref m_kept, .int hi, .int ki, .int cu, .ref m_price, .ref m_offer, .ref m_gets, .ref m_yes, .ref m_buys, .ref m_ends, .ref m_carried, .ref m_row, .int rm, .ref m_keptRow, .ref m_likeGets, .ref m_likePrice, .ref m_ahead])), (m_refused, .inl (aC 0, 7, .inl mr))] U.heap ∧ va_K (dC, dI) classes (TY aC) U ∧ va_D (fun _ => True) [(g0, .inr (12, [.ref m_refused, .ref m_kind, .ref m_figure, .ref m_weight, .ref m_got, .ref m_setting, .int men, .int msy, .int mdn, .ref m_tape, .ref m_letter, .ref m_letterAt, .ref m_told, .int tp, .int mat, .int stm, .ref m_kept, .int hi, .int ki, .int cu, .ref m_price, .ref m_offer, .ref m_gets, .ref m_yes, .ref m_buys, .ref m_ends, .ref m_carried, .ref m_row, .int rm, .ref m_keptRow, .ref m_likeGets, .ref m_likePrice, .ref m_ahead])), (m_refused, .inl (aC 0, 7, .inl mr))] ∧ NX U)) (va_Qi (fun (r : Int32) (_ : Unit) => r = -1) (fun (_ : Unit) (t : State) => va_P (dC, dI) classes [] t.heap ∧ va_K (dC, dI) classes (TY aC) t ∧ va_D (va_A [(g0, .inr (12, [.ref m_refused, .ref m_kind, .ref m_figure, .ref m_weight, .ref m_got, .ref m_setting, .int men, .int msy, .int mdn, .ref m_tape, .ref m_letter, .ref m_letterAt, .ref m_told, .int tp, .int mat, .int stm, .ref m_kept, .int hi, .int ki, .int cu, .ref m_price, .ref m_offer, .ref m_gets, .ref m_yes, .ref m_buys, .ref m_ends, .ref m_carried, .ref m_row, .int rm, .ref m_keptRow, .ref m_likeGets, .ref m_likePrice, .ref m_ahead])), (m_refused, .inl (aC 0, 7, .inl mr))] sz) []) (va_A [(g0, .inr (12, [.ref m_refused, .ref m_kind, .ref m_figure, .ref m_weight, .ref m_got, .ref m_setting, .int men, .int msy, .int mdn, .ref m_tape, .ref m_letter, .ref m_letterAt, .ref m_told, .int tp, .int mat, .int stm, .ref m_kept, .int hi, .int ki, .int cu, .ref m_price, .ref m_offer, .ref m_gets, .ref m_yes, .ref m_buys, .ref m_ends, .ref m_carried, .ref m_row, .int rm, .ref m_keptRow, .ref m_likeGets, .ref m_likePrice, .ref m_ahead])), (m_refused, .inl (aC 0, 7, .inl mr))] sz)) 0 0 (va_A [(g0, .inr (12, [.ref m_refused, .ref m_kind, .ref m_figure, .ref m_weight, .ref m_got, .ref m_setting, .int men, .int msy, .int mdn, .ref m_tape, .ref m_letter, .ref m_letterAt, .ref m_told, .int tp, .int mat, .int stm, .ref m_kept, .int hi, .int ki, .int cu, .ref m_price, .ref m_offer, .ref m_gets, .ref m_yes, .ref m_buys, .ref m_ends, .ref m_carried, .ref m_row, .int rm, .ref m_keptRow, .ref m_likeGets, .ref m_likePrice, .ref m_ahead])), (m_refused, .inl (aC 0, 7, .inl mr))] sz) := by
  refine Met.ofW (cc := cX12_bought) (maxL := 2) (ret := (some .int)) (by decide) rfl ?_
  intro p e s m args below meth c s₁ B hml hv
  obtain ⟨rfl, hsz, hP, hK, hD0, hN⟩ := hv
  have hx := B.exec
  have hb := B.bytes
  have hr := B.returns
  have hts0 := atoms_spec (ws := (wW yX12_bought cX12_bought 2 (some .int))) B.pre
  have hts : ∀ w9 ∈ lw_G, w9.before ([.ref g0, .int i] : List Value).toArray s = true := fun w9 h9 => hts0 w9 (List.mem_cons_of_mem _ h9)
  have hown : s.vm.findClass RX12 = some m.cls := findClass_of_methodNamed B.named
  have hlocks := B.notSynchronized
  subst hsz
  have hD := hD0.self (sz := s.heap.size)
  generalize hAe : va_A [(g0, .inr (12, [.ref m_refused, .ref m_kind, .ref m_figure, .ref m_weight, .ref m_got, .ref m_setting, .int men, .int msy, .int mdn, .ref m_tape, .ref m_letter, .ref m_letterAt, .ref m_told, .int tp, .int mat, .int stm, .ref m_kept, .int hi, .int ki, .int cu, .ref m_price, .ref m_offer, .ref m_gets, .ref m_yes, .ref m_buys, .ref m_ends, .ref m_carried, .ref m_row, .int rm, .ref m_keptRow, .ref m_likeGets, .ref m_likePrice, .ref m_ahead])), (m_refused, .inl (aC 0, 7, .inl mr))] s.heap.size = A at hD ⊢
  have hA : ∀ q : Nat, s.heap.size ≤ q → A q := fun q h => by rw [← hAe]; exact Or.inr h
  obtain ⟨H, hHe⟩ : ∃ H : Heap, H = s.heap := ⟨_, rfl⟩
  have hS : va_S A s.heap H [] := by rw [hHe]; exact va_S.rf
  have hP : va_P (dC, dI) classes [(g0, .inr (12, [.ref m_refused, .ref m_kind, .ref m_figure, .ref m_weight, .ref m_got, .ref m_setting, .int men, .int msy, .int mdn, .ref m_tape, .ref m_letter, .ref m_letterAt, .ref m_told, .int tp, .int mat, .int stm, .ref m_kept, .int hi, .int ki, .int cu, .ref m_price, .ref m_offer, .ref m_gets, .ref m_yes, .ref m_buys, .ref m_ends, .ref m_carried, .ref m_row, .int rm, .ref m_keptRow, .ref m_likeGets, .ref m_likePrice, .ref m_ahead])), (m_refused, .inl (aC 0, 7, .inl mr))] H := by rw [hHe]; exact hP
  have hl := lv_entry ([.ref g0, .int i]) (n := 2) (Nat.le_of_ble_eq_true rfl)
  rw [lg_entry_eq]
  generalize (lg_sl ([.ref g0, .int i]) ++ List.replicate (2 - (lg_sl ([.ref g0, .int i])).length) Slot.unset).toArray = ls at hl ⊢
  have hl : lv_has ls 2 [(0, .ref g0), (1, .int i)] := hl
  rw [← hHe]
  refine lv_aload_n hx hb dX12_bought_0 rfl (lv_at hl 0 rfl) ?_
  refine lv_iload_n hx hb dX12_bought_1 rfl (lv_at hl 1 rfl) ?_
  have hPc := hP.sub (ws' := [(g0, .inr (12, [.ref m_refused, .ref m_kind, .ref m_figure, .ref m_weight, .ref m_got, .ref m_setting, .int men, .int msy, .int mdn, .ref m_tape, .ref m_letter, .ref m_letterAt, .ref m_told, .int tp, .int mat, .int stm, .ref m_kept, .int hi, .int ki, .int cu, .ref m_price, .ref m_offer, .ref m_gets, .ref m_yes, .ref m_buys, .ref m_ends, .ref m_carried, .ref m_row, .int rm, .ref m_keptRow, .ref m_likeGets, .ref m_likePrice, .ref m_ahead]))]) [0] rfl
  have hDc := hD.sub (ws' := [(g0, .inr (12, [.ref m_refused, .ref m_kind, .ref m_figure, .ref m_weight, .ref m_got, .ref m_setting, .int men, .int msy, .int mdn, .ref m_tape, .ref m_letter, .ref m_letterAt, .ref m_told, .int tp, .int mat, .int stm, .ref m_kept, .int hi, .int ki, .int cu, .ref m_price, .ref m_offer, .ref m_gets, .ref m_yes, .ref m_buys, .ref m_ends, .ref m_carried, .ref m_row, .int rm, .ref m_keptRow, .ref m_likeGets, .ref m_likePrice, .ref m_ahead]))]) [0] (by decide) rfl
  have hFc := va_free (wc := [(g0, .inr (12, [.ref m_refused, .ref m_kind, .ref m_figure, .ref m_weight, .ref m_got, .ref m_setting, .int men, .int msy, .int mdn, .ref m_tape, .ref m_letter, .ref m_letterAt, .ref m_told, .int tp, .int mat, .int stm, .ref m_kept, .int hi, .int ki, .int cu, .ref m_price, .ref m_offer, .ref m_gets, .ref m_yes, .ref m_buys, .ref m_ends, .ref m_carried, .ref m_row, .int rm, .ref m_keptRow, .ref m_likeGets, .ref m_likePrice, .ref m_ahead]))]) hD hS hA [0] rfl
  refine va_calli (va_runV (As := [.int i]) (rest := []) ⟨hx, hb, hml, hown, hts⟩ (c_X12_isMan l dC dI aC H.size g0 m_refused m_kind m_figure m_weight m_got m_setting m_tape m_letter m_letterAt m_told m_kept m_price m_offer m_gets m_yes m_buys m_ends m_carried m_row m_keptRow m_likeGets m_likePrice m_ahead men msy mdn tp mat stm hi ki cu rm i ) ⟨(callB_of 1 hts (gG kw_878) rfl rfl rfl (hts _ (gw kw_13 rfl)) (hts _ (gw kw_875 rfl)) (by decide +kernel) ⟨Nat.le_of_ble_eq_true rfl, Nat.le_of_ble_eq_true rfl⟩), (hts _ (gw kw_877 rfl)), (hts _ (gw ks_43 rfl))⟩ ⟨fun a U g mk q => by obtain ⟨q0, q1, qP, qK, qD, qN⟩ := q; exact ⟨q0, q1, qP, va_K.moved (u := U) (U := U.calling g mk a) (Vm.Alike.refl U.vm) qK, qD, NX.same (u := U) (U := U.calling g mk a) rfl qN⟩, va_recv hK hPc (ci := 12) (q0 := 0) rfl rfl, fun U hU hW => ⟨rfl, by rw [hU], by rw [hU]; exact hPc, va_K.moved hW.alike hK, hDc.weaken (fun _ _ _ _ => trivial), NX.warm hW hN⟩⟩ rfl rfl hl.1 rfl (lv_room (Nat.le_of_ble_eq_true rfl)) dX12_bought_2 ⟨Nat.le_of_ble_eq_true rfl, Nat.le_of_ble_eq_true rfl⟩) hS (fun q _ h => hFc q h) hFc (fun x_1 u t H1 locs ht hvm hw_1 hB hz1 hk1 hS => ?_)
  obtain ⟨hP1, hK1, hD1⟩ := hB
  rw [ht] at hP1
  clear hK1
  try dsimp only at hw_1
  obtain ⟨hP, hD⟩ := va_join (wr := [(m_refused, .inl (aC 0, 7, .inl mr))]) (w1 := [(g0, .inr (12, [.ref m_refused, .ref m_kind, .ref m_figure, .ref m_weight, .ref m_got, .ref m_setting, .int men, .int msy, .int mdn, .ref m_tape, .ref m_letter, .ref m_letterAt, .ref m_told, .int tp, .int mat, .int stm, .ref m_kept, .int hi, .int ki, .int cu, .ref m_price, .ref m_offer, .ref m_gets, .ref m_yes, .ref m_buys, .ref m_ends, .ref m_carried, .ref m_row, .int rm, .ref m_keptRow, .ref m_likeGets, .ref m_likePrice, .ref m_ahead]))]) hP hD [0] [1] rfl rfl (by decide) (by decide) hk1 hFc hP1 hD1
  generalize H1 = H at hP hS ⊢
  have hP : va_P (dC, dI) classes [(m_refused, .inl (aC 0, 7, .inl mr)), (g0, .inr (12, [.ref m_refused, .ref m_kind, .ref m_figure, .ref m_weight, .ref m_got, .ref m_setting, .int men, .int msy, .int mdn, .ref m_tape, .ref m_letter, .ref m_letterAt, .ref m_told, .int tp, .int mat, .int stm, .ref m_kept, .int hi, .int ki, .int cu, .ref m_price, .ref m_offer, .ref m_gets, .ref m_yes, .ref m_buys, .ref m_ends, .ref m_carried, .ref m_row, .int rm, .ref m_keptRow, .ref m_likeGets, .ref m_likePrice, .ref m_ahead]))] H := hP
  have hD : va_D A [(m_refused, .inl (aC 0, 7, .inl mr)), (g0, .inr (12, [.ref m_refused, .ref m_kind, .ref m_figure, .ref m_weight, .ref m_got, .ref m_setting, .int men, .int msy, .int mdn, .ref m_tape, .ref m_letter, .ref m_letterAt, .ref m_told, .int tp, .int mat, .int stm, .ref m_kept, .int hi, .int ki, .int cu, .ref m_price, .ref m_offer, .ref m_gets, .ref m_yes, .ref m_buys, .ref m_ends, .ref m_carried, .ref m_row, .int rm, .ref m_keptRow, .ref m_likeGets, .ref m_likePrice, .ref m_ahead]))] := hD
  clear hPc hDc hFc hz1 hk1 hP1 hD1 ht hvm
  have hz_2 : x_1 = 0 := by rw [hw_1]; rcases hno with h9 | h9 <;> simp [h9]
  refine lv_if_ne (tgt := 14) hx hb dX12_bought_5 (by decide) (fun c_2 => ?_) (fun c_2 => ?_)
  · exact absurd hz_2 c_2
  · refine lv_aload_n hx hb dX12_bought_8 rfl (lv_at hl 0 rfl) ?_
    refine lv_iconst (v := -1) hx hb dX12_bought_9 (by decide) ?_
    have hPc := hP.sub (ws' := [(g0, .inr (12, [.ref m_refused, .ref m_kind, .ref m_figure, .ref m_weight, .ref m_got, .ref m_setting, .int men, .int msy, .int mdn, .ref m_tape, .ref m_letter, .ref m_letterAt, .ref m_told, .int tp, .int mat, .int stm, .ref m_kept, .int hi, .int ki, .int cu, .ref m_price, .ref m_offer, .ref m_gets, .ref m_yes, .ref m_buys, .ref m_ends, .ref m_carried, .ref m_row, .int rm, .ref m_keptRow, .ref m_likeGets, .ref m_likePrice, .ref m_ahead])), (m_refused, .inl (aC 0, 7, .inl mr))]) [1, 0] rfl
    have hDc := hD.sub (ws' := [(g0, .inr (12, [.ref m_refused, .ref m_kind, .ref m_figure, .ref m_weight, .ref m_got, .ref m_setting, .int men, .int msy, .int mdn, .ref m_tape, .ref m_letter, .ref m_letterAt, .ref m_told, .int tp, .int mat, .int stm, .ref m_kept, .int hi, .int ki, .int cu, .ref m_price, .ref m_offer, .ref m_gets, .ref m_yes, .ref m_buys, .ref m_ends, .ref m_carried, .ref m_row, .int rm, .ref m_keptRow, .ref m_likeGets, .ref m_likePrice, .ref m_ahead])), (m_refused, .inl (aC 0, 7, .inl mr))]) [1, 0] (by decide) rfl
    have hFc := va_free (wc := [(g0, .inr (12, [.ref m_refused, .ref m_kind, .ref m_figure, .ref m_weight, .ref m_got, .ref m_setting, .int men, .int msy, .int mdn, .ref m_tape, .ref m_letter, .ref m_letterAt, .ref m_told, .int tp, .int mat, .int stm, .ref m_kept, .int hi, .int ki, .int cu, .ref m_price, .ref m_offer, .ref m_gets, .ref m_yes, .ref m_buys, .ref m_ends, .ref m_carried, .ref m_row, .int rm, .ref m_keptRow, .ref m_likeGets, .ref m_likePrice, .ref m_ahead])), (m_refused, .inl (aC 0, 7, .inl mr))]) hD hS hA [1, 0] rfl
    refine va_calli (va_runV (As := [.int (-1)]) (rest := []) ⟨hx, hb, hml, hown, hts⟩ (c_X12_no l dC dI aC H.size g0 m_refused m_kind m_figure m_weight m_got m_setting m_tape m_letter m_letterAt m_told m_kept m_price m_offer m_gets m_yes m_buys m_ends m_carried m_row m_keptRow m_likeGets m_likePrice m_ahead men msy mdn tp mat stm hi ki cu rm (-1) 1 mr (by decide) (by unfold vp_in; decide)) ⟨(callB_of 1 hts (gG kw_827) rfl rfl rfl (hts _ (gw kw_13 rfl)) (hts _ (gw kw_824 rfl)) (by decide +kernel) ⟨Nat.le_of_ble_eq_true rfl, Nat.le_of_ble_eq_true rfl⟩), (hts _ (gw kw_826 rfl)), (hts _ (gw ks_35 rfl))⟩ ⟨fun a U g mk q => by obtain ⟨q0, q1, qP, qK, qD, qN⟩ := q; exact ⟨q0, q1, qP, va_K.moved (u := U) (U := U.calling g mk a) (Vm.Alike.refl U.vm) qK, qD, NX.same (u := U) (U := U.calling g mk a) rfl qN⟩, va_recv hK hPc (ci := 12) (q0 := 0) rfl rfl, fun U hU hW => ⟨rfl, by rw [hU], by rw [hU]; exact hPc, va_K.moved hW.alike hK, hDc.weaken (fun _ _ _ _ => trivial), NX.warm hW hN⟩⟩ rfl rfl hl.1 rfl (lv_room (Nat.le_of_ble_eq_true rfl)) dX12_bought_10 ⟨Nat.le_of_ble_eq_true rfl, Nat.le_of_ble_eq_true rfl⟩) hS (fun q _ h => hFc q h) hFc (fun x_3 u t H1 locs ht hvm hw_3 hB hz1 hk1 hS => ?_)
    obtain ⟨u_4, rfl⟩ : ∃ z, z = u := ⟨_, rfl⟩
    obtain ⟨hP1, hK1, hD1⟩ := hB
    rw [ht] at hP1
    clear hK1
    try dsimp only at hw_3
    obtain ⟨hP, hD⟩ := va_join (wr := []) (w1 := [(g0, .inr (12, [.ref m_refused, .ref m_kind, .ref m_figure, .ref m_weight, .ref m_got, .ref m_setting, .int men, .int msy, .int mdn, .ref m_tape, .ref m_letter, .ref m_letterAt, .ref m_told, .int tp, .int mat, .int stm, .ref m_kept, .int hi, .int ki, .int cu, .ref m_price, .ref m_offer, .ref m_gets, .ref m_yes, .ref m_buys, .ref m_ends, .ref m_carried, .ref m_row, .int rm, .ref m_keptRow, .ref m_likeGets, .ref m_likePrice, .ref m_ahead])), (m_refused, .inl (aC 0, 7, .inl u_4))]) hP hD [1, 0] [] rfl rfl (by decide) (by decide) hk1 hFc hP1 hD1
    generalize H1 = H at hP hS ⊢
    have hP : va_P (dC, dI) classes [(g0, .inr (12, [.ref m_refused, .ref m_kind, .ref m_figure, .ref m_weight, .ref m_got, .ref m_setting, .int men, .int msy, .int mdn, .ref m_tape, .ref m_letter, .ref m_letterAt, .ref m_told, .int tp, .int mat, .int stm, .ref m_kept, .int hi, .int ki, .int cu, .ref m_price, .ref m_offer, .ref m_gets, .ref m_yes, .ref m_buys, .ref m_ends, .ref m_carried, .ref m_row, .int rm, .ref m_keptRow, .ref m_likeGets, .ref m_likePrice, .ref m_ahead])), (m_refused, .inl (aC 0, 7, .inl u_4))] H := hP
    have hD : va_D A [(g0, .inr (12, [.ref m_refused, .ref m_kind, .ref m_figure, .ref m_weight, .ref m_got, .ref m_setting, .int men, .int msy, .int mdn, .ref m_tape, .ref m_letter, .ref m_letterAt, .ref m_told, .int tp, .int mat, .int stm, .ref m_kept, .int hi, .int ki, .int cu, .ref m_price, .ref m_offer, .ref m_gets, .ref m_yes, .ref m_buys, .ref m_ends, .ref m_carried, .ref m_row, .int rm, .ref m_keptRow, .ref m_likeGets, .ref m_likePrice, .ref m_ahead])), (m_refused, .inl (aC 0, 7, .inl u_4))] := hD
    clear hPc hDc hFc hz1 hk1 hP1 hD1 ht hvm
    obtain ⟨hv9, hv8⟩ := hw_3
    have hP9 := hP.sub (ws' := []) [] rfl
    have hD9 := hD.sub (ws' := []) [] (by decide) rfl
    refine W.widen (k := 0) (n := 0) (by omega) (by omega) ?_
    exact W.iret (v := x_3) hx hb hr (fun t ht hW => ⟨⟨x_3, (), rfl, hv9, by rw [ht]; exact hP9, va_K.moved hW.alike hK, hD9⟩, hS.F ht⟩) hS.2.2 dX12_bought_13

set_option maxHeartbeats 4000000 in
set_option maxRecDepth 100000 in
/-- X12_got_r -/
theorem c_X12_got_r (l : Launch) (dC : Nat → ClassId) (dI : Nat → Nat → Nat) (aC : Nat → ClassId) (sz : Nat) (g0 : Nat) (m_refused : Nat) (m_kind : Nat) (m_figure : Nat) (m_weight : Nat) (m_got : Nat) (m_setting : Nat) (m_tape : Nat) (m_letter : Nat) (m_letterAt : Nat) (m_told : Nat) (m_kept : Nat) (m_price : Nat) (m_offer : Nat) (m_gets : Nat) (m_yes : Nat) (m_buys : Nat) (m_ends : Nat) (m_carried : Nat) (m_row : Nat) (m_keptRow : Nat) (m_likeGets : Nat) (m_likePrice : Nat) (m_ahead : Nat) (men : Int32) (msy : Int32) (mdn : Int32) (tp : Int32) (mat : Int32) (stm : Int32) (hi : Int32) (ki : Int32) (cu : Int32) (rm : Int32) (mr : Nat → Int32) (i : Int32) (hno : i < 0 ∨ men ≤ i) : Met l yX12_got (wW yX12_got cX12_got 2 (some .int)) ({ frames := 1, cells := 0, slots := 0, locals := 21 } : Room) (va_Pc [.ref g0, .int i] (fun U => U.heap.size = sz ∧ va_P (dC, dI) classes [(g0, .inr (12, [.ref m_refused, .ref m_kind, .ref m_figure, .ref m_weight, .ref m_got, .ref m_setting, .int men, .int msy, .int mdn, .ref m_tape, .ref m_letter, .ref m_letterAt, .ref m_told, .int tp, .int mat, .int stm, .ref m_kept, .int hi, .int ki, .int cu, .ref m_price, .ref m_offer, .ref m_gets, .ref m_yes, .ref m_buys, .ref m_ends, .ref m_carried, .ref m_row, .int rm, .ref m_keptRow, .ref m_likeGets, .ref m_likePrice, .ref m_ahead])), (m_refused, .inl (aC 0, 7, .inl mr))] U.heap ∧ va_K (dC, dI) classes (TY aC) U ∧ va_D (fun _ => True) [(g0, .inr (12, [.ref m_refused, .ref m_kind, .ref m_figure, .ref m_weight, .ref m_got, .ref m_setting, .int men, .int msy, .int mdn, .ref m_tape, .ref m_letter, .ref m_letterAt, .ref m_told, .int tp, .int mat, .int stm, .ref m_kept, .int hi, .int ki, .int cu, .ref m_price, .ref m_offer, .ref m_gets, .ref m_yes, .ref m_buys, .ref m_ends, .ref m_carried, .ref m_row, .int rm, .ref m_keptRow, .ref m_likeGets, .ref m_likePrice, .ref m_ahead])), (m_refused, .inl (aC 0, 7, .inl mr))] ∧ NX U)) (va_Qi (fun (r : Int32) (_ : Unit) => r = 1000000001) (fun (_ : Unit) (t : State) => va_P (dC, dI) classes [] t.heap ∧ va_K (dC, dI) classes (TY aC) t ∧ va_D (va_A [(g0, .inr (12, [.ref m_refused, .ref m_kind, .ref m_figure, .ref m_weight, .ref m_got, .ref m_setting, .int men, .int msy, .int mdn, .ref m_tape, .ref m_letter, .ref m_letterAt, .ref m_told, .int tp, .int mat, .int stm, .ref m_kept, .int hi, .int ki, .int cu, .ref m_price, .ref m_offer, .ref m_gets, .ref m_yes, .ref m_buys, .ref m_ends, .ref m_carried, .ref m_row, .int rm, .ref m_keptRow, .ref m_likeGets, .ref m_likePrice, .ref m_ahead])), (m_refused, .inl (aC 0, 7, .inl mr))] sz) []) (va_A [(g0, .inr (12, [.ref m_refused, .ref m_kind, .ref m_figure, .ref m_weight, .ref m_got, .ref m_setting, .int men, .int msy, .int mdn, .ref m_tape, .ref m_letter, .ref m_letterAt, .ref m_told, .int tp, .int mat, .int stm, .ref m_kept, .int hi, .int ki, .int cu, .ref m_price, .ref m_offer, .ref m_gets, .ref m_yes, .ref m_buys, .ref m_ends, .ref m_carried, .ref m_row, .int rm, .ref m_keptRow, .ref m_likeGets, .ref m_likePrice, .ref m_ahead])), (m_refused, .inl (aC 0, 7, .inl mr))] sz)) 0 0 (va_A [(g0, .inr (12, [.ref m_refused, .ref m_kind, .ref m_figure, .ref m_weight, .ref m_got, .ref m_setting, .int men, .int msy, .int mdn, .ref m_tape, .ref m_letter, .ref m_letterAt, .ref m_told, .int tp, .int mat, .int stm, .ref m_kept, .int hi, .int ki, .int cu, .ref m_price, .ref m_offer, .ref m_gets, .ref m_yes, .ref m_buys, .ref m_ends, .ref m_carried, .ref m_row, .int rm, .ref m_keptRow, .ref m_likeGets, .ref m_likePrice, .ref m_ahead])), (m_refused, .inl (aC 0, 7, .inl mr))] sz) := by
  refine Met.ofW (cc := cX12_got) (maxL := 2) (ret := (some .int)) (by decide) rfl ?_
  intro p e s m args below meth c s₁ B hml hv
  obtain ⟨rfl, hsz, hP, hK, hD0, hN⟩ := hv
  have hx := B.exec
  have hb := B.bytes
  have hr := B.returns
  have hts0 := atoms_spec (ws := (wW yX12_got cX12_got 2 (some .int))) B.pre
  have hts : ∀ w9 ∈ lw_G, w9.before ([.ref g0, .int i] : List Value).toArray s = true := fun w9 h9 => hts0 w9 (List.mem_cons_of_mem _ h9)
  have hown : s.vm.findClass RX12 = some m.cls := findClass_of_methodNamed B.named
  have hlocks := B.notSynchronized
  subst hsz
  have hD := hD0.self (sz := s.heap.size)
  generalize hAe : va_A [(g0, .inr (12, [.ref m_refused, .ref m_kind, .ref m_figure, .ref m_weight, .ref m_got, .ref m_setting, .int men, .int msy, .int mdn, .ref m_tape, .ref m_letter, .ref m_letterAt, .ref m_told, .int tp, .int mat, .int stm, .ref m_kept, .int hi, .int ki, .int cu, .ref m_price, .ref m_offer, .ref m_gets, .ref m_yes, .ref m_buys, .ref m_ends, .ref m_carried, .ref m_row, .int rm, .ref m_keptRow, .ref m_likeGets, .ref m_likePrice, .ref m_ahead])), (m_refused, .inl (aC 0, 7, .inl mr))] s.heap.size = A at hD ⊢
  have hA : ∀ q : Nat, s.heap.size ≤ q → A q := fun q h => by rw [← hAe]; exact Or.inr h
  obtain ⟨H, hHe⟩ : ∃ H : Heap, H = s.heap := ⟨_, rfl⟩
  have hS : va_S A s.heap H [] := by rw [hHe]; exact va_S.rf
  have hP : va_P (dC, dI) classes [(g0, .inr (12, [.ref m_refused, .ref m_kind, .ref m_figure, .ref m_weight, .ref m_got, .ref m_setting, .int men, .int msy, .int mdn, .ref m_tape, .ref m_letter, .ref m_letterAt, .ref m_told, .int tp, .int mat, .int stm, .ref m_kept, .int hi, .int ki, .int cu, .ref m_price, .ref m_offer, .ref m_gets, .ref m_yes, .ref m_buys, .ref m_ends, .ref m_carried, .ref m_row, .int rm, .ref m_keptRow, .ref m_likeGets, .ref m_likePrice, .ref m_ahead])), (m_refused, .inl (aC 0, 7, .inl mr))] H := by rw [hHe]; exact hP
  have hl := lv_entry ([.ref g0, .int i]) (n := 2) (Nat.le_of_ble_eq_true rfl)
  rw [lg_entry_eq]
  generalize (lg_sl ([.ref g0, .int i]) ++ List.replicate (2 - (lg_sl ([.ref g0, .int i])).length) Slot.unset).toArray = ls at hl ⊢
  have hl : lv_has ls 2 [(0, .ref g0), (1, .int i)] := hl
  rw [← hHe]
  refine lv_aload_n hx hb dX12_got_0 rfl (lv_at hl 0 rfl) ?_
  refine lv_iload_n hx hb dX12_got_1 rfl (lv_at hl 1 rfl) ?_
  have hPc := hP.sub (ws' := [(g0, .inr (12, [.ref m_refused, .ref m_kind, .ref m_figure, .ref m_weight, .ref m_got, .ref m_setting, .int men, .int msy, .int mdn, .ref m_tape, .ref m_letter, .ref m_letterAt, .ref m_told, .int tp, .int mat, .int stm, .ref m_kept, .int hi, .int ki, .int cu, .ref m_price, .ref m_offer, .ref m_gets, .ref m_yes, .ref m_buys, .ref m_ends, .ref m_carried, .ref m_row, .int rm, .ref m_keptRow, .ref m_likeGets, .ref m_likePrice, .ref m_ahead]))]) [0] rfl
  have hDc := hD.sub (ws' := [(g0, .inr (12, [.ref m_refused, .ref m_kind, .ref m_figure, .ref m_weight, .ref m_got, .ref m_setting, .int men, .int msy, .int mdn, .ref m_tape, .ref m_letter, .ref m_letterAt, .ref m_told, .int tp, .int mat, .int stm, .ref m_kept, .int hi, .int ki, .int cu, .ref m_price, .ref m_offer, .ref m_gets, .ref m_yes, .ref m_buys, .ref m_ends, .ref m_carried, .ref m_row, .int rm, .ref m_keptRow, .ref m_likeGets, .ref m_likePrice, .ref m_ahead]))]) [0] (by decide) rfl
  have hFc := va_free (wc := [(g0, .inr (12, [.ref m_refused, .ref m_kind, .ref m_figure, .ref m_weight, .ref m_got, .ref m_setting, .int men, .int msy, .int mdn, .ref m_tape, .ref m_letter, .ref m_letterAt, .ref m_told, .int tp, .int mat, .int stm, .ref m_kept, .int hi, .int ki, .int cu, .ref m_price, .ref m_offer, .ref m_gets, .ref m_yes, .ref m_buys, .ref m_ends, .ref m_carried, .ref m_row, .int rm, .ref m_keptRow, .ref m_likeGets, .ref m_likePrice, .ref m_ahead]))]) hD hS hA [0] rfl
  refine va_calli (va_runV (As := [.int i]) (rest := []) ⟨hx, hb, hml, hown, hts⟩ (c_X12_isMan l dC dI aC H.size g0 m_refused m_kind m_figure m_weight m_got m_setting m_tape m_letter m_letterAt m_told m_kept m_price m_offer m_gets m_yes m_buys m_ends m_carried m_row m_keptRow m_likeGets m_likePrice m_ahead men msy mdn tp mat stm hi ki cu rm i ) ⟨(callB_of 1 hts (gG kw_878) rfl rfl rfl (hts _ (gw kw_13 rfl)) (hts _ (gw kw_875 rfl)) (by decide +kernel) ⟨Nat.le_of_ble_eq_true rfl, Nat.le_of_ble_eq_true rfl⟩), (hts _ (gw kw_877 rfl)), (hts _ (gw ks_43 rfl))⟩ ⟨fun a U g mk q => by obtain ⟨q0, q1, qP, qK, qD, qN⟩ := q; exact ⟨q0, q1, qP, va_K.moved (u := U) (U := U.calling g mk a) (Vm.Alike.refl U.vm) qK, qD, NX.same (u := U) (U := U.calling g mk a) rfl qN⟩, va_recv hK hPc (ci := 12) (q0 := 0) rfl rfl, fun U hU hW => ⟨rfl, by rw [hU], by rw [hU]; exact hPc, va_K.moved hW.alike hK, hDc.weaken (fun _ _ _ _ => trivial), NX.warm hW hN⟩⟩ rfl rfl hl.1 rfl (lv_room (Nat.le_of_ble_eq_true rfl)) dX12_got_2 ⟨Nat.le_of_ble_eq_true rfl, Nat.le_of_ble_eq_true rfl⟩) hS (fun q _ h => hFc q h) hFc (fun x_1 u t H1 locs ht hvm hw_1 hB hz1 hk1 hS => ?_)
  obtain ⟨hP1, hK1, hD1⟩ := hB
  rw [ht] at hP1
  clear hK1
  try dsimp only at hw_1
  obtain ⟨hP, hD⟩ := va_join (wr := [(m_refused, .inl (aC 0, 7, .inl mr))]) (w1 := [(g0, .inr (12, [.ref m_refused, .ref m_kind, .ref m_figure, .ref m_weight, .ref m_got, .ref m_setting, .int men, .int msy, .int mdn, .ref m_tape, .ref m_letter, .ref m_letterAt, .ref m_told, .int tp, .int mat, .int stm, .ref m_kept, .int hi, .int ki, .int cu, .ref m_price, .ref m_offer, .ref m_gets, .ref m_yes, .ref m_buys, .ref m_ends, .ref m_carried, .ref m_row, .int rm, .ref m_keptRow, .ref m_likeGets, .ref m_likePrice, .ref m_ahead]))]) hP hD [0] [1] rfl rfl (by decide) (by decide) hk1 hFc hP1 hD1
  generalize H1 = H at hP hS ⊢
  have hP : va_P (dC, dI) classes [(m_refused, .inl (aC 0, 7, .inl mr)), (g0, .inr (12, [.ref m_refused, .ref m_kind, .ref m_figure, .ref m_weight, .ref m_got, .ref m_setting, .int men, .int msy, .int mdn, .ref m_tape, .ref m_letter, .ref m_letterAt, .ref m_told, .int tp, .int mat, .int stm, .ref m_kept, .int hi, .int ki, .int cu, .ref m_price, .ref m_offer, .ref m_gets, .ref m_yes, .ref m_buys, .ref m_ends, .ref m_carried, .ref m_row, .int rm, .ref m_keptRow, .ref m_likeGets, .ref m_likePrice, .ref m_ahead]))] H := hP
  have hD : va_D A [(m_refused, .inl (aC 0, 7, .inl mr)), (g0, .inr (12, [.ref m_refused, .ref m_kind, .ref m_figure, .ref m_weight, .ref m_got, .ref m_setting, .int men, .int msy, .int mdn, .ref m_tape, .ref m_letter, .ref m_letterAt, .ref m_told, .int tp, .int mat, .int stm, .ref m_kept, .int hi, .int ki, .int cu, .ref m_price, .ref m_offer, .ref m_gets, .ref m_yes, .ref m_buys, .ref m_ends, .ref m_carried, .ref m_row, .int rm, .ref m_keptRow, .ref m_likeGets, .ref m_likePrice, .ref m_ahead]))] := hD
  clear hPc hDc hFc hz1 hk1 hP1 hD1 ht hvm
  have hz_2 : x_1 = 0 := by rw [hw_1]; rcases hno with h9 | h9 <;> simp [h9]
  refine lv_if_eq (tgt := 17) hx hb dX12_got_5 (by decide) (fun c_2 => ?_) (fun c_2 => ?_)
  · refine lv_aload_n hx hb dX12_got_17 rfl (lv_at hl 0 rfl) ?_
    refine lv_iconst (v := -1) hx hb dX12_got_18 (by decide) ?_
    have hPc := hP.sub (ws' := [(g0, .inr (12, [.ref m_refused, .ref m_kind, .ref m_figure, .ref m_weight, .ref m_got, .ref m_setting, .int men, .int msy, .int mdn, .ref m_tape, .ref m_letter, .ref m_letterAt, .ref m_told, .int tp, .int mat, .int stm, .ref m_kept, .int hi, .int ki, .int cu, .ref m_price, .ref m_offer, .ref m_gets, .ref m_yes, .ref m_buys, .ref m_ends, .ref m_carried, .ref m_row, .int rm, .ref m_keptRow, .ref m_likeGets, .ref m_likePrice, .ref m_ahead])), (m_refused, .inl (aC 0, 7, .inl mr))]) [1, 0] rfl
    have hDc := hD.sub (ws' := [(g0, .inr (12, [.ref m_refused, .ref m_kind, .ref m_figure, .ref m_weight, .ref m_got, .ref m_setting, .int men, .int msy, .int mdn, .ref m_tape, .ref m_letter, .ref m_letterAt, .ref m_told, .int tp, .int mat, .int stm, .ref m_kept, .int hi, .int ki, .int cu, .ref m_price, .ref m_offer, .ref m_gets, .ref m_yes, .ref m_buys, .ref m_ends, .ref m_carried, .ref m_row, .int rm, .ref m_keptRow, .ref m_likeGets, .ref m_likePrice, .ref m_ahead])), (m_refused, .inl (aC 0, 7, .inl mr))]) [1, 0] (by decide) rfl
    have hFc := va_free (wc := [(g0, .inr (12, [.ref m_refused, .ref m_kind, .ref m_figure, .ref m_weight, .ref m_got, .ref m_setting, .int men, .int msy, .int mdn, .ref m_tape, .ref m_letter, .ref m_letterAt, .ref m_told, .int tp, .int mat, .int stm, .ref m_kept, .int hi, .int ki, .int cu, .ref m_price, .ref m_offer, .ref m_gets, .ref m_yes, .ref m_buys, .ref m_ends, .ref m_carried, .ref m_row, .int rm, .ref m_keptRow, .ref m_likeGets, .ref m_likePrice, .ref m_ahead])), (m_refused, .inl (aC 0, 7, .inl mr))]) hD hS hA [1, 0] rfl
    refine va_calli (va_runV (As := [.int (-1)]) (rest := []) ⟨hx, hb, hml, hown, hts⟩ (c_X12_lower l dC dI aC H.size g0 m_refused m_kind m_figure m_weight m_got m_setting m_tape m_letter m_letterAt m_told m_kept m_price m_offer m_gets m_yes m_buys m_ends m_carried m_row m_keptRow m_likeGets m_likePrice m_ahead men msy mdn tp mat stm hi ki cu rm (-1) 1 mr (by decide) (by unfold vp_in; decide)) ⟨(callB_of 1 hts (gG kw_973) rfl rfl rfl (hts _ (gw kw_13 rfl)) (hts _ (gw kw_970 rfl)) (by decide +kernel) ⟨Nat.le_of_ble_eq_true rfl, Nat.le_of_ble_eq_true rfl⟩), (hts _ (gw kw_972 rfl)), (hts _ (gw ks_57 rfl))⟩ ⟨fun a U g mk q => by obtain ⟨q0, q1, qP, qK, qD, qN⟩ := q; exact ⟨q0, q1, qP, va_K.moved (u := U) (U := U.calling g mk a) (Vm.Alike.refl U.vm) qK, qD, NX.same (u := U) (U := U.calling g mk a) rfl qN⟩, va_recv hK hPc (ci := 12) (q0 := 0) rfl rfl, fun U hU hW => ⟨rfl, by rw [hU], by rw [hU]; exact hPc, va_K.moved hW.alike hK, hDc.weaken (fun _ _ _ _ => trivial), NX.warm hW hN⟩⟩ rfl rfl hl.1 rfl (lv_room (Nat.le_of_ble_eq_true rfl)) dX12_got_19 ⟨Nat.le_of_ble_eq_true rfl, Nat.le_of_ble_eq_true rfl⟩) hS (fun q _ h => hFc q h) hFc (fun x_3 u t H1 locs ht hvm hw_3 hB hz1 hk1 hS => ?_)
    obtain ⟨u_4, rfl⟩ : ∃ z, z = u := ⟨_, rfl⟩
    obtain ⟨hP1, hK1, hD1⟩ := hB
    rw [ht] at hP1
    clear hK1
    try dsimp only at hw_3
    obtain ⟨hP, hD⟩ := va_join (wr := []) (w1 := [(g0, .inr (12, [.ref m_refused, .ref m_kind, .ref m_figure, .ref m_weight, .ref m_got, .ref m_setting, .int men, .int msy, .int mdn, .ref m_tape, .ref m_letter, .ref m_letterAt, .ref m_told, .int tp, .int mat, .int stm, .ref m_kept, .int hi, .int ki, .int cu, .ref m_price, .ref m_offer, .ref m_gets, .ref m_yes, .ref m_buys, .ref m_ends, .ref m_carried, .ref m_row, .int rm, .ref m_keptRow, .ref m_likeGets, .ref m_likePrice, .ref m_ahead])), (m_refused, .inl (aC 0, 7, .inl u_4))]) hP hD [1, 0] [] rfl rfl (by decide) (by decide) hk1 hFc hP1 hD1
    generalize H1 = H at hP hS ⊢
    have hP : va_P (dC, dI) classes [(g0, .inr (12, [.ref m_refused, .ref m_kind, .ref m_figure, .ref m_weight, .ref m_got, .ref m_setting, .int men, .int msy, .int mdn, .ref m_tape, .ref m_letter, .ref m_letterAt, .ref m_told, .int tp, .int mat, .int stm, .ref m_kept, .int hi, .int ki, .int cu, .ref m_price, .ref m_offer, .ref m_gets, .ref m_yes, .ref m_buys, .ref m_ends, .ref m_carried, .ref m_row, .int rm, .ref m_keptRow, .ref m_likeGets, .ref m_likePrice, .ref m_ahead])), (m_refused, .inl (aC 0, 7, .inl u_4))] H := hP
    have hD : va_D A [(g0, .inr (12, [.ref m_refused, .ref m_kind, .ref m_figure, .ref m_weight, .ref m_got, .ref m_setting, .int men, .int msy, .int mdn, .ref m_tape, .ref m_letter, .ref m_letterAt, .ref m_told, .int tp, .int mat, .int stm, .ref m_kept, .int hi, .int ki, .int cu, .ref m_price, .ref m_offer, .ref m_gets, .ref m_yes, .ref m_buys, .ref m_ends, .ref m_carried, .ref m_row, .int rm, .ref m_keptRow, .ref m_likeGets, .ref m_likePrice, .ref m_ahead])), (m_refused, .inl (aC 0, 7, .inl u_4))] := hD
    clear hPc hDc hFc hz1 hk1 hP1 hD1 ht hvm
    obtain ⟨hv9, hv8⟩ := hw_3
    have hP9 := hP.sub (ws' := []) [] rfl
    have hD9 := hD.sub (ws' := []) [] (by decide) rfl
    refine W.widen (k := 0) (n := 0) (by omega) (by omega) ?_
    exact W.iret (v := x_3) hx hb hr (fun t ht hW => ⟨⟨x_3, (), rfl, by skip; rw [hv9]; rfl, by rw [ht]; exact hP9, va_K.moved hW.alike hK, hD9⟩, hS.F ht⟩) hS.2.2 dX12_got_22
  · exact absurd hz_2 c_2

set_option maxHeartbeats 4000000 in
set_option maxRecDepth 100000 in
/-- X12_swap_r -/
theorem c_X12_swap_r (l : Launch) (dC : Nat → ClassId) (dI : Nat → Nat → Nat) (aC : Nat → ClassId) (sz : Nat) (g0 : Nat) (m_refused : Nat) (m_kind : Nat) (m_figure : Nat) (m_weight : Nat) (m_got : Nat) (m_setting : Nat) (m_tape : Nat) (m_letter : Nat) (m_letterAt : Nat) (m_told : Nat) (m_kept : Nat) (m_price : Nat) (m_offer : Nat) (m_gets : Nat) (m_yes : Nat) (m_buys : Nat) (m_ends : Nat) (m_carried : Nat) (m_row : Nat) (m_keptRow : Nat) (m_likeGets : Nat) (m_likePrice : Nat) (m_ahead : Nat) (men : Int32) (msy : Int32) (mdn : Int32) (tp : Int32) (mat : Int32) (stm : Int32) (hi : Int32) (ki : Int32) (cu : Int32) (rm : Int32) (mr : Nat → Int32) (i : Int32) (a2 : Int32) (hno : i < 0 ∨ men ≤ i) : Met l yX12_swap (wW yX12_swap cX12_swap 3 (some .int)) ({ frames := 1, cells := 0, slots := 0, locals := 21 } : Room) (va_Pc [.ref g0, .int i, .int a2] (fun U => U.heap.size = sz ∧ va_P (dC, dI) classes [(g0, .inr (12, [.ref m_refused, .ref m_kind, .ref m_figure, .ref m_weight, .ref m_got, .ref m_setting, .int men, .int msy, .int mdn, .ref m_tape, .ref m_letter, .ref m_letterAt, .ref m_told, .int tp, .int mat, .int stm, .ref m_kept, .int hi, .int ki, .int cu, .ref m_price, .ref m_offer, .ref m_gets, .ref m_yes, .ref m_buys, .ref m_ends, .ref m_carried, .ref m_row, .int rm, .ref m_keptRow, .ref m_likeGets, .ref m_likePrice, .ref m_ahead])), (m_refused, .inl (aC 0, 7, .inl mr))] U.heap ∧ va_K (dC, dI) classes (TY aC) U ∧ va_D (fun _ => True) [(g0, .inr (12, [.ref m_refused, .ref m_kind, .ref m_figure, .ref m_weight, .ref m_got, .ref m_setting, .int men, .int msy, .int mdn, .ref m_tape, .ref m_letter, .ref m_letterAt, .ref m_told, .int tp, .int mat, .int stm, .ref m_kept, .int hi, .int ki, .int cu, .ref m_price, .ref m_offer, .ref m_gets, .ref m_yes, .ref m_buys, .ref m_ends, .ref m_carried, .ref m_row, .int rm, .ref m_keptRow, .ref m_likeGets, .ref m_likePrice, .ref m_ahead])), (m_refused, .inl (aC 0, 7, .inl mr))] ∧ NX U)) (va_Qi (fun (r : Int32) (_ : Unit) => r = -1) (fun (_ : Unit) (t : State) => va_P (dC, dI) classes [] t.heap ∧ va_K (dC, dI) classes (TY aC) t ∧ va_D (va_A [(g0, .inr (12, [.ref m_refused, .ref m_kind, .ref m_figure, .ref m_weight, .ref m_got, .ref m_setting, .int men, .int msy, .int mdn, .ref m_tape, .ref m_letter, .ref m_letterAt, .ref m_told, .int tp, .int mat, .int stm, .ref m_kept, .int hi, .int ki, .int cu, .ref m_price, .ref m_offer, .ref m_gets, .ref m_yes, .ref m_buys, .ref m_ends, .ref m_carried, .ref m_row, .int rm, .ref m_keptRow, .ref m_likeGets, .ref m_likePrice, .ref m_ahead])), (m_refused, .inl (aC 0, 7, .inl mr))] sz) []) (va_A [(g0, .inr (12, [.ref m_refused, .ref m_kind, .ref m_figure, .ref m_weight, .ref m_got, .ref m_setting, .int men, .int msy, .int mdn, .ref m_tape, .ref m_letter, .ref m_letterAt, .ref m_told, .int tp, .int mat, .int stm, .ref m_kept, .int hi, .int ki, .int cu, .ref m_price, .ref m_offer, .ref m_gets, .ref m_yes, .ref m_buys, .ref m_ends, .ref m_carried, .ref m_row, .int rm, .ref m_keptRow, .ref m_likeGets, .ref m_likePrice, .ref m_ahead])), (m_refused, .inl (aC 0, 7, .inl mr))] sz)) 0 0 (va_A [(g0, .inr (12, [.ref m_refused, .ref m_kind, .ref m_figure, .ref m_weight, .ref m_got, .ref m_setting, .int men, .int msy, .int mdn, .ref m_tape, .ref m_letter, .ref m_letterAt, .ref m_told, .int tp, .int mat, .int stm, .ref m_kept, .int hi, .int ki, .int cu, .ref m_price, .ref m_offer, .ref m_gets, .ref m_yes, .ref m_buys, .ref m_ends, .ref m_carried, .ref m_row, .int rm, .ref m_keptRow, .ref m_likeGets, .ref m_likePrice, .ref m_ahead])), (m_refused, .inl (aC 0, 7, .inl mr))] sz) := by
  refine Met.ofW (cc := cX12_swap) (maxL := 3) (ret := (some .int)) (by decide) rfl ?_
  intro p e s m args below meth c s₁ B hml hv
  obtain ⟨rfl, hsz, hP, hK, hD0, hN⟩ := hv
  have hx := B.exec
  have hb := B.bytes
  have hr := B.returns
  have hts0 := atoms_spec (ws := (wW yX12_swap cX12_swap 3 (some .int))) B.pre
  have hts : ∀ w9 ∈ lw_G, w9.before ([.ref g0, .int i, .int a2] : List Value).toArray s = true := fun w9 h9 => hts0 w9 (List.mem_cons_of_mem _ h9)
  have hown : s.vm.findClass RX12 = some m.cls := findClass_of_methodNamed B.named
  have hlocks := B.notSynchronized
  subst hsz
  have hD := hD0.self (sz := s.heap.size)
  generalize hAe : va_A [(g0, .inr (12, [.ref m_refused, .ref m_kind, .ref m_figure, .ref m_weight, .ref m_got, .ref m_setting, .int men, .int msy, .int mdn, .ref m_tape, .ref m_letter, .ref m_letterAt, .ref m_told, .int tp, .int mat, .int stm, .ref m_kept, .int hi, .int ki, .int cu, .ref m_price, .ref m_offer, .ref m_gets, .ref m_yes, .ref m_buys, .ref m_ends, .ref m_carried, .ref m_row, .int rm, .ref m_keptRow, .ref m_likeGets, .ref m_likePrice, .ref m_ahead])), (m_refused, .inl (aC 0, 7, .inl mr))] s.heap.size = A at hD ⊢
  have hA : ∀ q : Nat, s.heap.size ≤ q → A q := fun q h => by rw [← hAe]; exact Or.inr h
  obtain ⟨H, hHe⟩ : ∃ H : Heap, H = s.heap := ⟨_, rfl⟩
  have hS : va_S A s.heap H [] := by rw [hHe]; exact va_S.rf
  have hP : va_P (dC, dI) classes [(g0, .inr (12, [.ref m_refused, .ref m_kind, .ref m_figure, .ref m_weight, .ref m_got, .ref m_setting, .int men, .int msy, .int mdn, .ref m_tape, .ref m_letter, .ref m_letterAt, .ref m_told, .int tp, .int mat, .int stm, .ref m_kept, .int hi, .int ki, .int cu, .ref m_price, .ref m_offer, .ref m_gets, .ref m_yes, .ref m_buys, .ref m_ends, .ref m_carried, .ref m_row, .int rm, .ref m_keptRow, .ref m_likeGets, .ref m_likePrice, .ref m_ahead])), (m_refused, .inl (aC 0, 7, .inl mr))] H := by rw [hHe]; exact hP
  have hl := lv_entry ([.ref g0, .int i, .int a2]) (n := 3) (Nat.le_of_ble_eq_true rfl)
  rw [lg_entry_eq]
  generalize (lg_sl ([.ref g0, .int i, .int a2]) ++ List.replicate (3 - (lg_sl ([.ref g0, .int i, .int a2])).length) Slot.unset).toArray = ls at hl ⊢
  have hl : lv_has ls 3 [(0, .ref g0), (1, .int i), (2, .int a2)] := hl
  rw [← hHe]
  refine lv_aload_n hx hb dX12_swap_0 rfl (lv_at hl 0 rfl) ?_
  refine lv_iload_n hx hb dX12_swap_1 rfl (lv_at hl 1 rfl) ?_
  have hPc := hP.sub (ws' := [(g0, .inr (12, [.ref m_refused, .ref m_kind, .ref m_figure, .ref m_weight, .ref m_got, .ref m_setting, .int men, .int msy, .int mdn, .ref m_tape, .ref m_letter, .ref m_letterAt, .ref m_told, .int tp, .int mat, .int stm, .ref m_kept, .int hi, .int ki, .int cu, .ref m_price, .ref m_offer, .ref m_gets, .ref m_yes, .ref m_buys, .ref m_ends, .ref m_carried, .ref m_row, .int rm, .ref m_keptRow, .ref m_likeGets, .ref m_likePrice, .ref m_ahead]))]) [0] rfl
  have hDc := hD.sub (ws' := [(g0, .inr (12, [.ref m_refused, .ref m_kind, .ref m_figure, .ref m_weight, .ref m_got, .ref m_setting, .int men, .int msy, .int mdn, .ref m_tape, .ref m_letter, .ref m_letterAt, .ref m_told, .int tp, .int mat, .int stm, .ref m_kept, .int hi, .int ki, .int cu, .ref m_price, .ref m_offer, .ref m_gets, .ref m_yes, .ref m_buys, .ref m_ends, .ref m_carried, .ref m_row, .int rm, .ref m_keptRow, .ref m_likeGets, .ref m_likePrice, .ref m_ahead]))]) [0] (by decide) rfl
  have hFc := va_free (wc := [(g0, .inr (12, [.ref m_refused, .ref m_kind, .ref m_figure, .ref m_weight, .ref m_got, .ref m_setting, .int men, .int msy, .int mdn, .ref m_tape, .ref m_letter, .ref m_letterAt, .ref m_told, .int tp, .int mat, .int stm, .ref m_kept, .int hi, .int ki, .int cu, .ref m_price, .ref m_offer, .ref m_gets, .ref m_yes, .ref m_buys, .ref m_ends, .ref m_carried, .ref m_row, .int rm, .ref m_keptRow, .ref m_likeGets, .ref m_likePrice, .ref m_ahead]))]) hD hS hA [0] rfl
  refine va_calli (va_runV (As := [.int i]) (rest := []) ⟨hx, hb, hml, hown, hts⟩ (c_X12_isMan l dC dI aC H.size g0 m_refused m_kind m_figure m_weight m_got m_setting m_tape m_letter m_letterAt m_told m_kept m_price m_offer m_gets m_yes m_buys m_ends m_carried m_row m_keptRow m_likeGets m_likePrice m_ahead men msy mdn tp mat stm hi ki cu rm i ) ⟨(callB_of 1 hts (gG kw_878) rfl rfl rfl (hts _ (gw kw_13 rfl)) (hts _ (gw kw_875 rfl)) (by decide +kernel) ⟨Nat.le_of_ble_eq_true rfl, Nat.le_of_ble_eq_true rfl⟩), (hts _ (gw kw_877 rfl)), (hts _ (gw ks_43 rfl))⟩ ⟨fun a U g mk q => by obtain ⟨q0, q1, qP, qK, qD, qN⟩ := q; exact ⟨q0, q1, qP, va_K.moved (u := U) (U := U.calling g mk a) (Vm.Alike.refl U.vm) qK, qD, NX.same (u := U) (U := U.calling g mk a) rfl qN⟩, va_recv hK hPc (ci := 12) (q0 := 0) rfl rfl, fun U hU hW => ⟨rfl, by rw [hU], by rw [hU]; exact hPc, va_K.moved hW.alike hK, hDc.weaken (fun _ _ _ _ => trivial), NX.warm hW hN⟩⟩ rfl rfl hl.1 rfl (lv_room (Nat.le_of_ble_eq_true rfl)) dX12_swap_2 ⟨Nat.le_of_ble_eq_true rfl, Nat.le_of_ble_eq_true rfl⟩) hS (fun q _ h => hFc q h) hFc (fun x_1 u t H1 locs ht hvm hw_1 hB hz1 hk1 hS => ?_)
  obtain ⟨hP1, hK1, hD1⟩ := hB
  rw [ht] at hP1
  clear hK1
  try dsimp only at hw_1
  obtain ⟨hP, hD⟩ := va_join (wr := [(m_refused, .inl (aC 0, 7, .inl mr))]) (w1 := [(g0, .inr (12, [.ref m_refused, .ref m_kind, .ref m_figure, .ref m_weight, .ref m_got, .ref m_setting, .int men, .int msy, .int mdn, .ref m_tape, .ref m_letter, .ref m_letterAt, .ref m_told, .int tp, .int mat, .int stm, .ref m_kept, .int hi, .int ki, .int cu, .ref m_price, .ref m_offer, .ref m_gets, .ref m_yes, .ref m_buys, .ref m_ends, .ref m_carried, .ref m_row, .int rm, .ref m_keptRow, .ref m_likeGets, .ref m_likePrice, .ref m_ahead]))]) hP hD [0] [1] rfl rfl (by decide) (by decide) hk1 hFc hP1 hD1
  generalize H1 = H at hP hS ⊢
  have hP : va_P (dC, dI) classes [(m_refused, .inl (aC 0, 7, .inl mr)), (g0, .inr (12, [.ref m_refused, .ref m_kind, .ref m_figure, .ref m_weight, .ref m_got, .ref m_setting, .int men, .int msy, .int mdn, .ref m_tape, .ref m_letter, .ref m_letterAt, .ref m_told, .int tp, .int mat, .int stm, .ref m_kept, .int hi, .int ki, .int cu, .ref m_price, .ref m_offer, .ref m_gets, .ref m_yes, .ref m_buys, .ref m_ends, .ref m_carried, .ref m_row, .int rm, .ref m_keptRow, .ref m_likeGets, .ref m_likePrice, .ref m_ahead]))] H := hP
  have hD : va_D A [(m_refused, .inl (aC 0, 7, .inl mr)), (g0, .inr (12, [.ref m_refused, .ref m_kind, .ref m_figure, .ref m_weight, .ref m_got, .ref m_setting, .int men, .int msy, .int mdn, .ref m_tape, .ref m_letter, .ref m_letterAt, .ref m_told, .int tp, .int mat, .int stm, .ref m_kept, .int hi, .int ki, .int cu, .ref m_price, .ref m_offer, .ref m_gets, .ref m_yes, .ref m_buys, .ref m_ends, .ref m_carried, .ref m_row, .int rm, .ref m_keptRow, .ref m_likeGets, .ref m_likePrice, .ref m_ahead]))] := hD
  clear hPc hDc hFc hz1 hk1 hP1 hD1 ht hvm
  have hz_2 : x_1 = 0 := by rw [hw_1]; rcases hno with h9 | h9 <;> simp [h9]
  refine lv_if_eq (tgt := 21) hx hb dX12_swap_5 (by decide) (fun c_2 => ?_) (fun c_2 => ?_)
  · refine lv_aload_n hx hb dX12_swap_21 rfl (lv_at hl 0 rfl) ?_
    refine lv_iconst (v := -1) hx hb dX12_swap_22 (by decide) ?_
    have hPc := hP.sub (ws' := [(g0, .inr (12, [.ref m_refused, .ref m_kind, .ref m_figure, .ref m_weight, .ref m_got, .ref m_setting, .int men, .int msy, .int mdn, .ref m_tape, .ref m_letter, .ref m_letterAt, .ref m_told, .int tp, .int mat, .int stm, .ref m_kept, .int hi, .int ki, .int cu, .ref m_price, .ref m_offer, .ref m_gets, .ref m_yes, .ref m_buys, .ref m_ends, .ref m_carried, .ref m_row, .int rm, .ref m_keptRow, .ref m_likeGets, .ref m_likePrice, .ref m_ahead])), (m_refused, .inl (aC 0, 7, .inl mr))]) [1, 0] rfl
    have hDc := hD.sub (ws' := [(g0, .inr (12, [.ref m_refused, .ref m_kind, .ref m_figure, .ref m_weight, .ref m_got, .ref m_setting, .int men, .int msy, .int mdn, .ref m_tape, .ref m_letter, .ref m_letterAt, .ref m_told, .int tp, .int mat, .int stm, .ref m_kept, .int hi, .int ki, .int cu, .ref m_price, .ref m_offer, .ref m_gets, .ref m_yes, .ref m_buys, .ref m_ends, .ref m_carried, .ref m_row, .int rm, .ref m_keptRow, .ref m_likeGets, .ref m_likePrice, .ref m_ahead])), (m_refused, .inl (aC 0, 7, .inl mr))]) [1, 0] (by decide) rfl
    have hFc := va_free (wc := [(g0, .inr (12, [.ref m_refused, .ref m_kind, .ref m_figure, .ref m_weight, .ref m_got, .ref m_setting, .int men, .int msy, .int mdn, .ref m_tape, .ref m_letter, .ref m_letterAt, .ref m_told, .int tp, .int mat, .int stm, .ref m_kept, .int hi, .int ki, .int cu, .ref m_price, .ref m_offer, .ref m_gets, .ref m_yes, .ref m_buys, .ref m_ends, .ref m_carried, .ref m_row, .int rm, .ref m_keptRow, .ref m_likeGets, .ref m_likePrice, .ref m_ahead])), (m_refused, .inl (aC 0, 7, .inl mr))]) hD hS hA [1, 0] rfl
    refine va_calli (va_runV (As := [.int (-1)]) (rest := []) ⟨hx, hb, hml, hown, hts⟩ (c_X12_no l dC dI aC H.size g0 m_refused m_kind m_figure m_weight m_got m_setting m_tape m_letter m_letterAt m_told m_kept m_price m_offer m_gets m_yes m_buys m_ends m_carried m_row m_keptRow m_likeGets m_likePrice m_ahead men msy mdn tp mat stm hi ki cu rm (-1) 1 mr (by decide) (by unfold vp_in; decide)) ⟨(callB_of 1 hts (gG kw_827) rfl rfl rfl (hts _ (gw kw_13 rfl)) (hts _ (gw kw_824 rfl)) (by decide +kernel) ⟨Nat.le_of_ble_eq_true rfl, Nat.le_of_ble_eq_true rfl⟩), (hts _ (gw kw_826 rfl)), (hts _ (gw ks_35 rfl))⟩ ⟨fun a U g mk q => by obtain ⟨q0, q1, qP, qK, qD, qN⟩ := q; exact ⟨q0, q1, qP, va_K.moved (u := U) (U := U.calling g mk a) (Vm.Alike.refl U.vm) qK, qD, NX.same (u := U) (U := U.calling g mk a) rfl qN⟩, va_recv hK hPc (ci := 12) (q0 := 0) rfl rfl, fun U hU hW => ⟨rfl, by rw [hU], by rw [hU]; exact hPc, va_K.moved hW.alike hK, hDc.weaken (fun _ _ _ _ => trivial), NX.warm hW hN⟩⟩ rfl rfl hl.1 rfl (lv_room (Nat.le_of_ble_eq_true rfl)) dX12_swap_23 ⟨Nat.le_of_ble_eq_true rfl, Nat.le_of_ble_eq_true rfl⟩) hS (fun q _ h => hFc q h) hFc (fun x_3 u t H1 locs ht hvm hw_3 hB hz1 hk1 hS => ?_)
    obtain ⟨u_4, rfl⟩ : ∃ z, z = u := ⟨_, rfl⟩
    obtain ⟨hP1, hK1, hD1⟩ := hB
    rw [ht] at hP1
    clear hK1
    try dsimp only at hw_3
    obtain ⟨hP, hD⟩ := va_join (wr := []) (w1 := [(g0, .inr (12, [.ref m_refused, .ref m_kind, .ref m_figure, .ref m_weight, .ref m_got, .ref m_setting, .int men, .int msy, .int mdn, .ref m_tape, .ref m_letter, .ref m_letterAt, .ref m_told, .int tp, .int mat, .int stm, .ref m_kept, .int hi, .int ki, .int cu, .ref m_price, .ref m_offer, .ref m_gets, .ref m_yes, .ref m_buys, .ref m_ends, .ref m_carried, .ref m_row, .int rm, .ref m_keptRow, .ref m_likeGets, .ref m_likePrice, .ref m_ahead])), (m_refused, .inl (aC 0, 7, .inl u_4))]) hP hD [1, 0] [] rfl rfl (by decide) (by decide) hk1 hFc hP1 hD1
    generalize H1 = H at hP hS ⊢
    have hP : va_P (dC, dI) classes [(g0, .inr (12, [.ref m_refused, .ref m_kind, .ref m_figure, .ref m_weight, .ref m_got, .ref m_setting, .int men, .int msy, .int mdn, .ref m_tape, .ref m_letter, .ref m_letterAt, .ref m_told, .int tp, .int mat, .int stm, .ref m_kept, .int hi, .int ki, .int cu, .ref m_price, .ref m_offer, .ref m_gets, .ref m_yes, .ref m_buys, .ref m_ends, .ref m_carried, .ref m_row, .int rm, .ref m_keptRow, .ref m_likeGets, .ref m_likePrice, .ref m_ahead])), (m_refused, .inl (aC 0, 7, .inl u_4))] H := hP
    have hD : va_D A [(g0, .inr (12, [.ref m_refused, .ref m_kind, .ref m_figure, .ref m_weight, .ref m_got, .ref m_setting, .int men, .int msy, .int mdn, .ref m_tape, .ref m_letter, .ref m_letterAt, .ref m_told, .int tp, .int mat, .int stm, .ref m_kept, .int hi, .int ki, .int cu, .ref m_price, .ref m_offer, .ref m_gets, .ref m_yes, .ref m_buys, .ref m_ends, .ref m_carried, .ref m_row, .int rm, .ref m_keptRow, .ref m_likeGets, .ref m_likePrice, .ref m_ahead])), (m_refused, .inl (aC 0, 7, .inl u_4))] := hD
    clear hPc hDc hFc hz1 hk1 hP1 hD1 ht hvm
    obtain ⟨hv9, hv8⟩ := hw_3
    have hP9 := hP.sub (ws' := []) [] rfl
    have hD9 := hD.sub (ws' := []) [] (by decide) rfl
    refine W.widen (k := 0) (n := 0) (by omega) (by omega) ?_
    exact W.iret (v := x_3) hx hb hr (fun t ht hW => ⟨⟨x_3, (), rfl, hv9, by rw [ht]; exact hP9, va_K.moved hW.alike hK, hD9⟩, hS.F ht⟩) hS.2.2 dX12_swap_26
  · exact absurd hz_2 c_2

set_option maxHeartbeats 4000000 in
set_option maxRecDepth 100000 in
/-- X12_bestAge_r -/
theorem c_X12_bestAge_r (l : Launch) (dC : Nat → ClassId) (dI : Nat → Nat → Nat) (aC : Nat → ClassId) (sz : Nat) (g0 : Nat) (m_refused : Nat) (m_kind : Nat) (m_figure : Nat) (m_weight : Nat) (m_got : Nat) (m_setting : Nat) (m_tape : Nat) (m_letter : Nat) (m_letterAt : Nat) (m_told : Nat) (m_kept : Nat) (m_price : Nat) (m_offer : Nat) (m_gets : Nat) (m_yes : Nat) (m_buys : Nat) (m_ends : Nat) (m_carried : Nat) (m_row : Nat) (m_keptRow : Nat) (m_likeGets : Nat) (m_likePrice : Nat) (m_ahead : Nat) (men : Int32) (msy : Int32) (mdn : Int32) (tp : Int32) (mat : Int32) (stm : Int32) (hi : Int32) (ki : Int32) (cu : Int32) (rm : Int32) (mr : Nat → Int32) (i : Int32) (hno : i < 0 ∨ men ≤ i) : Met l yX12_bestAge (wW yX12_bestAge cX12_bestAge 6 (some .int)) ({ frames := 1, cells := 0, slots := 0, locals := 21 } : Room) (va_Pc [.ref g0, .int i] (fun U => U.heap.size = sz ∧ va_P (dC, dI) classes [(g0, .inr (12, [.ref m_refused, .ref m_kind, .ref m_figure, .ref m_weight, .ref m_got, .ref m_setting, .int men, .int msy, .int mdn, .ref m_tape, .ref m_letter, .ref m_letterAt, .ref m_told, .int tp, .int mat, .int stm, .ref m_kept, .int hi, .int ki, .int cu, .ref m_price, .ref m_offer, .ref m_gets, .ref m_yes, .ref m_buys, .ref m_ends, .ref m_carried, .ref m_row, .int rm, .ref m_keptRow, .ref m_likeGets, .ref m_likePrice, .ref m_ahead])), (m_refused, .inl (aC 0, 7, .inl mr))] U.heap ∧ va_K (dC, dI) classes (TY aC) U ∧ va_D (fun _ => True) [(g0, .inr (12, [.ref m_refused, .ref m_kind, .ref m_figure, .ref m_weight, .ref m_got, .ref m_setting, .int men, .int msy, .int mdn, .ref m_tape, .ref m_letter, .ref m_letterAt, .ref m_told, .int tp, .int mat, .int stm, .ref m_kept, .int hi, .int ki, .int cu, .ref m_price, .ref m_offer, .ref m_gets, .ref m_yes, .ref m_buys, .ref m_ends, .ref m_carried, .ref m_row, .int rm, .ref m_keptRow, .ref m_likeGets, .ref m_likePrice, .ref m_ahead])), (m_refused, .inl (aC 0, 7, .inl mr))] ∧ NX U)) (va_Qi (fun (r : Int32) (_ : Unit) => r = -1) (fun (_ : Unit) (t : State) => va_P (dC, dI) classes [] t.heap ∧ va_K (dC, dI) classes (TY aC) t ∧ va_D (va_A [(g0, .inr (12, [.ref m_refused, .ref m_kind, .ref m_figure, .ref m_weight, .ref m_got, .ref m_setting, .int men, .int msy, .int mdn, .ref m_tape, .ref m_letter, .ref m_letterAt, .ref m_told, .int tp, .int mat, .int stm, .ref m_kept, .int hi, .int ki, .int cu, .ref m_price, .ref m_offer, .ref m_gets, .ref m_yes, .ref m_buys, .ref m_ends, .ref m_carried, .ref m_row, .int rm, .ref m_keptRow, .ref m_likeGets, .ref m_likePrice, .ref m_ahead])), (m_refused, .inl (aC 0, 7, .inl mr))] sz) []) (va_A [(g0, .inr (12, [.ref m_refused, .ref m_kind, .ref m_figure, .ref m_weight, .ref m_got, .ref m_setting, .int men, .int msy, .int mdn, .ref m_tape, .ref m_letter, .ref m_letterAt, .ref m_told, .int tp, .int mat, .int stm, .ref m_kept, .int hi, .int ki, .int cu, .ref m_price, .ref m_offer, .ref m_gets, .ref m_yes, .ref m_buys, .ref m_ends, .ref m_carried, .ref m_row, .int rm, .ref m_keptRow, .ref m_likeGets, .ref m_likePrice, .ref m_ahead])), (m_refused, .inl (aC 0, 7, .inl mr))] sz)) 0 0 (va_A [(g0, .inr (12, [.ref m_refused, .ref m_kind, .ref m_figure, .ref m_weight, .ref m_got, .ref m_setting, .int men, .int msy, .int mdn, .ref m_tape, .ref m_letter, .ref m_letterAt, .ref m_told, .int tp, .int mat, .int stm, .ref m_kept, .int hi, .int ki, .int cu, .ref m_price, .ref m_offer, .ref m_gets, .ref m_yes, .ref m_buys, .ref m_ends, .ref m_carried, .ref m_row, .int rm, .ref m_keptRow, .ref m_likeGets, .ref m_likePrice, .ref m_ahead])), (m_refused, .inl (aC 0, 7, .inl mr))] sz) := by
  refine Met.ofW (cc := cX12_bestAge) (maxL := 6) (ret := (some .int)) (by decide) rfl ?_
  intro p e s m args below meth c s₁ B hml hv
  obtain ⟨rfl, hsz, hP, hK, hD0, hN⟩ := hv
  have hx := B.exec
  have hb := B.bytes
  have hr := B.returns
  have hts0 := atoms_spec (ws := (wW yX12_bestAge cX12_bestAge 6 (some .int))) B.pre
  have hts : ∀ w9 ∈ lw_G, w9.before ([.ref g0, .int i] : List Value).toArray s = true := fun w9 h9 => hts0 w9 (List.mem_cons_of_mem _ h9)
  have hown : s.vm.findClass RX12 = some m.cls := findClass_of_methodNamed B.named
  have hlocks := B.notSynchronized
  subst hsz
  have hD := hD0.self (sz := s.heap.size)
  generalize hAe : va_A [(g0, .inr (12, [.ref m_refused, .ref m_kind, .ref m_figure, .ref m_weight, .ref m_got, .ref m_setting, .int men, .int msy, .int mdn, .ref m_tape, .ref m_letter, .ref m_letterAt, .ref m_told, .int tp, .int mat, .int stm, .ref m_kept, .int hi, .int ki, .int cu, .ref m_price, .ref m_offer, .ref m_gets, .ref m_yes, .ref m_buys, .ref m_ends, .ref m_carried, .ref m_row, .int rm, .ref m_keptRow, .ref m_likeGets, .ref m_likePrice, .ref m_ahead])), (m_refused, .inl (aC 0, 7, .inl mr))] s.heap.size = A at hD ⊢
  have hA : ∀ q : Nat, s.heap.size ≤ q → A q := fun q h => by rw [← hAe]; exact Or.inr h
  obtain ⟨H, hHe⟩ : ∃ H : Heap, H = s.heap := ⟨_, rfl⟩
  have hS : va_S A s.heap H [] := by rw [hHe]; exact va_S.rf
  have hP : va_P (dC, dI) classes [(g0, .inr (12, [.ref m_refused, .ref m_kind, .ref m_figure, .ref m_weight, .ref m_got, .ref m_setting, .int men, .int msy, .int mdn, .ref m_tape, .ref m_letter, .ref m_letterAt, .ref m_told, .int tp, .int mat, .int stm, .ref m_kept, .int hi, .int ki, .int cu, .ref m_price, .ref m_offer, .ref m_gets, .ref m_yes, .ref m_buys, .ref m_ends, .ref m_carried, .ref m_row, .int rm, .ref m_keptRow, .ref m_likeGets, .ref m_likePrice, .ref m_ahead])), (m_refused, .inl (aC 0, 7, .inl mr))] H := by rw [hHe]; exact hP
  have hl := lv_entry ([.ref g0, .int i]) (n := 6) (Nat.le_of_ble_eq_true rfl)
  rw [lg_entry_eq]
  generalize (lg_sl ([.ref g0, .int i]) ++ List.replicate (6 - (lg_sl ([.ref g0, .int i])).length) Slot.unset).toArray = ls at hl ⊢
  have hl : lv_has ls 6 [(0, .ref g0), (1, .int i)] := hl
  rw [← hHe]
  refine lv_aload_n hx hb dX12_bestAge_0 rfl (lv_at hl 0 rfl) ?_
  refine lv_iload_n hx hb dX12_bestAge_1 rfl (lv_at hl 1 rfl) ?_
  have hPc := hP.sub (ws' := [(g0, .inr (12, [.ref m_refused, .ref m_kind, .ref m_figure, .ref m_weight, .ref m_got, .ref m_setting, .int men, .int msy, .int mdn, .ref m_tape, .ref m_letter, .ref m_letterAt, .ref m_told, .int tp, .int mat, .int stm, .ref m_kept, .int hi, .int ki, .int cu, .ref m_price, .ref m_offer, .ref m_gets, .ref m_yes, .ref m_buys, .ref m_ends, .ref m_carried, .ref m_row, .int rm, .ref m_keptRow, .ref m_likeGets, .ref m_likePrice, .ref m_ahead]))]) [0] rfl
  have hDc := hD.sub (ws' := [(g0, .inr (12, [.ref m_refused, .ref m_kind, .ref m_figure, .ref m_weight, .ref m_got, .ref m_setting, .int men, .int msy, .int mdn, .ref m_tape, .ref m_letter, .ref m_letterAt, .ref m_told, .int tp, .int mat, .int stm, .ref m_kept, .int hi, .int ki, .int cu, .ref m_price, .ref m_offer, .ref m_gets, .ref m_yes, .ref m_buys, .ref m_ends, .ref m_carried, .ref m_row, .int rm, .ref m_keptRow, .ref m_likeGets, .ref m_likePrice, .ref m_ahead]))]) [0] (by decide) rfl
  have hFc := va_free (wc := [(g0, .inr (12, [.ref m_refused, .ref m_kind, .ref m_figure, .ref m_weight, .ref m_got, .ref m_setting, .int men, .int msy, .int mdn, .ref m_tape, .ref m_letter, .ref m_letterAt, .ref m_told, .int tp, .int mat, .int stm, .ref m_kept, .int hi, .int ki, .int cu, .ref m_price, .ref m_offer, .ref m_gets, .ref m_yes, .ref m_buys, .ref m_ends, .ref m_carried, .ref m_row, .int rm, .ref m_keptRow, .ref m_likeGets, .ref m_likePrice, .ref m_ahead]))]) hD hS hA [0] rfl
  refine va_calli (va_runV (As := [.int i]) (rest := []) ⟨hx, hb, hml, hown, hts⟩ (c_X12_isMan l dC dI aC H.size g0 m_refused m_kind m_figure m_weight m_got m_setting m_tape m_letter m_letterAt m_told m_kept m_price m_offer m_gets m_yes m_buys m_ends m_carried m_row m_keptRow m_likeGets m_likePrice m_ahead men msy mdn tp mat stm hi ki cu rm i ) ⟨(callB_of 1 hts (gG kw_878) rfl rfl rfl (hts _ (gw kw_13 rfl)) (hts _ (gw kw_875 rfl)) (by decide +kernel) ⟨Nat.le_of_ble_eq_true rfl, Nat.le_of_ble_eq_true rfl⟩), (hts _ (gw kw_877 rfl)), (hts _ (gw ks_43 rfl))⟩ ⟨fun a U g mk q => by obtain ⟨q0, q1, qP, qK, qD, qN⟩ := q; exact ⟨q0, q1, qP, va_K.moved (u := U) (U := U.calling g mk a) (Vm.Alike.refl U.vm) qK, qD, NX.same (u := U) (U := U.calling g mk a) rfl qN⟩, va_recv hK hPc (ci := 12) (q0 := 0) rfl rfl, fun U hU hW => ⟨rfl, by rw [hU], by rw [hU]; exact hPc, va_K.moved hW.alike hK, hDc.weaken (fun _ _ _ _ => trivial), NX.warm hW hN⟩⟩ rfl rfl hl.1 rfl (lv_room (Nat.le_of_ble_eq_true rfl)) dX12_bestAge_2 ⟨Nat.le_of_ble_eq_true rfl, Nat.le_of_ble_eq_true rfl⟩) hS (fun q _ h => hFc q h) hFc (fun x_1 u t H1 locs ht hvm hw_1 hB hz1 hk1 hS => ?_)
  obtain ⟨hP1, hK1, hD1⟩ := hB
  rw [ht] at hP1
  clear hK1
  try dsimp only at hw_1
  obtain ⟨hP, hD⟩ := va_join (wr := [(m_refused, .inl (aC 0, 7, .inl mr))]) (w1 := [(g0, .inr (12, [.ref m_refused, .ref m_kind, .ref m_figure, .ref m_weight, .ref m_got, .ref m_setting, .int men, .int msy, .int mdn, .ref m_tape, .ref m_letter, .ref m_letterAt, .ref m_told, .int tp, .int mat, .int stm, .ref m_kept, .int hi, .int ki, .int cu, .ref m_price, .ref m_offer, .ref m_gets, .ref m_yes, .ref m_buys, .ref m_ends, .ref m_carried, .ref m_row, .int rm, .ref m_keptRow, .ref m_likeGets, .ref m_likePrice, .ref m_ahead]))]) hP hD [0] [1] rfl rfl (by decide) (by decide) hk1 hFc hP1 hD1
  generalize H1 = H at hP hS ⊢
  have hP : va_P (dC, dI) classes [(m_refused, .inl (aC 0, 7, .inl mr)), (g0, .inr (12, [.ref m_refused, .ref m_kind, .ref m_figure, .ref m_weight, .ref m_got, .ref m_setting, .int men, .int msy, .int mdn, .ref m_tape, .ref m_letter, .ref m_letterAt, .ref m_told, .int tp, .int mat, .int stm, .ref m_kept, .int hi, .int ki, .int cu, .ref m_price, .ref m_offer, .ref m_gets, .ref m_yes, .ref m_buys, .ref m_ends, .ref m_carried, .ref m_row, .int rm, .ref m_keptRow, .ref m_likeGets, .ref m_likePrice, .ref m_ahead]))] H := hP
  have hD : va_D A [(m_refused, .inl (aC 0, 7, .inl mr)), (g0, .inr (12, [.ref m_refused, .ref m_kind, .ref m_figure, .ref m_weight, .ref m_got, .ref m_setting, .int men, .int msy, .int mdn, .ref m_tape, .ref m_letter, .ref m_letterAt, .ref m_told, .int tp, .int mat, .int stm, .ref m_kept, .int hi, .int ki, .int cu, .ref m_price, .ref m_offer, .ref m_gets, .ref m_yes, .ref m_buys, .ref m_ends, .ref m_carried, .ref m_row, .int rm, .ref m_keptRow, .ref m_likeGets, .ref m_likePrice, .ref m_ahead]))] := hD
  clear hPc hDc hFc hz1 hk1 hP1 hD1 ht hvm
  have hz_2 : x_1 = 0 := by rw [hw_1]; rcases hno with h9 | h9 <;> simp [h9]
  refine lv_if_ne (tgt := 14) hx hb dX12_bestAge_5 (by decide) (fun c_2 => ?_) (fun c_2 => ?_)
  · exact absurd hz_2 c_2
  · refine lv_aload_n hx hb dX12_bestAge_8 rfl (lv_at hl 0 rfl) ?_
    refine lv_iconst (v := -1) hx hb dX12_bestAge_9 (by decide) ?_
    have hPc := hP.sub (ws' := [(g0, .inr (12, [.ref m_refused, .ref m_kind, .ref m_figure, .ref m_weight, .ref m_got, .ref m_setting, .int men, .int msy, .int mdn, .ref m_tape, .ref m_letter, .ref m_letterAt, .ref m_told, .int tp, .int mat, .int stm, .ref m_kept, .int hi, .int ki, .int cu, .ref m_price, .ref m_offer, .ref m_gets, .ref m_yes, .ref m_buys, .ref m_ends, .ref m_carried, .ref m_row, .int rm, .ref m_keptRow, .ref m_likeGets, .ref m_likePrice, .ref m_ahead])), (m_refused, .inl (aC 0, 7, .inl mr))]) [1, 0] rfl
    have hDc := hD.sub (ws' := [(g0, .inr (12, [.ref m_refused, .ref m_kind, .ref m_figure, .ref m_weight, .ref m_got, .ref m_setting, .int men, .int msy, .int mdn, .ref m_tape, .ref m_letter, .ref m_letterAt, .ref m_told, .int tp, .int mat, .int stm, .ref m_kept, .int hi, .int ki, .int cu, .ref m_price, .ref m_offer, .ref m_gets, .ref m_yes, .ref m_buys, .ref m_ends, .ref m_carried, .ref m_row, .int rm, .ref m_keptRow, .ref m_likeGets, .ref m_likePrice, .ref m_ahead])), (m_refused, .inl (aC 0, 7, .inl mr))]) [1, 0] (by decide) rfl
    have hFc := va_free (wc := [(g0, .inr (12, [.ref m_refused, .ref m_kind, .ref m_figure, .ref m_weight, .ref m_got, .ref m_setting, .int men, .int msy, .int mdn, .ref m_tape, .ref m_letter, .ref m_letterAt, .ref m_told, .int tp, .int mat, .int stm, .ref m_kept, .int hi, .int ki, .int cu, .ref m_price, .ref m_offer, .ref m_gets, .ref m_yes, .ref m_buys, .ref m_ends, .ref m_carried, .ref m_row, .int rm, .ref m_keptRow, .ref m_likeGets, .ref m_likePrice, .ref m_ahead])), (m_refused, .inl (aC 0, 7, .inl mr))]) hD hS hA [1, 0] rfl
    refine va_calli (va_runV (As := [.int (-1)]) (rest := []) ⟨hx, hb, hml, hown, hts⟩ (c_X12_no l dC dI aC H.size g0 m_refused m_kind m_figure m_weight m_got m_setting m_tape m_letter m_letterAt m_told m_kept m_price m_offer m_gets m_yes m_buys m_ends m_carried m_row m_keptRow m_likeGets m_likePrice m_ahead men msy mdn tp mat stm hi ki cu rm (-1) 1 mr (by decide) (by unfold vp_in; decide)) ⟨(callB_of 1 hts (gG kw_827) rfl rfl rfl (hts _ (gw kw_13 rfl)) (hts _ (gw kw_824 rfl)) (by decide +kernel) ⟨Nat.le_of_ble_eq_true rfl, Nat.le_of_ble_eq_true rfl⟩), (hts _ (gw kw_826 rfl)), (hts _ (gw ks_35 rfl))⟩ ⟨fun a U g mk q => by obtain ⟨q0, q1, qP, qK, qD, qN⟩ := q; exact ⟨q0, q1, qP, va_K.moved (u := U) (U := U.calling g mk a) (Vm.Alike.refl U.vm) qK, qD, NX.same (u := U) (U := U.calling g mk a) rfl qN⟩, va_recv hK hPc (ci := 12) (q0 := 0) rfl rfl, fun U hU hW => ⟨rfl, by rw [hU], by rw [hU]; exact hPc, va_K.moved hW.alike hK, hDc.weaken (fun _ _ _ _ => trivial), NX.warm hW hN⟩⟩ rfl rfl hl.1 rfl (lv_room (Nat.le_of_ble_eq_true rfl)) dX12_bestAge_10 ⟨Nat.le_of_ble_eq_true rfl, Nat.le_of_ble_eq_true rfl⟩) hS (fun q _ h => hFc q h) hFc (fun x_3 u t H1 locs ht hvm hw_3 hB hz1 hk1 hS => ?_)
    obtain ⟨u_4, rfl⟩ : ∃ z, z = u := ⟨_, rfl⟩
    obtain ⟨hP1, hK1, hD1⟩ := hB
    rw [ht] at hP1
    clear hK1
    try dsimp only at hw_3
    obtain ⟨hP, hD⟩ := va_join (wr := []) (w1 := [(g0, .inr (12, [.ref m_refused, .ref m_kind, .ref m_figure, .ref m_weight, .ref m_got, .ref m_setting, .int men, .int msy, .int mdn, .ref m_tape, .ref m_letter, .ref m_letterAt, .ref m_told, .int tp, .int mat, .int stm, .ref m_kept, .int hi, .int ki, .int cu, .ref m_price, .ref m_offer, .ref m_gets, .ref m_yes, .ref m_buys, .ref m_ends, .ref m_carried, .ref m_row, .int rm, .ref m_keptRow, .ref m_likeGets, .ref m_likePrice, .ref m_ahead])), (m_refused, .inl (aC 0, 7, .inl u_4))]) hP hD [1, 0] [] rfl rfl (by decide) (by decide) hk1 hFc hP1 hD1
    generalize H1 = H at hP hS ⊢
    have hP : va_P (dC, dI) classes [(g0, .inr (12, [.ref m_refused, .ref m_kind, .ref m_figure, .ref m_weight, .ref m_got, .ref m_setting, .int men, .int msy, .int mdn, .ref m_tape, .ref m_letter, .ref m_letterAt, .ref m_told, .int tp, .int mat, .int stm, .ref m_kept, .int hi, .int ki, .int cu, .ref m_price, .ref m_offer, .ref m_gets, .ref m_yes, .ref m_buys, .ref m_ends, .ref m_carried, .ref m_row, .int rm, .ref m_keptRow, .ref m_likeGets, .ref m_likePrice, .ref m_ahead])), (m_refused, .inl (aC 0, 7, .inl u_4))] H := hP
    have hD : va_D A [(g0, .inr (12, [.ref m_refused, .ref m_kind, .ref m_figure, .ref m_weight, .ref m_got, .ref m_setting, .int men, .int msy, .int mdn, .ref m_tape, .ref m_letter, .ref m_letterAt, .ref m_told, .int tp, .int mat, .int stm, .ref m_kept, .int hi, .int ki, .int cu, .ref m_price, .ref m_offer, .ref m_gets, .ref m_yes, .ref m_buys, .ref m_ends, .ref m_carried, .ref m_row, .int rm, .ref m_keptRow, .ref m_likeGets, .ref m_likePrice, .ref m_ahead])), (m_refused, .inl (aC 0, 7, .inl u_4))] := hD
    clear hPc hDc hFc hz1 hk1 hP1 hD1 ht hvm
    obtain ⟨hv9, hv8⟩ := hw_3
    have hP9 := hP.sub (ws' := []) [] rfl
    have hD9 := hD.sub (ws' := []) [] (by decide) rfl
    refine W.widen (k := 0) (n := 0) (by omega) (by omega) ?_
    exact W.iret (v := x_3) hx hb hr (fun t ht hW => ⟨⟨x_3, (), rfl, hv9, by rw [ht]; exact hP9, va_K.moved hW.alike hK, hD9⟩, hS.F ht⟩) hS.2.2 dX12_bestAge_13

set_option maxHeartbeats 4000000 in
set_option maxRecDepth 100000 in
/-- X12_seeds_r -/
theorem c_X12_seeds_r (l : Launch) (dC : Nat → ClassId) (dI : Nat → Nat → Nat) (aC : Nat → ClassId) (sz : Nat) (g0 : Nat) (m_refused : Nat) (m_kind : Nat) (m_figure : Nat) (m_weight : Nat) (m_got : Nat) (m_setting : Nat) (m_tape : Nat) (m_letter : Nat) (m_letterAt : Nat) (m_told : Nat) (m_kept : Nat) (m_price : Nat) (m_offer : Nat) (m_gets : Nat) (m_yes : Nat) (m_buys : Nat) (m_ends : Nat) (m_carried : Nat) (m_row : Nat) (m_keptRow : Nat) (m_likeGets : Nat) (m_likePrice : Nat) (m_ahead : Nat) (men : Int32) (msy : Int32) (mdn : Int32) (tp : Int32) (mat : Int32) (stm : Int32) (hi : Int32) (ki : Int32) (cu : Int32) (rm : Int32) (mr : Nat → Int32) (i : Int32) (a2 : Int32) (a3 : Int32) (hno : i < 0 ∨ men ≤ i) : Met l yX12_seeds (wW yX12_seeds cX12_seeds 11 (some .int)) ({ frames := 1, cells := 0, slots := 0, locals := 21 } : Room) (va_Pc [.ref g0, .int i, .int a2, .int a3] (fun U => U.heap.size = sz ∧ va_P (dC, dI) classes [(g0, .inr (12, [.ref m_refused, .ref m_kind, .ref m_figure, .ref m_weight, .ref m_got, .ref m_setting, .int men, .int msy, .int mdn, .ref m_tape, .ref m_letter, .ref m_letterAt, .ref m_told, .int tp, .int mat, .int stm, .ref m_kept, .int hi, .int ki, .int cu, .ref m_price, .ref m_offer, .ref m_gets, .ref m_yes, .ref m_buys, .ref m_ends, .ref m_carried, .ref m_row, .int rm, .ref m_keptRow, .ref m_likeGets, .ref m_likePrice, .ref m_ahead])), (m_refused, .inl (aC 0, 7, .inl mr))] U.heap ∧ va_K (dC, dI) classes (TY aC) U ∧ va_D (fun _ => True) [(g0, .inr (12, [.ref m_refused, .ref m_kind, .ref m_figure, .ref m_weight, .ref m_got, .ref m_setting, .int men, .int msy, .int mdn, .ref m_tape, .ref m_letter, .ref m_letterAt, .ref m_told, .int tp, .int mat, .int stm, .ref m_kept, .int hi, .int ki, .int cu, .ref m_price, .ref m_offer, .ref m_gets, .ref m_yes, .ref m_buys, .ref m_ends, .ref m_carried, .ref m_row, .int rm, .ref m_keptRow, .ref m_likeGets, .ref m_likePrice, .ref m_ahead])), (m_refused, .inl (aC 0, 7, .inl mr))] ∧ NX U)) (va_Qi (fun (r : Int32) (_ : Unit) => r = -1) (fun (_ : Unit) (t : State) => va_P (dC, dI) classes [] t.heap ∧ va_K (dC, dI) classes (TY aC) t ∧ va_D (va_A [(g0, .inr (12, [.ref m_refused, .ref m_kind, .ref m_figure, .ref m_weight, .ref m_got, .ref m_setting, .int men, .int msy, .int mdn, .ref m_tape, .ref m_letter, .ref m_letterAt, .ref m_told, .int tp, .int mat, .int stm, .ref m_kept, .int hi, .int ki, .int cu, .ref m_price, .ref m_offer, .ref m_gets, .ref m_yes, .ref m_buys, .ref m_ends, .ref m_carried, .ref m_row, .int rm, .ref m_keptRow, .ref m_likeGets, .ref m_likePrice, .ref m_ahead])), (m_refused, .inl (aC 0, 7, .inl mr))] sz) []) (va_A [(g0, .inr (12, [.ref m_refused, .ref m_kind, .ref m_figure, .ref m_weight, .ref m_got, .ref m_setting, .int men, .int msy, .int mdn, .ref m_tape, .ref m_letter, .ref m_letterAt, .ref m_told, .int tp, .int mat, .int stm, .ref m_kept, .int hi, .int ki, .int cu, .ref m_price, .ref m_offer, .ref m_gets, .ref m_yes, .ref m_buys, .ref m_ends, .ref m_carried, .ref m_row, .int rm, .ref m_keptRow, .ref m_likeGets, .ref m_likePrice, .ref m_ahead])), (m_refused, .inl (aC 0, 7, .inl mr))] sz)) 0 0 (va_A [(g0, .inr (12, [.ref m_refused, .ref m_kind, .ref m_figure, .ref m_weight, .ref m_got, .ref m_setting, .int men, .int msy, .int mdn, .ref m_tape, .ref m_letter, .ref m_letterAt, .ref m_told, .int tp, .int mat, .int stm, .ref m_kept, .int hi, .int ki, .int cu, .ref m_price, .ref m_offer, .ref m_gets, .ref m_yes, .ref m_buys, .ref m_ends, .ref m_carried, .ref m_row, .int rm, .ref m_keptRow, .ref m_likeGets, .ref m_likePrice, .ref m_ahead])), (m_refused, .inl (aC 0, 7, .inl mr))] sz) := by
  refine Met.ofW (cc := cX12_seeds) (maxL := 11) (ret := (some .int)) (by decide) rfl ?_
  intro p e s m args below meth c s₁ B hml hv
  obtain ⟨rfl, hsz, hP, hK, hD0, hN⟩ := hv
  have hx := B.exec
  have hb := B.bytes
  have hr := B.returns
  have hts0 := atoms_spec (ws := (wW yX12_seeds cX12_seeds 11 (some .int))) B.pre
  have hts : ∀ w9 ∈ lw_G, w9.before ([.ref g0, .int i, .int a2, .int a3] : List Value).toArray s = true := fun w9 h9 => hts0 w9 (List.mem_cons_of_mem _ h9)
  have hown : s.vm.findClass RX12 = some m.cls := findClass_of_methodNamed B.named
  have hlocks := B.notSynchronized
  subst hsz
  have hD := hD0.self (sz := s.heap.size)
  generalize hAe : va_A [(g0, .inr (12, [.ref m_refused, .ref m_kind, .ref m_figure, .ref m_weight, .ref m_got, .ref m_setting, .int men, .int msy, .int mdn, .ref m_tape, .ref m_letter, .ref m_letterAt, .ref m_told, .int tp, .int mat, .int stm, .ref m_kept, .int hi, .int ki, .int cu, .ref m_price, .ref m_offer, .ref m_gets, .ref m_yes, .ref m_buys, .ref m_ends, .ref m_carried, .ref m_row, .int rm, .ref m_keptRow, .ref m_likeGets, .ref m_likePrice, .ref m_ahead])), (m_refused, .inl (aC 0, 7, .inl mr))] s.heap.size = A at hD ⊢
  have hA : ∀ q : Nat, s.heap.size ≤ q → A q := fun q h => by rw [← hAe]; exact Or.inr h
  obtain ⟨H, hHe⟩ : ∃ H : Heap, H = s.heap := ⟨_, rfl⟩
  have hS : va_S A s.heap H [] := by rw [hHe]; exact va_S.rf
  have hP : va_P (dC, dI) classes [(g0, .inr (12, [.ref m_refused, .ref m_kind, .ref m_figure, .ref m_weight, .ref m_got, .ref m_setting, .int men, .int msy, .int mdn, .ref m_tape, .ref m_letter, .ref m_letterAt, .ref m_told, .int tp, .int mat, .int stm, .ref m_kept, .int hi, .int ki, .int cu, .ref m_price, .ref m_offer, .ref m_gets, .ref m_yes, .ref m_buys, .ref m_ends, .ref m_carried, .ref m_row, .int rm, .ref m_keptRow, .ref m_likeGets, .ref m_likePrice, .ref m_ahead])), (m_refused, .inl (aC 0, 7, .inl mr))] H := by rw [hHe]; exact hP
  have hl := lv_entry ([.ref g0, .int i, .int a2, .int a3]) (n := 11) (Nat.le_of_ble_eq_true rfl)
  rw [lg_entry_eq]
  generalize (lg_sl ([.ref g0, .int i, .int a2, .int a3]) ++ List.replicate (11 - (lg_sl ([.ref g0, .int i, .int a2, .int a3])).length) Slot.unset).toArray = ls at hl ⊢
  have hl : lv_has ls 11 [(0, .ref g0), (1, .int i), (2, .int a2), (3, .int a3)] := hl
  rw [← hHe]
  refine lv_aload_n hx hb dX12_seeds_0 rfl (lv_at hl 0 rfl) ?_
  refine lv_iload_n hx hb dX12_seeds_1 rfl (lv_at hl 1 rfl) ?_
  have hPc := hP.sub (ws' := [(g0, .inr (12, [.ref m_refused, .ref m_kind, .ref m_figure, .ref m_weight, .ref m_got, .ref m_setting, .int men, .int msy, .int mdn, .ref m_tape, .ref m_letter, .ref m_letterAt, .ref m_told, .int tp, .int mat, .int stm, .ref m_kept, .int hi, .int ki, .int cu, .ref m_price, .ref m_offer, .ref m_gets, .ref m_yes, .ref m_buys, .ref m_ends, .ref m_carried, .ref m_row, .int rm, .ref m_keptRow, .ref m_likeGets, .ref m_likePrice, .ref m_ahead]))]) [0] rfl
  have hDc := hD.sub (ws' := [(g0, .inr (12, [.ref m_refused, .ref m_kind, .ref m_figure, .ref m_weight, .ref m_got, .ref m_setting, .int men, .int msy, .int mdn, .ref m_tape, .ref m_letter, .ref m_letterAt, .ref m_told, .int tp, .int mat, .int stm, .ref m_kept, .int hi, .int ki, .int cu, .ref m_price, .ref m_offer, .ref m_gets, .ref m_yes, .ref m_buys, .ref m_ends, .ref m_carried, .ref m_row, .int rm, .ref m_keptRow, .ref m_likeGets, .ref m_likePrice, .ref m_ahead]))]) [0] (by decide) rfl
  have hFc := va_free (wc := [(g0, .inr (12, [.ref m_refused, .ref m_kind, .ref m_figure, .ref m_weight, .ref m_got, .ref m_setting, .int men, .int msy, .int mdn, .ref m_tape, .ref m_letter, .ref m_letterAt, .ref m_told, .int tp, .int mat, .int stm, .ref m_kept, .int hi, .int ki, .int cu, .ref m_price, .ref m_offer, .ref m_gets, .ref m_yes, .ref m_buys, .ref m_ends, .ref m_carried, .ref m_row, .int rm, .ref m_keptRow, .ref m_likeGets, .ref m_likePrice, .ref m_ahead]))]) hD hS hA [0] rfl
  refine va_calli (va_runV (As := [.int i]) (rest := []) ⟨hx, hb, hml, hown, hts⟩ (c_X12_isMan l dC dI aC H.size g0 m_refused m_kind m_figure m_weight m_got m_setting m_tape m_letter m_letterAt m_told m_kept m_price m_offer m_gets m_yes m_buys m_ends m_carried m_row m_keptRow m_likeGets m_likePrice m_ahead men msy mdn tp mat stm hi ki cu rm i ) ⟨(callB_of 1 hts (gG kw_878) rfl rfl rfl (hts _ (gw kw_13 rfl)) (hts _ (gw kw_875 rfl)) (by decide +kernel) ⟨Nat.le_of_ble_eq_true rfl, Nat.le_of_ble_eq_true rfl⟩), (hts _ (gw kw_877 rfl)), (hts _ (gw ks_43 rfl))⟩ ⟨fun a U g mk q => by obtain ⟨q0, q1, qP, qK, qD, qN⟩ := q; exact ⟨q0, q1, qP, va_K.moved (u := U) (U := U.calling g mk a) (Vm.Alike.refl U.vm) qK, qD, NX.same (u := U) (U := U.calling g mk a) rfl qN⟩, va_recv hK hPc (ci := 12) (q0 := 0) rfl rfl, fun U hU hW => ⟨rfl, by rw [hU], by rw [hU]; exact hPc, va_K.moved hW.alike hK, hDc.weaken (fun _ _ _ _ => trivial), NX.warm hW hN⟩⟩ rfl rfl hl.1 rfl (lv_room (Nat.le_of_ble_eq_true rfl)) dX12_seeds_2 ⟨Nat.le_of_ble_eq_true rfl, Nat.le_of_ble_eq_true rfl⟩) hS (fun q _ h => hFc q h) hFc (fun x_1 u t H1 locs ht hvm hw_1 hB hz1 hk1 hS => ?_)
  obtain ⟨hP1, hK1, hD1⟩ := hB
  rw [ht] at hP1
  clear hK1
  try dsimp only at hw_1
  obtain ⟨hP, hD⟩ := va_join (wr := [(m_refused, .inl (aC 0, 7, .inl mr))]) (w1 := [(g0, .inr (12, [.ref m_refused, .ref m_kind, .ref m_figure, .ref m_weight, .ref m_got, .ref m_setting, .int men, .int msy, .int mdn, .ref m_tape, .ref m_letter, .ref m_letterAt, .ref m_told, .int tp, .int mat, .int stm, .ref m_kept, .int hi, .int ki, .int cu, .ref m_price, .ref m_offer, .ref m_gets, .ref m_yes, .ref m_buys, .ref m_ends, .ref m_carried, .ref m_row, .int rm, .ref m_keptRow, .ref m_likeGets, .ref m_likePrice, .ref m_ahead]))]) hP hD [0] [1] rfl rfl (by decide) (by decide) hk1 hFc hP1 hD1
  generalize H1 = H at hP hS ⊢
  have hP : va_P (dC, dI) classes [(m_refused, .inl (aC 0, 7, .inl mr)), (g0, .inr (12, [.ref m_refused, .ref m_kind, .ref m_figure, .ref m_weight, .ref m_got, .ref m_setting, .int men, .int msy, .int mdn, .ref m_tape, .ref m_letter, .ref m_letterAt, .ref m_told, .int tp, .int mat, .int stm, .ref m_kept, .int hi, .int ki, .int cu, .ref m_price, .ref m_offer, .ref m_gets, .ref m_yes, .ref m_buys, .ref m_ends, .ref m_carried, .ref m_row, .int rm, .ref m_keptRow, .ref m_likeGets, .ref m_likePrice, .ref m_ahead]))] H := hP
  have hD : va_D A [(m_refused, .inl (aC 0, 7, .inl mr)), (g0, .inr (12, [.ref m_refused, .ref m_kind, .ref m_figure, .ref m_weight, .ref m_got, .ref m_setting, .int men, .int msy, .int mdn, .ref m_tape, .ref m_letter, .ref m_letterAt, .ref m_told, .int tp, .int mat, .int stm, .ref m_kept, .int hi, .int ki, .int cu, .ref m_price, .ref m_offer, .ref m_gets, .ref m_yes, .ref m_buys, .ref m_ends, .ref m_carried, .ref m_row, .int rm, .ref m_keptRow, .ref m_likeGets, .ref m_likePrice, .ref m_ahead]))] := hD
  clear hPc hDc hFc hz1 hk1 hP1 hD1 ht hvm
  have hz_2 : x_1 = 0 := by rw [hw_1]; rcases hno with h9 | h9 <;> simp [h9]
  refine lv_if_ne (tgt := 14) hx hb dX12_seeds_5 (by decide) (fun c_2 => ?_) (fun c_2 => ?_)
  · exact absurd hz_2 c_2
  · refine lv_aload_n hx hb dX12_seeds_8 rfl (lv_at hl 0 rfl) ?_
    refine lv_iconst (v := -1) hx hb dX12_seeds_9 (by decide) ?_
    have hPc := hP.sub (ws' := [(g0, .inr (12, [.ref m_refused, .ref m_kind, .ref m_figure, .ref m_weight, .ref m_got, .ref m_setting, .int men, .int msy, .int mdn, .ref m_tape, .ref m_letter, .ref m_letterAt, .ref m_told, .int tp, .int mat, .int stm, .ref m_kept, .int hi, .int ki, .int cu, .ref m_price, .ref m_offer, .ref m_gets, .ref m_yes, .ref m_buys, .ref m_ends, .ref m_carried, .ref m_row, .int rm, .ref m_keptRow, .ref m_likeGets, .ref m_likePrice, .ref m_ahead])), (m_refused, .inl (aC 0, 7, .inl mr))]) [1, 0] rfl
    have hDc := hD.sub (ws' := [(g0, .inr (12, [.ref m_refused, .ref m_kind, .ref m_figure, .ref m_weight, .ref m_got, .ref m_setting, .int men, .int msy, .int mdn, .ref m_tape, .ref m_letter, .ref m_letterAt, .ref m_told, .int tp, .int mat, .int stm, .ref m_kept, .int hi, .int ki, .int cu, .ref m_price, .ref m_offer, .ref m_gets, .ref m_yes, .ref m_buys, .ref m_ends, .ref m_carried, .ref m_row, .int rm, .ref m_keptRow, .ref m_likeGets, .ref m_likePrice, .ref m_ahead])), (m_refused, .inl (aC 0, 7, .inl mr))]) [1, 0] (by decide) rfl
    have hFc := va_free (wc := [(g0, .inr (12, [.ref m_refused, .ref m_kind, .ref m_figure, .ref m_weight, .ref m_got, .ref m_setting, .int men, .int msy, .int mdn, .ref m_tape, .ref m_letter, .ref m_letterAt, .ref m_told, .int tp, .int mat, .int stm, .ref m_kept, .int hi, .int ki, .int cu, .ref m_price, .ref m_offer, .ref m_gets, .ref m_yes, .ref m_buys, .ref m_ends, .ref m_carried, .ref m_row, .int rm, .ref m_keptRow, .ref m_likeGets, .ref m_likePrice, .ref m_ahead])), (m_refused, .inl (aC 0, 7, .inl mr))]) hD hS hA [1, 0] rfl
    refine va_calli (va_runV (As := [.int (-1)]) (rest := []) ⟨hx, hb, hml, hown, hts⟩ (c_X12_no l dC dI aC H.size g0 m_refused m_kind m_figure m_weight m_got m_setting m_tape m_letter m_letterAt m_told m_kept m_price m_offer m_gets m_yes m_buys m_ends m_carried m_row m_keptRow m_likeGets m_likePrice m_ahead men msy mdn tp mat stm hi ki cu rm (-1) 1 mr (by decide) (by unfold vp_in; decide)) ⟨(callB_of 1 hts (gG kw_827) rfl rfl rfl (hts _ (gw kw_13 rfl)) (hts _ (gw kw_824 rfl)) (by decide +kernel) ⟨Nat.le_of_ble_eq_true rfl, Nat.le_of_ble_eq_true rfl⟩), (hts _ (gw kw_826 rfl)), (hts _ (gw ks_35 rfl))⟩ ⟨fun a U g mk q => by obtain ⟨q0, q1, qP, qK, qD, qN⟩ := q; exact ⟨q0, q1, qP, va_K.moved (u := U) (U := U.calling g mk a) (Vm.Alike.refl U.vm) qK, qD, NX.same (u := U) (U := U.calling g mk a) rfl qN⟩, va_recv hK hPc (ci := 12) (q0 := 0) rfl rfl, fun U hU hW => ⟨rfl, by rw [hU], by rw [hU]; exact hPc, va_K.moved hW.alike hK, hDc.weaken (fun _ _ _ _ => trivial), NX.warm hW hN⟩⟩ rfl rfl hl.1 rfl (lv_room (Nat.le_of_ble_eq_true rfl)) dX12_seeds_10 ⟨Nat.le_of_ble_eq_true rfl, Nat.le_of_ble_eq_true rfl⟩) hS (fun q _ h => hFc q h) hFc (fun x_3 u t H1 locs ht hvm hw_3 hB hz1 hk1 hS => ?_)
    obtain ⟨u_4, rfl⟩ : ∃ z, z = u := ⟨_, rfl⟩
    obtain ⟨hP1, hK1, hD1⟩ := hB
    rw [ht] at hP1
    clear hK1
    try dsimp only at hw_3
    obtain ⟨hP, hD⟩ := va_join (wr := []) (w1 := [(g0, .inr (12, [.ref m_refused, .ref m_kind, .ref m_figure, .ref m_weight, .ref m_got, .ref m_setting, .int men, .int msy, .int mdn, .ref m_tape, .ref m_letter, .ref m_letterAt, .ref m_told, .int tp, .int mat, .int stm, .ref m_kept, .int hi, .int ki, .int cu, .ref m_price, .ref m_offer, .ref m_gets, .ref m_yes, .ref m_buys, .ref m_ends, .ref m_carried, .ref m_row, .int rm, .ref m_keptRow, .ref m_likeGets, .ref m_likePrice, .ref m_ahead])), (m_refused, .inl (aC 0, 7, .inl u_4))]) hP hD [1, 0] [] rfl rfl (by decide) (by decide) hk1 hFc hP1 hD1
    generalize H1 = H at hP hS ⊢
    have hP : va_P (dC, dI) classes [(g0, .inr (12, [.ref m_refused, .ref m_kind, .ref m_figure, .ref m_weight, .ref m_got, .ref m_setting, .int men, .int msy, .int mdn, .ref m_tape, .ref m_letter, .ref m_letterAt, .ref m_told, .int tp, .int mat, .int stm, .ref m_kept, .int hi, .int ki, .int cu, .ref m_price, .ref m_offer, .ref m_gets, .ref m_yes, .ref m_buys, .ref m_ends, .ref m_carried, .ref m_row, .int rm, .ref m_keptRow, .ref m_likeGets, .ref m_likePrice, .ref m_ahead])), (m_refused, .inl (aC 0, 7, .inl u_4))] H := hP
    have hD : va_D A [(g0, .inr (12, [.ref m_refused, .ref m_kind, .ref m_figure, .ref m_weight, .ref m_got, .ref m_setting, .int men, .int msy, .int mdn, .ref m_tape, .ref m_letter, .ref m_letterAt, .ref m_told, .int tp, .int mat, .int stm, .ref m_kept, .int hi, .int ki, .int cu, .ref m_price, .ref m_offer, .ref m_gets, .ref m_yes, .ref m_buys, .ref m_ends, .ref m_carried, .ref m_row, .int rm, .ref m_keptRow, .ref m_likeGets, .ref m_likePrice, .ref m_ahead])), (m_refused, .inl (aC 0, 7, .inl u_4))] := hD
    clear hPc hDc hFc hz1 hk1 hP1 hD1 ht hvm
    obtain ⟨hv9, hv8⟩ := hw_3
    have hP9 := hP.sub (ws' := []) [] rfl
    have hD9 := hD.sub (ws' := []) [] (by decide) rfl
    refine W.widen (k := 0) (n := 0) (by omega) (by omega) ?_
    exact W.iret (v := x_3) hx hb hr (fun t ht hW => ⟨⟨x_3, (), rfl, hv9, by rw [ht]; exact hP9, va_K.moved hW.alike hK, hD9⟩, hS.F ht⟩) hS.2.2 dX12_seeds_13

set_option maxHeartbeats 4000000 in
set_option maxRecDepth 100000 in
/-- X12_judge_r -/
theorem c_X12_judge_r (l : Launch) (dC : Nat → ClassId) (dI : Nat → Nat → Nat) (aC : Nat → ClassId) (sz : Nat) (g0 : Nat) (m_refused : Nat) (m_kind : Nat) (m_figure : Nat) (m_weight : Nat) (m_got : Nat) (m_setting : Nat) (m_tape : Nat) (m_letter : Nat) (m_letterAt : Nat) (m_told : Nat) (m_kept : Nat) (m_price : Nat) (m_offer : Nat) (m_gets : Nat) (m_yes : Nat) (m_buys : Nat) (m_ends : Nat) (m_carried : Nat) (m_row : Nat) (m_keptRow : Nat) (m_likeGets : Nat) (m_likePrice : Nat) (m_ahead : Nat) (men : Int32) (msy : Int32) (mdn : Int32) (tp : Int32) (mat : Int32) (stm : Int32) (hi : Int32) (ki : Int32) (cu : Int32) (rm : Int32) (mr : Nat → Int32) (a1 : Int32) (hov : men = 0 ∨ mdn = 1) : Met l yX12_judge (wW yX12_judge cX12_judge 5 (some .int)) ({ frames := 1, cells := 0, slots := 0, locals := 21 } : Room) (va_Pc [.ref g0, .int a1] (fun U => U.heap.size = sz ∧ va_P (dC, dI) classes [(g0, .inr (12, [.ref m_refused, .ref m_kind, .ref m_figure, .ref m_weight, .ref m_got, .ref m_setting, .int men, .int msy, .int mdn, .ref m_tape, .ref m_letter, .ref m_letterAt, .ref m_told, .int tp, .int mat, .int stm, .ref m_kept, .int hi, .int ki, .int cu, .ref m_price, .ref m_offer, .ref m_gets, .ref m_yes, .ref m_buys, .ref m_ends, .ref m_carried, .ref m_row, .int rm, .ref m_keptRow, .ref m_likeGets, .ref m_likePrice, .ref m_ahead])), (m_refused, .inl (aC 0, 7, .inl mr))] U.heap ∧ va_K (dC, dI) classes (TY aC) U ∧ va_D (fun _ => True) [(g0, .inr (12, [.ref m_refused, .ref m_kind, .ref m_figure, .ref m_weight, .ref m_got, .ref m_setting, .int men, .int msy, .int mdn, .ref m_tape, .ref m_letter, .ref m_letterAt, .ref m_told, .int tp, .int mat, .int stm, .ref m_kept, .int hi, .int ki, .int cu, .ref m_price, .ref m_offer, .ref m_gets, .ref m_yes, .ref m_buys, .ref m_ends, .ref m_carried, .ref m_row, .int rm, .ref m_keptRow, .ref m_likeGets, .ref m_likePrice, .ref m_ahead])), (m_refused, .inl (aC 0, 7, .inl mr))] ∧ NX U)) (va_Qi (fun (r : Int32) (_ : Unit) => r = -3) (fun (_ : Unit) (t : State) => va_P (dC, dI) classes [] t.heap ∧ va_K (dC, dI) classes (TY aC) t ∧ va_D (va_A [(g0, .inr (12, [.ref m_refused, .ref m_kind, .ref m_figure, .ref m_weight, .ref m_got, .ref m_setting, .int men, .int msy, .int mdn, .ref m_tape, .ref m_letter, .ref m_letterAt, .ref m_told, .int tp, .int mat, .int stm, .ref m_kept, .int hi, .int ki, .int cu, .ref m_price, .ref m_offer, .ref m_gets, .ref m_yes, .ref m_buys, .ref m_ends, .ref m_carried, .ref m_row, .int rm, .ref m_keptRow, .ref m_likeGets, .ref m_likePrice, .ref m_ahead])), (m_refused, .inl (aC 0, 7, .inl mr))] sz) []) (va_A [(g0, .inr (12, [.ref m_refused, .ref m_kind, .ref m_figure, .ref m_weight, .ref m_got, .ref m_setting, .int men, .int msy, .int mdn, .ref m_tape, .ref m_letter, .ref m_letterAt, .ref m_told, .int tp, .int mat, .int stm, .ref m_kept, .int hi, .int ki, .int cu, .ref m_price, .ref m_offer, .ref m_gets, .ref m_yes, .ref m_buys, .ref m_ends, .ref m_carried, .ref m_row, .int rm, .ref m_keptRow, .ref m_likeGets, .ref m_likePrice, .ref m_ahead])), (m_refused, .inl (aC 0, 7, .inl mr))] sz)) 0 0 (va_A [(g0, .inr (12, [.ref m_refused, .ref m_kind, .ref m_figure, .ref m_weight, .ref m_got, .ref m_setting, .int men, .int msy, .int mdn, .ref m_tape, .ref m_letter, .ref m_letterAt, .ref m_told, .int tp, .int mat, .int stm, .ref m_kept, .int hi, .int ki, .int cu, .ref m_price, .ref m_offer, .ref m_gets, .ref m_yes, .ref m_buys, .ref m_ends, .ref m_carried, .ref m_row, .int rm, .ref m_keptRow, .ref m_likeGets, .ref m_likePrice, .ref m_ahead])), (m_refused, .inl (aC 0, 7, .inl mr))] sz) := by
  refine Met.ofW (cc := cX12_judge) (maxL := 5) (ret := (some .int)) (by decide) rfl ?_
  intro p e s m args below meth c s₁ B hml hv
  obtain ⟨rfl, hsz, hP, hK, hD0, hN⟩ := hv
  have hx := B.exec
  have hb := B.bytes
  have hr := B.returns
  have hts0 := atoms_spec (ws := (wW yX12_judge cX12_judge 5 (some .int))) B.pre
  have hts : ∀ w9 ∈ lw_G, w9.before ([.ref g0, .int a1] : List Value).toArray s = true := fun w9 h9 => hts0 w9 (List.mem_cons_of_mem _ h9)
  have hown : s.vm.findClass RX12 = some m.cls := findClass_of_methodNamed B.named
  have hlocks := B.notSynchronized
  subst hsz
  have hD := hD0.self (sz := s.heap.size)
  generalize hAe : va_A [(g0, .inr (12, [.ref m_refused, .ref m_kind, .ref m_figure, .ref m_weight, .ref m_got, .ref m_setting, .int men, .int msy, .int mdn, .ref m_tape, .ref m_letter, .ref m_letterAt, .ref m_told, .int tp, .int mat, .int stm, .ref m_kept, .int hi, .int ki, .int cu, .ref m_price, .ref m_offer, .ref m_gets, .ref m_yes, .ref m_buys, .ref m_ends, .ref m_carried, .ref m_row, .int rm, .ref m_keptRow, .ref m_likeGets, .ref m_likePrice, .ref m_ahead])), (m_refused, .inl (aC 0, 7, .inl mr))] s.heap.size = A at hD ⊢
  have hA : ∀ q : Nat, s.heap.size ≤ q → A q := fun q h => by rw [← hAe]; exact Or.inr h
  obtain ⟨H, hHe⟩ : ∃ H : Heap, H = s.heap := ⟨_, rfl⟩
  have hS : va_S A s.heap H [] := by rw [hHe]; exact va_S.rf
  have hP : va_P (dC, dI) classes [(g0, .inr (12, [.ref m_refused, .ref m_kind, .ref m_figure, .ref m_weight, .ref m_got, .ref m_setting, .int men, .int msy, .int mdn, .ref m_tape, .ref m_letter, .ref m_letterAt, .ref m_told, .int tp, .int mat, .int stm, .ref m_kept, .int hi, .int ki, .int cu, .ref m_price, .ref m_offer, .ref m_gets, .ref m_yes, .ref m_buys, .ref m_ends, .ref m_carried, .ref m_row, .int rm, .ref m_keptRow, .ref m_likeGets, .ref m_likePrice, .ref m_ahead])), (m_refused, .inl (aC 0, 7, .inl mr))] H := by rw [hHe]; exact hP
  have hl := lv_entry ([.ref g0, .int a1]) (n := 5) (Nat.le_of_ble_eq_true rfl)
  rw [lg_entry_eq]
  generalize (lg_sl ([.ref g0, .int a1]) ++ List.replicate (5 - (lg_sl ([.ref g0, .int a1])).length) Slot.unset).toArray = ls at hl ⊢
  have hl : lv_has ls 5 [(0, .ref g0), (1, .int a1)] := hl
  rw [← hHe]
  refine lv_aload_n hx hb dX12_judge_0 rfl (lv_at hl 0 rfl) ?_
  have hPc := hP.sub (ws' := [(g0, .inr (12, [.ref m_refused, .ref m_kind, .ref m_figure, .ref m_weight, .ref m_got, .ref m_setting, .int men, .int msy, .int mdn, .ref m_tape, .ref m_letter, .ref m_letterAt, .ref m_told, .int tp, .int mat, .int stm, .ref m_kept, .int hi, .int ki, .int cu, .ref m_price, .ref m_offer, .ref m_gets, .ref m_yes, .ref m_buys, .ref m_ends, .ref m_carried, .ref m_row, .int rm, .ref m_keptRow, .ref m_likeGets, .ref m_likePrice, .ref m_ahead]))]) [0] rfl
  have hDc := hD.sub (ws' := [(g0, .inr (12, [.ref m_refused, .ref m_kind, .ref m_figure, .ref m_weight, .ref m_got, .ref m_setting, .int men, .int msy, .int mdn, .ref m_tape, .ref m_letter, .ref m_letterAt, .ref m_told, .int tp, .int mat, .int stm, .ref m_kept, .int hi, .int ki, .int cu, .ref m_price, .ref m_offer, .ref m_gets, .ref m_yes, .ref m_buys, .ref m_ends, .ref m_carried, .ref m_row, .int rm, .ref m_keptRow, .ref m_likeGets, .ref m_likePrice, .ref m_ahead]))]) [0] (by decide) rfl
  have hFc := va_free (wc := [(g0, .inr (12, [.ref m_refused, .ref m_kind, .ref m_figure, .ref m_weight, .ref m_got, .ref m_setting, .int men, .int msy, .int mdn, .ref m_tape, .ref m_letter, .ref m_letterAt, .ref m_told, .int tp, .int mat, .int stm, .ref m_kept, .int hi, .int ki, .int cu, .ref m_price, .ref m_offer, .ref m_gets, .ref m_yes, .ref m_buys, .ref m_ends, .ref m_carried, .ref m_row, .int rm, .ref m_keptRow, .ref m_likeGets, .ref m_likePrice, .ref m_ahead]))]) hD hS hA [0] rfl
  refine va_calli (va_runV (As := []) (rest := []) ⟨hx, hb, hml, hown, hts⟩ (c_X12_isOver l dC dI aC H.size g0 m_refused m_kind m_figure m_weight m_got m_setting m_tape m_letter m_letterAt m_told m_kept m_price m_offer m_gets m_yes m_buys m_ends m_carried m_row m_keptRow m_likeGets m_likePrice m_ahead men msy mdn tp mat stm hi ki cu rm ) ⟨(callB_of 0 hts (gG kw_994) rfl rfl rfl (hts _ (gw kw_13 rfl)) (hts _ (gw kw_991 rfl)) (by decide +kernel) ⟨Nat.le_of_ble_eq_true rfl, Nat.le_of_ble_eq_true rfl⟩), (hts _ (gw kw_993 rfl)), (hts _ (gw ks_58 rfl))⟩ ⟨fun a U g mk q => by obtain ⟨q0, q1, qP, qK, qD, qN⟩ := q; exact ⟨q0, q1, qP, va_K.moved (u := U) (U := U.calling g mk a) (Vm.Alike.refl U.vm) qK, qD, NX.same (u := U) (U := U.calling g mk a) rfl qN⟩, va_recv hK hPc (ci := 12) (q0 := 0) rfl rfl, fun U hU hW => ⟨rfl, by rw [hU], by rw [hU]; exact hPc, va_K.moved hW.alike hK, hDc.weaken (fun _ _ _ _ => trivial), NX.warm hW hN⟩⟩ rfl rfl hl.1 rfl (lv_room (Nat.le_of_ble_eq_true rfl)) dX12_judge_1 ⟨Nat.le_of_ble_eq_true rfl, Nat.le_of_ble_eq_true rfl⟩) hS (fun q _ h => hFc q h) hFc (fun x_1 u t H1 locs ht hvm hw_1 hB hz1 hk1 hS => ?_)
  obtain ⟨hP1, hK1, hD1⟩ := hB
  rw [ht] at hP1
  clear hK1
  try dsimp only at hw_1
  obtain ⟨hP, hD⟩ := va_join (wr := [(m_refused, .inl (aC 0, 7, .inl mr))]) (w1 := [(g0, .inr (12, [.ref m_refused, .ref m_kind, .ref m_figure, .ref m_weight, .ref m_got, .ref m_setting, .int men, .int msy, .int mdn, .ref m_tape, .ref m_letter, .ref m_letterAt, .ref m_told, .int tp, .int mat, .int stm, .ref m_kept, .int hi, .int ki, .int cu, .ref m_price, .ref m_offer, .ref m_gets, .ref m_yes, .ref m_buys, .ref m_ends, .ref m_carried, .ref m_row, .int rm, .ref m_keptRow, .ref m_likeGets, .ref m_likePrice, .ref m_ahead]))]) hP hD [0] [1] rfl rfl (by decide) (by decide) hk1 hFc hP1 hD1
  generalize H1 = H at hP hS ⊢
  have hP : va_P (dC, dI) classes [(m_refused, .inl (aC 0, 7, .inl mr)), (g0, .inr (12, [.ref m_refused, .ref m_kind, .ref m_figure, .ref m_weight, .ref m_got, .ref m_setting, .int men, .int msy, .int mdn, .ref m_tape, .ref m_letter, .ref m_letterAt, .ref m_told, .int tp, .int mat, .int stm, .ref m_kept, .int hi, .int ki, .int cu, .ref m_price, .ref m_offer, .ref m_gets, .ref m_yes, .ref m_buys, .ref m_ends, .ref m_carried, .ref m_row, .int rm, .ref m_keptRow, .ref m_likeGets, .ref m_likePrice, .ref m_ahead]))] H := hP
  have hD : va_D A [(m_refused, .inl (aC 0, 7, .inl mr)), (g0, .inr (12, [.ref m_refused, .ref m_kind, .ref m_figure, .ref m_weight, .ref m_got, .ref m_setting, .int men, .int msy, .int mdn, .ref m_tape, .ref m_letter, .ref m_letterAt, .ref m_told, .int tp, .int mat, .int stm, .ref m_kept, .int hi, .int ki, .int cu, .ref m_price, .ref m_offer, .ref m_gets, .ref m_yes, .ref m_buys, .ref m_ends, .ref m_carried, .ref m_row, .int rm, .ref m_keptRow, .ref m_likeGets, .ref m_likePrice, .ref m_ahead]))] := hD
  clear hPc hDc hFc hz1 hk1 hP1 hD1 ht hvm
  have hz_1 : x_1 = 1 := by rw [hw_1]; rcases hov with h9 | h9 <;> simp [h9]
  refine lv_if_eq (tgt := 14) hx hb dX12_judge_4 (by decide) (fun c_2 => ?_) (fun c_2 => ?_)
  · exact absurd c_2 (by rw [hz_1]; decide)
  · refine lv_aload_n hx hb dX12_judge_7 rfl (lv_at hl 0 rfl) ?_
    refine lv_bipush (v := -3) hx hb dX12_judge_8 (by decide) ?_
    have hPc := hP.sub (ws' := [(g0, .inr (12, [.ref m_refused, .ref m_kind, .ref m_figure, .ref m_weight, .ref m_got, .ref m_setting, .int men, .int msy, .int mdn, .ref m_tape, .ref m_letter, .ref m_letterAt, .ref m_told, .int tp, .int mat, .int stm, .ref m_kept, .int hi, .int ki, .int cu, .ref m_price, .ref m_offer, .ref m_gets, .ref m_yes, .ref m_buys, .ref m_ends, .ref m_carried, .ref m_row, .int rm, .ref m_keptRow, .ref m_likeGets, .ref m_likePrice, .ref m_ahead])), (m_refused, .inl (aC 0, 7, .inl mr))]) [1, 0] rfl
    have hDc := hD.sub (ws' := [(g0, .inr (12, [.ref m_refused, .ref m_kind, .ref m_figure, .ref m_weight, .ref m_got, .ref m_setting, .int men, .int msy, .int mdn, .ref m_tape, .ref m_letter, .ref m_letterAt, .ref m_told, .int tp, .int mat, .int stm, .ref m_kept, .int hi, .int ki, .int cu, .ref m_price, .ref m_offer, .ref m_gets, .ref m_yes, .ref m_buys, .ref m_ends, .ref m_carried, .ref m_row, .int rm, .ref m_keptRow, .ref m_likeGets, .ref m_likePrice, .ref m_ahead])), (m_refused, .inl (aC 0, 7, .inl mr))]) [1, 0] (by decide) rfl
    have hFc := va_free (wc := [(g0, .inr (12, [.ref m_refused, .ref m_kind, .ref m_figure, .ref m_weight, .ref m_got, .ref m_setting, .int men, .int msy, .int mdn, .ref m_tape, .ref m_letter, .ref m_letterAt, .ref m_told, .int tp, .int mat, .int stm, .ref m_kept, .int hi, .int ki, .int cu, .ref m_price, .ref m_offer, .ref m_gets, .ref m_yes, .ref m_buys, .ref m_ends, .ref m_carried, .ref m_row, .int rm, .ref m_keptRow, .ref m_likeGets, .ref m_likePrice, .ref m_ahead])), (m_refused, .inl (aC 0, 7, .inl mr))]) hD hS hA [1, 0] rfl
    refine va_calli (va_runV (As := [.int (-3)]) (rest := []) ⟨hx, hb, hml, hown, hts⟩ (c_X12_no l dC dI aC H.size g0 m_refused m_kind m_figure m_weight m_got m_setting m_tape m_letter m_letterAt m_told m_kept m_price m_offer m_gets m_yes m_buys m_ends m_carried m_row m_keptRow m_likeGets m_likePrice m_ahead men msy mdn tp mat stm hi ki cu rm (-3) 3 mr (by decide) (by unfold vp_in; decide)) ⟨(callB_of 1 hts (gG kw_827) rfl rfl rfl (hts _ (gw kw_13 rfl)) (hts _ (gw kw_824 rfl)) (by decide +kernel) ⟨Nat.le_of_ble_eq_true rfl, Nat.le_of_ble_eq_true rfl⟩), (hts _ (gw kw_826 rfl)), (hts _ (gw ks_35 rfl))⟩ ⟨fun a U g mk q => by obtain ⟨q0, q1, qP, qK, qD, qN⟩ := q; exact ⟨q0, q1, qP, va_K.moved (u := U) (U := U.calling g mk a) (Vm.Alike.refl U.vm) qK, qD, NX.same (u := U) (U := U.calling g mk a) rfl qN⟩, va_recv hK hPc (ci := 12) (q0 := 0) rfl rfl, fun U hU hW => ⟨rfl, by rw [hU], by rw [hU]; exact hPc, va_K.moved hW.alike hK, hDc.weaken (fun _ _ _ _ => trivial), NX.warm hW hN⟩⟩ rfl rfl hl.1 rfl (lv_room (Nat.le_of_ble_eq_true rfl)) dX12_judge_10 ⟨Nat.le_of_ble_eq_true rfl, Nat.le_of_ble_eq_true rfl⟩) hS (fun q _ h => hFc q h) hFc (fun x_3 u t H1 locs ht hvm hw_3 hB hz1 hk1 hS => ?_)
    obtain ⟨u_4, rfl⟩ : ∃ z, z = u := ⟨_, rfl⟩
    obtain ⟨hP1, hK1, hD1⟩ := hB
    rw [ht] at hP1
    clear hK1
    try dsimp only at hw_3
    obtain ⟨hP, hD⟩ := va_join (wr := []) (w1 := [(g0, .inr (12, [.ref m_refused, .ref m_kind, .ref m_figure, .ref m_weight, .ref m_got, .ref m_setting, .int men, .int msy, .int mdn, .ref m_tape, .ref m_letter, .ref m_letterAt, .ref m_told, .int tp, .int mat, .int stm, .ref m_kept, .int hi, .int ki, .int cu, .ref m_price, .ref m_offer, .ref m_gets, .ref m_yes, .ref m_buys, .ref m_ends, .ref m_carried, .ref m_row, .int rm, .ref m_keptRow, .ref m_likeGets, .ref m_likePrice, .ref m_ahead])), (m_refused, .inl (aC 0, 7, .inl u_4))]) hP hD [1, 0] [] rfl rfl (by decide) (by decide) hk1 hFc hP1 hD1
    generalize H1 = H at hP hS ⊢
    have hP : va_P (dC, dI) classes [(g0, .inr (12, [.ref m_refused, .ref m_kind, .ref m_figure, .ref m_weight, .ref m_got, .ref m_setting, .int men, .int msy, .int mdn, .ref m_tape, .ref m_letter, .ref m_letterAt, .ref m_told, .int tp, .int mat, .int stm, .ref m_kept, .int hi, .int ki, .int cu, .ref m_price, .ref m_offer, .ref m_gets, .ref m_yes, .ref m_buys, .ref m_ends, .ref m_carried, .ref m_row, .int rm, .ref m_keptRow, .ref m_likeGets, .ref m_likePrice, .ref m_ahead])), (m_refused, .inl (aC 0, 7, .inl u_4))] H := hP
    have hD : va_D A [(g0, .inr (12, [.ref m_refused, .ref m_kind, .ref m_figure, .ref m_weight, .ref m_got, .ref m_setting, .int men, .int msy, .int mdn, .ref m_tape, .ref m_letter, .ref m_letterAt, .ref m_told, .int tp, .int mat, .int stm, .ref m_kept, .int hi, .int ki, .int cu, .ref m_price, .ref m_offer, .ref m_gets, .ref m_yes, .ref m_buys, .ref m_ends, .ref m_carried, .ref m_row, .int rm, .ref m_keptRow, .ref m_likeGets, .ref m_likePrice, .ref m_ahead])), (m_refused, .inl (aC 0, 7, .inl u_4))] := hD
    clear hPc hDc hFc hz1 hk1 hP1 hD1 ht hvm
    obtain ⟨hv9, hv8⟩ := hw_3
    have hP9 := hP.sub (ws' := []) [] rfl
    have hD9 := hD.sub (ws' := []) [] (by decide) rfl
    refine W.widen (k := 0) (n := 0) (by omega) (by omega) ?_
    exact W.iret (v := x_3) hx hb hr (fun t ht hW => ⟨⟨x_3, (), rfl, hv9, by rw [ht]; exact hP9, va_K.moved hW.alike hK, hD9⟩, hS.F ht⟩) hS.2.2 dX12_judge_13

set_option maxHeartbeats 4000000 in
set_option maxRecDepth 100000 in
/-- X12_goes_r -/
theorem c_X12_goes_r (l : Launch) (dC : Nat → ClassId) (dI : Nat → Nat → Nat) (aC : Nat → ClassId) (sz : Nat) (g0 : Nat) (m_refused : Nat) (m_kind : Nat) (m_figure : Nat) (m_weight : Nat) (m_got : Nat) (m_setting : Nat) (m_tape : Nat) (m_letter : Nat) (m_letterAt : Nat) (m_told : Nat) (m_kept : Nat) (m_price : Nat) (m_offer : Nat) (m_gets : Nat) (m_yes : Nat) (m_buys : Nat) (m_ends : Nat) (m_carried : Nat) (m_row : Nat) (m_keptRow : Nat) (m_likeGets : Nat) (m_likePrice : Nat) (m_ahead : Nat) (men : Int32) (msy : Int32) (mdn : Int32) (tp : Int32) (mat : Int32) (stm : Int32) (hi : Int32) (ki : Int32) (cu : Int32) (rm : Int32) (mr : Nat → Int32) (a1 : Int32) (hov : men = 0 ∨ mdn = 1) : Met l yX12_goes (wW yX12_goes cX12_goes 2 (some .int)) ({ frames := 1, cells := 0, slots := 0, locals := 21 } : Room) (va_Pc [.ref g0, .int a1] (fun U => U.heap.size = sz ∧ va_P (dC, dI) classes [(g0, .inr (12, [.ref m_refused, .ref m_kind, .ref m_figure, .ref m_weight, .ref m_got, .ref m_setting, .int men, .int msy, .int mdn, .ref m_tape, .ref m_letter, .ref m_letterAt, .ref m_told, .int tp, .int mat, .int stm, .ref m_kept, .int hi, .int ki, .int cu, .ref m_price, .ref m_offer, .ref m_gets, .ref m_yes, .ref m_buys, .ref m_ends, .ref m_carried, .ref m_row, .int rm, .ref m_keptRow, .ref m_likeGets, .ref m_likePrice, .ref m_ahead])), (m_refused, .inl (aC 0, 7, .inl mr))] U.heap ∧ va_K (dC, dI) classes (TY aC) U ∧ va_D (fun _ => True) [(g0, .inr (12, [.ref m_refused, .ref m_kind, .ref m_figure, .ref m_weight, .ref m_got, .ref m_setting, .int men, .int msy, .int mdn, .ref m_tape, .ref m_letter, .ref m_letterAt, .ref m_told, .int tp, .int mat, .int stm, .ref m_kept, .int hi, .int ki, .int cu, .ref m_price, .ref m_offer, .ref m_gets, .ref m_yes, .ref m_buys, .ref m_ends, .ref m_carried, .ref m_row, .int rm, .ref m_keptRow, .ref m_likeGets, .ref m_likePrice, .ref m_ahead])), (m_refused, .inl (aC 0, 7, .inl mr))] ∧ NX U)) (va_Qi (fun (r : Int32) (_ : Unit) => r = -3) (fun (_ : Unit) (t : State) => va_P (dC, dI) classes [] t.heap ∧ va_K (dC, dI) classes (TY aC) t ∧ va_D (va_A [(g0, .inr (12, [.ref m_refused, .ref m_kind, .ref m_figure, .ref m_weight, .ref m_got, .ref m_setting, .int men, .int msy, .int mdn, .ref m_tape, .ref m_letter, .ref m_letterAt, .ref m_told, .int tp, .int mat, .int stm, .ref m_kept, .int hi, .int ki, .int cu, .ref m_price, .ref m_offer, .ref m_gets, .ref m_yes, .ref m_buys, .ref m_ends, .ref m_carried, .ref m_row, .int rm, .ref m_keptRow, .ref m_likeGets, .ref m_likePrice, .ref m_ahead])), (m_refused, .inl (aC 0, 7, .inl mr))] sz) []) (va_A [(g0, .inr (12, [.ref m_refused, .ref m_kind, .ref m_figure, .ref m_weight, .ref m_got, .ref m_setting, .int men, .int msy, .int mdn, .ref m_tape, .ref m_letter, .ref m_letterAt, .ref m_told, .int tp, .int mat, .int stm, .ref m_kept, .int hi, .int ki, .int cu, .ref m_price, .ref m_offer, .ref m_gets, .ref m_yes, .ref m_buys, .ref m_ends, .ref m_carried, .ref m_row, .int rm, .ref m_keptRow, .ref m_likeGets, .ref m_likePrice, .ref m_ahead])), (m_refused, .inl (aC 0, 7, .inl mr))] sz)) 0 0 (va_A [(g0, .inr (12, [.ref m_refused, .ref m_kind, .ref m_figure, .ref m_weight, .ref m_got, .ref m_setting, .int men, .int msy, .int mdn, .ref m_tape, .ref m_letter, .ref m_letterAt, .ref m_told, .int tp, .int mat, .int stm, .ref m_kept, .int hi, .int ki, .int cu, .ref m_price, .ref m_offer, .ref m_gets, .ref m_yes, .ref m_buys, .ref m_ends, .ref m_carried, .ref m_row, .int rm, .ref m_keptRow, .ref m_likeGets, .ref m_likePrice, .ref m_ahead])), (m_refused, .inl (aC 0, 7, .inl mr))] sz) := by
  refine Met.ofW (cc := cX12_goes) (maxL := 2) (ret := (some .int)) (by decide) rfl ?_
  intro p e s m args below meth c s₁ B hml hv
  obtain ⟨rfl, hsz, hP, hK, hD0, hN⟩ := hv
  have hx := B.exec
  have hb := B.bytes
  have hr := B.returns
  have hts0 := atoms_spec (ws := (wW yX12_goes cX12_goes 2 (some .int))) B.pre
  have hts : ∀ w9 ∈ lw_G, w9.before ([.ref g0, .int a1] : List Value).toArray s = true := fun w9 h9 => hts0 w9 (List.mem_cons_of_mem _ h9)
  have hown : s.vm.findClass RX12 = some m.cls := findClass_of_methodNamed B.named
  have hlocks := B.notSynchronized
  subst hsz
  have hD := hD0.self (sz := s.heap.size)
  generalize hAe : va_A [(g0, .inr (12, [.ref m_refused, .ref m_kind, .ref m_figure, .ref m_weight, .ref m_got, .ref m_setting, .int men, .int msy, .int mdn, .ref m_tape, .ref m_letter, .ref m_letterAt, .ref m_told, .int tp, .int mat, .int stm, .ref m_kept, .int hi, .int ki, .int cu, .ref m_price, .ref m_offer, .ref m_gets, .ref m_yes, .ref m_buys, .ref m_ends, .ref m_carried, .ref m_row, .int rm, .ref m_keptRow, .ref m_likeGets, .ref m_likePrice, .ref m_ahead])), (m_refused, .inl (aC 0, 7, .inl mr))] s.heap.size = A at hD ⊢
  have hA : ∀ q : Nat, s.heap.size ≤ q → A q := fun q h => by rw [← hAe]; exact Or.inr h
  obtain ⟨H, hHe⟩ : ∃ H : Heap, H = s.heap := ⟨_, rfl⟩
  have hS : va_S A s.heap H [] := by rw [hHe]; exact va_S.rf
  have hP : va_P (dC, dI) classes [(g0, .inr (12, [.ref m_refused, .ref m_kind, .ref m_figure, .ref m_weight, .ref m_got, .ref m_setting, .int men, .int msy, .int mdn, .ref m_tape, .ref m_letter, .ref m_letterAt, .ref m_told, .int tp, .int mat, .int stm, .ref m_kept, .int hi, .int ki, .int cu, .ref m_price, .ref m_offer, .ref m_gets, .ref m_yes, .ref m_buys, .ref m_ends, .ref m_carried, .ref m_row, .int rm, .ref m_keptRow, .ref m_likeGets, .ref m_likePrice, .ref m_ahead])), (m_refused, .inl (aC 0, 7, .inl mr))] H := by rw [hHe]; exact hP
  have hl := lv_entry ([.ref g0, .int a1]) (n := 2) (Nat.le_of_ble_eq_true rfl)
  rw [lg_entry_eq]
  generalize (lg_sl ([.ref g0, .int a1]) ++ List.replicate (2 - (lg_sl ([.ref g0, .int a1])).length) Slot.unset).toArray = ls at hl ⊢
  have hl : lv_has ls 2 [(0, .ref g0), (1, .int a1)] := hl
  rw [← hHe]
  refine lv_aload_n hx hb dX12_goes_0 rfl (lv_at hl 0 rfl) ?_
  have hPc := hP.sub (ws' := [(g0, .inr (12, [.ref m_refused, .ref m_kind, .ref m_figure, .ref m_weight, .ref m_got, .ref m_setting, .int men, .int msy, .int mdn, .ref m_tape, .ref m_letter, .ref m_letterAt, .ref m_told, .int tp, .int mat, .int stm, .ref m_kept, .int hi, .int ki, .int cu, .ref m_price, .ref m_offer, .ref m_gets, .ref m_yes, .ref m_buys, .ref m_ends, .ref m_carried, .ref m_row, .int rm, .ref m_keptRow, .ref m_likeGets, .ref m_likePrice, .ref m_ahead]))]) [0] rfl
  have hDc := hD.sub (ws' := [(g0, .inr (12, [.ref m_refused, .ref m_kind, .ref m_figure, .ref m_weight, .ref m_got, .ref m_setting, .int men, .int msy, .int mdn, .ref m_tape, .ref m_letter, .ref m_letterAt, .ref m_told, .int tp, .int mat, .int stm, .ref m_kept, .int hi, .int ki, .int cu, .ref m_price, .ref m_offer, .ref m_gets, .ref m_yes, .ref m_buys, .ref m_ends, .ref m_carried, .ref m_row, .int rm, .ref m_keptRow, .ref m_likeGets, .ref m_likePrice, .ref m_ahead]))]) [0] (by decide) rfl
  have hFc := va_free (wc := [(g0, .inr (12, [.ref m_refused, .ref m_kind, .ref m_figure, .ref m_weight, .ref m_got, .ref m_setting, .int men, .int msy, .int mdn, .ref m_tape, .ref m_letter, .ref m_letterAt, .ref m_told, .int tp, .int mat, .int stm, .ref m_kept, .int hi, .int ki, .int cu, .ref m_price, .ref m_offer, .ref m_gets, .ref m_yes, .ref m_buys, .ref m_ends, .ref m_carried, .ref m_row, .int rm, .ref m_keptRow, .ref m_likeGets, .ref m_likePrice, .ref m_ahead]))]) hD hS hA [0] rfl
  refine va_calli (va_runV (As := []) (rest := []) ⟨hx, hb, hml, hown, hts⟩ (c_X12_isOver l dC dI aC H.size g0 m_refused m_kind m_figure m_weight m_got m_setting m_tape m_letter m_letterAt m_told m_kept m_price m_offer m_gets m_yes m_buys m_ends m_carried m_row m_keptRow m_likeGets m_likePrice m_ahead men msy mdn tp mat stm hi ki cu rm ) ⟨(callB_of 0 hts (gG kw_994) rfl rfl rfl (hts _ (gw kw_13 rfl)) (hts _ (gw kw_991 rfl)) (by decide +kernel) ⟨Nat.le_of_ble_eq_true rfl, Nat.le_of_ble_eq_true rfl⟩), (hts _ (gw kw_993 rfl)), (hts _ (gw ks_58 rfl))⟩ ⟨fun a U g mk q => by obtain ⟨q0, q1, qP, qK, qD, qN⟩ := q; exact ⟨q0, q1, qP, va_K.moved (u := U) (U := U.calling g mk a) (Vm.Alike.refl U.vm) qK, qD, NX.same (u := U) (U := U.calling g mk a) rfl qN⟩, va_recv hK hPc (ci := 12) (q0 := 0) rfl rfl, fun U hU hW => ⟨rfl, by rw [hU], by rw [hU]; exact hPc, va_K.moved hW.alike hK, hDc.weaken (fun _ _ _ _ => trivial), NX.warm hW hN⟩⟩ rfl rfl hl.1 rfl (lv_room (Nat.le_of_ble_eq_true rfl)) dX12_goes_1 ⟨Nat.le_of_ble_eq_true rfl, Nat.le_of_ble_eq_true rfl⟩) hS (fun q _ h => hFc q h) hFc (fun x_1 u t H1 locs ht hvm hw_1 hB hz1 hk1 hS => ?_)
  obtain ⟨hP1, hK1, hD1⟩ := hB
  rw [ht] at hP1
  clear hK1
  try dsimp only at hw_1
  obtain ⟨hP, hD⟩ := va_join (wr := [(m_refused, .inl (aC 0, 7, .inl mr))]) (w1 := [(g0, .inr (12, [.ref m_refused, .ref m_kind, .ref m_figure, .ref m_weight, .ref m_got, .ref m_setting, .int men, .int msy, .int mdn, .ref m_tape, .ref m_letter, .ref m_letterAt, .ref m_told, .int tp, .int mat, .int stm, .ref m_kept, .int hi, .int ki, .int cu, .ref m_price, .ref m_offer, .ref m_gets, .ref m_yes, .ref m_buys, .ref m_ends, .ref m_carried, .ref m_row, .int rm, .ref m_keptRow, .ref m_likeGets, .ref m_likePrice, .ref m_ahead]))]) hP hD [0] [1] rfl rfl (by decide) (by decide) hk1 hFc hP1 hD1
  generalize H1 = H at hP hS ⊢
  have hP : va_P (dC, dI) classes [(m_refused, .inl (aC 0, 7, .inl mr)), (g0, .inr (12, [.ref m_refused, .ref m_kind, .ref m_figure, .ref m_weight, .ref m_got, .ref m_setting, .int men, .int msy, .int mdn, .ref m_tape, .ref m_letter, .ref m_letterAt, .ref m_told, .int tp, .int mat, .int stm, .ref m_kept, .int hi, .int ki, .int cu, .ref m_price, .ref m_offer, .ref m_gets, .ref m_yes, .ref m_buys, .ref m_ends, .ref m_carried, .ref m_row, .int rm, .ref m_keptRow, .ref m_likeGets, .ref m_likePrice, .ref m_ahead]))] H := hP
  have hD : va_D A [(m_refused, .inl (aC 0, 7, .inl mr)), (g0, .inr (12, [.ref m_refused, .ref m_kind, .ref m_figure, .ref m_weight, .ref m_got, .ref m_setting, .int men, .int msy, .int mdn, .ref m_tape, .ref m_letter, .ref m_letterAt, .ref m_told, .int tp, .int mat, .int stm, .ref m_kept, .int hi, .int ki, .int cu, .ref m_price, .ref m_offer, .ref m_gets, .ref m_yes, .ref m_buys, .ref m_ends, .ref m_carried, .ref m_row, .int rm, .ref m_keptRow, .ref m_likeGets, .ref m_likePrice, .ref m_ahead]))] := hD
  clear hPc hDc hFc hz1 hk1 hP1 hD1 ht hvm
  have hz_1 : x_1 = 1 := by rw [hw_1]; rcases hov with h9 | h9 <;> simp [h9]
  refine lv_if_ne (tgt := 14) hx hb dX12_goes_4 (by decide) (fun c_2 => ?_) (fun c_2 => ?_)
  · refine lv_aload_n hx hb dX12_goes_14 rfl (lv_at hl 0 rfl) ?_
    refine lv_bipush (v := -3) hx hb dX12_goes_15 (by decide) ?_
    have hPc := hP.sub (ws' := [(g0, .inr (12, [.ref m_refused, .ref m_kind, .ref m_figure, .ref m_weight, .ref m_got, .ref m_setting, .int men, .int msy, .int mdn, .ref m_tape, .ref m_letter, .ref m_letterAt, .ref m_told, .int tp, .int mat, .int stm, .ref m_kept, .int hi, .int ki, .int cu, .ref m_price, .ref m_offer, .ref m_gets, .ref m_yes, .ref m_buys, .ref m_ends, .ref m_carried, .ref m_row, .int rm, .ref m_keptRow, .ref m_likeGets, .ref m_likePrice, .ref m_ahead])), (m_refused, .inl (aC 0, 7, .inl mr))]) [1, 0] rfl
    have hDc := hD.sub (ws' := [(g0, .inr (12, [.ref m_refused, .ref m_kind, .ref m_figure, .ref m_weight, .ref m_got, .ref m_setting, .int men, .int msy, .int mdn, .ref m_tape, .ref m_letter, .ref m_letterAt, .ref m_told, .int tp, .int mat, .int stm, .ref m_kept, .int hi, .int ki, .int cu, .ref m_price, .ref m_offer, .ref m_gets, .ref m_yes, .ref m_buys, .ref m_ends, .ref m_carried, .ref m_row, .int rm, .ref m_keptRow, .ref m_likeGets, .ref m_likePrice, .ref m_ahead])), (m_refused, .inl (aC 0, 7, .inl mr))]) [1, 0] (by decide) rfl
    have hFc := va_free (wc := [(g0, .inr (12, [.ref m_refused, .ref m_kind, .ref m_figure, .ref m_weight, .ref m_got, .ref m_setting, .int men, .int msy, .int mdn, .ref m_tape, .ref m_letter, .ref m_letterAt, .ref m_told, .int tp, .int mat, .int stm, .ref m_kept, .int hi, .int ki, .int cu, .ref m_price, .ref m_offer, .ref m_gets, .ref m_yes, .ref m_buys, .ref m_ends, .ref m_carried, .ref m_row, .int rm, .ref m_keptRow, .ref m_likeGets, .ref m_likePrice, .ref m_ahead])), (m_refused, .inl (aC 0, 7, .inl mr))]) hD hS hA [1, 0] rfl
    refine va_calli (va_runV (As := [.int (-3)]) (rest := []) ⟨hx, hb, hml, hown, hts⟩ (c_X12_no l dC dI aC H.size g0 m_refused m_kind m_figure m_weight m_got m_setting m_tape m_letter m_letterAt m_told m_kept m_price m_offer m_gets m_yes m_buys m_ends m_carried m_row m_keptRow m_likeGets m_likePrice m_ahead men msy mdn tp mat stm hi ki cu rm (-3) 3 mr (by decide) (by unfold vp_in; decide)) ⟨(callB_of 1 hts (gG kw_827) rfl rfl rfl (hts _ (gw kw_13 rfl)) (hts _ (gw kw_824 rfl)) (by decide +kernel) ⟨Nat.le_of_ble_eq_true rfl, Nat.le_of_ble_eq_true rfl⟩), (hts _ (gw kw_826 rfl)), (hts _ (gw ks_35 rfl))⟩ ⟨fun a U g mk q => by obtain ⟨q0, q1, qP, qK, qD, qN⟩ := q; exact ⟨q0, q1, qP, va_K.moved (u := U) (U := U.calling g mk a) (Vm.Alike.refl U.vm) qK, qD, NX.same (u := U) (U := U.calling g mk a) rfl qN⟩, va_recv hK hPc (ci := 12) (q0 := 0) rfl rfl, fun U hU hW => ⟨rfl, by rw [hU], by rw [hU]; exact hPc, va_K.moved hW.alike hK, hDc.weaken (fun _ _ _ _ => trivial), NX.warm hW hN⟩⟩ rfl rfl hl.1 rfl (lv_room (Nat.le_of_ble_eq_true rfl)) dX12_goes_17 ⟨Nat.le_of_ble_eq_true rfl, Nat.le_of_ble_eq_true rfl⟩) hS (fun q _ h => hFc q h) hFc (fun x_3 u t H1 locs ht hvm hw_3 hB hz1 hk1 hS => ?_)
    obtain ⟨u_4, rfl⟩ : ∃ z, z = u := ⟨_, rfl⟩
    obtain ⟨hP1, hK1, hD1⟩ := hB
    rw [ht] at hP1
    clear hK1
    try dsimp only at hw_3
    obtain ⟨hP, hD⟩ := va_join (wr := []) (w1 := [(g0, .inr (12, [.ref m_refused, .ref m_kind, .ref m_figure, .ref m_weight, .ref m_got, .ref m_setting, .int men, .int msy, .int mdn, .ref m_tape, .ref m_letter, .ref m_letterAt, .ref m_told, .int tp, .int mat, .int stm, .ref m_kept, .int hi, .int ki, .int cu, .ref m_price, .ref m_offer, .ref m_gets, .ref m_yes, .ref m_buys, .ref m_ends, .ref m_carried, .ref m_row, .int rm, .ref m_keptRow, .ref m_likeGets, .ref m_likePrice, .ref m_ahead])), (m_refused, .inl (aC 0, 7, .inl u_4))]) hP hD [1, 0] [] rfl rfl (by decide) (by decide) hk1 hFc hP1 hD1
    generalize H1 = H at hP hS ⊢
    have hP : va_P (dC, dI) classes [(g0, .inr (12, [.ref m_refused, .ref m_kind, .ref m_figure, .ref m_weight, .ref m_got, .ref m_setting, .int men, .int msy, .int mdn, .ref m_tape, .ref m_letter, .ref m_letterAt, .ref m_told, .int tp, .int mat, .int stm, .ref m_kept, .int hi, .int ki, .int cu, .ref m_price, .ref m_offer, .ref m_gets, .ref m_yes, .ref m_buys, .ref m_ends, .ref m_carried, .ref m_row, .int rm, .ref m_keptRow, .ref m_likeGets, .ref m_likePrice, .ref m_ahead])), (m_refused, .inl (aC 0, 7, .inl u_4))] H := hP
    have hD : va_D A [(g0, .inr (12, [.ref m_refused, .ref m_kind, .ref m_figure, .ref m_weight, .ref m_got, .ref m_setting, .int men, .int msy, .int mdn, .ref m_tape, .ref m_letter, .ref m_letterAt, .ref m_told, .int tp, .int mat, .int stm, .ref m_kept, .int hi, .int ki, .int cu, .ref m_price, .ref m_offer, .ref m_gets, .ref m_yes, .ref m_buys, .ref m_ends, .ref m_carried, .ref m_row, .int rm, .ref m_keptRow, .ref m_likeGets, .ref m_likePrice, .ref m_ahead])), (m_refused, .inl (aC 0, 7, .inl u_4))] := hD
    clear hPc hDc hFc hz1 hk1 hP1 hD1 ht hvm
    obtain ⟨hv9, hv8⟩ := hw_3
    have hP9 := hP.sub (ws' := []) [] rfl
    have hD9 := hD.sub (ws' := []) [] (by decide) rfl
    refine W.widen (k := 0) (n := 0) (by omega) (by omega) ?_
    exact W.iret (v := x_3) hx hb hr (fun t ht hW => ⟨⟨x_3, (), rfl, hv9, by rw [ht]; exact hP9, va_K.moved hW.alike hK, hD9⟩, hS.F ht⟩) hS.2.2 dX12_goes_20
  · exact absurd c_2 (by rw [hz_1]; decide)

set_option maxHeartbeats 4000000 in
set_option maxRecDepth 100000 in
/-- X12_says_r -/
theorem c_X12_says_r (l : Launch) (dC : Nat → ClassId) (dI : Nat → Nat → Nat) (aC : Nat → ClassId) (sz : Nat) (g0 : Nat) (m_refused : Nat) (m_kind : Nat) (m_figure : Nat) (m_weight : Nat) (m_got : Nat) (m_setting : Nat) (m_tape : Nat) (m_letter : Nat) (m_letterAt : Nat) (m_told : Nat) (m_kept : Nat) (m_price : Nat) (m_offer : Nat) (m_gets : Nat) (m_yes : Nat) (m_buys : Nat) (m_ends : Nat) (m_carried : Nat) (m_row : Nat) (m_keptRow : Nat) (m_likeGets : Nat) (m_likePrice : Nat) (m_ahead : Nat) (men : Int32) (msy : Int32) (mdn : Int32) (tp : Int32) (mat : Int32) (stm : Int32) (hi : Int32) (ki : Int32) (cu : Int32) (rm : Int32) (mr : Nat → Int32) (hov : men = 0 ∨ mdn = 1) : Met l yX12_says (wW yX12_says cX12_says 4 (some .int)) ({ frames := 1, cells := 0, slots := 0, locals := 21 } : Room) (va_Pc [.ref g0] (fun U => U.heap.size = sz ∧ va_P (dC, dI) classes [(g0, .inr (12, [.ref m_refused, .ref m_kind, .ref m_figure, .ref m_weight, .ref m_got, .ref m_setting, .int men, .int msy, .int mdn, .ref m_tape, .ref m_letter, .ref m_letterAt, .ref m_told, .int tp, .int mat, .int stm, .ref m_kept, .int hi, .int ki, .int cu, .ref m_price, .ref m_offer, .ref m_gets, .ref m_yes, .ref m_buys, .ref m_ends, .ref m_carried, .ref m_row, .int rm, .ref m_keptRow, .ref m_likeGets, .ref m_likePrice, .ref m_ahead])), (m_refused, .inl (aC 0, 7, .inl mr))] U.heap ∧ va_K (dC, dI) classes (TY aC) U ∧ va_D (fun _ => True) [(g0, .inr (12, [.ref m_refused, .ref m_kind, .ref m_figure, .ref m_weight, .ref m_got, .ref m_setting, .int men, .int msy, .int mdn, .ref m_tape, .ref m_letter, .ref m_letterAt, .ref m_told, .int tp, .int mat, .int stm, .ref m_kept, .int hi, .int ki, .int cu, .ref m_price, .ref m_offer, .ref m_gets, .ref m_yes, .ref m_buys, .ref m_ends, .ref m_carried, .ref m_row, .int rm, .ref m_keptRow, .ref m_likeGets, .ref m_likePrice, .ref m_ahead])), (m_refused, .inl (aC 0, 7, .inl mr))] ∧ NX U)) (va_Qi (fun (r : Int32) (_ : Unit) => r = -3) (fun (_ : Unit) (t : State) => va_P (dC, dI) classes [] t.heap ∧ va_K (dC, dI) classes (TY aC) t ∧ va_D (va_A [(g0, .inr (12, [.ref m_refused, .ref m_kind, .ref m_figure, .ref m_weight, .ref m_got, .ref m_setting, .int men, .int msy, .int mdn, .ref m_tape, .ref m_letter, .ref m_letterAt, .ref m_told, .int tp, .int mat, .int stm, .ref m_kept, .int hi, .int ki, .int cu, .ref m_price, .ref m_offer, .ref m_gets, .ref m_yes, .ref m_buys, .ref m_ends, .ref m_carried, .ref m_row, .int rm, .ref m_keptRow, .ref m_likeGets, .ref m_likePrice, .ref m_ahead])), (m_refused, .inl (aC 0, 7, .inl mr))] sz) []) (va_A [(g0, .inr (12, [.ref m_refused, .ref m_kind, .ref m_figure, .ref m_weight, .ref m_got, .ref m_setting, .int men, .int msy, .int mdn, .ref m_tape, .ref m_letter, .ref m_letterAt, .ref m_told, .int tp, .int mat, .int stm, .ref m_kept, .int hi, .int ki, .int cu, .ref m_price, .ref m_offer, .ref m_gets, .ref m_yes, .ref m_buys, .ref m_ends, .ref m_carried, .ref m_row, .int rm, .ref m_keptRow, .ref m_likeGets, .ref m_likePrice, .ref m_ahead])), (m_refused, .inl (aC 0, 7, .inl mr))] sz)) 0 0 (va_A [(g0, .inr (12, [.ref m_refused, .ref m_kind, .ref m_figure, .ref m_weight, .ref m_got, .ref m_setting, .int men, .int msy, .int mdn, .ref m_tape, .ref m_letter, .ref m_letterAt, .ref m_told, .int tp, .int mat, .int stm, .ref m_kept, .int hi, .int ki, .int cu, .ref m_price, .ref m_offer, .ref m_gets, .ref m_yes, .ref m_buys, .ref m_ends, .ref m_carried, .ref m_row, .int rm, .ref m_keptRow, .ref m_likeGets, .ref m_likePrice, .ref m_ahead])), (m_refused, .inl (aC 0, 7, .inl mr))] sz) := by
  refine Met.ofW (cc := cX12_says) (maxL := 4) (ret := (some .int)) (by decide) rfl ?_
  intro p e s m args below meth c s₁ B hml hv
  obtain ⟨rfl, hsz, hP, hK, hD0, hN⟩ := hv
  have hx := B.exec
  have hb := B.bytes
  have hr := B.returns
  have hts0 := atoms_spec (ws := (wW yX12_says cX12_says 4 (some .int))) B.pre
  have hts : ∀ w9 ∈ lw_G, w9.before ([.ref g0] : List Value).toArray s = true := fun w9 h9 => hts0 w9 (List.mem_cons_of_mem _ h9)
  have hown : s.vm.findClass RX12 = some m.cls := findClass_of_methodNamed B.named
  have hlocks := B.notSynchronized
  subst hsz
  have hD := hD0.self (sz := s.heap.size)
  generalize hAe : va_A [(g0, .inr (12, [.ref m_refused, .ref m_kind, .ref m_figure, .ref m_weight, .ref m_got, .ref m_setting, .int men, .int msy, .int mdn, .ref m_tape, .ref m_letter, .ref m_letterAt, .ref m_told, .int tp, .int mat, .int stm, .ref m_kept, .int hi, .int ki, .int cu, .ref m_price, .ref m_offer, .ref m_gets, .ref m_yes, .ref m_buys, .ref m_ends, .ref m_carried, .ref m_row, .int rm, .ref m_keptRow, .ref m_likeGets, .ref m_likePrice, .ref m_ahead])), (m_refused, .inl (aC 0, 7, .inl mr))] s.heap.size = A at hD ⊢
  have hA : ∀ q : Nat, s.heap.size ≤ q → A q := fun q h => by rw [← hAe]; exact Or.inr h
  obtain ⟨H, hHe⟩ : ∃ H : Heap, H = s.heap := ⟨_, rfl⟩
  have hS : va_S A s.heap H [] := by rw [hHe]; exact va_S.rf
  have hP : va_P (dC, dI) classes [(g0, .inr (12, [.ref m_refused, .ref m_kind, .ref m_figure, .ref m_weight, .ref m_got, .ref m_setting, .int men, .int msy, .int mdn, .ref m_tape, .ref m_letter, .ref m_letterAt, .ref m_told, .int tp, .int mat, .int stm, .ref m_kept, .int hi, .int ki, .int cu, .ref m_price, .ref m_offer, .ref m_gets, .ref m_yes, .ref m_buys, .ref m_ends, .ref m_carried, .ref m_row, .int rm, .ref m_keptRow, .ref m_likeGets, .ref m_likePrice, .ref m_ahead])), (m_refused, .inl (aC 0, 7, .inl mr))] H := by rw [hHe]; exact hP
  have hl := lv_entry ([.ref g0]) (n := 4) (Nat.le_of_ble_eq_true rfl)
  rw [lg_entry_eq]
  generalize (lg_sl ([.ref g0]) ++ List.replicate (4 - (lg_sl ([.ref g0])).length) Slot.unset).toArray = ls at hl ⊢
  have hl : lv_has ls 4 [(0, .ref g0)] := hl
  rw [← hHe]
  refine lv_aload_n hx hb dX12_says_0 rfl (lv_at hl 0 rfl) ?_
  have hPc := hP.sub (ws' := [(g0, .inr (12, [.ref m_refused, .ref m_kind, .ref m_figure, .ref m_weight, .ref m_got, .ref m_setting, .int men, .int msy, .int mdn, .ref m_tape, .ref m_letter, .ref m_letterAt, .ref m_told, .int tp, .int mat, .int stm, .ref m_kept, .int hi, .int ki, .int cu, .ref m_price, .ref m_offer, .ref m_gets, .ref m_yes, .ref m_buys, .ref m_ends, .ref m_carried, .ref m_row, .int rm, .ref m_keptRow, .ref m_likeGets, .ref m_likePrice, .ref m_ahead]))]) [0] rfl
  have hDc := hD.sub (ws' := [(g0, .inr (12, [.ref m_refused, .ref m_kind, .ref m_figure, .ref m_weight, .ref m_got, .ref m_setting, .int men, .int msy, .int mdn, .ref m_tape, .ref m_letter, .ref m_letterAt, .ref m_told, .int tp, .int mat, .int stm, .ref m_kept, .int hi, .int ki, .int cu, .ref m_price, .ref m_offer, .ref m_gets, .ref m_yes, .ref m_buys, .ref m_ends, .ref m_carried, .ref m_row, .int rm, .ref m_keptRow, .ref m_likeGets, .ref m_likePrice, .ref m_ahead]))]) [0] (by decide) rfl
  have hFc := va_free (wc := [(g0, .inr (12, [.ref m_refused, .ref m_kind, .ref m_figure, .ref m_weight, .ref m_got, .ref m_setting, .int men, .int msy, .int mdn, .ref m_tape, .ref m_letter, .ref m_letterAt, .ref m_told, .int tp, .int mat, .int stm, .ref m_kept, .int hi, .int ki, .int cu, .ref m_price, .ref m_offer, .ref m_gets, .ref m_yes, .ref m_buys, .ref m_ends, .ref m_carried, .ref m_row, .int rm, .ref m_keptRow, .ref m_likeGets, .ref m_likePrice, .ref m_ahead]))]) hD hS hA [0] rfl
  refine va_calli (va_runV (As := []) (rest := []) ⟨hx, hb, hml, hown, hts⟩ (c_X12_isOver l dC dI aC H.size g0 m_refused m_kind m_figure m_weight m_got m_setting m_tape m_letter m_letterAt m_told m_kept m_price m_offer m_gets m_yes m_buys m_ends m_carried m_row m_keptRow m_likeGets m_likePrice m_ahead men msy mdn tp mat stm hi ki cu rm ) ⟨(callB_of 0 hts (gG kw_994) rfl rfl rfl (hts _ (gw kw_13 rfl)) (hts _ (gw kw_991 rfl)) (by decide +kernel) ⟨Nat.le_of_ble_eq_true rfl, Nat.le_of_ble_eq_true rfl⟩), (hts _ (gw kw_993 rfl)), (hts _ (gw ks_58 rfl))⟩ ⟨fun a U g mk q => by obtain ⟨q0, q1, qP, qK, qD, qN⟩ := q; exact ⟨q0, q1, qP, va_K.moved (u := U) (U := U.calling g mk a) (Vm.Alike.refl U.vm) qK, qD, NX.same (u := U) (U := U.calling g mk a) rfl qN⟩, va_recv hK hPc (ci := 12) (q0 := 0) rfl rfl, fun U hU hW => ⟨rfl, by rw [hU], by rw [hU]; exact hPc, va_K.moved hW.alike hK, hDc.weaken (fun _ _ _ _ => trivial), NX.warm hW hN⟩⟩ rfl rfl hl.1 rfl (lv_room (Nat.le_of_ble_eq_true rfl)) dX12_says_1 ⟨Nat.le_of_ble_eq_true rfl, Nat.le_of_ble_eq_true rfl⟩) hS (fun q _ h => hFc q h) hFc (fun x_1 u t H1 locs ht hvm hw_1 hB hz1 hk1 hS => ?_)
  obtain ⟨hP1, hK1, hD1⟩ := hB
  rw [ht] at hP1
  clear hK1
  try dsimp only at hw_1
  obtain ⟨hP, hD⟩ := va_join (wr := [(m_refused, .inl (aC 0, 7, .inl mr))]) (w1 := [(g0, .inr (12, [.ref m_refused, .ref m_kind, .ref m_figure, .ref m_weight, .ref m_got, .ref m_setting, .int men, .int msy, .int mdn, .ref m_tape, .ref m_letter, .ref m_letterAt, .ref m_told, .int tp, .int mat, .int stm, .ref m_kept, .int hi, .int ki, .int cu, .ref m_price, .ref m_offer, .ref m_gets, .ref m_yes, .ref m_buys, .ref m_ends, .ref m_carried, .ref m_row, .int rm, .ref m_keptRow, .ref m_likeGets, .ref m_likePrice, .ref m_ahead]))]) hP hD [0] [1] rfl rfl (by decide) (by decide) hk1 hFc hP1 hD1
  generalize H1 = H at hP hS ⊢
  have hP : va_P (dC, dI) classes [(m_refused, .inl (aC 0, 7, .inl mr)), (g0, .inr (12, [.ref m_refused, .ref m_kind, .ref m_figure, .ref m_weight, .ref m_got, .ref m_setting, .int men, .int msy, .int mdn, .ref m_tape, .ref m_letter, .ref m_letterAt, .ref m_told, .int tp, .int mat, .int stm, .ref m_kept, .int hi, .int ki, .int cu, .ref m_price, .ref m_offer, .ref m_gets, .ref m_yes, .ref m_buys, .ref m_ends, .ref m_carried, .ref m_row, .int rm, .ref m_keptRow, .ref m_likeGets, .ref m_likePrice, .ref m_ahead]))] H := hP
  have hD : va_D A [(m_refused, .inl (aC 0, 7, .inl mr)), (g0, .inr (12, [.ref m_refused, .ref m_kind, .ref m_figure, .ref m_weight, .ref m_got, .ref m_setting, .int men, .int msy, .int mdn, .ref m_tape, .ref m_letter, .ref m_letterAt, .ref m_told, .int tp, .int mat, .int stm, .ref m_kept, .int hi, .int ki, .int cu, .ref m_price, .ref m_offer, .ref m_gets, .ref m_yes, .ref m_buys, .ref m_ends, .ref m_carried, .ref m_row, .int rm, .ref m_keptRow, .ref m_likeGets, .ref m_likePrice, .ref m_ahead]))] := hD
  clear hPc hDc hFc hz1 hk1 hP1 hD1 ht hvm
  have hz_1 : x_1 = 1 := by rw [hw_1]; rcases hov with h9 | h9 <;> simp [h9]
  refine lv_if_eq (tgt := 14) hx hb dX12_says_4 (by decide) (fun c_2 => ?_) (fun c_2 => ?_)
  · exact absurd c_2 (by rw [hz_1]; decide)
  · refine lv_aload_n hx hb dX12_says_7 rfl (lv_at hl 0 rfl) ?_
    refine lv_bipush (v := -3) hx hb dX12_says_8 (by decide) ?_
    have hPc := hP.sub (ws' := [(g0, .inr (12, [.ref m_refused, .ref m_kind, .ref m_figure, .ref m_weight, .ref m_got, .ref m_setting, .int men, .int msy, .int mdn, .ref m_tape, .ref m_letter, .ref m_letterAt, .ref m_told, .int tp, .int mat, .int stm, .ref m_kept, .int hi, .int ki, .int cu, .ref m_price, .ref m_offer, .ref m_gets, .ref m_yes, .ref m_buys, .ref m_ends, .ref m_carried, .ref m_row, .int rm, .ref m_keptRow, .ref m_likeGets, .ref m_likePrice, .ref m_ahead])), (m_refused, .inl (aC 0, 7, .inl mr))]) [1, 0] rfl
    have hDc := hD.sub (ws' := [(g0, .inr (12, [.ref m_refused, .ref m_kind, .ref m_figure, .ref m_weight, .ref m_got, .ref m_setting, .int men, .int msy, .int mdn, .ref m_tape, .ref m_letter, .ref m_letterAt, .ref m_told, .int tp, .int mat, .int stm, .ref m_kept, .int hi, .int ki, .int cu, .ref m_price, .ref m_offer, .ref m_gets, .ref m_yes, .ref m_buys, .ref m_ends, .ref m_carried, .ref m_row, .int rm, .ref m_keptRow, .ref m_likeGets, .ref m_likePrice, .ref m_ahead])), (m_refused, .inl (aC 0, 7, .inl mr))]) [1, 0] (by decide) rfl
    have hFc := va_free (wc := [(g0, .inr (12, [.ref m_refused, .ref m_kind, .ref m_figure, .ref m_weight, .ref m_got, .ref m_setting, .int men, .int msy, .int mdn, .ref m_tape, .ref m_letter, .ref m_letterAt, .ref m_told, .int tp, .int mat, .int stm, .ref m_kept, .int hi, .int ki, .int cu, .ref m_price, .ref m_offer, .ref m_gets, .ref m_yes, .ref m_buys, .ref m_ends, .ref m_carried, .ref m_row, .int rm, .ref m_keptRow, .ref m_likeGets, .ref m_likePrice, .ref m_ahead])), (m_refused, .inl (aC 0, 7, .inl mr))]) hD hS hA [1, 0] rfl
    refine va_calli (va_runV (As := [.int (-3)]) (rest := []) ⟨hx, hb, hml, hown, hts⟩ (c_X12_no l dC dI aC H.size g0 m_refused m_kind m_figure m_weight m_got m_setting m_tape m_letter m_letterAt m_told m_kept m_price m_offer m_gets m_yes m_buys m_ends m_carried m_row m_keptRow m_likeGets m_likePrice m_ahead men msy mdn tp mat stm hi ki cu rm (-3) 3 mr (by decide) (by unfold vp_in; decide)) ⟨(callB_of 1 hts (gG kw_827) rfl rfl rfl (hts _ (gw kw_13 rfl)) (hts _ (gw kw_824 rfl)) (by decide +kernel) ⟨Nat.le_of_ble_eq_true rfl, Nat.le_of_ble_eq_true rfl⟩), (hts _ (gw kw_826 rfl)), (hts _ (gw ks_35 rfl))⟩ ⟨fun a U g mk q => by obtain ⟨q0, q1, qP, qK, qD, qN⟩ := q; exact ⟨q0, q1, qP, va_K.moved (u := U) (U := U.calling g mk a) (Vm.Alike.refl U.vm) qK, qD, NX.same (u := U) (U := U.calling g mk a) rfl qN⟩, va_recv hK hPc (ci := 12) (q0 := 0) rfl rfl, fun U hU hW => ⟨rfl, by rw [hU], by rw [hU]; exact hPc, va_K.moved hW.alike hK, hDc.weaken (fun _ _ _ _ => trivial), NX.warm hW hN⟩⟩ rfl rfl hl.1 rfl (lv_room (Nat.le_of_ble_eq_true rfl)) dX12_says_10 ⟨Nat.le_of_ble_eq_true rfl, Nat.le_of_ble_eq_true rfl⟩) hS (fun q _ h => hFc q h) hFc (fun x_3 u t H1 locs ht hvm hw_3 hB hz1 hk1 hS => ?_)
    obtain ⟨u_4, rfl⟩ : ∃ z, z = u := ⟨_, rfl⟩
    obtain ⟨hP1, hK1, hD1⟩ := hB
    rw [ht] at hP1
    clear hK1
    try dsimp only at hw_3
    obtain ⟨hP, hD⟩ := va_join (wr := []) (w1 := [(g0, .inr (12, [.ref m_refused, .ref m_kind, .ref m_figure, .ref m_weight, .ref m_got, .ref m_setting, .int men, .int msy, .int mdn, .ref m_tape, .ref m_letter, .ref m_letterAt, .ref m_told, .int tp, .int mat, .int stm, .ref m_kept, .int hi, .int ki, .int cu, .ref m_price, .ref m_offer, .ref m_gets, .ref m_yes, .ref m_buys, .ref m_ends, .ref m_carried, .ref m_row, .int rm, .ref m_keptRow, .ref m_likeGets, .ref m_likePrice, .ref m_ahead])), (m_refused, .inl (aC 0, 7, .inl u_4))]) hP hD [1, 0] [] rfl rfl (by decide) (by decide) hk1 hFc hP1 hD1
    generalize H1 = H at hP hS ⊢
    have hP : va_P (dC, dI) classes [(g0, .inr (12, [.ref m_refused, .ref m_kind, .ref m_figure, .ref m_weight, .ref m_got, .ref m_setting, .int men, .int msy, .int mdn, .ref m_tape, .ref m_letter, .ref m_letterAt, .ref m_told, .int tp, .int mat, .int stm, .ref m_kept, .int hi, .int ki, .int cu, .ref m_price, .ref m_offer, .ref m_gets, .ref m_yes, .ref m_buys, .ref m_ends, .ref m_carried, .ref m_row, .int rm, .ref m_keptRow, .ref m_likeGets, .ref m_likePrice, .ref m_ahead])), (m_refused, .inl (aC 0, 7, .inl u_4))] H := hP
    have hD : va_D A [(g0, .inr (12, [.ref m_refused, .ref m_kind, .ref m_figure, .ref m_weight, .ref m_got, .ref m_setting, .int men, .int msy, .int mdn, .ref m_tape, .ref m_letter, .ref m_letterAt, .ref m_told, .int tp, .int mat, .int stm, .ref m_kept, .int hi, .int ki, .int cu, .ref m_price, .ref m_offer, .ref m_gets, .ref m_yes, .ref m_buys, .ref m_ends, .ref m_carried, .ref m_row, .int rm, .ref m_keptRow, .ref m_likeGets, .ref m_likePrice, .ref m_ahead])), (m_refused, .inl (aC 0, 7, .inl u_4))] := hD
    clear hPc hDc hFc hz1 hk1 hP1 hD1 ht hvm
    obtain ⟨hv9, hv8⟩ := hw_3
    have hP9 := hP.sub (ws' := []) [] rfl
    have hD9 := hD.sub (ws' := []) [] (by decide) rfl
    refine W.widen (k := 0) (n := 0) (by omega) (by omega) ?_
    exact W.iret (v := x_3) hx hb hr (fun t ht hW => ⟨⟨x_3, (), rfl, hv9, by rw [ht]; exact hP9, va_K.moved hW.alike hK, hD9⟩, hS.F ht⟩) hS.2.2 dX12_says_13

set_option maxHeartbeats 4000000 in
set_option maxRecDepth 100000 in
/-- X12_fewest_r -/
theorem c_X12_fewest_r (l : Launch) (dC : Nat → ClassId) (dI : Nat → Nat → Nat) (aC : Nat → ClassId) (sz : Nat) (g0 : Nat) (m_refused : Nat) (m_kind : Nat) (m_figure : Nat) (m_weight : Nat) (m_got : Nat) (m_setting : Nat) (m_tape : Nat) (m_letter : Nat) (m_letterAt : Nat) (m_told : Nat) (m_kept : Nat) (m_price : Nat) (m_offer : Nat) (m_gets : Nat) (m_yes : Nat) (m_buys : Nat) (m_ends : Nat) (m_carried : Nat) (m_row : Nat) (m_keptRow : Nat) (m_likeGets : Nat) (m_likePrice : Nat) (m_ahead : Nat) (men : Int32) (msy : Int32) (mdn : Int32) (tp : Int32) (mat : Int32) (stm : Int32) (hi : Int32) (ki : Int32) (cu : Int32) (rm : Int32) (mr : Nat → Int32) (hov : men = 0 ∨ mdn = 1) : Met l yX12_fewest (wW yX12_fewest cX12_fewest 4 (some .int)) ({ frames := 1, cells := 0, slots := 0, locals := 21 } : Room) (va_Pc [.ref g0] (fun U => U.heap.size = sz ∧ va_P (dC, dI) classes [(g0, .inr (12, [.ref m_refused, .ref m_kind, .ref m_figure, .ref m_weight, .ref m_got, .ref m_setting, .int men, .int msy, .int mdn, .ref m_tape, .ref m_letter, .ref m_letterAt, .ref m_told, .int tp, .int mat, .int stm, .ref m_kept, .int hi, .int ki, .int cu, .ref m_price, .ref m_offer, .ref m_gets, .ref m_yes, .ref m_buys, .ref m_ends, .ref m_carried, .ref m_row, .int rm, .ref m_keptRow, .ref m_likeGets, .ref m_likePrice, .ref m_ahead])), (m_refused, .inl (aC 0, 7, .inl mr))] U.heap ∧ va_K (dC, dI) classes (TY aC) U ∧ va_D (fun _ => True) [(g0, .inr (12, [.ref m_refused, .ref m_kind, .ref m_figure, .ref m_weight, .ref m_got, .ref m_setting, .int men, .int msy, .int mdn, .ref m_tape, .ref m_letter, .ref m_letterAt, .ref m_told, .int tp, .int mat, .int stm, .ref m_kept, .int hi, .int ki, .int cu, .ref m_price, .ref m_offer, .ref m_gets, .ref m_yes, .ref m_buys, .ref m_ends, .ref m_carried, .ref m_row, .int rm, .ref m_keptRow, .ref m_likeGets, .ref m_likePrice, .ref m_ahead])), (m_refused, .inl (aC 0, 7, .inl mr))] ∧ NX U)) (va_Qi (fun (r : Int32) (_ : Unit) => r = -3) (fun (_ : Unit) (t : State) => va_P (dC, dI) classes [] t.heap ∧ va_K (dC, dI) classes (TY aC) t ∧ va_D (va_A [(g0, .inr (12, [.ref m_refused, .ref m_kind, .ref m_figure, .ref m_weight, .ref m_got, .ref m_setting, .int men, .int msy, .int mdn, .ref m_tape, .ref m_letter, .ref m_letterAt, .ref m_told, .int tp, .int mat, .int stm, .ref m_kept, .int hi, .int ki, .int cu, .ref m_price, .ref m_offer, .ref m_gets, .ref m_yes, .ref m_buys, .ref m_ends, .ref m_carried, .ref m_row, .int rm, .ref m_keptRow, .ref m_likeGets, .ref m_likePrice, .ref m_ahead])), (m_refused, .inl (aC 0, 7, .inl mr))] sz) []) (va_A [(g0, .inr (12, [.ref m_refused, .ref m_kind, .ref m_figure, .ref m_weight, .ref m_got, .ref m_setting, .int men, .int msy, .int mdn, .ref m_tape, .ref m_letter, .ref m_letterAt, .ref m_told, .int tp, .int mat, .int stm, .ref m_kept, .int hi, .int ki, .int cu, .ref m_price, .ref m_offer, .ref m_gets, .ref m_yes, .ref m_buys, .ref m_ends, .ref m_carried, .ref m_row, .int rm, .ref m_keptRow, .ref m_likeGets, .ref m_likePrice, .ref m_ahead])), (m_refused, .inl (aC 0, 7, .inl mr))] sz)) 0 0 (va_A [(g0, .inr (12, [.ref m_refused, .ref m_kind, .ref m_figure, .ref m_weight, .ref m_got, .ref m_setting, .int men, .int msy, .int mdn, .ref m_tape, .ref m_letter, .ref m_letterAt, .ref m_told, .int tp, .int mat, .int stm, .ref m_kept, .int hi, .int ki, .int cu, .ref m_price, .ref m_offer, .ref m_gets, .ref m_yes, .ref m_buys, .ref m_ends, .ref m_carried, .ref m_row, .int rm, .ref m_keptRow, .ref m_likeGets, .ref m_likePrice, .ref m_ahead])), (m_refused, .inl (aC 0, 7, .inl mr))] sz) := by
  refine Met.ofW (cc := cX12_fewest) (maxL := 4) (ret := (some .int)) (by decide) rfl ?_
  intro p e s m args below meth c s₁ B hml hv
  obtain ⟨rfl, hsz, hP, hK, hD0, hN⟩ := hv
  have hx := B.exec
  have hb := B.bytes
  have hr := B.returns
  have hts0 := atoms_spec (ws := (wW yX12_fewest cX12_fewest 4 (some .int))) B.pre
  have hts : ∀ w9 ∈ lw_G, w9.before ([.ref g0] : List Value).toArray s = true := fun w9 h9 => hts0 w9 (List.mem_cons_of_mem _ h9)
  have hown : s.vm.findClass RX12 = some m.cls := findClass_of_methodNamed B.named
  have hlocks := B.notSynchronized
  subst hsz
  have hD := hD0.self (sz := s.heap.size)
  generalize hAe : va_A [(g0, .inr (12, [.ref m_refused, .ref m_kind, .ref m_figure, .ref m_weight, .ref m_got, .ref m_setting, .int men, .int msy, .int mdn, .ref m_tape, .ref m_letter, .ref m_letterAt, .ref m_told, .int tp, .int mat, .int stm, .ref m_kept, .int hi, .int ki, .int cu, .ref m_price, .ref m_offer, .ref m_gets, .ref m_yes, .ref m_buys, .ref m_ends, .ref m_carried, .ref m_row, .int rm, .ref m_keptRow, .ref m_likeGets, .ref m_likePrice, .ref m_ahead])), (m_refused, .inl (aC 0, 7, .inl mr))] s.heap.size = A at hD ⊢
  have hA : ∀ q : Nat, s.heap.size ≤ q → A q := fun q h => by rw [← hAe]; exact Or.inr h
  obtain ⟨H, hHe⟩ : ∃ H : Heap, H = s.heap := ⟨_, rfl⟩
  have hS : va_S A s.heap H [] := by rw [hHe]; exact va_S.rf
  have hP : va_P (dC, dI) classes [(g0, .inr (12, [.ref m_refused, .ref m_kind, .ref m_figure, .ref m_weight, .ref m_got, .ref m_setting, .int men, .int msy, .int mdn, .ref m_tape, .ref m_letter, .ref m_letterAt, .ref m_told, .int tp, .int mat, .int stm, .ref m_kept, .int hi, .int ki, .int cu, .ref m_price, .ref m_offer, .ref m_gets, .ref m_yes, .ref m_buys, .ref m_ends, .ref m_carried, .ref m_row, .int rm, .ref m_keptRow, .ref m_likeGets, .ref m_likePrice, .ref m_ahead])), (m_refused, .inl (aC 0, 7, .inl mr))] H := by rw [hHe]; exact hP
  have hl := lv_entry ([.ref g0]) (n := 4) (Nat.le_of_ble_eq_true rfl)
  rw [lg_entry_eq]
  generalize (lg_sl ([.ref g0]) ++ List.replicate (4 - (lg_sl ([.ref g0])).length) Slot.unset).toArray = ls at hl ⊢
  have hl : lv_has ls 4 [(0, .ref g0)] := hl
  rw [← hHe]
  refine lv_aload_n hx hb dX12_fewest_0 rfl (lv_at hl 0 rfl) ?_
  have hPc := hP.sub (ws' := [(g0, .inr (12, [.ref m_refused, .ref m_kind, .ref m_figure, .ref m_weight, .ref m_got, .ref m_setting, .int men, .int msy, .int mdn, .ref m_tape, .ref m_letter, .ref m_letterAt, .ref m_told, .int tp, .int mat, .int stm, .ref m_kept, .int hi, .int ki, .int cu, .ref m_price, .ref m_offer, .ref m_gets, .ref m_yes, .ref m_buys, .ref m_ends, .ref m_carried, .ref m_row, .int rm, .ref m_keptRow, .ref m_likeGets, .ref m_likePrice, .ref m_ahead]))]) [0] rfl
  have hDc := hD.sub (ws' := [(g0, .inr (12, [.ref m_refused, .ref m_kind, .ref m_figure, .ref m_weight, .ref m_got, .ref m_setting, .int men, .int msy, .int mdn, .ref m_tape, .ref m_letter, .ref m_letterAt, .ref m_told, .int tp, .int mat, .int stm, .ref m_kept, .int hi, .int ki, .int cu, .ref m_price, .ref m_offer, .ref m_gets, .ref m_yes, .ref m_buys, .ref m_ends, .ref m_carried, .ref m_row, .int rm, .ref m_keptRow, .ref m_likeGets, .ref m_likePrice, .ref m_ahead]))]) [0] (by decide) rfl
  have hFc := va_free (wc := [(g0, .inr (12, [.ref m_refused, .ref m_kind, .ref m_figure, .ref m_weight, .ref m_got, .ref m_setting, .int men, .int msy, .int mdn, .ref m_tape, .ref m_letter, .ref m_letterAt, .ref m_told, .int tp, .int mat, .int stm, .ref m_kept, .int hi, .int ki, .int cu, .ref m_price, .ref m_offer, .ref m_gets, .ref m_yes, .ref m_buys, .ref m_ends, .ref m_carried, .ref m_row, .int rm, .ref m_keptRow, .ref m_likeGets, .ref m_likePrice, .ref m_ahead]))]) hD hS hA [0] rfl
  refine va_calli (va_runV (As := []) (rest := []) ⟨hx, hb, hml, hown, hts⟩ (c_X12_isOver l dC dI aC H.size g0 m_refused m_kind m_figure m_weight m_got m_setting m_tape m_letter m_letterAt m_told m_kept m_price m_offer m_gets m_yes m_buys m_ends m_carried m_row m_keptRow m_likeGets m_likePrice m_ahead men msy mdn tp mat stm hi ki cu rm ) ⟨(callB_of 0 hts (gG kw_994) rfl rfl rfl (hts _ (gw kw_13 rfl)) (hts _ (gw kw_991 rfl)) (by decide +kernel) ⟨Nat.le_of_ble_eq_true rfl, Nat.le_of_ble_eq_true rfl⟩), (hts _ (gw kw_993 rfl)), (hts _ (gw ks_58 rfl))⟩ ⟨fun a U g mk q => by obtain ⟨q0, q1, qP, qK, qD, qN⟩ := q; exact ⟨q0, q1, qP, va_K.moved (u := U) (U := U.calling g mk a) (Vm.Alike.refl U.vm) qK, qD, NX.same (u := U) (U := U.calling g mk a) rfl qN⟩, va_recv hK hPc (ci := 12) (q0 := 0) rfl rfl, fun U hU hW => ⟨rfl, by rw [hU], by rw [hU]; exact hPc, va_K.moved hW.alike hK, hDc.weaken (fun _ _ _ _ => trivial), NX.warm hW hN⟩⟩ rfl rfl hl.1 rfl (lv_room (Nat.le_of_ble_eq_true rfl)) dX12_fewest_1 ⟨Nat.le_of_ble_eq_true rfl, Nat.le_of_ble_eq_true rfl⟩) hS (fun q _ h => hFc q h) hFc (fun x_1 u t H1 locs ht hvm hw_1 hB hz1 hk1 hS => ?_)
  obtain ⟨hP1, hK1, hD1⟩ := hB
  rw [ht] at hP1
  clear hK1
  try dsimp only at hw_1
  obtain ⟨hP, hD⟩ := va_join (wr := [(m_refused, .inl (aC 0, 7, .inl mr))]) (w1 := [(g0, .inr (12, [.ref m_refused, .ref m_kind, .ref m_figure, .ref m_weight, .ref m_got, .ref m_setting, .int men, .int msy, .int mdn, .ref m_tape, .ref m_letter, .ref m_letterAt, .ref m_told, .int tp, .int mat, .int stm, .ref m_kept, .int hi, .int ki, .int cu, .ref m_price, .ref m_offer, .ref m_gets, .ref m_yes, .ref m_buys, .ref m_ends, .ref m_carried, .ref m_row, .int rm, .ref m_keptRow, .ref m_likeGets, .ref m_likePrice, .ref m_ahead]))]) hP hD [0] [1] rfl rfl (by decide) (by decide) hk1 hFc hP1 hD1
  generalize H1 = H at hP hS ⊢
  have hP : va_P (dC, dI) classes [(m_refused, .inl (aC 0, 7, .inl mr)), (g0, .inr (12, [.ref m_refused, .ref m_kind, .ref m_figure, .ref m_weight, .ref m_got, .ref m_setting, .int men, .int msy, .int mdn, .ref m_tape, .ref m_letter, .ref m_letterAt, .ref m_told, .int tp, .int mat, .int stm, .ref m_kept, .int hi, .int ki, .int cu, .ref m_price, .ref m_offer, .ref m_gets, .ref m_yes, .ref m_buys, .ref m_ends, .ref m_carried, .ref m_row, .int rm, .ref m_keptRow, .ref m_likeGets, .ref m_likePrice, .ref m_ahead]))] H := hP
  have hD : va_D A [(m_refused, .inl (aC 0, 7, .inl mr)), (g0, .inr (12, [.ref m_refused, .ref m_kind, .ref m_figure, .ref m_weight, .ref m_got, .ref m_setting, .int men, .int msy, .int mdn, .ref m_tape, .ref m_letter, .ref m_letterAt, .ref m_told, .int tp, .int mat, .int stm, .ref m_kept, .int hi, .int ki, .int cu, .ref m_price, .ref m_offer, .ref m_gets, .ref m_yes, .ref m_buys, .ref m_ends, .ref m_carried, .ref m_row, .int rm, .ref m_keptRow, .ref m_likeGets, .ref m_likePrice, .ref m_ahead]))] := hD
  clear hPc hDc hFc hz1 hk1 hP1 hD1 ht hvm
  have hz_1 : x_1 = 1 := by rw [hw_1]; rcases hov with h9 | h9 <;> simp [h9]
  refine lv_if_eq (tgt := 14) hx hb dX12_fewest_4 (by decide) (fun c_2 => ?_) (fun c_2 => ?_)
  · exact absurd c_2 (by rw [hz_1]; decide)
  · refine lv_aload_n hx hb dX12_fewest_7 rfl (lv_at hl 0 rfl) ?_
    refine lv_bipush (v := -3) hx hb dX12_fewest_8 (by decide) ?_
    have hPc := hP.sub (ws' := [(g0, .inr (12, [.ref m_refused, .ref m_kind, .ref m_figure, .ref m_weight, .ref m_got, .ref m_setting, .int men, .int msy, .int mdn, .ref m_tape, .ref m_letter, .ref m_letterAt, .ref m_told, .int tp, .int mat, .int stm, .ref m_kept, .int hi, .int ki, .int cu, .ref m_price, .ref m_offer, .ref m_gets, .ref m_yes, .ref m_buys, .ref m_ends, .ref m_carried, .ref m_row, .int rm, .ref m_keptRow, .ref m_likeGets, .ref m_likePrice, .ref m_ahead])), (m_refused, .inl (aC 0, 7, .inl mr))]) [1, 0] rfl
    have hDc := hD.sub (ws' := [(g0, .inr (12, [.ref m_refused, .ref m_kind, .ref m_figure, .ref m_weight, .ref m_got, .ref m_setting, .int men, .int msy, .int mdn, .ref m_tape, .ref m_letter, .ref m_letterAt, .ref m_told, .int tp, .int mat, .int stm, .ref m_kept, .int hi, .int ki, .int cu, .ref m_price, .ref m_offer, .ref m_gets, .ref m_yes, .ref m_buys, .ref m_ends, .ref m_carried, .ref m_row, .int rm, .ref m_keptRow, .ref m_likeGets, .ref m_likePrice, .ref m_ahead])), (m_refused, .inl (aC 0, 7, .inl mr))]) [1, 0] (by decide) rfl
    have hFc := va_free (wc := [(g0, .inr (12, [.ref m_refused, .ref m_kind, .ref m_figure, .ref m_weight, .ref m_got, .ref m_setting, .int men, .int msy, .int mdn, .ref m_tape, .ref m_letter, .ref m_letterAt, .ref m_told, .int tp, .int mat, .int stm, .ref m_kept, .int hi, .int ki, .int cu, .ref m_price, .ref m_offer, .ref m_gets, .ref m_yes, .ref m_buys, .ref m_ends, .ref m_carried, .ref m_row, .int rm, .ref m_keptRow, .ref m_likeGets, .ref m_likePrice, .ref m_ahead])), (m_refused, .inl (aC 0, 7, .inl mr))]) hD hS hA [1, 0] rfl
    refine va_calli (va_runV (As := [.int (-3)]) (rest := []) ⟨hx, hb, hml, hown, hts⟩ (c_X12_no l dC dI aC H.size g0 m_refused m_kind m_figure m_weight m_got m_setting m_tape m_letter m_letterAt m_told m_kept m_price m_offer m_gets m_yes m_buys m_ends m_carried m_row m_keptRow m_likeGets m_likePrice m_ahead men msy mdn tp mat stm hi ki cu rm (-3) 3 mr (by decide) (by unfold vp_in; decide)) ⟨(callB_of 1 hts (gG kw_827) rfl rfl rfl (hts _ (gw kw_13 rfl)) (hts _ (gw kw_824 rfl)) (by decide +kernel) ⟨Nat.le_of_ble_eq_true rfl, Nat.le_of_ble_eq_true rfl⟩), (hts _ (gw kw_826 rfl)), (hts _ (gw ks_35 rfl))⟩ ⟨fun a U g mk q => by obtain ⟨q0, q1, qP, qK, qD, qN⟩ := q; exact ⟨q0, q1, qP, va_K.moved (u := U) (U := U.calling g mk a) (Vm.Alike.refl U.vm) qK, qD, NX.same (u := U) (U := U.calling g mk a) rfl qN⟩, va_recv hK hPc (ci := 12) (q0 := 0) rfl rfl, fun U hU hW => ⟨rfl, by rw [hU], by rw [hU]; exact hPc, va_K.moved hW.alike hK, hDc.weaken (fun _ _ _ _ => trivial), NX.warm hW hN⟩⟩ rfl rfl hl.1 rfl (lv_room (Nat.le_of_ble_eq_true rfl)) dX12_fewest_10 ⟨Nat.le_of_ble_eq_true rfl, Nat.le_of_ble_eq_true rfl⟩) hS (fun q _ h => hFc q h) hFc (fun x_3 u t H1 locs ht hvm hw_3 hB hz1 hk1 hS => ?_)
    obtain ⟨u_4, rfl⟩ : ∃ z, z = u := ⟨_, rfl⟩
    obtain ⟨hP1, hK1, hD1⟩ := hB
    rw [ht] at hP1
    clear hK1
    try dsimp only at hw_3
    obtain ⟨hP, hD⟩ := va_join (wr := []) (w1 := [(g0, .inr (12, [.ref m_refused, .ref m_kind, .ref m_figure, .ref m_weight, .ref m_got, .ref m_setting, .int men, .int msy, .int mdn, .ref m_tape, .ref m_letter, .ref m_letterAt, .ref m_told, .int tp, .int mat, .int stm, .ref m_kept, .int hi, .int ki, .int cu, .ref m_price, .ref m_offer, .ref m_gets, .ref m_yes, .ref m_buys, .ref m_ends, .ref m_carried, .ref m_row, .int rm, .ref m_keptRow, .ref m_likeGets, .ref m_likePrice, .ref m_ahead])), (m_refused, .inl (aC 0, 7, .inl u_4))]) hP hD [1, 0] [] rfl rfl (by decide) (by decide) hk1 hFc hP1 hD1
    generalize H1 = H at hP hS ⊢
    have hP : va_P (dC, dI) classes [(g0, .inr (12, [.ref m_refused, .ref m_kind, .ref m_figure, .ref m_weight, .ref m_got, .ref m_setting, .int men, .int msy, .int mdn, .ref m_tape, .ref m_letter, .ref m_letterAt, .ref m_told, .int tp, .int mat, .int stm, .ref m_kept, .int hi, .int ki, .int cu, .ref m_price, .ref m_offer, .ref m_gets, .ref m_yes, .ref m_buys, .ref m_ends, .ref m_carried, .ref m_row, .int rm, .ref m_keptRow, .ref m_likeGets, .ref m_likePrice, .ref m_ahead])), (m_refused, .inl (aC 0, 7, .inl u_4))] H := hP
    have hD : va_D A [(g0, .inr (12, [.ref m_refused, .ref m_kind, .ref m_figure, .ref m_weight, .ref m_got, .ref m_setting, .int men, .int msy, .int mdn, .ref m_tape, .ref m_letter, .ref m_letterAt, .ref m_told, .int tp, .int mat, .int stm, .ref m_kept, .int hi, .int ki, .int cu, .ref m_price, .ref m_offer, .ref m_gets, .ref m_yes, .ref m_buys, .ref m_ends, .ref m_carried, .ref m_row, .int rm, .ref m_keptRow, .ref m_likeGets, .ref m_likePrice, .ref m_ahead])), (m_refused, .inl (aC 0, 7, .inl u_4))] := hD
    clear hPc hDc hFc hz1 hk1 hP1 hD1 ht hvm
    obtain ⟨hv9, hv8⟩ := hw_3
    have hP9 := hP.sub (ws' := []) [] rfl
    have hD9 := hD.sub (ws' := []) [] (by decide) rfl
    refine W.widen (k := 0) (n := 0) (by omega) (by omega) ?_
    exact W.iret (v := x_3) hx hb hr (fun t ht hW => ⟨⟨x_3, (), rfl, hv9, by rw [ht]; exact hP9, va_K.moved hW.alike hK, hD9⟩, hS.F ht⟩) hS.2.2 dX12_fewest_13

set_option maxHeartbeats 4000000 in
set_option maxRecDepth 100000 in
/-- X12_league_r -/
theorem c_X12_league_r (l : Launch) (dC : Nat → ClassId) (dI : Nat → Nat → Nat) (aC : Nat → ClassId) (sz : Nat) (g0 : Nat) (m_refused : Nat) (m_kind : Nat) (m_figure : Nat) (m_weight : Nat) (m_got : Nat) (m_setting : Nat) (m_tape : Nat) (m_letter : Nat) (m_letterAt : Nat) (m_told : Nat) (m_kept : Nat) (m_price : Nat) (m_offer : Nat) (m_gets : Nat) (m_yes : Nat) (m_buys : Nat) (m_ends : Nat) (m_carried : Nat) (m_row : Nat) (m_keptRow : Nat) (m_likeGets : Nat) (m_likePrice : Nat) (m_ahead : Nat) (men : Int32) (msy : Int32) (mdn : Int32) (tp : Int32) (mat : Int32) (stm : Int32) (hi : Int32) (ki : Int32) (cu : Int32) (rm : Int32) (mr : Nat → Int32) (a1 : Int32) (hov : men = 0 ∨ mdn = 1) : Met l yX12_league (wW yX12_league cX12_league 6 (some .int)) ({ frames := 1, cells := 0, slots := 0, locals := 21 } : Room) (va_Pc [.ref g0, .int a1] (fun U => U.heap.size = sz ∧ va_P (dC, dI) classes [(g0, .inr (12, [.ref m_refused, .ref m_kind, .ref m_figure, .ref m_weight, .ref m_got, .ref m_setting, .int men, .int msy, .int mdn, .ref m_tape, .ref m_letter, .ref m_letterAt, .ref m_told, .int tp, .int mat, .int stm, .ref m_kept, .int hi, .int ki, .int cu, .ref m_price, .ref m_offer, .ref m_gets, .ref m_yes, .ref m_buys, .ref m_ends, .ref m_carried, .ref m_row, .int rm, .ref m_keptRow, .ref m_likeGets, .ref m_likePrice, .ref m_ahead])), (m_refused, .inl (aC 0, 7, .inl mr))] U.heap ∧ va_K (dC, dI) classes (TY aC) U ∧ va_D (fun _ => True) [(g0, .inr (12, [.ref m_refused, .ref m_kind, .ref m_figure, .ref m_weight, .ref m_got, .ref m_setting, .int men, .int msy, .int mdn, .ref m_tape, .ref m_letter, .ref m_letterAt, .ref m_told, .int tp, .int mat, .int stm, .ref m_kept, .int hi, .int ki, .int cu, .ref m_price, .ref m_offer, .ref m_gets, .ref m_yes, .ref m_buys, .ref m_ends, .ref m_carried, .ref m_row, .int rm, .ref m_keptRow, .ref m_likeGets, .ref m_likePrice, .ref m_ahead])), (m_refused, .inl (aC 0, 7, .inl mr))] ∧ NX U)) (va_Qi (fun (r : Int32) (_ : Unit) => r = -3) (fun (_ : Unit) (t : State) => va_P (dC, dI) classes [] t.heap ∧ va_K (dC, dI) classes (TY aC) t ∧ va_D (va_A [(g0, .inr (12, [.ref m_refused, .ref m_kind, .ref m_figure, .ref m_weight, .ref m_got, .ref m_setting, .int men, .int msy, .int mdn, .ref m_tape, .ref m_letter, .ref m_letterAt, .ref m_told, .int tp, .int mat, .int stm, .ref m_kept, .int hi, .int ki, .int cu, .ref m_price, .ref m_offer, .ref m_gets, .ref m_yes, .ref m_buys, .ref m_ends, .ref m_carried, .ref m_row, .int rm, .ref m_keptRow, .ref m_likeGets, .ref m_likePrice, .ref m_ahead])), (m_refused, .inl (aC 0, 7, .inl mr))] sz) []) (va_A [(g0, .inr (12, [.ref m_refused, .ref m_kind, .ref m_figure, .ref m_weight, .ref m_got, .ref m_setting, .int men, .int msy, .int mdn, .ref m_tape, .ref m_letter, .ref m_letterAt, .ref m_told, .int tp, .int mat, .int stm, .ref m_kept, .int hi, .int ki, .int cu, .ref m_price, .ref m_offer, .ref m_gets, .ref m_yes, .ref m_buys, .ref m_ends, .ref m_carried, .ref m_row, .int rm, .ref m_keptRow, .ref m_likeGets, .ref m_likePrice, .ref m_ahead])), (m_refused, .inl (aC 0, 7, .inl mr))] sz)) 0 0 (va_A [(g0, .inr (12, [.ref m_refused, .ref m_kind, .ref m_figure, .ref m_weight, .ref m_got, .ref m_setting, .int men, .int msy, .int mdn, .ref m_tape, .ref m_letter, .ref m_letterAt, .ref m_told, .int tp, .int mat, .int stm, .ref m_kept, .int hi, .int ki, .int cu, .ref m_price, .ref m_offer, .ref m_gets, .ref m_yes, .ref m_buys, .ref m_ends, .ref m_carried, .ref m_row, .int rm, .ref m_keptRow, .ref m_likeGets, .ref m_likePrice, .ref m_ahead])), (m_refused, .inl (aC 0, 7, .inl mr))] sz) := by
  refine Met.ofW (cc := cX12_league) (maxL := 6) (ret := (some .int)) (by decide) rfl ?_
  intro p e s m args below meth c s₁ B hml hv
  obtain ⟨rfl, hsz, hP, hK, hD0, hN⟩ := hv
  have hx := B.exec
  have hb := B.bytes
  have hr := B.returns
  have hts0 := atoms_spec (ws := (wW yX12_league cX12_league 6 (some .int))) B.pre
  have hts : ∀ w9 ∈ lw_G, w9.before ([.ref g0, .int a1] : List Value).toArray s = true := fun w9 h9 => hts0 w9 (List.mem_cons_of_mem _ h9)
  have hown : s.vm.findClass RX12 = some m.cls := findClass_of_methodNamed B.named
  have hlocks := B.notSynchronized
  subst hsz
  have hD := hD0.self (sz := s.heap.size)
  generalize hAe : va_A [(g0, .inr (12, [.ref m_refused, .ref m_kind, .ref m_figure, .ref m_weight, .ref m_got, .ref m_setting, .int men, .int msy, .int mdn, .ref m_tape, .ref m_letter, .ref m_letterAt, .ref m_told, .int tp, .int mat, .int stm, .ref m_kept, .int hi, .int ki, .int cu, .ref m_price, .ref m_offer, .ref m_gets, .ref m_yes, .ref m_buys, .ref m_ends, .ref m_carried, .ref m_row, .int rm, .ref m_keptRow, .ref m_likeGets, .ref m_likePrice, .ref m_ahead])), (m_refused, .inl (aC 0, 7, .inl mr))] s.heap.size = A at hD ⊢
  have hA : ∀ q : Nat, s.heap.size ≤ q → A q := fun q h => by rw [← hAe]; exact Or.inr h
  obtain ⟨H, hHe⟩ : ∃ H : Heap, H = s.heap := ⟨_, rfl⟩
  have hS : va_S A s.heap H [] := by rw [hHe]; exact va_S.rf
  have hP : va_P (dC, dI) classes [(g0, .inr (12, [.ref m_refused, .ref m_kind, .ref m_figure, .ref m_weight, .ref m_got, .ref m_setting, .int men, .int msy, .int mdn, .ref m_tape, .ref m_letter, .ref m_letterAt, .ref m_told, .int tp, .int mat, .int stm, .ref m_kept, .int hi, .int ki, .int cu, .ref m_price, .ref m_offer, .ref m_gets, .ref m_yes, .ref m_buys, .ref m_ends, .ref m_carried, .ref m_row, .int rm, .ref m_keptRow, .ref m_likeGets, .ref m_likePrice, .ref m_ahead])), (m_refused, .inl (aC 0, 7, .inl mr))] H := by rw [hHe]; exact hP
  have hl := lv_entry ([.ref g0, .int a1]) (n := 6) (Nat.le_of_ble_eq_true rfl)
  rw [lg_entry_eq]
  generalize (lg_sl ([.ref g0, .int a1]) ++ List.replicate (6 - (lg_sl ([.ref g0, .int a1])).length) Slot.unset).toArray = ls at hl ⊢
  have hl : lv_has ls 6 [(0, .ref g0), (1, .int a1)] := hl
  rw [← hHe]
  refine lv_aload_n hx hb dX12_league_0 rfl (lv_at hl 0 rfl) ?_
  have hPc := hP.sub (ws' := [(g0, .inr (12, [.ref m_refused, .ref m_kind, .ref m_figure, .ref m_weight, .ref m_got, .ref m_setting, .int men, .int msy, .int mdn, .ref m_tape, .ref m_letter, .ref m_letterAt, .ref m_told, .int tp, .int mat, .int stm, .ref m_kept, .int hi, .int ki, .int cu, .ref m_price, .ref m_offer, .ref m_gets, .ref m_yes, .ref m_buys, .ref m_ends, .ref m_carried, .ref m_row, .int rm, .ref m_keptRow, .ref m_likeGets, .ref m_likePrice, .ref m_ahead]))]) [0] rfl
  have hDc := hD.sub (ws' := [(g0, .inr (12, [.ref m_refused, .ref m_kind, .ref m_figure, .ref m_weight, .ref m_got, .ref m_setting, .int men, .int msy, .int mdn, .ref m_tape, .ref m_letter, .ref m_letterAt, .ref m_told, .int tp, .int mat, .int stm, .ref m_kept, .int hi, .int ki, .int cu, .ref m_price, .ref m_offer, .ref m_gets, .ref m_yes, .ref m_buys, .ref m_ends, .ref m_carried, .ref m_row, .int rm, .ref m_keptRow, .ref m_likeGets, .ref m_likePrice, .ref m_ahead]))]) [0] (by decide) rfl
  have hFc := va_free (wc := [(g0, .inr (12, [.ref m_refused, .ref m_kind, .ref m_figure, .ref m_weight, .ref m_got, .ref m_setting, .int men, .int msy, .int mdn, .ref m_tape, .ref m_letter, .ref m_letterAt, .ref m_told, .int tp, .int mat, .int stm, .ref m_kept, .int hi, .int ki, .int cu, .ref m_price, .ref m_offer, .ref m_gets, .ref m_yes, .ref m_buys, .ref m_ends, .ref m_carried, .ref m_row, .int rm, .ref m_keptRow, .ref m_likeGets, .ref m_likePrice, .ref m_ahead]))]) hD hS hA [0] rfl
  refine va_calli (va_runV (As := []) (rest := []) ⟨hx, hb, hml, hown, hts⟩ (c_X12_isOver l dC dI aC H.size g0 m_refused m_kind m_figure m_weight m_got m_setting m_tape m_letter m_letterAt m_told m_kept m_price m_offer m_gets m_yes m_buys m_ends m_carried m_row m_keptRow m_likeGets m_likePrice m_ahead men msy mdn tp mat stm hi ki cu rm ) ⟨(callB_of 0 hts (gG kw_994) rfl rfl rfl (hts _ (gw kw_13 rfl)) (hts _ (gw kw_991 rfl)) (by decide +kernel) ⟨Nat.le_of_ble_eq_true rfl, Nat.le_of_ble_eq_true rfl⟩), (hts _ (gw kw_993 rfl)), (hts _ (gw ks_58 rfl))⟩ ⟨fun a U g mk q => by obtain ⟨q0, q1, qP, qK, qD, qN⟩ := q; exact ⟨q0, q1, qP, va_K.moved (u := U) (U := U.calling g mk a) (Vm.Alike.refl U.vm) qK, qD, NX.same (u := U) (U := U.calling g mk a) rfl qN⟩, va_recv hK hPc (ci := 12) (q0 := 0) rfl rfl, fun U hU hW => ⟨rfl, by rw [hU], by rw [hU]; exact hPc, va_K.moved hW.alike hK, hDc.weaken (fun _ _ _ _ => trivial), NX.warm hW hN⟩⟩ rfl rfl hl.1 rfl (lv_room (Nat.le_of_ble_eq_true rfl)) dX12_league_1 ⟨Nat.le_of_ble_eq_true rfl, Nat.le_of_ble_eq_true rfl⟩) hS (fun q _ h => hFc q h) hFc (fun x_1 u t H1 locs ht hvm hw_1 hB hz1 hk1 hS => ?_)
  obtain ⟨hP1, hK1, hD1⟩ := hB
  rw [ht] at hP1
  clear hK1
  try dsimp only at hw_1
  obtain ⟨hP, hD⟩ := va_join (wr := [(m_refused, .inl (aC 0, 7, .inl mr))]) (w1 := [(g0, .inr (12, [.ref m_refused, .ref m_kind, .ref m_figure, .ref m_weight, .ref m_got, .ref m_setting, .int men, .int msy, .int mdn, .ref m_tape, .ref m_letter, .ref m_letterAt, .ref m_told, .int tp, .int mat, .int stm, .ref m_kept, .int hi, .int ki, .int cu, .ref m_price, .ref m_offer, .ref m_gets, .ref m_yes, .ref m_buys, .ref m_ends, .ref m_carried, .ref m_row, .int rm, .ref m_keptRow, .ref m_likeGets, .ref m_likePrice, .ref m_ahead]))]) hP hD [0] [1] rfl rfl (by decide) (by decide) hk1 hFc hP1 hD1
  generalize H1 = H at hP hS ⊢
  have hP : va_P (dC, dI) classes [(m_refused, .inl (aC 0, 7, .inl mr)), (g0, .inr (12, [.ref m_refused, .ref m_kind, .ref m_figure, .ref m_weight, .ref m_got, .ref m_setting, .int men, .int msy, .int mdn, .ref m_tape, .ref m_letter, .ref m_letterAt, .ref m_told, .int tp, .int mat, .int stm, .ref m_kept, .int hi, .int ki, .int cu, .ref m_price, .ref m_offer, .ref m_gets, .ref m_yes, .ref m_buys, .ref m_ends, .ref m_carried, .ref m_row, .int rm, .ref m_keptRow, .ref m_likeGets, .ref m_likePrice, .ref m_ahead]))] H := hP
  have hD : va_D A [(m_refused, .inl (aC 0, 7, .inl mr)), (g0, .inr (12, [.ref m_refused, .ref m_kind, .ref m_figure, .ref m_weight, .ref m_got, .ref m_setting, .int men, .int msy, .int mdn, .ref m_tape, .ref m_letter, .ref m_letterAt, .ref m_told, .int tp, .int mat, .int stm, .ref m_kept, .int hi, .int ki, .int cu, .ref m_price, .ref m_offer, .ref m_gets, .ref m_yes, .ref m_buys, .ref m_ends, .ref m_carried, .ref m_row, .int rm, .ref m_keptRow, .ref m_likeGets, .ref m_likePrice, .ref m_ahead]))] := hD
  clear hPc hDc hFc hz1 hk1 hP1 hD1 ht hvm
  have hz_1 : x_1 = 1 := by rw [hw_1]; rcases hov with h9 | h9 <;> simp [h9]
  refine lv_if_eq (tgt := 14) hx hb dX12_league_4 (by decide) (fun c_2 => ?_) (fun c_2 => ?_)
  · exact absurd c_2 (by rw [hz_1]; decide)
  · refine lv_aload_n hx hb dX12_league_7 rfl (lv_at hl 0 rfl) ?_
    refine lv_bipush (v := -3) hx hb dX12_league_8 (by decide) ?_
    have hPc := hP.sub (ws' := [(g0, .inr (12, [.ref m_refused, .ref m_kind, .ref m_figure, .ref m_weight, .ref m_got, .ref m_setting, .int men, .int msy, .int mdn, .ref m_tape, .ref m_letter, .ref m_letterAt, .ref m_told, .int tp, .int mat, .int stm, .ref m_kept, .int hi, .int ki, .int cu, .ref m_price, .ref m_offer, .ref m_gets, .ref m_yes, .ref m_buys, .ref m_ends, .ref m_carried, .ref m_row, .int rm, .ref m_keptRow, .ref m_likeGets, .ref m_likePrice, .ref m_ahead])), (m_refused, .inl (aC 0, 7, .inl mr))]) [1, 0] rfl
    have hDc := hD.sub (ws' := [(g0, .inr (12, [.ref m_refused, .ref m_kind, .ref m_figure, .ref m_weight, .ref m_got, .ref m_setting, .int men, .int msy, .int mdn, .ref m_tape, .ref m_letter, .ref m_letterAt, .ref m_told, .int tp, .int mat, .int stm, .ref m_kept, .int hi, .int ki, .int cu, .ref m_price, .ref m_offer, .ref m_gets, .ref m_yes, .ref m_buys, .ref m_ends, .ref m_carried, .ref m_row, .int rm, .ref m_keptRow, .ref m_likeGets, .ref m_likePrice, .ref m_ahead])), (m_refused, .inl (aC 0, 7, .inl mr))]) [1, 0] (by decide) rfl
    have hFc := va_free (wc := [(g0, .inr (12, [.ref m_refused, .ref m_kind, .ref m_figure, .ref m_weight, .ref m_got, .ref m_setting, .int men, .int msy, .int mdn, .ref m_tape, .ref m_letter, .ref m_letterAt, .ref m_told, .int tp, .int mat, .int stm, .ref m_kept, .int hi, .int ki, .int cu, .ref m_price, .ref m_offer, .ref m_gets, .ref m_yes, .ref m_buys, .ref m_ends, .ref m_carried, .ref m_row, .int rm, .ref m_keptRow, .ref m_likeGets, .ref m_likePrice, .ref m_ahead])), (m_refused, .inl (aC 0, 7, .inl mr))]) hD hS hA [1, 0] rfl
    refine va_calli (va_runV (As := [.int (-3)]) (rest := []) ⟨hx, hb, hml, hown, hts⟩ (c_X12_no l dC dI aC H.size g0 m_refused m_kind m_figure m_weight m_got m_setting m_tape m_letter m_letterAt m_told m_kept m_price m_offer m_gets m_yes m_buys m_ends m_carried m_row m_keptRow m_likeGets m_likePrice m_ahead men msy mdn tp mat stm hi ki cu rm (-3) 3 mr (by decide) (by unfold vp_in; decide)) ⟨(callB_of 1 hts (gG kw_827) rfl rfl rfl (hts _ (gw kw_13 rfl)) (hts _ (gw kw_824 rfl)) (by decide +kernel) ⟨Nat.le_of_ble_eq_true rfl, Nat.le_of_ble_eq_true rfl⟩), (hts _ (gw kw_826 rfl)), (hts _ (gw ks_35 rfl))⟩ ⟨fun a U g mk q => by obtain ⟨q0, q1, qP, qK, qD, qN⟩ := q; exact ⟨q0, q1, qP, va_K.moved (u := U) (U := U.calling g mk a) (Vm.Alike.refl U.vm) qK, qD, NX.same (u := U) (U := U.calling g mk a) rfl qN⟩, va_recv hK hPc (ci := 12) (q0 := 0) rfl rfl, fun U hU hW => ⟨rfl, by rw [hU], by rw [hU]; exact hPc, va_K.moved hW.alike hK, hDc.weaken (fun _ _ _ _ => trivial), NX.warm hW hN⟩⟩ rfl rfl hl.1 rfl (lv_room (Nat.le_of_ble_eq_true rfl)) dX12_league_10 ⟨Nat.le_of_ble_eq_true rfl, Nat.le_of_ble_eq_true rfl⟩) hS (fun q _ h => hFc q h) hFc (fun x_3 u t H1 locs ht hvm hw_3 hB hz1 hk1 hS => ?_)
    obtain ⟨u_4, rfl⟩ : ∃ z, z = u := ⟨_, rfl⟩
    obtain ⟨hP1, hK1, hD1⟩ := hB
    rw [ht] at hP1
    clear hK1
    try dsimp only at hw_3
    obtain ⟨hP, hD⟩ := va_join (wr := []) (w1 := [(g0, .inr (12, [.ref m_refused, .ref m_kind, .ref m_figure, .ref m_weight, .ref m_got, .ref m_setting, .int men, .int msy, .int mdn, .ref m_tape, .ref m_letter, .ref m_letterAt, .ref m_told, .int tp, .int mat, .int stm, .ref m_kept, .int hi, .int ki, .int cu, .ref m_price, .ref m_offer, .ref m_gets, .ref m_yes, .ref m_buys, .ref m_ends, .ref m_carried, .ref m_row, .int rm, .ref m_keptRow, .ref m_likeGets, .ref m_likePrice, .ref m_ahead])), (m_refused, .inl (aC 0, 7, .inl u_4))]) hP hD [1, 0] [] rfl rfl (by decide) (by decide) hk1 hFc hP1 hD1
    generalize H1 = H at hP hS ⊢
    have hP : va_P (dC, dI) classes [(g0, .inr (12, [.ref m_refused, .ref m_kind, .ref m_figure, .ref m_weight, .ref m_got, .ref m_setting, .int men, .int msy, .int mdn, .ref m_tape, .ref m_letter, .ref m_letterAt, .ref m_told, .int tp, .int mat, .int stm, .ref m_kept, .int hi, .int ki, .int cu, .ref m_price, .ref m_offer, .ref m_gets, .ref m_yes, .ref m_buys, .ref m_ends, .ref m_carried, .ref m_row, .int rm, .ref m_keptRow, .ref m_likeGets, .ref m_likePrice, .ref m_ahead])), (m_refused, .inl (aC 0, 7, .inl u_4))] H := hP
    have hD : va_D A [(g0, .inr (12, [.ref m_refused, .ref m_kind, .ref m_figure, .ref m_weight, .ref m_got, .ref m_setting, .int men, .int msy, .int mdn, .ref m_tape, .ref m_letter, .ref m_letterAt, .ref m_told, .int tp, .int mat, .int stm, .ref m_kept, .int hi, .int ki, .int cu, .ref m_price, .ref m_offer, .ref m_gets, .ref m_yes, .ref m_buys, .ref m_ends, .ref m_carried, .ref m_row, .int rm, .ref m_keptRow, .ref m_likeGets, .ref m_likePrice, .ref m_ahead])), (m_refused, .inl (aC 0, 7, .inl u_4))] := hD
    clear hPc hDc hFc hz1 hk1 hP1 hD1 ht hvm
    obtain ⟨hv9, hv8⟩ := hw_3
    have hP9 := hP.sub (ws' := []) [] rfl
    have hD9 := hD.sub (ws' := []) [] (by decide) rfl
    refine W.widen (k := 0) (n := 0) (by omega) (by omega) ?_
    exact W.iret (v := x_3) hx hb hr (fun t ht hW => ⟨⟨x_3, (), rfl, hv9, by rw [ht]; exact hP9, va_K.moved hW.alike hK, hD9⟩, hS.F ht⟩) hS.2.2 dX12_league_13

set_option maxHeartbeats 4000000 in
set_option maxRecDepth 100000 in
/-- X12_clear -/
theorem c_X12_clear (l : Launch) (dC : Nat → ClassId) (dI : Nat → Nat → Nat) (aC : Nat → ClassId) (sz : Nat) (g0 : Nat) (m_refused : Nat) (m_kind : Nat) (m_figure : Nat) (m_weight : Nat) (m_got : Nat) (m_setting : Nat) (m_tape : Nat) (m_letter : Nat) (m_letterAt : Nat) (m_told : Nat) (m_kept : Nat) (m_price : Nat) (m_offer : Nat) (m_gets : Nat) (m_yes : Nat) (m_buys : Nat) (m_ends : Nat) (m_carried : Nat) (m_row : Nat) (m_keptRow : Nat) (m_likeGets : Nat) (m_likePrice : Nat) (m_ahead : Nat) (men : Int32) (msy : Int32) (mdn : Int32) (tp : Int32) (mat : Int32) (stm : Int32) (hi : Int32) (ki : Int32) (cu : Int32) (rm : Int32)  : Met l yX12_clear (wW yX12_clear cX12_clear 2 (some .int)) ({ frames := 0, cells := 0, slots := 0, locals := 0 } : Room) (va_Pc [.ref g0] (fun U => U.heap.size = sz ∧ va_P (dC, dI) classes [(g0, .inr (12, [.ref m_refused, .ref m_kind, .ref m_figure, .ref m_weight, .ref m_got, .ref m_setting, .int men, .int msy, .int mdn, .ref m_tape, .ref m_letter, .ref m_letterAt, .ref m_told, .int tp, .int mat, .int stm, .ref m_kept, .int hi, .int ki, .int cu, .ref m_price, .ref m_offer, .ref m_gets, .ref m_yes, .ref m_buys, .ref m_ends, .ref m_carried, .ref m_row, .int rm, .ref m_keptRow, .ref m_likeGets, .ref m_likePrice, .ref m_ahead]))] U.heap ∧ va_K (dC, dI) classes (TY aC) U ∧ va_D (fun _ => True) [(g0, .inr (12, [.ref m_refused, .ref m_kind, .ref m_figure, .ref m_weight, .ref m_got, .ref m_setting, .int men, .int msy, .int mdn, .ref m_tape, .ref m_letter, .ref m_letterAt, .ref m_told, .int tp, .int mat, .int stm, .ref m_kept, .int hi, .int ki, .int cu, .ref m_price, .ref m_offer, .ref m_gets, .ref m_yes, .ref m_buys, .ref m_ends, .ref m_carried, .ref m_row, .int rm, .ref m_keptRow, .ref m_likeGets, .ref m_likePrice, .ref m_ahead]))] ∧ NX U)) (va_Qi (fun (r : Int32) (_ : Unit) => r = rm) (fun (_ : Unit) (t : State) => va_P (dC, dI) classes [(g0, .inr (12, [.ref m_refused, .ref m_kind, .ref m_figure, .ref m_weight, .ref m_got, .ref m_setting, .int men, .int msy, .int mdn, .ref m_tape, .ref m_letter, .ref m_letterAt, .ref m_told, .int tp, .int mat, .int stm, .ref m_kept, .int hi, .int ki, .int cu, .ref m_price, .ref m_offer, .ref m_gets, .ref m_yes, .ref m_buys, .ref m_ends, .ref m_carried, .ref m_row, .int 0, .ref m_keptRow, .ref m_likeGets, .ref m_likePrice, .ref m_ahead]))] t.heap ∧ va_K (dC, dI) classes (TY aC) t ∧ va_D (va_A [(g0, .inr (12, [.ref m_refused, .ref m_kind, .ref m_figure, .ref m_weight, .ref m_got, .ref m_setting, .int men, .int msy, .int mdn, .ref m_tape, .ref m_letter, .ref m_letterAt, .ref m_told, .int tp, .int mat, .int stm, .ref m_kept, .int hi, .int ki, .int cu, .ref m_price, .ref m_offer, .ref m_gets, .ref m_yes, .ref m_buys, .ref m_ends, .ref m_carried, .ref m_row, .int rm, .ref m_keptRow, .ref m_likeGets, .ref m_likePrice, .ref m_ahead]))] sz) [(g0, .inr (12, [.ref m_refused, .ref m_kind, .ref m_figure, .ref m_weight, .ref m_got, .ref m_setting, .int men, .int msy, .int mdn, .ref m_tape, .ref m_letter, .ref m_letterAt, .ref m_told, .int tp, .int mat, .int stm, .ref m_kept, .int hi, .int ki, .int cu, .ref m_price, .ref m_offer, .ref m_gets, .ref m_yes, .ref m_buys, .ref m_ends, .ref m_carried, .ref m_row, .int 0, .ref m_keptRow, .ref m_likeGets, .ref m_likePrice, .ref m_ahead]))]) (va_A [(g0, .inr (12, [.ref m_refused, .ref m_kind, .ref m_figure, .ref m_weight, .ref m_got, .ref m_setting, .int men, .int msy, .int mdn, .ref m_tape, .ref m_letter, .ref m_letterAt, .ref m_told, .int tp, .int mat, .int stm, .ref m_kept, .int hi, .int ki, .int cu, .ref m_price, .ref m_offer, .ref m_gets, .ref m_yes, .ref m_buys, .ref m_ends, .ref m_carried, .ref m_row, .int rm, .ref m_keptRow, .ref m_likeGets, .ref m_likePrice, .ref m_ahead]))] sz)) 0 0 (va_A [(g0, .inr (12, [.ref m_refused, .ref m_kind, .ref m_figure, .ref m_weight, .ref m_got, .ref m_setting, .int men, .int msy, .int mdn, .ref m_tape, .ref m_letter, .ref m_letterAt, .ref m_told, .int tp, .int mat, .int stm, .ref m_kept, .int hi, .int ki, .int cu, .ref m_price, .ref m_offer, .ref m_gets, .ref m_yes, .ref m_buys, .ref m_ends, .ref m_carried, .ref m_row, .int rm, .ref m_keptRow, .ref m_likeGets, .ref m_likePrice, .ref m_ahead]))] sz) := by
  refine Met.ofW (cc := cX12_clear) (maxL := 2) (ret := (some .int)) (by decide) rfl ?_
  intro p e s m args below meth c s₁ B hml hv
  obtain ⟨rfl, hsz, hP, hK, hD0, hN⟩ := hv
  have hx := B.exec
  have hb := B.bytes
  have hr := B.returns
  have hts0 := atoms_spec (ws := (wW yX12_clear cX12_clear 2 (some .int))) B.pre
  have hts : ∀ w9 ∈ lw_G, w9.before ([.ref g0] : List Value).toArray s = true := fun w9 h9 => hts0 w9 (List.mem_cons_of_mem _ h9)
  have hown : s.vm.findClass RX12 = some m.cls := findClass_of_methodNamed B.named
  have hlocks := B.notSynchronized
  subst hsz
  have hD := hD0.self (sz := s.heap.size)
  generalize hAe : va_A [(g0, .inr (12, [.ref m_refused, .ref m_kind, .ref m_figure, .ref m_weight, .ref m_got, .ref m_setting, .int men, .int msy, .int mdn, .ref m_tape, .ref m_letter, .ref m_letterAt, .ref m_told, .int tp, .int mat, .int stm, .ref m_kept, .int hi, .int ki, .int cu, .ref m_price, .ref m_offer, .ref m_gets, .ref m_yes, .ref m_buys, .ref m_ends, .ref m_carried, .ref m_row, .int rm, .ref m_keptRow, .ref m_likeGets, .ref m_likePrice, .ref m_ahead]))] s.heap.size = A at hD ⊢
  have hA : ∀ q : Nat, s.heap.size ≤ q → A q := fun q h => by rw [← hAe]; exact Or.inr h
  obtain ⟨H, hHe⟩ : ∃ H : Heap, H = s.heap := ⟨_, rfl⟩
  have hS : va_S A s.heap H [] := by rw [hHe]; exact va_S.rf
  have hP : va_P (dC, dI) classes [(g0, .inr (12, [.ref m_refused, .ref m_kind, .ref m_figure, .ref m_weight, .ref m_got, .ref m_setting, .int men, .int msy, .int mdn, .ref m_tape, .ref m_letter, .ref m_letterAt, .ref m_told, .int tp, .int mat, .int stm, .ref m_kept, .int hi, .int ki, .int cu, .ref m_price, .ref m_offer, .ref m_gets, .ref m_yes, .ref m_buys, .ref m_ends, .ref m_carried, .ref m_row, .int rm, .ref m_keptRow, .ref m_likeGets, .ref m_likePrice, .ref m_ahead]))] H := by rw [hHe]; exact hP
  have hl := lv_entry ([.ref g0]) (n := 2) (Nat.le_of_ble_eq_true rfl)
  rw [lg_entry_eq]
  generalize (lg_sl ([.ref g0]) ++ List.replicate (2 - (lg_sl ([.ref g0])).length) Slot.unset).toArray = ls at hl ⊢
  have hl : lv_has ls 2 [(0, .ref g0)] := hl
  rw [← hHe]
  refine lv_aload_n hx hb dX12_clear_0 rfl (lv_at hl 0 rfl) ?_
  refine va_get (D := (dC, dI)) (ci := 12) (v := .int rm) (C := RX12) (T := TX12) (N := 33) hx hb hts inX12 hown hK hP 0 rfl rfl 28 (by decide) (hts _ (gw kw_745 rfl)) (fun _ h9 => h9) rfl dX12_clear_1 ?_
  refine lv_istore_n (lv' := [(1, .int rm), (0, .ref g0)]) hx hb dX12_clear_4 rfl hl (by decide) rfl (fun ls hl => ?_)
  refine lv_aload_n hx hb dX12_clear_5 rfl (lv_at hl 1 rfl) ?_
  refine lv_iconst (v := 0) hx hb dX12_clear_6 (by decide) ?_
  refine va_put (D := (dC, dI)) (ci := 12) (v := .int 0) (ty := .int) (C := RX12) (T := TX12) (N := 33) hx hb hts inX12 tyX12 tyX12_ok nmX12 hown hK hP hD hS 0 rfl rfl 28 (by decide) (hts _ (gw kw_745 rfl)) (fun _ h9 => h9) rfl (by decide +kernel) rfl rfl (Nat.le_of_ble_eq_true rfl) dX12_clear_7 (fun H locs hP hD hS => ?_)
  have hP : va_P (dC, dI) classes [(g0, .inr (12, [.ref m_refused, .ref m_kind, .ref m_figure, .ref m_weight, .ref m_got, .ref m_setting, .int men, .int msy, .int mdn, .ref m_tape, .ref m_letter, .ref m_letterAt, .ref m_told, .int tp, .int mat, .int stm, .ref m_kept, .int hi, .int ki, .int cu, .ref m_price, .ref m_offer, .ref m_gets, .ref m_yes, .ref m_buys, .ref m_ends, .ref m_carried, .ref m_row, .int 0, .ref m_keptRow, .ref m_likeGets, .ref m_likePrice, .ref m_ahead]))] H := hP
  have hD : va_D A [(g0, .inr (12, [.ref m_refused, .ref m_kind, .ref m_figure, .ref m_weight, .ref m_got, .ref m_setting, .int men, .int msy, .int mdn, .ref m_tape, .ref m_letter, .ref m_letterAt, .ref m_told, .int tp, .int mat, .int stm, .ref m_kept, .int hi, .int ki, .int cu, .ref m_price, .ref m_offer, .ref m_gets, .ref m_yes, .ref m_buys, .ref m_ends, .ref m_carried, .ref m_row, .int 0, .ref m_keptRow, .ref m_likeGets, .ref m_likePrice, .ref m_ahead]))] := hD
  refine lv_iload_n hx hb dX12_clear_10 rfl (lv_at hl 0 rfl) ?_
  have hP9 := hP.sub (ws' := [(g0, .inr (12, [.ref m_refused, .ref m_kind, .ref m_figure, .ref m_weight, .ref m_got, .ref m_setting, .int men, .int msy, .int mdn, .ref m_tape, .ref m_letter, .ref m_letterAt, .ref m_told, .int tp, .int mat, .int stm, .ref m_kept, .int hi, .int ki, .int cu, .ref m_price, .ref m_offer, .ref m_gets, .ref m_yes, .ref m_buys, .ref m_ends, .ref m_carried, .ref m_row, .int 0, .ref m_keptRow, .ref m_likeGets, .ref m_likePrice, .ref m_ahead]))]) [0] rfl
  have hD9 := hD.sub (ws' := [(g0, .inr (12, [.ref m_refused, .ref m_kind, .ref m_figure, .ref m_weight, .ref m_got, .ref m_setting, .int men, .int msy, .int mdn, .ref m_tape, .ref m_letter, .ref m_letterAt, .ref m_told, .int tp, .int mat, .int stm, .ref m_kept, .int hi, .int ki, .int cu, .ref m_price, .ref m_offer, .ref m_gets, .ref m_yes, .ref m_buys, .ref m_ends, .ref m_carried, .ref m_row, .int 0, .ref m_keptRow, .ref m_likeGets, .ref m_likePrice, .ref m_ahead]))]) [0] (by decide) rfl
  refine W.widen (k := 0) (n := 0) (by omega) (by omega) ?_
  exact W.iret (v := rm) hx hb hr (fun t ht hW => ⟨⟨rm, (), rfl, rfl, by rw [ht]; exact hP9, va_K.moved hW.alike hK, hD9⟩, hS.F ht⟩) hS.2.2 dX12_clear_11

set_option maxHeartbeats 4000000 in
set_option maxRecDepth 100000 in
/-- X12_gains_r -/
theorem c_X12_gains_r (l : Launch) (dC : Nat → ClassId) (dI : Nat → Nat → Nat) (aC : Nat → ClassId) (sz : Nat) (g0 : Nat) (m_refused : Nat) (m_kind : Nat) (m_figure : Nat) (m_weight : Nat) (m_got : Nat) (m_setting : Nat) (m_tape : Nat) (m_letter : Nat) (m_letterAt : Nat) (m_told : Nat) (m_kept : Nat) (m_price : Nat) (m_offer : Nat) (m_gets : Nat) (m_yes : Nat) (m_buys : Nat) (m_ends : Nat) (m_carried : Nat) (m_row : Nat) (m_keptRow : Nat) (m_likeGets : Nat) (m_likePrice : Nat) (m_ahead : Nat) (msy : Int32) (mdn : Int32) (tp : Int32) (mat : Int32) (stm : Int32) (hi : Int32) (ki : Int32) (cu : Int32) (rm : Int32)  : Met l yX12_gains (wW yX12_gains cX12_gains 3 (some .int)) ({ frames := 0, cells := 0, slots := 0, locals := 0 } : Room) (va_Pc [.ref g0] (fun U => U.heap.size = sz ∧ va_P (dC, dI) classes [(g0, .inr (12, [.ref m_refused, .ref m_kind, .ref m_figure, .ref m_weight, .ref m_got, .ref m_setting, .int 0, .int msy, .int mdn, .ref m_tape, .ref m_letter, .ref m_letterAt, .ref m_told, .int tp, .int mat, .int stm, .ref m_kept, .int hi, .int ki, .int cu, .ref m_price, .ref m_offer, .ref m_gets, .ref m_yes, .ref m_buys, .ref m_ends, .ref m_carried, .ref m_row, .int rm, .ref m_keptRow, .ref m_likeGets, .ref m_likePrice, .ref m_ahead]))] U.heap ∧ va_K (dC, dI) classes (TY aC) U ∧ va_D (fun _ => True) [(g0, .inr (12, [.ref m_refused, .ref m_kind, .ref m_figure, .ref m_weight, .ref m_got, .ref m_setting, .int 0, .int msy, .int mdn, .ref m_tape, .ref m_letter, .ref m_letterAt, .ref m_told, .int tp, .int mat, .int stm, .ref m_kept, .int hi, .int ki, .int cu, .ref m_price, .ref m_offer, .ref m_gets, .ref m_yes, .ref m_buys, .ref m_ends, .ref m_carried, .ref m_row, .int rm, .ref m_keptRow, .ref m_likeGets, .ref m_likePrice, .ref m_ahead]))] ∧ NX U)) (va_Qi (fun (r : Int32) (_ : Unit) => r = 0) (fun (_ : Unit) (t : State) => va_P (dC, dI) classes [] t.heap ∧ va_K (dC, dI) classes (TY aC) t ∧ va_D (va_A [(g0, .inr (12, [.ref m_refused, .ref m_kind, .ref m_figure, .ref m_weight, .ref m_got, .ref m_setting, .int 0, .int msy, .int mdn, .ref m_tape, .ref m_letter, .ref m_letterAt, .ref m_told, .int tp, .int mat, .int stm, .ref m_kept, .int hi, .int ki, .int cu, .ref m_price, .ref m_offer, .ref m_gets, .ref m_yes, .ref m_buys, .ref m_ends, .ref m_carried, .ref m_row, .int rm, .ref m_keptRow, .ref m_likeGets, .ref m_likePrice, .ref m_ahead]))] sz) []) (va_A [(g0, .inr (12, [.ref m_refused, .ref m_kind, .ref m_figure, .ref m_weight, .ref m_got, .ref m_setting, .int 0, .int msy, .int mdn, .ref m_tape, .ref m_letter, .ref m_letterAt, .ref m_told, .int tp, .int mat, .int stm, .ref m_kept, .int hi, .int ki, .int cu, .ref m_price, .ref m_offer, .ref m_gets, .ref m_yes, .ref m_buys, .ref m_ends, .ref m_carried, .ref m_row, .int rm, .ref m_keptRow, .ref m_likeGets, .ref m_likePrice, .ref m_ahead]))] sz)) 0 0 (va_A [(g0, .inr (12, [.ref m_refused, .ref m_kind, .ref m_figure, .ref m_weight, .ref m_got, .ref m_setting, .int 0, .int msy, .int mdn, .ref m_tape, .ref m_letter, .ref m_letterAt, .ref m_told, .int tp, .int mat, .int stm, .ref m_kept, .int hi, .int ki, .int cu, .ref m_price, .ref m_offer, .ref m_gets, .ref m_yes, .ref m_buys, .ref m_ends, .ref m_carried, .ref m_row, .int rm, .ref m_keptRow, .ref m_likeGets, .ref m_likePrice, .ref m_ahead]))] sz) := by
  refine Met.ofW (cc := cX12_gains) (maxL := 3) (ret := (some .int)) (by decide) rfl ?_
  intro p e s m args below meth c s₁ B hml hv
  obtain ⟨rfl, hsz, hP, hK, hD0, hN⟩ := hv
  have hx := B.exec
  have hb := B.bytes
  have hr := B.returns
  have hts0 := atoms_spec (ws := (wW yX12_gains cX12_gains 3 (some .int))) B.pre
  have hts : ∀ w9 ∈ lw_G, w9.before ([.ref g0] : List Value).toArray s = true := fun w9 h9 => hts0 w9 (List.mem_cons_of_mem _ h9)
  have hown : s.vm.findClass RX12 = some m.cls := findClass_of_methodNamed B.named
  have hlocks := B.notSynchronized
  subst hsz
  have hD := hD0.self (sz := s.heap.size)
  generalize hAe : va_A [(g0, .inr (12, [.ref m_refused, .ref m_kind, .ref m_figure, .ref m_weight, .ref m_got, .ref m_setting, .int 0, .int msy, .int mdn, .ref m_tape, .ref m_letter, .ref m_letterAt, .ref m_told, .int tp, .int mat, .int stm, .ref m_kept, .int hi, .int ki, .int cu, .ref m_price, .ref m_offer, .ref m_gets, .ref m_yes, .ref m_buys, .ref m_ends, .ref m_carried, .ref m_row, .int rm, .ref m_keptRow, .ref m_likeGets, .ref m_likePrice, .ref m_ahead]))] s.heap.size = A at hD ⊢
  have hA : ∀ q : Nat, s.heap.size ≤ q → A q := fun q h => by rw [← hAe]; exact Or.inr h
  obtain ⟨H, hHe⟩ : ∃ H : Heap, H = s.heap := ⟨_, rfl⟩
  have hS : va_S A s.heap H [] := by rw [hHe]; exact va_S.rf
  have hP : va_P (dC, dI) classes [(g0, .inr (12, [.ref m_refused, .ref m_kind, .ref m_figure, .ref m_weight, .ref m_got, .ref m_setting, .int 0, .int msy, .int mdn, .ref m_tape, .ref m_letter, .ref m_letterAt, .ref m_told, .int tp, .int mat, .int stm, .ref m_kept, .int hi, .int ki, .int cu, .ref m_price, .ref m_offer, .ref m_gets, .ref m_yes, .ref m_buys, .ref m_ends, .ref m_carried, .ref m_row, .int rm, .ref m_keptRow, .ref m_likeGets, .ref m_likePrice, .ref m_ahead]))] H := by rw [hHe]; exact hP
  have hl := lv_entry ([.ref g0]) (n := 3) (Nat.le_of_ble_eq_true rfl)
  rw [lg_entry_eq]
  generalize (lg_sl ([.ref g0]) ++ List.replicate (3 - (lg_sl ([.ref g0])).length) Slot.unset).toArray = ls at hl ⊢
  have hl : lv_has ls 3 [(0, .ref g0)] := hl
  rw [← hHe]
  refine lv_aload_n hx hb dX12_gains_0 rfl (lv_at hl 0 rfl) ?_
  refine va_get (D := (dC, dI)) (ci := 12) (v := .int 0) (C := RX12) (T := TX12) (N := 33) hx hb hts inX12 hown hK hP 0 rfl rfl 6 (by decide) (hts _ (gw kw_723 rfl)) (fun _ h9 => h9) rfl dX12_gains_1 ?_
  refine lv_if_eq (tgt := 16) hx hb dX12_gains_4 (by decide) (fun c_1 => ?_) (fun c_1 => ?_)
  · refine lv_iconst (v := 0) hx hb dX12_gains_16 (by decide) ?_
    have hP9 := hP.sub (ws' := []) [] rfl
    have hD9 := hD.sub (ws' := []) [] (by decide) rfl
    refine W.widen (k := 0) (n := 0) (by omega) (by omega) ?_
    exact W.iret (v := 0) hx hb hr (fun t ht hW => ⟨⟨0, (), rfl, rfl, by rw [ht]; exact hP9, va_K.moved hW.alike hK, hD9⟩, hS.F ht⟩) hS.2.2 dX12_gains_17
  · exact absurd rfl c_1

set_option maxHeartbeats 4000000 in
set_option maxRecDepth 100000 in
/-- X12_restore_r -/
theorem c_X12_restore_r (l : Launch) (dC : Nat → ClassId) (dI : Nat → Nat → Nat) (aC : Nat → ClassId) (sz : Nat) (g0 : Nat) (m_refused : Nat) (m_kind : Nat) (m_figure : Nat) (m_weight : Nat) (m_got : Nat) (m_setting : Nat) (m_tape : Nat) (m_letter : Nat) (m_letterAt : Nat) (m_told : Nat) (m_kept : Nat) (m_price : Nat) (m_offer : Nat) (m_gets : Nat) (m_yes : Nat) (m_buys : Nat) (m_ends : Nat) (m_carried : Nat) (m_row : Nat) (m_keptRow : Nat) (m_likeGets : Nat) (m_likePrice : Nat) (m_ahead : Nat) (men : Int32) (msy : Int32) (mdn : Int32) (tp : Int32) (mat : Int32) (stm : Int32) (ki : Int32) (cu : Int32) (rm : Int32) (mr : Nat → Int32)  : Met l yX12_restore (wW yX12_restore cX12_restore 1 (some .int)) ({ frames := 1, cells := 0, slots := 0, locals := 21 } : Room) (va_Pc [.ref g0] (fun U => U.heap.size = sz ∧ va_P (dC, dI) classes [(g0, .inr (12, [.ref m_refused, .ref m_kind, .ref m_figure, .ref m_weight, .ref m_got, .ref m_setting, .int men, .int msy, .int mdn, .ref m_tape, .ref m_letter, .ref m_letterAt, .ref m_told, .int tp, .int mat, .int stm, .ref m_kept, .int 0, .int ki, .int cu, .ref m_price, .ref m_offer, .ref m_gets, .ref m_yes, .ref m_buys, .ref m_ends, .ref m_carried, .ref m_row, .int rm, .ref m_keptRow, .ref m_likeGets, .ref m_likePrice, .ref m_ahead])), (m_refused, .inl (aC 0, 7, .inl mr))] U.heap ∧ va_K (dC, dI) classes (TY aC) U ∧ va_D (fun _ => True) [(g0, .inr (12, [.ref m_refused, .ref m_kind, .ref m_figure, .ref m_weight, .ref m_got, .ref m_setting, .int men, .int msy, .int mdn, .ref m_tape, .ref m_letter, .ref m_letterAt, .ref m_told, .int tp, .int mat, .int stm, .ref m_kept, .int 0, .int ki, .int cu, .ref m_price, .ref m_offer, .ref m_gets, .ref m_yes, .ref m_buys, .ref m_ends, .ref m_carried, .ref m_row, .int rm, .ref m_keptRow, .ref m_likeGets, .ref m_likePrice, .ref m_ahead])), (m_refused, .inl (aC 0, 7, .inl mr))] ∧ NX U)) (va_Qi (fun (r : Int32) (_ : Unit) => r = -3) (fun (_ : Unit) (t : State) => va_P (dC, dI) classes [] t.heap ∧ va_K (dC, dI) classes (TY aC) t ∧ va_D (va_A [(g0, .inr (12, [.ref m_refused, .ref m_kind, .ref m_figure, .ref m_weight, .ref m_got, .ref m_setting, .int men, .int msy, .int mdn, .ref m_tape, .ref m_letter, .ref m_letterAt, .ref m_told, .int tp, .int mat, .int stm, .ref m_kept, .int 0, .int ki, .int cu, .ref m_price, .ref m_offer, .ref m_gets, .ref m_yes, .ref m_buys, .ref m_ends, .ref m_carried, .ref m_row, .int rm, .ref m_keptRow, .ref m_likeGets, .ref m_likePrice, .ref m_ahead])), (m_refused, .inl (aC 0, 7, .inl mr))] sz) []) (va_A [(g0, .inr (12, [.ref m_refused, .ref m_kind, .ref m_figure, .ref m_weight, .ref m_got, .ref m_setting, .int men, .int msy, .int mdn, .ref m_tape, .ref m_letter, .ref m_letterAt, .ref m_told, .int tp, .int mat, .int stm, .ref m_kept, .int 0, .int ki, .int cu, .ref m_price, .ref m_offer, .ref m_gets, .ref m_yes, .ref m_buys, .ref m_ends, .ref m_carried, .ref m_row, .int rm, .ref m_keptRow, .ref m_likeGets, .ref m_likePrice, .ref m_ahead])), (m_refused, .inl (aC 0, 7, .inl mr))] sz)) 0 0 (va_A [(g0, .inr (12, [.ref m_refused, .ref m_kind, .ref m_figure, .ref m_weight, .ref m_got, .ref m_setting, .int men, .int msy, .int mdn, .ref m_tape, .ref m_letter, .ref m_letterAt, .ref m_told, .int tp, .int mat, .int stm, .ref m_kept, .int 0, .int ki, .int cu, .ref m_price, .ref m_offer, .ref m_gets, .ref m_yes, .ref m_buys, .ref m_ends, .ref m_carried, .ref m_row, .int rm, .ref m_keptRow, .ref m_likeGets, .ref m_likePrice, .ref m_ahead])), (m_refused, .inl (aC 0, 7, .inl mr))] sz) := by
  refine Met.ofW (cc := cX12_restore) (maxL := 1) (ret := (some .int)) (by decide) rfl ?_
  intro p e s m args below meth c s₁ B hml hv
  obtain ⟨rfl, hsz, hP, hK, hD0, hN⟩ := hv
  have hx := B.exec
  have hb := B.bytes
  have hr := B.returns
  have hts0 := atoms_spec (ws := (wW yX12_restore cX12_restore 1 (some .int))) B.pre
  have hts : ∀ w9 ∈ lw_G, w9.before ([.ref g0] : List Value).toArray s = true := fun w9 h9 => hts0 w9 (List.mem_cons_of_mem _ h9)
  have hown : s.vm.findClass RX12 = some m.cls := findClass_of_methodNamed B.named
  have hlocks := B.notSynchronized
  subst hsz
  have hD := hD0.self (sz := s.heap.size)
  generalize hAe : va_A [(g0, .inr (12, [.ref m_refused, .ref m_kind, .ref m_figure, .ref m_weight, .ref m_got, .ref m_setting, .int men, .int msy, .int mdn, .ref m_tape, .ref m_letter, .ref m_letterAt, .ref m_told, .int tp, .int mat, .int stm, .ref m_kept, .int 0, .int ki, .int cu, .ref m_price, .ref m_offer, .ref m_gets, .ref m_yes, .ref m_buys, .ref m_ends, .ref m_carried, .ref m_row, .int rm, .ref m_keptRow, .ref m_likeGets, .ref m_likePrice, .ref m_ahead])), (m_refused, .inl (aC 0, 7, .inl mr))] s.heap.size = A at hD ⊢
  have hA : ∀ q : Nat, s.heap.size ≤ q → A q := fun q h => by rw [← hAe]; exact Or.inr h
  obtain ⟨H, hHe⟩ : ∃ H : Heap, H = s.heap := ⟨_, rfl⟩
  have hS : va_S A s.heap H [] := by rw [hHe]; exact va_S.rf
  have hP : va_P (dC, dI) classes [(g0, .inr (12, [.ref m_refused, .ref m_kind, .ref m_figure, .ref m_weight, .ref m_got, .ref m_setting, .int men, .int msy, .int mdn, .ref m_tape, .ref m_letter, .ref m_letterAt, .ref m_told, .int tp, .int mat, .int stm, .ref m_kept, .int 0, .int ki, .int cu, .ref m_price, .ref m_offer, .ref m_gets, .ref m_yes, .ref m_buys, .ref m_ends, .ref m_carried, .ref m_row, .int rm, .ref m_keptRow, .ref m_likeGets, .ref m_likePrice, .ref m_ahead])), (m_refused, .inl (aC 0, 7, .inl mr))] H := by rw [hHe]; exact hP
  have hl := lv_entry ([.ref g0]) (n := 1) (Nat.le_of_ble_eq_true rfl)
  rw [lg_entry_eq]
  generalize (lg_sl ([.ref g0]) ++ List.replicate (1 - (lg_sl ([.ref g0])).length) Slot.unset).toArray = ls at hl ⊢
  have hl : lv_has ls 1 [(0, .ref g0)] := hl
  rw [← hHe]
  refine lv_aload_n hx hb dX12_restore_0 rfl (lv_at hl 0 rfl) ?_
  refine va_get (D := (dC, dI)) (ci := 12) (v := .int 0) (C := RX12) (T := TX12) (N := 33) hx hb hts inX12 hown hK hP 0 rfl rfl 17 (by decide) (hts _ (gw kw_734 rfl)) (fun _ h9 => h9) rfl dX12_restore_1 ?_
  refine lv_if_ne (tgt := 14) hx hb dX12_restore_4 (by decide) (fun c_1 => ?_) (fun c_1 => ?_)
  · exact absurd rfl c_1
  · refine lv_aload_n hx hb dX12_restore_7 rfl (lv_at hl 0 rfl) ?_
    refine lv_bipush (v := -3) hx hb dX12_restore_8 (by decide) ?_
    have hPc := hP.sub (ws' := [(g0, .inr (12, [.ref m_refused, .ref m_kind, .ref m_figure, .ref m_weight, .ref m_got, .ref m_setting, .int men, .int msy, .int mdn, .ref m_tape, .ref m_letter, .ref m_letterAt, .ref m_told, .int tp, .int mat, .int stm, .ref m_kept, .int 0, .int ki, .int cu, .ref m_price, .ref m_offer, .ref m_gets, .ref m_yes, .ref m_buys, .ref m_ends, .ref m_carried, .ref m_row, .int rm, .ref m_keptRow, .ref m_likeGets, .ref m_likePrice, .ref m_ahead])), (m_refused, .inl (aC 0, 7, .inl mr))]) [0, 1] rfl
    have hDc := hD.sub (ws' := [(g0, .inr (12, [.ref m_refused, .ref m_kind, .ref m_figure, .ref m_weight, .ref m_got, .ref m_setting, .int men, .int msy, .int mdn, .ref m_tape, .ref m_letter, .ref m_letterAt, .ref m_told, .int tp, .int mat, .int stm, .ref m_kept, .int 0, .int ki, .int cu, .ref m_price, .ref m_offer, .ref m_gets, .ref m_yes, .ref m_buys, .ref m_ends, .ref m_carried, .ref m_row, .int rm, .ref m_keptRow, .ref m_likeGets, .ref m_likePrice, .ref m_ahead])), (m_refused, .inl (aC 0, 7, .inl mr))]) [0, 1] (by decide) rfl
    have hFc := va_free (wc := [(g0, .inr (12, [.ref m_refused, .ref m_kind, .ref m_figure, .ref m_weight, .ref m_got, .ref m_setting, .int men, .int msy, .int mdn, .ref m_tape, .ref m_letter, .ref m_letterAt, .ref m_told, .int tp, .int mat, .int stm, .ref m_kept, .int 0, .int ki, .int cu, .ref m_price, .ref m_offer, .ref m_gets, .ref m_yes, .ref m_buys, .ref m_ends, .ref m_carried, .ref m_row, .int rm, .ref m_keptRow, .ref m_likeGets, .ref m_likePrice, .ref m_ahead])), (m_refused, .inl (aC 0, 7, .inl mr))]) hD hS hA [0, 1] rfl
    refine va_calli (va_runV (As := [.int (-3)]) (rest := []) ⟨hx, hb, hml, hown, hts⟩ (c_X12_no l dC dI aC H.size g0 m_refused m_kind m_figure m_weight m_got m_setting m_tape m_letter m_letterAt m_told m_kept m_price m_offer m_gets m_yes m_buys m_ends m_carried m_row m_keptRow m_likeGets m_likePrice m_ahead men msy mdn tp mat stm 0 ki cu rm (-3) 3 mr (by decide) (by unfold vp_in; decide)) ⟨(callB_of 1 hts (gG kw_827) rfl rfl rfl (hts _ (gw kw_13 rfl)) (hts _ (gw kw_824 rfl)) (by decide +kernel) ⟨Nat.le_of_ble_eq_true rfl, Nat.le_of_ble_eq_true rfl⟩), (hts _ (gw kw_826 rfl)), (hts _ (gw ks_35 rfl))⟩ ⟨fun a U g mk q => by obtain ⟨q0, q1, qP, qK, qD, qN⟩ := q; exact ⟨q0, q1, qP, va_K.moved (u := U) (U := U.calling g mk a) (Vm.Alike.refl U.vm) qK, qD, NX.same (u := U) (U := U.calling g mk a) rfl qN⟩, va_recv hK hPc (ci := 12) (q0 := 0) rfl rfl, fun U hU hW => ⟨rfl, by rw [hU], by rw [hU]; exact hPc, va_K.moved hW.alike hK, hDc.weaken (fun _ _ _ _ => trivial), NX.warm hW hN⟩⟩ rfl rfl hl.1 rfl (lv_room (Nat.le_of_ble_eq_true rfl)) dX12_restore_10 ⟨Nat.le_of_ble_eq_true rfl, Nat.le_of_ble_eq_true rfl⟩) hS (fun q _ h => hFc q h) hFc (fun x_2 u t H1 locs ht hvm hw_2 hB hz1 hk1 hS => ?_)
    obtain ⟨u_3, rfl⟩ : ∃ z, z = u := ⟨_, rfl⟩
    obtain ⟨hP1, hK1, hD1⟩ := hB
    rw [ht] at hP1
    clear hK1
    try dsimp only at hw_2
    obtain ⟨hP, hD⟩ := va_join (wr := []) (w1 := [(g0, .inr (12, [.ref m_refused, .ref m_kind, .ref m_figure, .ref m_weight, .ref m_got, .ref m_setting, .int men, .int msy, .int mdn, .ref m_tape, .ref m_letter, .ref m_letterAt, .ref m_told, .int tp, .int mat, .int stm, .ref m_kept, .int 0, .int ki, .int cu, .ref m_price, .ref m_offer, .ref m_gets, .ref m_yes, .ref m_buys, .ref m_ends, .ref m_carried, .ref m_row, .int rm, .ref m_keptRow, .ref m_likeGets, .ref m_likePrice, .ref m_ahead])), (m_refused, .inl (aC 0, 7, .inl u_3))]) hP hD [0, 1] [] rfl rfl (by decide) (by decide) hk1 hFc hP1 hD1
    generalize H1 = H at hP hS ⊢
    have hP : va_P (dC, dI) classes [(g0, .inr (12, [.ref m_refused, .ref m_kind, .ref m_figure, .ref m_weight, .ref m_got, .ref m_setting, .int men, .int msy, .int mdn, .ref m_tape, .ref m_letter, .ref m_letterAt, .ref m_told, .int tp, .int mat, .int stm, .ref m_kept, .int 0, .int ki, .int cu, .ref m_price, .ref m_offer, .ref m_gets, .ref m_yes, .ref m_buys, .ref m_ends, .ref m_carried, .ref m_row, .int rm, .ref m_keptRow, .ref m_likeGets, .ref m_likePrice, .ref m_ahead])), (m_refused, .inl (aC 0, 7, .inl u_3))] H := hP
    have hD : va_D A [(g0, .inr (12, [.ref m_refused, .ref m_kind, .ref m_figure, .ref m_weight, .ref m_got, .ref m_setting, .int men, .int msy, .int mdn, .ref m_tape, .ref m_letter, .ref m_letterAt, .ref m_told, .int tp, .int mat, .int stm, .ref m_kept, .int 0, .int ki, .int cu, .ref m_price, .ref m_offer, .ref m_gets, .ref m_yes, .ref m_buys, .ref m_ends, .ref m_carried, .ref m_row, .int rm, .ref m_keptRow, .ref m_likeGets, .ref m_likePrice, .ref m_ahead])), (m_refused, .inl (aC 0, 7, .inl u_3))] := hD
    clear hPc hDc hFc hz1 hk1 hP1 hD1 ht hvm
    obtain ⟨hv9, hv8⟩ := hw_2
    have hP9 := hP.sub (ws' := []) [] rfl
    have hD9 := hD.sub (ws' := []) [] (by decide) rfl
    refine W.widen (k := 0) (n := 0) (by omega) (by omega) ?_
    exact W.iret (v := x_2) hx hb hr (fun t ht hW => ⟨⟨x_2, (), rfl, hv9, by rw [ht]; exact hP9, va_K.moved hW.alike hK, hD9⟩, hS.F ht⟩) hS.2.2 dX12_restore_13

set_option maxHeartbeats 4000000 in
set_option maxRecDepth 100000 in
/-- X12_shaken_r -/
theorem c_X12_shaken_r (l : Launch) (dC : Nat → ClassId) (dI : Nat → Nat → Nat) (aC : Nat → ClassId) (sz : Nat) (g0 : Nat) (m_refused : Nat) (m_kind : Nat) (m_figure : Nat) (m_weight : Nat) (m_got : Nat) (m_setting : Nat) (m_tape : Nat) (m_letter : Nat) (m_letterAt : Nat) (m_told : Nat) (m_kept : Nat) (m_price : Nat) (m_offer : Nat) (m_gets : Nat) (m_yes : Nat) (m_buys : Nat) (m_ends : Nat) (m_carried : Nat) (m_row : Nat) (m_keptRow : Nat) (m_likeGets : Nat) (m_likePrice : Nat) (m_ahead : Nat) (men : Int32) (msy : Int32) (mdn : Int32) (tp : Int32) (mat : Int32) (stm : Int32) (hi : Int32) (ki : Int32) (cu : Int32) (rm : Int32) (mr : Nat → Int32) (a1 : Int32) (hov : men = 0 ∨ mdn = 1) : Met l yX12_shaken (wW yX12_shaken cX12_shaken 11 (some .long)) ({ frames := 1, cells := 0, slots := 0, locals := 22 } : Room) (va_Pc [.ref g0, .int a1] (fun U => U.heap.size = sz ∧ va_P (dC, dI) classes [(g0, .inr (12, [.ref m_refused, .ref m_kind, .ref m_figure, .ref m_weight, .ref m_got, .ref m_setting, .int men, .int msy, .int mdn, .ref m_tape, .ref m_letter, .ref m_letterAt, .ref m_told, .int tp, .int mat, .int stm, .ref m_kept, .int hi, .int ki, .int cu, .ref m_price, .ref m_offer, .ref m_gets, .ref m_yes, .ref m_buys, .ref m_ends, .ref m_carried, .ref m_row, .int rm, .ref m_keptRow, .ref m_likeGets, .ref m_likePrice, .ref m_ahead])), (m_refused, .inl (aC 0, 7, .inl mr))] U.heap ∧ va_K (dC, dI) classes (TY aC) U ∧ va_D (fun _ => True) [(g0, .inr (12, [.ref m_refused, .ref m_kind, .ref m_figure, .ref m_weight, .ref m_got, .ref m_setting, .int men, .int msy, .int mdn, .ref m_tape, .ref m_letter, .ref m_letterAt, .ref m_told, .int tp, .int mat, .int stm, .ref m_kept, .int hi, .int ki, .int cu, .ref m_price, .ref m_offer, .ref m_gets, .ref m_yes, .ref m_buys, .ref m_ends, .ref m_carried, .ref m_row, .int rm, .ref m_keptRow, .ref m_likeGets, .ref m_likePrice, .ref m_ahead])), (m_refused, .inl (aC 0, 7, .inl mr))] ∧ NX U)) (va_Ql (fun (r : Int64) (_ : Unit) => r = if a1 < 0 then 4000000000000000002 else if 1 < a1 then 4000000000000000002 else 4000000000000000003) (fun (_ : Unit) (t : State) => va_P (dC, dI) classes [] t.heap ∧ va_K (dC, dI) classes (TY aC) t ∧ va_D (va_A [(g0, .inr (12, [.ref m_refused, .ref m_kind, .ref m_figure, .ref m_weight, .ref m_got, .ref m_setting, .int men, .int msy, .int mdn, .ref m_tape, .ref m_letter, .ref m_letterAt, .ref m_told, .int tp, .int mat, .int stm, .ref m_kept, .int hi, .int ki, .int cu, .ref m_price, .ref m_offer, .ref m_gets, .ref m_yes, .ref m_buys, .ref m_ends, .ref m_carried, .ref m_row, .int rm, .ref m_keptRow, .ref m_likeGets, .ref m_likePrice, .ref m_ahead])), (m_refused, .inl (aC 0, 7, .inl mr))] sz) []) (va_A [(g0, .inr (12, [.ref m_refused, .ref m_kind, .ref m_figure, .ref m_weight, .ref m_got, .ref m_setting, .int men, .int msy, .int mdn, .ref m_tape, .ref m_letter, .ref m_letterAt, .ref m_told, .int tp, .int mat, .int stm, .ref m_kept, .int hi, .int ki, .int cu, .ref m_price, .ref m_offer, .ref m_gets, .ref m_yes, .ref m_buys, .ref m_ends, .ref m_carried, .ref m_row, .int rm, .ref m_keptRow, .ref m_likeGets, .ref m_likePrice, .ref m_ahead])), (m_refused, .inl (aC 0, 7, .inl mr))] sz)) 0 0 (va_A [(g0, .inr (12, [.ref m_refused, .ref m_kind, .ref m_figure, .ref m_weight, .ref m_got, .ref m_setting, .int men, .int msy, .int mdn, .ref m_tape, .ref m_letter, .ref m_letterAt, .ref m_told, .int tp, .int mat, .int stm, .ref m_kept, .int hi, .int ki, .int cu, .ref m_price, .ref m_offer, .ref m_gets, .ref m_yes, .ref m_buys, .ref m_ends, .ref m_carried, .ref m_row, .int rm, .ref m_keptRow, .ref m_likeGets, .ref m_likePrice, .ref m_ahead])), (m_refused, .inl (aC 0, 7, .inl mr))] sz) := by
  refine Met.ofW (cc := cX12_shaken) (maxL := 11) (ret := (some .long)) (by decide) rfl ?_
  intro p e s m args below meth c s₁ B hml hv
  obtain ⟨rfl, hsz, hP, hK, hD0, hN⟩ := hv
  have hx := B.exec
  have hb := B.bytes
  have hr := B.returns
  have hts0 := atoms_spec (ws := (wW yX12_shaken cX12_shaken 11 (some .long))) B.pre
  have hts : ∀ w9 ∈ lw_G, w9.before ([.ref g0, .int a1] : List Value).toArray s = true := fun w9 h9 => hts0 w9 (List.mem_cons_of_mem _ h9)
  have hown : s.vm.findClass RX12 = some m.cls := findClass_of_methodNamed B.named
  have hlocks := B.notSynchronized
  subst hsz
  have hD := hD0.self (sz := s.heap.size)
  generalize hAe : va_A [(g0, .inr (12, [.ref m_refused, .ref m_kind, .ref m_figure, .ref m_weight, .ref m_got, .ref m_setting, .int men, .int msy, .int mdn, .ref m_tape, .ref m_letter, .ref m_letterAt, .ref m_told, .int tp, .int mat, .int stm, .ref m_kept, .int hi, .int ki, .int cu, .ref m_price, .ref m_offer, .ref m_gets, .ref m_yes, .ref m_buys, .ref m_ends, .ref m_carried, .ref m_row, .int rm, .ref m_keptRow, .ref m_likeGets, .ref m_likePrice, .ref m_ahead])), (m_refused, .inl (aC 0, 7, .inl mr))] s.heap.size = A at hD ⊢
  have hA : ∀ q : Nat, s.heap.size ≤ q → A q := fun q h => by rw [← hAe]; exact Or.inr h
  obtain ⟨H, hHe⟩ : ∃ H : Heap, H = s.heap := ⟨_, rfl⟩
  have hS : va_S A s.heap H [] := by rw [hHe]; exact va_S.rf
  have hP : va_P (dC, dI) classes [(g0, .inr (12, [.ref m_refused, .ref m_kind, .ref m_figure, .ref m_weight, .ref m_got, .ref m_setting, .int men, .int msy, .int mdn, .ref m_tape, .ref m_letter, .ref m_letterAt, .ref m_told, .int tp, .int mat, .int stm, .ref m_kept, .int hi, .int ki, .int cu, .ref m_price, .ref m_offer, .ref m_gets, .ref m_yes, .ref m_buys, .ref m_ends, .ref m_carried, .ref m_row, .int rm, .ref m_keptRow, .ref m_likeGets, .ref m_likePrice, .ref m_ahead])), (m_refused, .inl (aC 0, 7, .inl mr))] H := by rw [hHe]; exact hP
  have hl := lv_entry ([.ref g0, .int a1]) (n := 11) (Nat.le_of_ble_eq_true rfl)
  rw [lg_entry_eq]
  generalize (lg_sl ([.ref g0, .int a1]) ++ List.replicate (11 - (lg_sl ([.ref g0, .int a1])).length) Slot.unset).toArray = ls at hl ⊢
  have hl : lv_has ls 11 [(0, .ref g0), (1, .int a1)] := hl
  rw [← hHe]
  refine lv_iload_n hx hb dX12_shaken_0 rfl (lv_at hl 1 rfl) ?_
  refine lv_iconst (v := 0) hx hb dX12_shaken_1 (by decide) ?_
  refine lv_iconst (v := 1) hx hb dX12_shaken_2 (by decide) ?_
  have hPc := hP.sub (ws' := []) [] rfl
  have hDc := hD.sub (ws' := []) [] (by decide) rfl
  have hFc := va_free (wc := []) hD hS hA [] rfl
  refine va_calli (va_runS (As := [.int a1, .int 0, .int 1]) (rest := []) ⟨hx, hb, hml, hown, hts⟩ (c_X12_isIn l dC dI aC H.size a1 0 1 ) ⟨(callB_of 3 hts (gG kw_846) rfl rfl rfl (hts _ (gw kw_13 rfl)) (hts _ (gw kw_844 rfl)) (by decide +kernel) ⟨Nat.le_of_ble_eq_true rfl, Nat.le_of_ble_eq_true rfl⟩), (hts _ (gw kw_845 rfl))⟩ ⟨fun a U g mk q => by obtain ⟨q0, q1, qP, qK, qD, qN⟩ := q; exact ⟨q0, q1, qP, va_K.moved (u := U) (U := U.calling g mk a) (Vm.Alike.refl U.vm) qK, qD, NX.same (u := U) (U := U.calling g mk a) rfl qN⟩, fun U hU hW => ⟨rfl, by rw [hU], by rw [hU]; exact hPc, va_K.moved hW.alike hK, hDc.weaken (fun _ _ _ _ => trivial), NX.warm hW hN⟩⟩ rfl rfl hl.1 rfl (lv_room (Nat.le_of_ble_eq_true rfl)) dX12_shaken_3 ⟨Nat.le_of_ble_eq_true rfl, Nat.le_of_ble_eq_true rfl⟩) hS (fun q _ h => hFc q h) hFc (fun x_1 u t H1 locs ht hvm hw_1 hB hz1 hk1 hS => ?_)
  obtain ⟨hP1, hK1, hD1⟩ := hB
  rw [ht] at hP1
  clear hK1
  try dsimp only at hw_1
  obtain ⟨hP, hD⟩ := va_join (wr := [(g0, .inr (12, [.ref m_refused, .ref m_kind, .ref m_figure, .ref m_weight, .ref m_got, .ref m_setting, .int men, .int msy, .int mdn, .ref m_tape, .ref m_letter, .ref m_letterAt, .ref m_told, .int tp, .int mat, .int stm, .ref m_kept, .int hi, .int ki, .int cu, .ref m_price, .ref m_offer, .ref m_gets, .ref m_yes, .ref m_buys, .ref m_ends, .ref m_carried, .ref m_row, .int rm, .ref m_keptRow, .ref m_likeGets, .ref m_likePrice, .ref m_ahead])), (m_refused, .inl (aC 0, 7, .inl mr))]) (w1 := []) hP hD [] [0, 1] rfl rfl (by decide) (by decide) hk1 hFc hP1 hD1
  generalize H1 = H at hP hS ⊢
  have hP : va_P (dC, dI) classes [(g0, .inr (12, [.ref m_refused, .ref m_kind, .ref m_figure, .ref m_weight, .ref m_got, .ref m_setting, .int men, .int msy, .int mdn, .ref m_tape, .ref m_letter, .ref m_letterAt, .ref m_told, .int tp, .int mat, .int stm, .ref m_kept, .int hi, .int ki, .int cu, .ref m_price, .ref m_offer, .ref m_gets, .ref m_yes, .ref m_buys, .ref m_ends, .ref m_carried, .ref m_row, .int rm, .ref m_keptRow, .ref m_likeGets, .ref m_likePrice, .ref m_ahead])), (m_refused, .inl (aC 0, 7, .inl mr))] H := hP
  have hD : va_D A [(g0, .inr (12, [.ref m_refused, .ref m_kind, .ref m_figure, .ref m_weight, .ref m_got, .ref m_setting, .int men, .int msy, .int mdn, .ref m_tape, .ref m_letter, .ref m_letterAt, .ref m_told, .int tp, .int mat, .int stm, .ref m_kept, .int hi, .int ki, .int cu, .ref m_price, .ref m_offer, .ref m_gets, .ref m_yes, .ref m_buys, .ref m_ends, .ref m_carried, .ref m_row, .int rm, .ref m_keptRow, .ref m_likeGets, .ref m_likePrice, .ref m_ahead])), (m_refused, .inl (aC 0, 7, .inl mr))] := hD
  clear hPc hDc hFc hz1 hk1 hP1 hD1 ht hvm
  have hz_3 := hw_1
  refine lv_if_ne (tgt := 16) hx hb dX12_shaken_6 (by decide) (fun c_2 => ?_) (fun c_2 => ?_)
  · refine lv_aload_n hx hb dX12_shaken_16 rfl (lv_at hl 0 rfl) ?_
    have hPc := hP.sub (ws' := [(g0, .inr (12, [.ref m_refused, .ref m_kind, .ref m_figure, .ref m_weight, .ref m_got, .ref m_setting, .int men, .int msy, .int mdn, .ref m_tape, .ref m_letter, .ref m_letterAt, .ref m_told, .int tp, .int mat, .int stm, .ref m_kept, .int hi, .int ki, .int cu, .ref m_price, .ref m_offer, .ref m_gets, .ref m_yes, .ref m_buys, .ref m_ends, .ref m_carried, .ref m_row, .int rm, .ref m_keptRow, .ref m_likeGets, .ref m_likePrice, .ref m_ahead]))]) [0] rfl
    have hDc := hD.sub (ws' := [(g0, .inr (12, [.ref m_refused, .ref m_kind, .ref m_figure, .ref m_weight, .ref m_got, .ref m_setting, .int men, .int msy, .int mdn, .ref m_tape, .ref m_letter, .ref m_letterAt, .ref m_told, .int tp, .int mat, .int stm, .ref m_kept, .int hi, .int ki, .int cu, .ref m_price, .ref m_offer, .ref m_gets, .ref m_yes, .ref m_buys, .ref m_ends, .ref m_carried, .ref m_row, .int rm, .ref m_keptRow, .ref m_likeGets, .ref m_likePrice, .ref m_ahead]))]) [0] (by decide) rfl
    have hFc := va_free (wc := [(g0, .inr (12, [.ref m_refused, .ref m_kind, .ref m_figure, .ref m_weight, .ref m_got, .ref m_setting, .int men, .int msy, .int mdn, .ref m_tape, .ref m_letter, .ref m_letterAt, .ref m_told, .int tp, .int mat, .int stm, .ref m_kept, .int hi, .int ki, .int cu, .ref m_price, .ref m_offer, .ref m_gets, .ref m_yes, .ref m_buys, .ref m_ends, .ref m_carried, .ref m_row, .int rm, .ref m_keptRow, .ref m_likeGets, .ref m_likePrice, .ref m_ahead]))]) hD hS hA [0] rfl
    refine va_calli (va_runV (As := []) (rest := []) ⟨hx, hb, hml, hown, hts⟩ (c_X12_isOver l dC dI aC H.size g0 m_refused m_kind m_figure m_weight m_got m_setting m_tape m_letter m_letterAt m_told m_kept m_price m_offer m_gets m_yes m_buys m_ends m_carried m_row m_keptRow m_likeGets m_likePrice m_ahead men msy mdn tp mat stm hi ki cu rm ) ⟨(callB_of 0 hts (gG kw_994) rfl rfl rfl (hts _ (gw kw_13 rfl)) (hts _ (gw kw_991 rfl)) (by decide +kernel) ⟨Nat.le_of_ble_eq_true rfl, Nat.le_of_ble_eq_true rfl⟩), (hts _ (gw kw_993 rfl)), (hts _ (gw ks_58 rfl))⟩ ⟨fun a U g mk q => by obtain ⟨q0, q1, qP, qK, qD, qN⟩ := q; exact ⟨q0, q1, qP, va_K.moved (u := U) (U := U.calling g mk a) (Vm.Alike.refl U.vm) qK, qD, NX.same (u := U) (U := U.calling g mk a) rfl qN⟩, va_recv hK hPc (ci := 12) (q0 := 0) rfl rfl, fun U hU hW => ⟨rfl, by rw [hU], by rw [hU]; exact hPc, va_K.moved hW.alike hK, hDc.weaken (fun _ _ _ _ => trivial), NX.warm hW hN⟩⟩ rfl rfl hl.1 rfl (lv_room (Nat.le_of_ble_eq_true rfl)) dX12_shaken_17 ⟨Nat.le_of_ble_eq_true rfl, Nat.le_of_ble_eq_true rfl⟩) hS (fun q _ h => hFc q h) hFc (fun x_3 u t H1 locs ht hvm hw_3 hB hz1 hk1 hS => ?_)
    obtain ⟨hP1, hK1, hD1⟩ := hB
    rw [ht] at hP1
    clear hK1
    try dsimp only at hw_3
    obtain ⟨hP, hD⟩ := va_join (wr := [(m_refused, .inl (aC 0, 7, .inl mr))]) (w1 := [(g0, .inr (12, [.ref m_refused, .ref m_kind, .ref m_figure, .ref m_weight, .ref m_got, .ref m_setting, .int men, .int msy, .int mdn, .ref m_tape, .ref m_letter, .ref m_letterAt, .ref m_told, .int tp, .int mat, .int stm, .ref m_kept, .int hi, .int ki, .int cu, .ref m_price, .ref m_offer, .ref m_gets, .ref m_yes, .ref m_buys, .ref m_ends, .ref m_carried, .ref m_row, .int rm, .ref m_keptRow, .ref m_likeGets, .ref m_likePrice, .ref m_ahead]))]) hP hD [0] [1] rfl rfl (by decide) (by decide) hk1 hFc hP1 hD1
    generalize H1 = H at hP hS ⊢
    have hP : va_P (dC, dI) classes [(m_refused, .inl (aC 0, 7, .inl mr)), (g0, .inr (12, [.ref m_refused, .ref m_kind, .ref m_figure, .ref m_weight, .ref m_got, .ref m_setting, .int men, .int msy, .int mdn, .ref m_tape, .ref m_letter, .ref m_letterAt, .ref m_told, .int tp, .int mat, .int stm, .ref m_kept, .int hi, .int ki, .int cu, .ref m_price, .ref m_offer, .ref m_gets, .ref m_yes, .ref m_buys, .ref m_ends, .ref m_carried, .ref m_row, .int rm, .ref m_keptRow, .ref m_likeGets, .ref m_likePrice, .ref m_ahead]))] H := hP
    have hD : va_D A [(m_refused, .inl (aC 0, 7, .inl mr)), (g0, .inr (12, [.ref m_refused, .ref m_kind, .ref m_figure, .ref m_weight, .ref m_got, .ref m_setting, .int men, .int msy, .int mdn, .ref m_tape, .ref m_letter, .ref m_letterAt, .ref m_told, .int tp, .int mat, .int stm, .ref m_kept, .int hi, .int ki, .int cu, .ref m_price, .ref m_offer, .ref m_gets, .ref m_yes, .ref m_buys, .ref m_ends, .ref m_carried, .ref m_row, .int rm, .ref m_keptRow, .ref m_likeGets, .ref m_likePrice, .ref m_ahead]))] := hD
    clear hPc hDc hFc hz1 hk1 hP1 hD1 ht hvm
    have hz_17 : x_3 = 1 := by rw [hw_3]; rcases hov with h9 | h9 <;> simp [h9]
    refine lv_if_eq (tgt := 30) hx hb dX12_shaken_20 (by decide) (fun c_4 => ?_) (fun c_4 => ?_)
    · exact absurd c_4 (by rw [hz_17]; decide)
    · refine lv_aload_n hx hb dX12_shaken_23 rfl (lv_at hl 0 rfl) ?_
      refine lv_bipush (v := -3) hx hb dX12_shaken_24 (by decide) ?_
      have hPc := hP.sub (ws' := [(g0, .inr (12, [.ref m_refused, .ref m_kind, .ref m_figure, .ref m_weight, .ref m_got, .ref m_setting, .int men, .int msy, .int mdn, .ref m_tape, .ref m_letter, .ref m_letterAt, .ref m_told, .int tp, .int mat, .int stm, .ref m_kept, .int hi, .int ki, .int cu, .ref m_price, .ref m_offer, .ref m_gets, .ref m_yes, .ref m_buys, .ref m_ends, .ref m_carried, .ref m_row, .int rm, .ref m_keptRow, .ref m_likeGets, .ref m_likePrice, .ref m_ahead])), (m_refused, .inl (aC 0, 7, .inl mr))]) [1, 0] rfl
      have hDc := hD.sub (ws' := [(g0, .inr (12, [.ref m_refused, .ref m_kind, .ref m_figure, .ref m_weight, .ref m_got, .ref m_setting, .int men, .int msy, .int mdn, .ref m_tape, .ref m_letter, .ref m_letterAt, .ref m_told, .int tp, .int mat, .int stm, .ref m_kept, .int hi, .int ki, .int cu, .ref m_price, .ref m_offer, .ref m_gets, .ref m_yes, .ref m_buys, .ref m_ends, .ref m_carried, .ref m_row, .int rm, .ref m_keptRow, .ref m_likeGets, .ref m_likePrice, .ref m_ahead])), (m_refused, .inl (aC 0, 7, .inl mr))]) [1, 0] (by decide) rfl
      have hFc := va_free (wc := [(g0, .inr (12, [.ref m_refused, .ref m_kind, .ref m_figure, .ref m_weight, .ref m_got, .ref m_setting, .int men, .int msy, .int mdn, .ref m_tape, .ref m_letter, .ref m_letterAt, .ref m_told, .int tp, .int mat, .int stm, .ref m_kept, .int hi, .int ki, .int cu, .ref m_price, .ref m_offer, .ref m_gets, .ref m_yes, .ref m_buys, .ref m_ends, .ref m_carried, .ref m_row, .int rm, .ref m_keptRow, .ref m_likeGets, .ref m_likePrice, .ref m_ahead])), (m_refused, .inl (aC 0, 7, .inl mr))]) hD hS hA [1, 0] rfl
      refine va_calll (va_runV (As := [.int (-3)]) (rest := []) ⟨hx, hb, hml, hown, hts⟩ (c_X12_lowest l dC dI aC H.size g0 m_refused m_kind m_figure m_weight m_got m_setting m_tape m_letter m_letterAt m_told m_kept m_price m_offer m_gets m_yes m_buys m_ends m_carried m_row m_keptRow m_likeGets m_likePrice m_ahead men msy mdn tp mat stm hi ki cu rm (-3) 3 mr (by decide) (by unfold vp_in; decide)) ⟨(callB_of 1 hts (gG kw_1081) rfl rfl rfl (hts _ (gw kw_13 rfl)) (hts _ (gw kw_1078 rfl)) (by decide +kernel) ⟨Nat.le_of_ble_eq_true rfl, Nat.le_of_ble_eq_true rfl⟩), (hts _ (gw kw_1080 rfl)), (hts _ (gw ks_68 rfl))⟩ ⟨fun a U g mk q => by obtain ⟨q0, q1, qP, qK, qD, qN⟩ := q; exact ⟨q0, q1, qP, va_K.moved (u := U) (U := U.calling g mk a) (Vm.Alike.refl U.vm) qK, qD, NX.same (u := U) (U := U.calling g mk a) rfl qN⟩, va_recv hK hPc (ci := 12) (q0 := 0) rfl rfl, fun U hU hW => ⟨rfl, by rw [hU], by rw [hU]; exact hPc, va_K.moved hW.alike hK, hDc.weaken (fun _ _ _ _ => trivial), NX.warm hW hN⟩⟩ rfl rfl hl.1 rfl (lv_room (Nat.le_of_ble_eq_true rfl)) dX12_shaken_26 ⟨Nat.le_of_ble_eq_true rfl, Nat.le_of_ble_eq_true rfl⟩) hS (fun q _ h => hFc q h) hFc (fun x_5 u t H1 locs ht hvm hw_5 hB hz1 hk1 hS => ?_)
      obtain ⟨u_6, rfl⟩ : ∃ z, z = u := ⟨_, rfl⟩
      obtain ⟨hP1, hK1, hD1⟩ := hB
      rw [ht] at hP1
      clear hK1
      try dsimp only at hw_5
      obtain ⟨hP, hD⟩ := va_join (wr := []) (w1 := [(g0, .inr (12, [.ref m_refused, .ref m_kind, .ref m_figure, .ref m_weight, .ref m_got, .ref m_setting, .int men, .int msy, .int mdn, .ref m_tape, .ref m_letter, .ref m_letterAt, .ref m_told, .int tp, .int mat, .int stm, .ref m_kept, .int hi, .int ki, .int cu, .ref m_price, .ref m_offer, .ref m_gets, .ref m_yes, .ref m_buys, .ref m_ends, .ref m_carried, .ref m_row, .int rm, .ref m_keptRow, .ref m_likeGets, .ref m_likePrice, .ref m_ahead])), (m_refused, .inl (aC 0, 7, .inl u_6))]) hP hD [1, 0] [] rfl rfl (by decide) (by decide) hk1 hFc hP1 hD1
      generalize H1 = H at hP hS ⊢
      have hP : va_P (dC, dI) classes [(g0, .inr (12, [.ref m_refused, .ref m_kind, .ref m_figure, .ref m_weight, .ref m_got, .ref m_setting, .int men, .int msy, .int mdn, .ref m_tape, .ref m_letter, .ref m_letterAt, .ref m_told, .int tp, .int mat, .int stm, .ref m_kept, .int hi, .int ki, .int cu, .ref m_price, .ref m_offer, .ref m_gets, .ref m_yes, .ref m_buys, .ref m_ends, .ref m_carried, .ref m_row, .int rm, .ref m_keptRow, .ref m_likeGets, .ref m_likePrice, .ref m_ahead])), (m_refused, .inl (aC 0, 7, .inl u_6))] H := hP
      have hD : va_D A [(g0, .inr (12, [.ref m_refused, .ref m_kind, .ref m_figure, .ref m_weight, .ref m_got, .ref m_setting, .int men, .int msy, .int mdn, .ref m_tape, .ref m_letter, .ref m_letterAt, .ref m_told, .int tp, .int mat, .int stm, .ref m_kept, .int hi, .int ki, .int cu, .ref m_price, .ref m_offer, .ref m_gets, .ref m_yes, .ref m_buys, .ref m_ends, .ref m_carried, .ref m_row, .int rm, .ref m_keptRow, .ref m_likeGets, .ref m_likePrice, .ref m_ahead])), (m_refused, .inl (aC 0, 7, .inl u_6))] := hD
      clear hPc hDc hFc hz1 hk1 hP1 hD1 ht hvm
      obtain ⟨hv9, hv8⟩ := hw_5
      have hP9 := hP.sub (ws' := []) [] rfl
      have hD9 := hD.sub (ws' := []) [] (by decide) rfl
      refine W.widen (k := 0) (n := 0) (by omega) (by omega) ?_
      exact W.lret (v := x_5) hx hb hr (fun t ht hW => ⟨⟨x_5, (), rfl, by rw [hv9, show (4000000000000000000 - (-3 : Int32).toInt64 : Int64) = 4000000000000000003 from by decide]; by_cases h1 : a1 < 0 <;> by_cases h2 : 1 < a1 <;> first | (rw [if_neg h1, if_neg h2]; done) | simp_all, by rw [ht]; exact hP9, va_K.moved hW.alike hK, hD9⟩, hS.F ht⟩) hS.2.2 dX12_shaken_29
  · refine lv_aload_n hx hb dX12_shaken_9 rfl (lv_at hl 0 rfl) ?_
    refine lv_bipush (v := -2) hx hb dX12_shaken_10 (by decide) ?_
    have hPc := hP.sub (ws' := [(g0, .inr (12, [.ref m_refused, .ref m_kind, .ref m_figure, .ref m_weight, .ref m_got, .ref m_setting, .int men, .int msy, .int mdn, .ref m_tape, .ref m_letter, .ref m_letterAt, .ref m_told, .int tp, .int mat, .int stm, .ref m_kept, .int hi, .int ki, .int cu, .ref m_price, .ref m_offer, .ref m_gets, .ref m_yes, .ref m_buys, .ref m_ends, .ref m_carried, .ref m_row, .int rm, .ref m_keptRow, .ref m_likeGets, .ref m_likePrice, .ref m_ahead])), (m_refused, .inl (aC 0, 7, .inl mr))]) [0, 1] rfl
    have hDc := hD.sub (ws' := [(g0, .inr (12, [.ref m_refused, .ref m_kind, .ref m_figure, .ref m_weight, .ref m_got, .ref m_setting, .int men, .int msy, .int mdn, .ref m_tape, .ref m_letter, .ref m_letterAt, .ref m_told, .int tp, .int mat, .int stm, .ref m_kept, .int hi, .int ki, .int cu, .ref m_price, .ref m_offer, .ref m_gets, .ref m_yes, .ref m_buys, .ref m_ends, .ref m_carried, .ref m_row, .int rm, .ref m_keptRow, .ref m_likeGets, .ref m_likePrice, .ref m_ahead])), (m_refused, .inl (aC 0, 7, .inl mr))]) [0, 1] (by decide) rfl
    have hFc := va_free (wc := [(g0, .inr (12, [.ref m_refused, .ref m_kind, .ref m_figure, .ref m_weight, .ref m_got, .ref m_setting, .int men, .int msy, .int mdn, .ref m_tape, .ref m_letter, .ref m_letterAt, .ref m_told, .int tp, .int mat, .int stm, .ref m_kept, .int hi, .int ki, .int cu, .ref m_price, .ref m_offer, .ref m_gets, .ref m_yes, .ref m_buys, .ref m_ends, .ref m_carried, .ref m_row, .int rm, .ref m_keptRow, .ref m_likeGets, .ref m_likePrice, .ref m_ahead])), (m_refused, .inl (aC 0, 7, .inl mr))]) hD hS hA [0, 1] rfl
    refine va_calll (va_runV (As := [.int (-2)]) (rest := []) ⟨hx, hb, hml, hown, hts⟩ (c_X12_lowest l dC dI aC H.size g0 m_refused m_kind m_figure m_weight m_got m_setting m_tape m_letter m_letterAt m_told m_kept m_price m_offer m_gets m_yes m_buys m_ends m_carried m_row m_keptRow m_likeGets m_likePrice m_ahead men msy mdn tp mat stm hi ki cu rm (-2) 2 mr (by decide) (by unfold vp_in; decide)) ⟨(callB_of 1 hts (gG kw_1081) rfl rfl rfl (hts _ (gw kw_13 rfl)) (hts _ (gw kw_1078 rfl)) (by decide +kernel) ⟨Nat.le_of_ble_eq_true rfl, Nat.le_of_ble_eq_true rfl⟩), (hts _ (gw kw_1080 rfl)), (hts _ (gw ks_68 rfl))⟩ ⟨fun a U g mk q => by obtain ⟨q0, q1, qP, qK, qD, qN⟩ := q; exact ⟨q0, q1, qP, va_K.moved (u := U) (U := U.calling g mk a) (Vm.Alike.refl U.vm) qK, qD, NX.same (u := U) (U := U.calling g mk a) rfl qN⟩, va_recv hK hPc (ci := 12) (q0 := 0) rfl rfl, fun U hU hW => ⟨rfl, by rw [hU], by rw [hU]; exact hPc, va_K.moved hW.alike hK, hDc.weaken (fun _ _ _ _ => trivial), NX.warm hW hN⟩⟩ rfl rfl hl.1 rfl (lv_room (Nat.le_of_ble_eq_true rfl)) dX12_shaken_12 ⟨Nat.le_of_ble_eq_true rfl, Nat.le_of_ble_eq_true rfl⟩) hS (fun q _ h => hFc q h) hFc (fun x_7 u t H1 locs ht hvm hw_7 hB hz1 hk1 hS => ?_)
    obtain ⟨u_8, rfl⟩ : ∃ z, z = u := ⟨_, rfl⟩
    obtain ⟨hP1, hK1, hD1⟩ := hB
    rw [ht] at hP1
    clear hK1
    try dsimp only at hw_7
    obtain ⟨hP, hD⟩ := va_join (wr := []) (w1 := [(g0, .inr (12, [.ref m_refused, .ref m_kind, .ref m_figure, .ref m_weight, .ref m_got, .ref m_setting, .int men, .int msy, .int mdn, .ref m_tape, .ref m_letter, .ref m_letterAt, .ref m_told, .int tp, .int mat, .int stm, .ref m_kept, .int hi, .int ki, .int cu, .ref m_price, .ref m_offer, .ref m_gets, .ref m_yes, .ref m_buys, .ref m_ends, .ref m_carried, .ref m_row, .int rm, .ref m_keptRow, .ref m_likeGets, .ref m_likePrice, .ref m_ahead])), (m_refused, .inl (aC 0, 7, .inl u_8))]) hP hD [0, 1] [] rfl rfl (by decide) (by decide) hk1 hFc hP1 hD1
    generalize H1 = H at hP hS ⊢
    have hP : va_P (dC, dI) classes [(g0, .inr (12, [.ref m_refused, .ref m_kind, .ref m_figure, .ref m_weight, .ref m_got, .ref m_setting, .int men, .int msy, .int mdn, .ref m_tape, .ref m_letter, .ref m_letterAt, .ref m_told, .int tp, .int mat, .int stm, .ref m_kept, .int hi, .int ki, .int cu, .ref m_price, .ref m_offer, .ref m_gets, .ref m_yes, .ref m_buys, .ref m_ends, .ref m_carried, .ref m_row, .int rm, .ref m_keptRow, .ref m_likeGets, .ref m_likePrice, .ref m_ahead])), (m_refused, .inl (aC 0, 7, .inl u_8))] H := hP
    have hD : va_D A [(g0, .inr (12, [.ref m_refused, .ref m_kind, .ref m_figure, .ref m_weight, .ref m_got, .ref m_setting, .int men, .int msy, .int mdn, .ref m_tape, .ref m_letter, .ref m_letterAt, .ref m_told, .int tp, .int mat, .int stm, .ref m_kept, .int hi, .int ki, .int cu, .ref m_price, .ref m_offer, .ref m_gets, .ref m_yes, .ref m_buys, .ref m_ends, .ref m_carried, .ref m_row, .int rm, .ref m_keptRow, .ref m_likeGets, .ref m_likePrice, .ref m_ahead])), (m_refused, .inl (aC 0, 7, .inl u_8))] := hD
    clear hPc hDc hFc hz1 hk1 hP1 hD1 ht hvm
    obtain ⟨hv9, hv8⟩ := hw_7
    have hP9 := hP.sub (ws' := []) [] rfl
    have hD9 := hD.sub (ws' := []) [] (by decide) rfl
    refine W.widen (k := 0) (n := 0) (by omega) (by omega) ?_
    exact W.lret (v := x_7) hx hb hr (fun t ht hW => ⟨⟨x_7, (), rfl, by rw [hv9, show (4000000000000000000 - (-2 : Int32).toInt64 : Int64) = 4000000000000000002 from by decide]; by_cases h1 : a1 < 0 <;> by_cases h2 : 1 < a1 <;> first | (rw [if_neg h1, if_neg h2]; done) | simp_all, by rw [ht]; exact hP9, va_K.moved hW.alike hK, hD9⟩, hS.F ht⟩) hS.2.2 dX12_shaken_15
