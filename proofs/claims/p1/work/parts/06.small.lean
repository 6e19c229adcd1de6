set_option maxHeartbeats 4000000 in
set_option maxRecDepth 100000 in
/-- refuse(w): w is counted -/
theorem c_X11_refuse (l : Launch) (dC : Nat → ClassId) (dI : Nat → Nat → Nat) (aC : Nat → ClassId) (sz : Nat) (h0 : Nat) (xp : Nat) (xtp : Nat) (xn : Nat) (xt : Nat) (xk : Nat) (xl : Nat) (xc : Nat) (xo : Nat) (xto : Nat) (xr : Nat) (xch : Nat) (ts : Int32) (ik : Int32) (st : Int32) (w : Int32) (k : Nat) (rf : Nat → Int32) (hw1 : w < 0) (hw2 : -6 ≤ w) (hk : (-w).toNatClampNeg = k) (hki : vp_in (-w) 7) : Met l yX11_refuse (wW yX11_refuse cX11_refuse 2 (some .int)) ({ frames := 0, cells := 0, slots := 0, locals := 0 } : Room) (va_Pc [.ref h0, .int w] (fun U => U.heap.size = sz ∧ va_P (dC, dI) classes [(h0, .inr (11, [.ref xp, .ref xtp, .ref xn, .ref xt, .ref xk, .ref xl, .ref xc, .ref xo, .ref xto, .ref xr, .ref xch, .int ts, .int ik, .int st])), (xr, .inl (aC 0, 7, .inl rf))] U.heap ∧ va_K (dC, dI) classes (TY aC) U ∧ va_D (fun _ => True) [(h0, .inr (11, [.ref xp, .ref xtp, .ref xn, .ref xt, .ref xk, .ref xl, .ref xc, .ref xo, .ref xto, .ref xr, .ref xch, .int ts, .int ik, .int st])), (xr, .inl (aC 0, 7, .inl rf))] ∧ NX U)) (va_Qi (fun (r : Int32) (rf2 : Nat → Int32) => r = w ∧ rf2 = upd rf k (rf k + 1)) (fun (rf2 : Nat → Int32) (t : State) => va_P (dC, dI) classes [(h0, .inr (11, [.ref xp, .ref xtp, .ref xn, .ref xt, .ref xk, .ref xl, .ref xc, .ref xo, .ref xto, .ref xr, .ref xch, .int ts, .int ik, .int st])), (xr, .inl (aC 0, 7, .inl rf2))] t.heap ∧ va_K (dC, dI) classes (TY aC) t ∧ va_D (va_A [(h0, .inr (11, [.ref xp, .ref xtp, .ref xn, .ref xt, .ref xk, .ref xl, .ref xc, .ref xo, .ref xto, .ref xr, .ref xch, .int ts, .int ik, .int st])), (xr, .inl (aC 0, 7, .inl rf))] sz) [(h0, .inr (11, [.ref xp, .ref xtp, .ref xn, .ref xt, .ref xk, .ref xl, .ref xc, .ref xo, .ref xto, .ref xr, .ref xch, .int ts, .int ik, .int st])), (xr, .inl (aC 0, 7, .inl rf2))]) (va_A [(h0, .inr (11, [.ref xp, .ref xtp, .ref xn, .ref xt, .ref xk, .ref xl, .ref xc, .ref xo, .ref xto, .ref xr, .ref xch, .int ts, .int ik, .int st])), (xr, .inl (aC 0, 7, .inl rf))] sz)) 0 0 (va_A [(h0, .inr (11, [.ref xp, .ref xtp, .ref xn, .ref xt, .ref xk, .ref xl, .ref xc, .ref xo, .ref xto, .ref xr, .ref xch, .int ts, .int ik, .int st])), (xr, .inl (aC 0, 7, .inl rf))] sz) := by
  refine Met.ofW (cc := cX11_refuse) (maxL := 2) (ret := (some .int)) (by decide) rfl ?_
  intro p e s m args below meth c s₁ B hml hv
  obtain ⟨rfl, hsz, hP, hK, hD0, hN⟩ := hv
  have hx := B.exec
  have hb := B.bytes
  have hr := B.returns
  have hts0 := atoms_spec (ws := (wW yX11_refuse cX11_refuse 2 (some .int))) B.pre
  have hts : ∀ w ∈ lw_G, w.before ([.ref h0, .int w] : List Value).toArray s = true := fun w h => hts0 w (List.mem_cons_of_mem _ h)
  have hown : s.vm.findClass RX11 = some m.cls := findClass_of_methodNamed B.named
  have hlocks := B.notSynchronized
  subst hsz
  have hD := hD0.self (sz := s.heap.size)
  generalize hAe : va_A [(h0, .inr (11, [.ref xp, .ref xtp, .ref xn, .ref xt, .ref xk, .ref xl, .ref xc, .ref xo, .ref xto, .ref xr, .ref xch, .int ts, .int ik, .int st])), (xr, .inl (aC 0, 7, .inl rf))] s.heap.size = A at hD ⊢
  have hA : ∀ q : Nat, s.heap.size ≤ q → A q := fun q h => by rw [← hAe]; exact Or.inr h
  obtain ⟨H, hHe⟩ : ∃ H : Heap, H = s.heap := ⟨_, rfl⟩
  have hS : va_S A s.heap H [] := by rw [hHe]; exact va_S.rf
  have hP : va_P (dC, dI) classes [(h0, .inr (11, [.ref xp, .ref xtp, .ref xn, .ref xt, .ref xk, .ref xl, .ref xc, .ref xo, .ref xto, .ref xr, .ref xch, .int ts, .int ik, .int st])), (xr, .inl (aC 0, 7, .inl rf))] H := by rw [hHe]; exact hP
  have hl := lv_entry ([.ref h0, .int w]) (n := 2) (Nat.le_of_ble_eq_true rfl)
  rw [lg_entry_eq]
  generalize (lg_sl ([.ref h0, .int w]) ++ List.replicate (2 - (lg_sl ([.ref h0, .int w])).length) Slot.unset).toArray = ls at hl ⊢
  have hl : lv_has ls 2 [(0, .ref h0), (1, .int w)] := hl
  rw [← hHe]
  refine lv_iload_n hx hb dX11_refuse_0 rfl (lv_at hl 1 rfl) ?_
  refine lv_if_ge (tgt := 21) hx hb dX11_refuse_1 (by decide) (fun c_1 => ?_) (fun c_1 => ?_)
  · exact absurd hw1 (by first | exact c_1 | exact Int32.not_lt.mpr c_1)
  · refine lv_iload_n hx hb dX11_refuse_4 rfl (lv_at hl 1 rfl) ?_
    refine lv_bipush (v := -6) hx hb dX11_refuse_5 (by decide) ?_
    refine lv_icmp_lt (tgt := 21) hx hb dX11_refuse_7 (by decide) (fun c_2 => ?_) (fun c_2 => ?_)
    · exact absurd hw2 c_2
    · refine lv_aload_n hx hb dX11_refuse_10 rfl (lv_at hl 0 rfl) ?_
      refine va_get (D := (dC, dI)) (ci := 11) (v := .ref xr) (C := RX11) (T := TX11) (N := 14) hx hb hts inX11 hown hK hP 0 rfl rfl 9 (by decide) (hts _ (gw kw_235 rfl)) (fun _ h9 => h9) rfl dX11_refuse_11 ?_
      refine lv_iload_n hx hb dX11_refuse_14 rfl (lv_at hl 1 rfl) ?_
      refine lv_ineg hx hb dX11_refuse_15 ?_
      refine lv_topi (fun x_3 e_3 => ?_)
      refine lv_dup2_11 hx hb dX11_refuse_16 rfl rfl ?_
      have h_4 : vp_in x_3 7 := by first | assumption | (unfold vp_in; decide) | exact vp_in_nI (by omega) (by omega) | (subst_vars; first | (unfold vp_in; decide) | exact vp_in_nI (by omega) (by omega))
      refine va_iald hx hb hK hP 1 0 rfl rfl h_4 dX11_refuse_17 ?_
      refine lv_topi (fun x_5 e_5 => ?_)
      refine lv_iconst (v := 1) hx hb dX11_refuse_18 (by decide) ?_
      refine lv_iadd hx hb dX11_refuse_19 ?_
      refine lv_topi (fun x_6 e_6 => ?_)
      have h_7 : vp_in x_3 7 := by first | assumption | (unfold vp_in; decide) | exact vp_in_nI (by omega) (by omega) | (subst_vars; first | (unfold vp_in; decide) | exact vp_in_nI (by omega) (by omega))
      refine va_iast hx hb hK hP hD hS 1 0 rfl rfl h_7 dX11_refuse_20 (fun H locs hP hD hS => ?_)
      obtain ⟨f_8, e_f_8⟩ : ∃ y : Nat → Int32, y = upd rf (x_3 : Int32).toNatClampNeg x_6 := ⟨_, rfl⟩
      have hP : va_P (dC, dI) classes [(h0, .inr (11, [.ref xp, .ref xtp, .ref xn, .ref xt, .ref xk, .ref xl, .ref xc, .ref xo, .ref xto, .ref xr, .ref xch, .int ts, .int ik, .int st])), (xr, .inl (aC 0, 7, .inl f_8))] H := by rw [e_f_8]; exact hP
      have hD : va_D A [(h0, .inr (11, [.ref xp, .ref xtp, .ref xn, .ref xt, .ref xk, .ref xl, .ref xc, .ref xo, .ref xto, .ref xr, .ref xch, .int ts, .int ik, .int st])), (xr, .inl (aC 0, 7, .inl f_8))] := by rw [e_f_8]; exact hD
      refine lv_iload_n hx hb dX11_refuse_21 rfl (lv_at hl 1 rfl) ?_
      have hP9 := hP.sub (ws' := [(h0, .inr (11, [.ref xp, .ref xtp, .ref xn, .ref xt, .ref xk, .ref xl, .ref xc, .ref xo, .ref xto, .ref xr, .ref xch, .int ts, .int ik, .int st])), (xr, .inl (aC 0, 7, .inl f_8))]) [0, 1] rfl
      have hD9 := hD.sub (ws' := [(h0, .inr (11, [.ref xp, .ref xtp, .ref xn, .ref xt, .ref xk, .ref xl, .ref xc, .ref xo, .ref xto, .ref xr, .ref xch, .int ts, .int ik, .int st])), (xr, .inl (aC 0, 7, .inl f_8))]) [0, 1] (by decide) rfl
      refine W.widen (k := 0) (n := 0) (by omega) (by omega) ?_
      exact W.iret (v := w) hx hb hr (fun t ht hW => ⟨⟨w, (f_8), rfl, ⟨rfl, by subst e_f_8; subst e_6; subst e_5; subst e_3; rw [hk]⟩, by rw [ht]; exact hP9, va_K.moved hW.alike hK, hD9⟩, hS.F ht⟩) hS.2.2 dX11_refuse_22

set_option maxHeartbeats 4000000 in
set_option maxRecDepth 100000 in
/-- X4_has -/
theorem c_X4_has (l : Launch) (dC : Nat → ClassId) (dI : Nat → Nat → Nat) (aC : Nat → ClassId) (sz : Nat) (h1 : Nat) (ek : Nat) (ef : Nat) (ew : Nat) (ep : Nat) (es : Nat) (sz0 : Int32) (sy : Int32) (dn : Int32) (i : Int32)  : Met l yX4_has (wW yX4_has cX4_has 2 (some .boolean)) ({ frames := 0, cells := 0, slots := 0, locals := 0 } : Room) (va_Pc [.ref h1, .int i] (fun U => U.heap.size = sz ∧ va_P (dC, dI) classes [(h1, .inr (4, [.ref ek, .ref ef, .ref ew, .ref ep, .ref es, .int sz0, .int sy, .int dn]))] U.heap ∧ va_K (dC, dI) classes (TY aC) U ∧ va_D (fun _ => True) [(h1, .inr (4, [.ref ek, .ref ef, .ref ew, .ref ep, .ref es, .int sz0, .int sy, .int dn]))] ∧ NX U)) (va_Qi (fun (r : Int32) (_ : Unit) => r = if 0 ≤ i ∧ i < sz0 then 1 else 0) (fun (_ : Unit) (t : State) => va_P (dC, dI) classes [(h1, .inr (4, [.ref ek, .ref ef, .ref ew, .ref ep, .ref es, .int sz0, .int sy, .int dn]))] t.heap ∧ va_K (dC, dI) classes (TY aC) t ∧ va_D (va_A [(h1, .inr (4, [.ref ek, .ref ef, .ref ew, .ref ep, .ref es, .int sz0, .int sy, .int dn]))] sz) [(h1, .inr (4, [.ref ek, .ref ef, .ref ew, .ref ep, .ref es, .int sz0, .int sy, .int dn]))]) (va_A [(h1, .inr (4, [.ref ek, .ref ef, .ref ew, .ref ep, .ref es, .int sz0, .int sy, .int dn]))] sz)) 0 0 (va_A [(h1, .inr (4, [.ref ek, .ref ef, .ref ew, .ref ep, .ref es, .int sz0, .int sy, .int dn]))] sz) := by
  refine Met.ofW (cc := cX4_has) (maxL := 2) (ret := (some .boolean)) (by decide) rfl ?_
  intro p e s m args below meth c s₁ B hml hv
  obtain ⟨rfl, hsz, hP, hK, hD0, hN⟩ := hv
  have hx := B.exec
  have hb := B.bytes
  have hr := B.returns
  have hts0 := atoms_spec (ws := (wW yX4_has cX4_has 2 (some .boolean))) B.pre
  have hts : ∀ w ∈ lw_G, w.before ([.ref h1, .int i] : List Value).toArray s = true := fun w h => hts0 w (List.mem_cons_of_mem _ h)
  have hown : s.vm.findClass RX4 = some m.cls := findClass_of_methodNamed B.named
  have hlocks := B.notSynchronized
  subst hsz
  have hD := hD0.self (sz := s.heap.size)
  generalize hAe : va_A [(h1, .inr (4, [.ref ek, .ref ef, .ref ew, .ref ep, .ref es, .int sz0, .int sy, .int dn]))] s.heap.size = A at hD ⊢
  have hA : ∀ q : Nat, s.heap.size ≤ q → A q := fun q h => by rw [← hAe]; exact Or.inr h
  obtain ⟨H, hHe⟩ : ∃ H : Heap, H = s.heap := ⟨_, rfl⟩
  have hS : va_S A s.heap H [] := by rw [hHe]; exact va_S.rf
  have hP : va_P (dC, dI) classes [(h1, .inr (4, [.ref ek, .ref ef, .ref ew, .ref ep, .ref es, .int sz0, .int sy, .int dn]))] H := by rw [hHe]; exact hP
  have hl := lv_entry ([.ref h1, .int i]) (n := 2) (Nat.le_of_ble_eq_true rfl)
  rw [lg_entry_eq]
  generalize (lg_sl ([.ref h1, .int i]) ++ List.replicate (2 - (lg_sl ([.ref h1, .int i])).length) Slot.unset).toArray = ls at hl ⊢
  have hl : lv_has ls 2 [(0, .ref h1), (1, .int i)] := hl
  rw [← hHe]
  refine lv_iload_n hx hb dX4_has_0 rfl (lv_at hl 1 rfl) ?_
  refine lv_if_lt (tgt := 16) hx hb dX4_has_1 (by decide) (fun c_1 => ?_) (fun c_1 => ?_)
  · refine lv_iconst (v := 0) hx hb dX4_has_16 (by decide) ?_
    have hP9 := hP.sub (ws' := [(h1, .inr (4, [.ref ek, .ref ef, .ref ew, .ref ep, .ref es, .int sz0, .int sy, .int dn]))]) [0] rfl
    have hD9 := hD.sub (ws' := [(h1, .inr (4, [.ref ek, .ref ef, .ref ew, .ref ep, .ref es, .int sz0, .int sy, .int dn]))]) [0] (by decide) rfl
    refine W.widen (k := 0) (n := 0) (by omega) (by omega) ?_
    exact W.zret (v := 0) hx hb hr rfl (fun t ht hW => ⟨⟨0, (), rfl, by simp_all, by rw [ht]; exact hP9, va_K.moved hW.alike hK, hD9⟩, hS.F ht⟩) hS.2.2 dX4_has_17
  · refine lv_iload_n hx hb dX4_has_4 rfl (lv_at hl 1 rfl) ?_
    refine lv_aload_n hx hb dX4_has_5 rfl (lv_at hl 0 rfl) ?_
    refine va_get (D := (dC, dI)) (ci := 4) (v := .int sz0) (C := RX4) (T := TX4) (N := 8) hx hb hts inX4 hown hK hP 0 rfl rfl 5 (by decide) (hts _ (gw kw_48 rfl)) (fun _ h9 => h9) rfl dX4_has_6 ?_
    refine lv_icmp_ge (tgt := 16) hx hb dX4_has_9 (by decide) (fun c_2 => ?_) (fun c_2 => ?_)
    · refine lv_iconst (v := 0) hx hb dX4_has_16 (by decide) ?_
      have hP9 := hP.sub (ws' := [(h1, .inr (4, [.ref ek, .ref ef, .ref ew, .ref ep, .ref es, .int sz0, .int sy, .int dn]))]) [0] rfl
      have hD9 := hD.sub (ws' := [(h1, .inr (4, [.ref ek, .ref ef, .ref ew, .ref ep, .ref es, .int sz0, .int sy, .int dn]))]) [0] (by decide) rfl
      refine W.widen (k := 0) (n := 0) (by omega) (by omega) ?_
      exact W.zret (v := 0) hx hb hr rfl (fun t ht hW => ⟨⟨0, (), rfl, by simp_all, by rw [ht]; exact hP9, va_K.moved hW.alike hK, hD9⟩, hS.F ht⟩) hS.2.2 dX4_has_17
    · refine lv_iconst (v := 1) hx hb dX4_has_12 (by decide) ?_
      refine lv_goto (tgt := 17) hx hb dX4_has_13 (by decide) ?_
      have hP9 := hP.sub (ws' := [(h1, .inr (4, [.ref ek, .ref ef, .ref ew, .ref ep, .ref es, .int sz0, .int sy, .int dn]))]) [0] rfl
      have hD9 := hD.sub (ws' := [(h1, .inr (4, [.ref ek, .ref ef, .ref ew, .ref ep, .ref es, .int sz0, .int sy, .int dn]))]) [0] (by decide) rfl
      refine W.widen (k := 0) (n := 0) (by omega) (by omega) ?_
      exact W.zret (v := 1) hx hb hr rfl (fun t ht hW => ⟨⟨1, (), rfl, by simp_all, by rw [ht]; exact hP9, va_K.moved hW.alike hK, hD9⟩, hS.F ht⟩) hS.2.2 dX4_has_17

set_option maxHeartbeats 4000000 in
set_option maxRecDepth 100000 in
/-- X4_isOver -/
theorem c_X4_isOver (l : Launch) (dC : Nat → ClassId) (dI : Nat → Nat → Nat) (aC : Nat → ClassId) (sz : Nat) (h1 : Nat) (ek : Nat) (ef : Nat) (ew : Nat) (ep : Nat) (es : Nat) (sz0 : Int32) (sy : Int32) (dn : Int32)  : Met l yX4_isOver (wW yX4_isOver cX4_isOver 1 (some .boolean)) ({ frames := 0, cells := 0, slots := 0, locals := 0 } : Room) (va_Pc [.ref h1] (fun U => U.heap.size = sz ∧ va_P (dC, dI) classes [(h1, .inr (4, [.ref ek, .ref ef, .ref ew, .ref ep, .ref es, .int sz0, .int sy, .int dn]))] U.heap ∧ va_K (dC, dI) classes (TY aC) U ∧ va_D (fun _ => True) [(h1, .inr (4, [.ref ek, .ref ef, .ref ew, .ref ep, .ref es, .int sz0, .int sy, .int dn]))] ∧ NX U)) (va_Qi (fun (r : Int32) (_ : Unit) => r = if sz0 = 0 ∨ ¬ dn = 0 then 1 else 0) (fun (_ : Unit) (t : State) => va_P (dC, dI) classes [(h1, .inr (4, [.ref ek, .ref ef, .ref ew, .ref ep, .ref es, .int sz0, .int sy, .int dn]))] t.heap ∧ va_K (dC, dI) classes (TY aC) t ∧ va_D (va_A [(h1, .inr (4, [.ref ek, .ref ef, .ref ew, .ref ep, .ref es, .int sz0, .int sy, .int dn]))] sz) [(h1, .inr (4, [.ref ek, .ref ef, .ref ew, .ref ep, .ref es, .int sz0, .int sy, .int dn]))]) (va_A [(h1, .inr (4, [.ref ek, .ref ef, .ref ew, .ref ep, .ref es, .int sz0, .int sy, .int dn]))] sz)) 0 0 (va_A [(h1, .inr (4, [.ref ek, .ref ef, .ref ew, .ref ep, .ref es, .int sz0, .int sy, .int dn]))] sz) := by
  refine Met.ofW (cc := cX4_isOver) (maxL := 1) (ret := (some .boolean)) (by decide) rfl ?_
  intro p e s m args below meth c s₁ B hml hv
  obtain ⟨rfl, hsz, hP, hK, hD0, hN⟩ := hv
  have hx := B.exec
  have hb := B.bytes
  have hr := B.returns
  have hts0 := atoms_spec (ws := (wW yX4_isOver cX4_isOver 1 (some .boolean))) B.pre
  have hts : ∀ w ∈ lw_G, w.before ([.ref h1] : List Value).toArray s = true := fun w h => hts0 w (List.mem_cons_of_mem _ h)
  have hown : s.vm.findClass RX4 = some m.cls := findClass_of_methodNamed B.named
  have hlocks := B.notSynchronized
  subst hsz
  have hD := hD0.self (sz := s.heap.size)
  generalize hAe : va_A [(h1, .inr (4, [.ref ek, .ref ef, .ref ew, .ref ep, .ref es, .int sz0, .int sy, .int dn]))] s.heap.size = A at hD ⊢
  have hA : ∀ q : Nat, s.heap.size ≤ q → A q := fun q h => by rw [← hAe]; exact Or.inr h
  obtain ⟨H, hHe⟩ : ∃ H : Heap, H = s.heap := ⟨_, rfl⟩
  have hS : va_S A s.heap H [] := by rw [hHe]; exact va_S.rf
  have hP : va_P (dC, dI) classes [(h1, .inr (4, [.ref ek, .ref ef, .ref ew, .ref ep, .ref es, .int sz0, .int sy, .int dn]))] H := by rw [hHe]; exact hP
  have hl := lv_entry ([.ref h1]) (n := 1) (Nat.le_of_ble_eq_true rfl)
  rw [lg_entry_eq]
  generalize (lg_sl ([.ref h1]) ++ List.replicate (1 - (lg_sl ([.ref h1])).length) Slot.unset).toArray = ls at hl ⊢
  have hl : lv_has ls 1 [(0, .ref h1)] := hl
  rw [← hHe]
  refine lv_aload_n hx hb dX4_isOver_0 rfl (lv_at hl 0 rfl) ?_
  refine va_get (D := (dC, dI)) (ci := 4) (v := .int sz0) (C := RX4) (T := TX4) (N := 8) hx hb hts inX4 hown hK hP 0 rfl rfl 5 (by decide) (hts _ (gw kw_48 rfl)) (fun _ h9 => h9) rfl dX4_isOver_1 ?_
  refine lv_if_eq (tgt := 14) hx hb dX4_isOver_4 (by decide) (fun c_1 => ?_) (fun c_1 => ?_)
  · refine lv_iconst (v := 1) hx hb dX4_isOver_14 (by decide) ?_
    refine lv_goto (tgt := 19) hx hb dX4_isOver_15 (by decide) ?_
    have hP9 := hP.sub (ws' := [(h1, .inr (4, [.ref ek, .ref ef, .ref ew, .ref ep, .ref es, .int sz0, .int sy, .int dn]))]) [0] rfl
    have hD9 := hD.sub (ws' := [(h1, .inr (4, [.ref ek, .ref ef, .ref ew, .ref ep, .ref es, .int sz0, .int sy, .int dn]))]) [0] (by decide) rfl
    refine W.widen (k := 0) (n := 0) (by omega) (by omega) ?_
    exact W.zret (v := 1) hx hb hr rfl (fun t ht hW => ⟨⟨1, (), rfl, by simp_all, by rw [ht]; exact hP9, va_K.moved hW.alike hK, hD9⟩, hS.F ht⟩) hS.2.2 dX4_isOver_19
  · refine lv_aload_n hx hb dX4_isOver_7 rfl (lv_at hl 0 rfl) ?_
    refine va_get (D := (dC, dI)) (ci := 4) (v := .int dn) (C := RX4) (T := TX4) (N := 8) hx hb hts inX4 hown hK hP 0 rfl rfl 7 (by decide) (hts _ (gw kw_53 rfl)) (fun _ h9 => h9) rfl dX4_isOver_8 ?_
    refine lv_if_eq (tgt := 18) hx hb dX4_isOver_11 (by decide) (fun c_2 => ?_) (fun c_2 => ?_)
    · refine lv_iconst (v := 0) hx hb dX4_isOver_18 (by decide) ?_
      have hP9 := hP.sub (ws' := [(h1, .inr (4, [.ref ek, .ref ef, .ref ew, .ref ep, .ref es, .int sz0, .int sy, .int dn]))]) [0] rfl
      have hD9 := hD.sub (ws' := [(h1, .inr (4, [.ref ek, .ref ef, .ref ew, .ref ep, .ref es, .int sz0, .int sy, .int dn]))]) [0] (by decide) rfl
      refine W.widen (k := 0) (n := 0) (by omega) (by omega) ?_
      exact W.zret (v := 0) hx hb hr rfl (fun t ht hW => ⟨⟨0, (), rfl, by simp_all, by rw [ht]; exact hP9, va_K.moved hW.alike hK, hD9⟩, hS.F ht⟩) hS.2.2 dX4_isOver_19
    · refine lv_iconst (v := 1) hx hb dX4_isOver_14 (by decide) ?_
      refine lv_goto (tgt := 19) hx hb dX4_isOver_15 (by decide) ?_
      have hP9 := hP.sub (ws' := [(h1, .inr (4, [.ref ek, .ref ef, .ref ew, .ref ep, .ref es, .int sz0, .int sy, .int dn]))]) [0] rfl
      have hD9 := hD.sub (ws' := [(h1, .inr (4, [.ref ek, .ref ef, .ref ew, .ref ep, .ref es, .int sz0, .int sy, .int dn]))]) [0] (by decide) rfl
      refine W.widen (k := 0) (n := 0) (by omega) (by omega) ?_
      exact W.zret (v := 1) hx hb hr rfl (fun t ht hW => ⟨⟨1, (), rfl, by simp_all, by rw [ht]; exact hP9, va_K.moved hW.alike hK, hD9⟩, hS.F ht⟩) hS.2.2 dX4_isOver_19
