set_option maxHeartbeats 4000000 in
set_option maxRecDepth 100000 in
/-- refuse(w): w is counted -/
theorem c_X11_refuse (l : Launch) (dC : Nat → ClassId) (dI : Nat → Nat → Nat) (aC : Nat → ClassId) (sz : Nat) (h0 : Nat) (xp : Nat) (xtp : Nat) (xn : Nat) (xt : Nat) (xk : Nat) (xl : Nat) (xc : Nat) (xo : Nat) (xto : Nat) (xr : Nat) (xch : Nat) (ts : Int32) (ik : Int32) (st : Int32) (w : Int32) (k : Nat) (rf : Nat → Int32) (hw1 : w < 0) (hw2 : -6 ≤ w) (hk : (-w).toNatClampNeg = k) (hki : vp_in (-w) 7) : Met l yX11_refuse (wW yX11_refuse cX11_refuse 2 (some .int)) ({ frames := 0, cells := 0, slots := 0, locals := 0 } : Room) (va_Pc [.ref h0, .int w] (fun U => U.heap.size = sz ∧ va_P (dC, dI) classes [(h0, .inr (11, [.ref xp, .ref xtp, .ref xn, .ref xt, .ref xk, .ref xl, .ref xc, .ref xo, .ref xto, .ref xr, .ref xch, .int ts, .int ik, .int st])), (xr, .inl (aC 0, 7, .inl rf))] U.heap ∧ va_K (dC, dI) classes (TY aC) U ∧ va_D (fun _ => True) [(h0, .inr (11, [.ref xp, .ref xtp, .ref xn, .ref xt, .ref xk, .ref xl, .ref xc, .ref xo, .ref xto, .ref xr, .ref xch, .int ts, .int ik, .int st])), (xr, .inl (aC 0, 7, .inl rf))] ∧ NX U)) (va_Qi (fun (r : Int32) (rf2 : Nat → Int32) => r = w ∧ rf2 = upd rf k (rf k + 1)) (fun (rf2 : Nat → Int32) (t : State) => va_P (dC, dI) classes [(h0, .inr (11, [.ref xp, .ref xtp, .ref xn, .ref xt, .ref xk, .ref xl, .ref xc, .ref xo, .ref xto, .ref xr, .ref xch, .int ts, .int ik, .int st])), (xr, .inl (aC 0, 7, .inl rf2))] t.heap ∧ va_K (dC, dI) classes (TY aC) t ∧ va_D (va_A [(h0, .inr (11, [.ref xp, .ref xtp, .ref xn, .ref xt, .ref xk, .ref xl, .ref xc, .ref xo, .ref xto, .ref xr, .ref xch, .int ts, .int ik, .int st])), (xr, .inl (aC 0, 7, .inl rf))] sz) [(h0, .inr (11, [.ref xp, .ref xtp, .ref xn, .ref xt, .ref xk, .ref xl, .ref xc, .ref xo, .ref xto, .ref xr, .ref xch, .int ts, .int ik, .int st])), (xr, .inl (aC 0, 7, .inl rf2))]) (va_A [(h0, .inr (11, [.ref xp, .ref xtp, .ref xn, .ref xt, .ref xk, .ref xl, .ref xc, .ref xo, .ref xto, .ref xr, .ref xch, .int ts, .int ik, .int st])), (xr, .inl (aC 0, 7, .inl rf))] sz)) 0 0 (va_A [(h0, .inr (11, [.ref xp, .ref xtp, .ref xn, .ref xt, .ref xk, .ref xl, .ref xc, .ref xo, .ref xto, .ref xr, .ref xch, .int ts, .int ik, .int st])), (xr, .inl (aC 0, 7, .inl rf))] sz) := by
  refine Met.ofW (cc := cX11_refuse) (maxL := 2) (ret := (some .int)) (by decide) rfl ?_
  intro p e s m args below meth c s₁ B hml hv
  obtain ⟨rfl, hsz, hP, hK, hD0, hN⟩ := hv
  have hx := B.exec
  have hb := B.bytes
  have hr := B.returns
  have hts0 := atoms_spec (ws := (wW yX11_refuse cX11_refuse 2 (some .int))) B.pre
  have hts : ∀ w9 ∈ lw_G, w9.before ([.ref h0, .int w] : List Value).toArray s = true := fun w9 h9 => hts0 w9 (List.mem_cons_of_mem _ h9)
  have hown : s.vm.findClass RX11 = some m.cls := findClass_of_methodNamed B.named
  have hlocks := B.notSynchronized
  subst hsz
  have hD := hD0.self (sz := s.heap.size)
  generalize hAe : va_A [(h0, .inr (11, [.ref xp, .ref xtp, .ref xn, .ref xt, .ref xk, .ref xl, .ref xc, .ref xo, .ref xto, .ref xr, .ref xch, .int ts, .int ik, .int st])), (xr, .inl (aC 0, 7, .inl rf))] s.heap.size = A at hD ⊢
  have hA : ∀ q : Nat, s.heap.size ≤ q → A q := fun q h => by rw [← hAe]; exact Or.inr h
  obtain ⟨H, hHe⟩ : ∃ H : Heap, H = s.heap := ⟨_, rfl⟩
  have hS : va_S A s.heap H [] := by rw [hHe]; exact va_S.rf
  have hP : va_P (dC, dI) classes [(h0, .inr (11, [.ref xp, .ref xtp, .ref xn, .ref xt, .ref xk, .ref xl, .ref xc, .ref xo, .ref xto, .ref xr, .ref xch, .int ts, .int ik, .int st])), (xr, .inl (aC 0, 7, .inl rf))] H := by rw [hHe]; exact hP
  have hl := lv_entry ([.ref h0, .int w]) (n := 2) (Nat.le_of_ble_eq_true rfl)
  rw [lg_entry_eq]
  generalize (lg_sl ([.ref h0, .int w]) ++ List.replicate (2 - (lg_sl ([.ref h0, .int w])).length) Slot.unset).toArray = ls at hl ⊢
  have hl : lv_has ls 2 [(0, .ref h0), (1, .int w)] := hl
  rw [← hHe]
  refine lv_iload_n hx hb dX11_refuse_0 rfl (lv_at hl 1 rfl) ?_
  refine lv_if_ge (tgt := 21) hx hb dX11_refuse_1 (by decide) (fun c_1 => ?_) (fun c_1 => ?_)
  · exact absurd hw1 (Int32.not_lt.mpr c_1)
  · refine lv_iload_n hx hb dX11_refuse_4 rfl (lv_at hl 1 rfl) ?_
    refine lv_bipush (v := -6) hx hb dX11_refuse_5 (by decide) ?_
    refine lv_icmp_lt (tgt := 21) hx hb dX11_refuse_7 (by decide) (fun c_2 => ?_) (fun c_2 => ?_)
    · exact absurd hw2 (Int32.not_le.mpr c_2)
    · refine lv_aload_n hx hb dX11_refuse_10 rfl (lv_at hl 0 rfl) ?_
      refine va_get (D := (dC, dI)) (ci := 11) (v := .ref xr) (C := RX11) (T := TX11) (N := 14) hx hb hts inX11 hown hK hP 0 rfl rfl 9 (by decide) (hts _ (gw kw_235 rfl)) (fun _ h9 => h9) rfl dX11_refuse_11 ?_
      refine lv_iload_n hx hb dX11_refuse_14 rfl (lv_at hl 1 rfl) ?_
      refine lv_ineg hx hb dX11_refuse_15 ?_
      refine lv_topi (fun x_3 e_3 => ?_)
      refine lv_dup2_11 hx hb dX11_refuse_16 rfl rfl ?_
      have h_4 : vp_in x_3 7 := by rw [e_3]; exact hki
      refine va_iald hx hb hK hP 1 0 rfl rfl h_4 dX11_refuse_17 ?_
      refine lv_topi (fun x_5 e_5 => ?_)
      refine lv_iconst (v := 1) hx hb dX11_refuse_18 (by decide) ?_
      refine lv_iadd hx hb dX11_refuse_19 ?_
      refine lv_topi (fun x_6 e_6 => ?_)
      have h_7 : vp_in x_3 7 := by rw [e_3]; exact hki
      refine va_iast hx hb hK hP hD hS 1 0 rfl rfl h_7 dX11_refuse_20 (fun H locs hP hD hS => ?_)
      obtain ⟨f_8, e_f_8⟩ : ∃ y : Nat → Int32, y = upd rf (x_3 : Int32).toNatClampNeg x_6 := ⟨_, rfl⟩
      have hP : va_P (dC, dI) classes [(h0, .inr (11, [.ref xp, .ref xtp, .ref xn, .ref xt, .ref xk, .ref xl, .ref xc, .ref xo, .ref xto, .ref xr, .ref xch, .int ts, .int ik, .int st])), (xr, .inl (aC 0, 7, .inl f_8))] H := by rw [e_f_8]; exact hP
      have hD : va_D A [(h0, .inr (11, [.ref xp, .ref xtp, .ref xn, .ref xt, .ref xk, .ref xl, .ref xc, .ref xo, .ref xto, .ref xr, .ref xch, .int ts, .int ik, .int st])), (xr, .inl (aC 0, 7, .inl f_8))] := by rw [e_f_8]; exact hD
      refine lv_iload_n hx hb dX11_refuse_21 rfl (lv_at hl 1 rfl) ?_
      have hP9 := hP.sub (ws' := [(h0, .inr (11, [.ref xp, .ref xtp, .ref xn, .ref xt, .ref xk, .ref xl, .ref xc, .ref xo, .ref xto, .ref xr, .ref xch, .int ts, .int ik, .int st])), (xr, .inl (aC 0, 7, .inl f_8))]) [0, 1] rfl
      have hD9 := hD.sub (ws' := [(h0, .inr (11, [.ref xp, .ref xtp, .ref xn, .ref xt, .ref xk, .ref xl, .ref xc, .ref xo, .ref xto, .ref xr, .ref xch, .int ts, .int ik, .int st])), (xr, .inl (aC 0, 7, .inl f_8))]) [0, 1] (by decide) rfl
      refine W.widen (k := 0) (n := 0) (by omega) (by omega) ?_
      exact W.iret (v := w) hx hb hr (fun t ht hW => ⟨⟨w, (f_8), rfl, ⟨rfl, by subst e_f_8; subst e_6; subst e_5; subst e_3; rw [hk]⟩, by rw [ht]; exact hP9, va_K.moved hW.alike hK, hD9⟩, hS.F ht⟩) hS.2.2 dX11_refuse_22

set_option maxHeartbeats 4000000 in
set_option maxRecDepth 100000 in
/-- X4_has -/
theorem c_X4_has (l : Launch) (dC : Nat → ClassId) (dI : Nat → Nat → Nat) (aC : Nat → ClassId) (sz : Nat) (h1 : Nat) (ek : Nat) (ef : Nat) (ew : Nat) (ep : Nat) (es : Nat) (sz0 : Int32) (sy : Int32) (dn : Int32) (i : Int32)  : Met l yX4_has (wW yX4_has cX4_has 2 (some .boolean)) ({ frames := 0, cells := 0, slots := 0, locals := 0 } : Room) (va_Pc [.ref h1, .int i] (fun U => U.heap.size = sz ∧ va_P (dC, dI) classes [(h1, .inr (4, [.ref ek, .ref ef, .ref ew, .ref ep, .ref es, .int sz0, .int sy, .int dn]))] U.heap ∧ va_K (dC, dI) classes (TY aC) U ∧ va_D (fun _ => True) [(h1, .inr (4, [.ref ek, .ref ef, .ref ew, .ref ep, .ref es, .int sz0, .int sy, .int dn]))] ∧ NX U)) (va_Qi (fun (r : Int32) (_ : Unit) => r = if i < 0 then 0 else if sz0 ≤ i then 0 else 1) (fun (_ : Unit) (t : State) => va_P (dC, dI) classes [(h1, .inr (4, [.ref ek, .ref ef, .ref ew, .ref ep, .ref es, .int sz0, .int sy, .int dn]))] t.heap ∧ va_K (dC, dI) classes (TY aC) t ∧ va_D (va_A [(h1, .inr (4, [.ref ek, .ref ef, .ref ew, .ref ep, .ref es, .int sz0, .int sy, .int dn]))] sz) [(h1, .inr (4, [.ref ek, .ref ef, .ref ew, .ref ep, .ref es, .int sz0, .int sy, .int dn]))]) (va_A [(h1, .inr (4, [.ref ek, .ref ef, .ref ew, .ref ep, .ref es, .int sz0, .int sy, .int dn]))] sz)) 0 0 (va_A [(h1, .inr (4, [.ref ek, .ref ef, .ref ew, .ref ep, .ref es, .int sz0, .int sy, .int dn]))] sz) := by
  refine Met.ofW (cc := cX4_has) (maxL := 2) (ret := (some .boolean)) (by decide) rfl ?_
  intro p e s m args below meth c s₁ B hml hv
  obtain ⟨rfl, hsz, hP, hK, hD0, hN⟩ := hv
  have hx := B.exec
  have hb := B.bytes
  have hr := B.returns
  have hts0 := atoms_spec (ws := (wW yX4_has cX4_has 2 (some .boolean))) B.pre
  have hts : ∀ w9 ∈ lw_G, w9.before ([.ref h1, .int i] : List Value).toArray s = true := fun w9 h9 => hts0 w9 (List.mem_cons_of_mem _ h9)
  have hown : s.vm.findClass RX4 = some m.cls := findClass_of_methodNamed B.named
  have hlocks := B.notSynchronized
  subst hsz
  have hD := hD0.self (sz := s.heap.size)
  generalize hAe : va_A [(h1, .inr (4, [.ref ek, .ref ef, .ref ew, .ref ep, .ref es, .int sz0, .int sy, .int dn]))] s.heap.size = A at hD ⊢
  have hA : ∀ q : Nat, s.heap.size ≤ q → A q := fun q h => by rw [← hAe]; exact Or.inr h
  obtain ⟨H, hHe⟩ : ∃ H : Heap, H = s.heap := ⟨_, rfl⟩
  have hS : va_S A s.heap H [] := by rw [hHe]; exact va_S.rf
  have hP : va_P (dC, dI) classes [(h1, .inr (4, [.ref ek, .ref ef, .ref ew, .ref ep, .ref es, .int sz0, .int sy, .int dn]))] H := by rw [hHe]; exact hP
  have hl := lv_entry ([.ref h1, .int i]) (n := 2) (Nat.le_of_ble_eq_true rfl)
  rw [lg_entry_eq]
  generalize (lg_sl ([.ref h1, .int i]) ++ List.replicate (2 - (lg_sl ([.ref h1, .int i])).length) Slot.unset).toArray = ls at hl ⊢
  have hl : lv_has ls 2 [(0, .ref h1), (1, .int i)] := hl
  rw [← hHe]
  refine lv_iload_n hx hb dX4_has_0 rfl (lv_at hl 1 rfl) ?_
  refine lv_if_lt (tgt := 16) hx hb dX4_has_1 (by decide) (fun c_1 => ?_) (fun c_1 => ?_)
  · refine lv_iconst (v := 0) hx hb dX4_has_16 (by decide) ?_
    have hP9 := hP.sub (ws' := [(h1, .inr (4, [.ref ek, .ref ef, .ref ew, .ref ep, .ref es, .int sz0, .int sy, .int dn]))]) [0] rfl
    have hD9 := hD.sub (ws' := [(h1, .inr (4, [.ref ek, .ref ef, .ref ew, .ref ep, .ref es, .int sz0, .int sy, .int dn]))]) [0] (by decide) rfl
    refine W.widen (k := 0) (n := 0) (by omega) (by omega) ?_
    exact W.zret (v := 0) hx hb hr rfl (fun t ht hW => ⟨⟨0, (), rfl, by simp [c_1], by rw [ht]; exact hP9, va_K.moved hW.alike hK, hD9⟩, hS.F ht⟩) hS.2.2 dX4_has_17
  · refine lv_iload_n hx hb dX4_has_4 rfl (lv_at hl 1 rfl) ?_
    refine lv_aload_n hx hb dX4_has_5 rfl (lv_at hl 0 rfl) ?_
    refine va_get (D := (dC, dI)) (ci := 4) (v := .int sz0) (C := RX4) (T := TX4) (N := 8) hx hb hts inX4 hown hK hP 0 rfl rfl 5 (by decide) (hts _ (gw kw_48 rfl)) (fun _ h9 => h9) rfl dX4_has_6 ?_
    refine lv_icmp_ge (tgt := 16) hx hb dX4_has_9 (by decide) (fun c_2 => ?_) (fun c_2 => ?_)
    · refine lv_iconst (v := 0) hx hb dX4_has_16 (by decide) ?_
      have hP9 := hP.sub (ws' := [(h1, .inr (4, [.ref ek, .ref ef, .ref ew, .ref ep, .ref es, .int sz0, .int sy, .int dn]))]) [0] rfl
      have hD9 := hD.sub (ws' := [(h1, .inr (4, [.ref ek, .ref ef, .ref ew, .ref ep, .ref es, .int sz0, .int sy, .int dn]))]) [0] (by decide) rfl
      refine W.widen (k := 0) (n := 0) (by omega) (by omega) ?_
      exact W.zret (v := 0) hx hb hr rfl (fun t ht hW => ⟨⟨0, (), rfl, by simp [c_1, c_2], by rw [ht]; exact hP9, va_K.moved hW.alike hK, hD9⟩, hS.F ht⟩) hS.2.2 dX4_has_17
    · refine lv_iconst (v := 1) hx hb dX4_has_12 (by decide) ?_
      refine lv_goto (tgt := 17) hx hb dX4_has_13 (by decide) ?_
      have hP9 := hP.sub (ws' := [(h1, .inr (4, [.ref ek, .ref ef, .ref ew, .ref ep, .ref es, .int sz0, .int sy, .int dn]))]) [0] rfl
      have hD9 := hD.sub (ws' := [(h1, .inr (4, [.ref ek, .ref ef, .ref ew, .ref ep, .ref es, .int sz0, .int sy, .int dn]))]) [0] (by decide) rfl
      refine W.widen (k := 0) (n := 0) (by omega) (by omega) ?_
      exact W.zret (v := 1) hx hb hr rfl (fun t ht hW => ⟨⟨1, (), rfl, by simp [c_1, c_2], by rw [ht]; exact hP9, va_K.moved hW.alike hK, hD9⟩, hS.F ht⟩) hS.2.2 dX4_has_17

set_option maxHeartbeats 4000000 in
set_option maxRecDepth 100000 in
/-- X4_isOver -/
theorem c_X4_isOver (l : Launch) (dC : Nat → ClassId) (dI : Nat → Nat → Nat) (aC : Nat → ClassId) (sz : Nat) (h1 : Nat) (ek : Nat) (ef : Nat) (ew : Nat) (ep : Nat) (es : Nat) (sz0 : Int32) (sy : Int32) (dn : Int32)  : Met l yX4_isOver (wW yX4_isOver cX4_isOver 1 (some .boolean)) ({ frames := 0, cells := 0, slots := 0, locals := 0 } : Room) (va_Pc [.ref h1] (fun U => U.heap.size = sz ∧ va_P (dC, dI) classes [(h1, .inr (4, [.ref ek, .ref ef, .ref ew, .ref ep, .ref es, .int sz0, .int sy, .int dn]))] U.heap ∧ va_K (dC, dI) classes (TY aC) U ∧ va_D (fun _ => True) [(h1, .inr (4, [.ref ek, .ref ef, .ref ew, .ref ep, .ref es, .int sz0, .int sy, .int dn]))] ∧ NX U)) (va_Qi (fun (r : Int32) (_ : Unit) => r = if sz0 = 0 then 1 else if dn = 0 then 0 else 1) (fun (_ : Unit) (t : State) => va_P (dC, dI) classes [(h1, .inr (4, [.ref ek, .ref ef, .ref ew, .ref ep, .ref es, .int sz0, .int sy, .int dn]))] t.heap ∧ va_K (dC, dI) classes (TY aC) t ∧ va_D (va_A [(h1, .inr (4, [.ref ek, .ref ef, .ref ew, .ref ep, .ref es, .int sz0, .int sy, .int dn]))] sz) [(h1, .inr (4, [.ref ek, .ref ef, .ref ew, .ref ep, .ref es, .int sz0, .int sy, .int dn]))]) (va_A [(h1, .inr (4, [.ref ek, .ref ef, .ref ew, .ref ep, .ref es, .int sz0, .int sy, .int dn]))] sz)) 0 0 (va_A [(h1, .inr (4, [.ref ek, .ref ef, .ref ew, .ref ep, .ref es, .int sz0, .int sy, .int dn]))] sz) := by
  refine Met.ofW (cc := cX4_isOver) (maxL := 1) (ret := (some .boolean)) (by decide) rfl ?_
  intro p e s m args below meth c s₁ B hml hv
  obtain ⟨rfl, hsz, hP, hK, hD0, hN⟩ := hv
  have hx := B.exec
  have hb := B.bytes
  have hr := B.returns
  have hts0 := atoms_spec (ws := (wW yX4_isOver cX4_isOver 1 (some .boolean))) B.pre
  have hts : ∀ w9 ∈ lw_G, w9.before ([.ref h1] : List Value).toArray s = true := fun w9 h9 => hts0 w9 (List.mem_cons_of_mem _ h9)
  have hown : s.vm.findClass RX4 = some m.cls := findClass_of_methodNamed B.named
  have hlocks := B.notSynchronized
  subst hsz
  have hD := hD0.self (sz := s.heap.size)
  generalize hAe : va_A [(h1, .inr (4, [.ref ek, .ref ef, .ref ew, .ref ep, .ref es, .int sz0, .int sy, .int dn]))] s.heap.size = A at hD ⊢
  have hA : ∀ q : Nat, s.heap.size ≤ q → A q := fun q h => by rw [← hAe]; exact Or.inr h
  obtain ⟨H, hHe⟩ : ∃ H : Heap, H = s.heap := ⟨_, rfl⟩
  have hS : va_S A s.heap H [] := by rw [hHe]; exact va_S.rf
  have hP : va_P (dC, dI) classes [(h1, .inr (4, [.ref ek, .ref ef, .ref ew, .ref ep, .ref es, .int sz0, .int sy, .int dn]))] H := by rw [hHe]; exact hP
  have hl := lv_entry ([.ref h1]) (n := 1) (Nat.le_of_ble_eq_true rfl)
  rw [lg_entry_eq]
  generalize (lg_sl ([.ref h1]) ++ List.replicate (1 - (lg_sl ([.ref h1])).length) Slot.unset).toArray = ls at hl ⊢
  have hl : lv_has ls 1 [(0, .ref h1)] := hl
  rw [← hHe]
  refine lv_aload_n hx hb dX4_isOver_0 rfl (lv_at hl 0 rfl) ?_
  refine va_get (D := (dC, dI)) (ci := 4) (v := .int sz0) (C := RX4) (T := TX4) (N := 8) hx hb hts inX4 hown hK hP 0 rfl rfl 5 (by decide) (hts _ (gw kw_48 rfl)) (fun _ h9 => h9) rfl dX4_isOver_1 ?_
  refine lv_if_eq (tgt := 14) hx hb dX4_isOver_4 (by decide) (fun c_1 => ?_) (fun c_1 => ?_)
  · refine lv_iconst (v := 1) hx hb dX4_isOver_14 (by decide) ?_
    refine lv_goto (tgt := 19) hx hb dX4_isOver_15 (by decide) ?_
    have hP9 := hP.sub (ws' := [(h1, .inr (4, [.ref ek, .ref ef, .ref ew, .ref ep, .ref es, .int sz0, .int sy, .int dn]))]) [0] rfl
    have hD9 := hD.sub (ws' := [(h1, .inr (4, [.ref ek, .ref ef, .ref ew, .ref ep, .ref es, .int sz0, .int sy, .int dn]))]) [0] (by decide) rfl
    refine W.widen (k := 0) (n := 0) (by omega) (by omega) ?_
    exact W.zret (v := 1) hx hb hr rfl (fun t ht hW => ⟨⟨1, (), rfl, by simp [c_1], by rw [ht]; exact hP9, va_K.moved hW.alike hK, hD9⟩, hS.F ht⟩) hS.2.2 dX4_isOver_19
  · refine lv_aload_n hx hb dX4_isOver_7 rfl (lv_at hl 0 rfl) ?_
    refine va_get (D := (dC, dI)) (ci := 4) (v := .int dn) (C := RX4) (T := TX4) (N := 8) hx hb hts inX4 hown hK hP 0 rfl rfl 7 (by decide) (hts _ (gw kw_53 rfl)) (fun _ h9 => h9) rfl dX4_isOver_8 ?_
    refine lv_if_eq (tgt := 18) hx hb dX4_isOver_11 (by decide) (fun c_2 => ?_) (fun c_2 => ?_)
    · refine lv_iconst (v := 0) hx hb dX4_isOver_18 (by decide) ?_
      have hP9 := hP.sub (ws' := [(h1, .inr (4, [.ref ek, .ref ef, .ref ew, .ref ep, .ref es, .int sz0, .int sy, .int dn]))]) [0] rfl
      have hD9 := hD.sub (ws' := [(h1, .inr (4, [.ref ek, .ref ef, .ref ew, .ref ep, .ref es, .int sz0, .int sy, .int dn]))]) [0] (by decide) rfl
      refine W.widen (k := 0) (n := 0) (by omega) (by omega) ?_
      exact W.zret (v := 0) hx hb hr rfl (fun t ht hW => ⟨⟨0, (), rfl, by simp [c_1, c_2], by rw [ht]; exact hP9, va_K.moved hW.alike hK, hD9⟩, hS.F ht⟩) hS.2.2 dX4_isOver_19
    · refine lv_iconst (v := 1) hx hb dX4_isOver_14 (by decide) ?_
      refine lv_goto (tgt := 19) hx hb dX4_isOver_15 (by decide) ?_
      have hP9 := hP.sub (ws' := [(h1, .inr (4, [.ref ek, .ref ef, .ref ew, .ref ep, .ref es, .int sz0, .int sy, .int dn]))]) [0] rfl
      have hD9 := hD.sub (ws' := [(h1, .inr (4, [.ref ek, .ref ef, .ref ew, .ref ep, .ref es, .int sz0, .int sy, .int dn]))]) [0] (by decide) rfl
      refine W.widen (k := 0) (n := 0) (by omega) (by omega) ?_
      exact W.zret (v := 1) hx hb hr rfl (fun t ht hW => ⟨⟨1, (), rfl, by simp [c_1, c_2], by rw [ht]; exact hP9, va_K.moved hW.alike hK, hD9⟩, hS.F ht⟩) hS.2.2 dX4_isOver_19

set_option maxHeartbeats 4000000 in
set_option maxRecDepth 100000 in
/-- X12_no -/
theorem c_X12_no (l : Launch) (dC : Nat → ClassId) (dI : Nat → Nat → Nat) (aC : Nat → ClassId) (sz : Nat) (g0 : Nat) (m_refused : Nat) (m_kind : Nat) (m_figure : Nat) (m_weight : Nat) (m_got : Nat) (m_setting : Nat) (m_tape : Nat) (m_letter : Nat) (m_letterAt : Nat) (m_told : Nat) (m_kept : Nat) (m_price : Nat) (m_offer : Nat) (m_gets : Nat) (m_yes : Nat) (m_buys : Nat) (m_ends : Nat) (m_carried : Nat) (m_row : Nat) (m_keptRow : Nat) (m_likeGets : Nat) (m_likePrice : Nat) (m_ahead : Nat) (men : Int32) (msy : Int32) (mdn : Int32) (tp : Int32) (mat : Int32) (stm : Int32) (hi : Int32) (ki : Int32) (cu : Int32) (rm : Int32) (w : Int32) (k : Nat) (mr : Nat → Int32) (hk : (-w).toNatClampNeg = k) (hki : vp_in (-w) 7) : Met l yX12_no (wW yX12_no cX12_no 2 (some .int)) ({ frames := 0, cells := 0, slots := 0, locals := 0 } : Room) (va_Pc [.ref g0, .int w] (fun U => U.heap.size = sz ∧ va_P (dC, dI) classes [(g0, .inr (12, [.ref m_refused, .ref m_kind, .ref m_figure, .ref m_weight, .ref m_got, .ref m_setting, .int men, .int msy, .int mdn, .ref m_tape, .ref m_letter, .ref m_letterAt, .ref m_told, .int tp, .int mat, .int stm, .ref m_kept, .int hi, .int ki, .int cu, .ref m_price, .ref m_offer, .ref m_gets, .ref m_yes, .ref m_buys, .ref m_ends, .ref m_carried, .ref m_row, .int rm, .ref m_keptRow, .ref m_likeGets, .ref m_likePrice, .ref m_ahead])), (m_refused, .inl (aC 0, 7, .inl mr))] U.heap ∧ va_K (dC, dI) classes (TY aC) U ∧ va_D (fun _ => True) [(g0, .inr (12, [.ref m_refused, .ref m_kind, .ref m_figure, .ref m_weight, .ref m_got, .ref m_setting, .int men, .int msy, .int mdn, .ref m_tape, .ref m_letter, .ref m_letterAt, .ref m_told, .int tp, .int mat, .int stm, .ref m_kept, .int hi, .int ki, .int cu, .ref m_price, .ref m_offer, .ref m_gets, .ref m_yes, .ref m_buys, .ref m_ends, .ref m_carried, .ref m_row, .int rm, .ref m_keptRow, .ref m_likeGets, .ref m_likePrice, .ref m_ahead])), (m_refused, .inl (aC 0, 7, .inl mr))] ∧ NX U)) (va_Qi (fun (r : Int32) (mr2 : Nat → Int32) => r = w ∧ mr2 = upd mr k (mr k + 1)) (fun (mr2 : Nat → Int32) (t : State) => va_P (dC, dI) classes [(g0, .inr (12, [.ref m_refused, .ref m_kind, .ref m_figure, .ref m_weight, .ref m_got, .ref m_setting, .int men, .int msy, .int mdn, .ref m_tape, .ref m_letter, .ref m_letterAt, .ref m_told, .int tp, .int mat, .int stm, .ref m_kept, .int hi, .int ki, .int cu, .ref m_price, .ref m_offer, .ref m_gets, .ref m_yes, .ref m_buys, .ref m_ends, .ref m_carried, .ref m_row, .int rm, .ref m_keptRow, .ref m_likeGets, .ref m_likePrice, .ref m_ahead])), (m_refused, .inl (aC 0, 7, .inl mr2))] t.heap ∧ va_K (dC, dI) classes (TY aC) t ∧ va_D (va_A [(g0, .inr (12, [.ref m_refused, .ref m_kind, .ref m_figure, .ref m_weight, .ref m_got, .ref m_setting, .int men, .int msy, .int mdn, .ref m_tape, .ref m_letter, .ref m_letterAt, .ref m_told, .int tp, .int mat, .int stm, .ref m_kept, .int hi, .int ki, .int cu, .ref m_price, .ref m_offer, .ref m_gets, .ref m_yes, .ref m_buys, .ref m_ends, .ref m_carried, .ref m_row, .int rm, .ref m_keptRow, .ref m_likeGets, .ref m_likePrice, .ref m_ahead])), (m_refused, .inl (aC 0, 7, .inl mr))] sz) [(g0, .inr (12, [.ref m_refused, .ref m_kind, .ref m_figure, .ref m_weight, .ref m_got, .ref m_setting, .int men, .int msy, .int mdn, .ref m_tape, .ref m_letter, .ref m_letterAt, .ref m_told, .int tp, .int mat, .int stm, .ref m_kept, .int hi, .int ki, .int cu, .ref m_price, .ref m_offer, .ref m_gets, .ref m_yes, .ref m_buys, .ref m_ends, .ref m_carried, .ref m_row, .int rm, .ref m_keptRow, .ref m_likeGets, .ref m_likePrice, .ref m_ahead])), (m_refused, .inl (aC 0, 7, .inl mr2))]) (va_A [(g0, .inr (12, [.ref m_refused, .ref m_kind, .ref m_figure, .ref m_weight, .ref m_got, .ref m_setting, .int men, .int msy, .int mdn, .ref m_tape, .ref m_letter, .ref m_letterAt, .ref m_told, .int tp, .int mat, .int stm, .ref m_kept, .int hi, .int ki, .int cu, .ref m_price, .ref m_offer, .ref m_gets, .ref m_yes, .ref m_buys, .ref m_ends, .ref m_carried, .ref m_row, .int rm, .ref m_keptRow, .ref m_likeGets, .ref m_likePrice, .ref m_ahead])), (m_refused, .inl (aC 0, 7, .inl mr))] sz)) 0 0 (va_A [(g0, .inr (12, [.ref m_refused, .ref m_kind, .ref m_figure, .ref m_weight, .ref m_got, .ref m_setting, .int men, .int msy, .int mdn, .ref m_tape, .ref m_letter, .ref m_letterAt, .ref m_told, .int tp, .int mat, .int stm, .ref m_kept, .int hi, .int ki, .int cu, .ref m_price, .ref m_offer, .ref m_gets, .ref m_yes, .ref m_buys, .ref m_ends, .ref m_carried, .ref m_row, .int rm, .ref m_keptRow, .ref m_likeGets, .ref m_likePrice, .ref m_ahead])), (m_refused, .inl (aC 0, 7, .inl mr))] sz) := by
  refine Met.ofW (cc := cX12_no) (maxL := 2) (ret := (some .int)) (by decide) rfl ?_
  intro p e s m args below meth c s₁ B hml hv
  obtain ⟨rfl, hsz, hP, hK, hD0, hN⟩ := hv
  have hx := B.exec
  have hb := B.bytes
  have hr := B.returns
  have hts0 := atoms_spec (ws := (wW yX12_no cX12_no 2 (some .int))) B.pre
  have hts : ∀ w9 ∈ lw_G, w9.before ([.ref g0, .int w] : List Value).toArray s = true := fun w9 h9 => hts0 w9 (List.mem_cons_of_mem _ h9)
  have hown : s.vm.findClass RX12 = some m.cls := findClass_of_methodNamed B.named
  have hlocks := B.notSynchronized
  subst hsz
  have hD := hD0.self (sz := s.heap.size)
  generalize hAe : va_A [(g0, .inr (12, [.ref m_refused, .ref m_kind, .ref m_figure, .ref m_weight, .ref m_got, .ref m_setting, .int men, .int msy, .int mdn, .ref m_tape, .ref m_letter, .ref m_letterAt, .ref m_told, .int tp, .int mat, .int stm, .ref m_kept, .int hi, .int ki, .int cu, .ref m_price, .ref m_offer, .ref m_gets, .ref m_yes, .ref m_buys, .ref m_ends, .ref m_carried, .ref m_row, .int rm, .ref m_keptRow, .ref m_likeGets, .ref m_likePrice, .ref m_ahead])), (m_refused, .inl (aC 0, 7, .inl mr))] s.heap.size = A at hD ⊢
  have hA : ∀ q : Nat, s.heap.size ≤ q → A q := fun q h => by rw [← hAe]; exact Or.inr h
  obtain ⟨H, hHe⟩ : ∃ H : Heap, H = s.heap := ⟨_, rfl⟩
  have hS : va_S A s.heap H [] := by rw [hHe]; exact va_S.rf
  have hP : va_P (dC, dI) classes [(g0, .inr (12, [.ref m_refused, .ref m_kind, .ref m_figure, .ref m_weight, .ref m_got, .ref m_setting, .int men, .int msy, .int mdn, .ref m_tape, .ref m_letter, .ref m_letterAt, .ref m_told, .int tp, .int mat, .int stm, .ref m_kept, .int hi, .int ki, .int cu, .ref m_price, .ref m_offer, .ref m_gets, .ref m_yes, .ref m_buys, .ref m_ends, .ref m_carried, .ref m_row, .int rm, .ref m_keptRow, .ref m_likeGets, .ref m_likePrice, .ref m_ahead])), (m_refused, .inl (aC 0, 7, .inl mr))] H := by rw [hHe]; exact hP
  have hl := lv_entry ([.ref g0, .int w]) (n := 2) (Nat.le_of_ble_eq_true rfl)
  rw [lg_entry_eq]
  generalize (lg_sl ([.ref g0, .int w]) ++ List.replicate (2 - (lg_sl ([.ref g0, .int w])).length) Slot.unset).toArray = ls at hl ⊢
  have hl : lv_has ls 2 [(0, .ref g0), (1, .int w)] := hl
  rw [← hHe]
  refine lv_aload_n hx hb dX12_no_0 rfl (lv_at hl 0 rfl) ?_
  refine va_get (D := (dC, dI)) (ci := 12) (v := .ref m_refused) (C := RX12) (T := TX12) (N := 33) hx hb hts inX12 hown hK hP 0 rfl rfl 0 (by decide) (hts _ (gw kw_717 rfl)) (fun _ h9 => h9) rfl dX12_no_1 ?_
  refine lv_iload_n hx hb dX12_no_4 rfl (lv_at hl 1 rfl) ?_
  refine lv_ineg hx hb dX12_no_5 ?_
  refine lv_topi (fun x_1 e_1 => ?_)
  refine lv_dup2_11 hx hb dX12_no_6 rfl rfl ?_
  have h_2 : vp_in x_1 7 := by rw [e_1]; exact hki
  refine va_iald hx hb hK hP 1 0 rfl rfl h_2 dX12_no_7 ?_
  refine lv_topi (fun x_3 e_3 => ?_)
  refine lv_iconst (v := 1) hx hb dX12_no_8 (by decide) ?_
  refine lv_iadd hx hb dX12_no_9 ?_
  refine lv_topi (fun x_4 e_4 => ?_)
  have h_5 : vp_in x_1 7 := by rw [e_1]; exact hki
  refine va_iast hx hb hK hP hD hS 1 0 rfl rfl h_5 dX12_no_10 (fun H locs hP hD hS => ?_)
  obtain ⟨f_6, e_f_6⟩ : ∃ y : Nat → Int32, y = upd mr (x_1 : Int32).toNatClampNeg x_4 := ⟨_, rfl⟩
  have hP : va_P (dC, dI) classes [(g0, .inr (12, [.ref m_refused, .ref m_kind, .ref m_figure, .ref m_weight, .ref m_got, .ref m_setting, .int men, .int msy, .int mdn, .ref m_tape, .ref m_letter, .ref m_letterAt, .ref m_told, .int tp, .int mat, .int stm, .ref m_kept, .int hi, .int ki, .int cu, .ref m_price, .ref m_offer, .ref m_gets, .ref m_yes, .ref m_buys, .ref m_ends, .ref m_carried, .ref m_row, .int rm, .ref m_keptRow, .ref m_likeGets, .ref m_likePrice, .ref m_ahead])), (m_refused, .inl (aC 0, 7, .inl f_6))] H := by rw [e_f_6]; exact hP
  have hD : va_D A [(g0, .inr (12, [.ref m_refused, .ref m_kind, .ref m_figure, .ref m_weight, .ref m_got, .ref m_setting, .int men, .int msy, .int mdn, .ref m_tape, .ref m_letter, .ref m_letterAt, .ref m_told, .int tp, .int mat, .int stm, .ref m_kept, .int hi, .int ki, .int cu, .ref m_price, .ref m_offer, .ref m_gets, .ref m_yes, .ref m_buys, .ref m_ends, .ref m_carried, .ref m_row, .int rm, .ref m_keptRow, .ref m_likeGets, .ref m_likePrice, .ref m_ahead])), (m_refused, .inl (aC 0, 7, .inl f_6))] := by rw [e_f_6]; exact hD
  refine lv_iload_n hx hb dX12_no_11 rfl (lv_at hl 1 rfl) ?_
  have hP9 := hP.sub (ws' := [(g0, .inr (12, [.ref m_refused, .ref m_kind, .ref m_figure, .ref m_weight, .ref m_got, .ref m_setting, .int men, .int msy, .int mdn, .ref m_tape, .ref m_letter, .ref m_letterAt, .ref m_told, .int tp, .int mat, .int stm, .ref m_kept, .int hi, .int ki, .int cu, .ref m_price, .ref m_offer, .ref m_gets, .ref m_yes, .ref m_buys, .ref m_ends, .ref m_carried, .ref m_row, .int rm, .ref m_keptRow, .ref m_likeGets, .ref m_likePrice, .ref m_ahead])), (m_refused, .inl (aC 0, 7, .inl f_6))]) [0, 1] rfl
  have hD9 := hD.sub (ws' := [(g0, .inr (12, [.ref m_refused, .ref m_kind, .ref m_figure, .ref m_weight, .ref m_got, .ref m_setting, .int men, .int msy, .int mdn, .ref m_tape, .ref m_letter, .ref m_letterAt, .ref m_told, .int tp, .int mat, .int stm, .ref m_kept, .int hi, .int ki, .int cu, .ref m_price, .ref m_offer, .ref m_gets, .ref m_yes, .ref m_buys, .ref m_ends, .ref m_carried, .ref m_row, .int rm, .ref m_keptRow, .ref m_likeGets, .ref m_likePrice, .ref m_ahead])), (m_refused, .inl (aC 0, 7, .inl f_6))]) [0, 1] (by decide) rfl
  refine W.widen (k := 0) (n := 0) (by omega) (by omega) ?_
  exact W.iret (v := w) hx hb hr (fun t ht hW => ⟨⟨w, (f_6), rfl, ⟨by subst e_f_6; subst e_4; subst e_3; subst e_1; rfl, by subst e_f_6; subst e_4; subst e_3; subst e_1; rw [hk]⟩, by rw [ht]; exact hP9, va_K.moved hW.alike hK, hD9⟩, hS.F ht⟩) hS.2.2 dX12_no_12

set_option maxHeartbeats 4000000 in
set_option maxRecDepth 100000 in
/-- X12_lower -/
theorem c_X12_lower (l : Launch) (dC : Nat → ClassId) (dI : Nat → Nat → Nat) (aC : Nat → ClassId) (sz : Nat) (g0 : Nat) (m_refused : Nat) (m_kind : Nat) (m_figure : Nat) (m_weight : Nat) (m_got : Nat) (m_setting : Nat) (m_tape : Nat) (m_letter : Nat) (m_letterAt : Nat) (m_told : Nat) (m_kept : Nat) (m_price : Nat) (m_offer : Nat) (m_gets : Nat) (m_yes : Nat) (m_buys : Nat) (m_ends : Nat) (m_carried : Nat) (m_row : Nat) (m_keptRow : Nat) (m_likeGets : Nat) (m_likePrice : Nat) (m_ahead : Nat) (men : Int32) (msy : Int32) (mdn : Int32) (tp : Int32) (mat : Int32) (stm : Int32) (hi : Int32) (ki : Int32) (cu : Int32) (rm : Int32) (w : Int32) (k : Nat) (mr : Nat → Int32) (hk : (-w).toNatClampNeg = k) (hki : vp_in (-w) 7) : Met l yX12_lower (wW yX12_lower cX12_lower 2 (some .int)) ({ frames := 0, cells := 0, slots := 0, locals := 0 } : Room) (va_Pc [.ref g0, .int w] (fun U => U.heap.size = sz ∧ va_P (dC, dI) classes [(g0, .inr (12, [.ref m_refused, .ref m_kind, .ref m_figure, .ref m_weight, .ref m_got, .ref m_setting, .int men, .int msy, .int mdn, .ref m_tape, .ref m_letter, .ref m_letterAt, .ref m_told, .int tp, .int mat, .int stm, .ref m_kept, .int hi, .int ki, .int cu, .ref m_price, .ref m_offer, .ref m_gets, .ref m_yes, .ref m_buys, .ref m_ends, .ref m_carried, .ref m_row, .int rm, .ref m_keptRow, .ref m_likeGets, .ref m_likePrice, .ref m_ahead])), (m_refused, .inl (aC 0, 7, .inl mr))] U.heap ∧ va_K (dC, dI) classes (TY aC) U ∧ va_D (fun _ => True) [(g0, .inr (12, [.ref m_refused, .ref m_kind, .ref m_figure, .ref m_weight, .ref m_got, .ref m_setting, .int men, .int msy, .int mdn, .ref m_tape, .ref m_letter, .ref m_letterAt, .ref m_told, .int tp, .int mat, .int stm, .ref m_kept, .int hi, .int ki, .int cu, .ref m_price, .ref m_offer, .ref m_gets, .ref m_yes, .ref m_buys, .ref m_ends, .ref m_carried, .ref m_row, .int rm, .ref m_keptRow, .ref m_likeGets, .ref m_likePrice, .ref m_ahead])), (m_refused, .inl (aC 0, 7, .inl mr))] ∧ NX U)) (va_Qi (fun (r : Int32) (mr2 : Nat → Int32) => r = 1000000000 - w ∧ mr2 = upd mr k (mr k + 1)) (fun (mr2 : Nat → Int32) (t : State) => va_P (dC, dI) classes [(g0, .inr (12, [.ref m_refused, .ref m_kind, .ref m_figure, .ref m_weight, .ref m_got, .ref m_setting, .int men, .int msy, .int mdn, .ref m_tape, .ref m_letter, .ref m_letterAt, .ref m_told, .int tp, .int mat, .int stm, .ref m_kept, .int hi, .int ki, .int cu, .ref m_price, .ref m_offer, .ref m_gets, .ref m_yes, .ref m_buys, .ref m_ends, .ref m_carried, .ref m_row, .int rm, .ref m_keptRow, .ref m_likeGets, .ref m_likePrice, .ref m_ahead])), (m_refused, .inl (aC 0, 7, .inl mr2))] t.heap ∧ va_K (dC, dI) classes (TY aC) t ∧ va_D (va_A [(g0, .inr (12, [.ref m_refused, .ref m_kind, .ref m_figure, .ref m_weight, .ref m_got, .ref m_setting, .int men, .int msy, .int mdn, .ref m_tape, .ref m_letter, .ref m_letterAt, .ref m_told, .int tp, .int mat, .int stm, .ref m_kept, .int hi, .int ki, .int cu, .ref m_price, .ref m_offer, .ref m_gets, .ref m_yes, .ref m_buys, .ref m_ends, .ref m_carried, .ref m_row, .int rm, .ref m_keptRow, .ref m_likeGets, .ref m_likePrice, .ref m_ahead])), (m_refused, .inl (aC 0, 7, .inl mr))] sz) [(g0, .inr (12, [.ref m_refused, .ref m_kind, .ref m_figure, .ref m_weight, .ref m_got, .ref m_setting, .int men, .int msy, .int mdn, .ref m_tape, .ref m_letter, .ref m_letterAt, .ref m_told, .int tp, .int mat, .int stm, .ref m_kept, .int hi, .int ki, .int cu, .ref m_price, .ref m_offer, .ref m_gets, .ref m_yes, .ref m_buys, .ref m_ends, .ref m_carried, .ref m_row, .int rm, .ref m_keptRow, .ref m_likeGets, .ref m_likePrice, .ref m_ahead])), (m_refused, .inl (aC 0, 7, .inl mr2))]) (va_A [(g0, .inr (12, [.ref m_refused, .ref m_kind, .ref m_figure, .ref m_weight, .ref m_got, .ref m_setting, .int men, .int msy, .int mdn, .ref m_tape, .ref m_letter, .ref m_letterAt, .ref m_told, .int tp, .int mat, .int stm, .ref m_kept, .int hi, .int ki, .int cu, .ref m_price, .ref m_offer, .ref m_gets, .ref m_yes, .ref m_buys, .ref m_ends, .ref m_carried, .ref m_row, .int rm, .ref m_keptRow, .ref m_likeGets, .ref m_likePrice, .ref m_ahead])), (m_refused, .inl (aC 0, 7, .inl mr))] sz)) 0 0 (va_A [(g0, .inr (12, [.ref m_refused, .ref m_kind, .ref m_figure, .ref m_weight, .ref m_got, .ref m_setting, .int men, .int msy, .int mdn, .ref m_tape, .ref m_letter, .ref m_letterAt, .ref m_told, .int tp, .int mat, .int stm, .ref m_kept, .int hi, .int ki, .int cu, .ref m_price, .ref m_offer, .ref m_gets, .ref m_yes, .ref m_buys, .ref m_ends, .ref m_carried, .ref m_row, .int rm, .ref m_keptRow, .ref m_likeGets, .ref m_likePrice, .ref m_ahead])), (m_refused, .inl (aC 0, 7, .inl mr))] sz) := by
  refine Met.ofW (cc := cX12_lower) (maxL := 2) (ret := (some .int)) (by decide) rfl ?_
  intro p e s m args below meth c s₁ B hml hv
  obtain ⟨rfl, hsz, hP, hK, hD0, hN⟩ := hv
  have hx := B.exec
  have hb := B.bytes
  have hr := B.returns
  have hts0 := atoms_spec (ws := (wW yX12_lower cX12_lower 2 (some .int))) B.pre
  have hts : ∀ w9 ∈ lw_G, w9.before ([.ref g0, .int w] : List Value).toArray s = true := fun w9 h9 => hts0 w9 (List.mem_cons_of_mem _ h9)
  have hown : s.vm.findClass RX12 = some m.cls := findClass_of_methodNamed B.named
  have hlocks := B.notSynchronized
  subst hsz
  have hD := hD0.self (sz := s.heap.size)
  generalize hAe : va_A [(g0, .inr (12, [.ref m_refused, .ref m_kind, .ref m_figure, .ref m_weight, .ref m_got, .ref m_setting, .int men, .int msy, .int mdn, .ref m_tape, .ref m_letter, .ref m_letterAt, .ref m_told, .int tp, .int mat, .int stm, .ref m_kept, .int hi, .int ki, .int cu, .ref m_price, .ref m_offer, .ref m_gets, .ref m_yes, .ref m_buys, .ref m_ends, .ref m_carried, .ref m_row, .int rm, .ref m_keptRow, .ref m_likeGets, .ref m_likePrice, .ref m_ahead])), (m_refused, .inl (aC 0, 7, .inl mr))] s.heap.size = A at hD ⊢
  have hA : ∀ q : Nat, s.heap.size ≤ q → A q := fun q h => by rw [← hAe]; exact Or.inr h
  obtain ⟨H, hHe⟩ : ∃ H : Heap, H = s.heap := ⟨_, rfl⟩
  have hS : va_S A s.heap H [] := by rw [hHe]; exact va_S.rf
  have hP : va_P (dC, dI) classes [(g0, .inr (12, [.ref m_refused, .ref m_kind, .ref m_figure, .ref m_weight, .ref m_got, .ref m_setting, .int men, .int msy, .int mdn, .ref m_tape, .ref m_letter, .ref m_letterAt, .ref m_told, .int tp, .int mat, .int stm, .ref m_kept, .int hi, .int ki, .int cu, .ref m_price, .ref m_offer, .ref m_gets, .ref m_yes, .ref m_buys, .ref m_ends, .ref m_carried, .ref m_row, .int rm, .ref m_keptRow, .ref m_likeGets, .ref m_likePrice, .ref m_ahead])), (m_refused, .inl (aC 0, 7, .inl mr))] H := by rw [hHe]; exact hP
  have hl := lv_entry ([.ref g0, .int w]) (n := 2) (Nat.le_of_ble_eq_true rfl)
  rw [lg_entry_eq]
  generalize (lg_sl ([.ref g0, .int w]) ++ List.replicate (2 - (lg_sl ([.ref g0, .int w])).length) Slot.unset).toArray = ls at hl ⊢
  have hl : lv_has ls 2 [(0, .ref g0), (1, .int w)] := hl
  rw [← hHe]
  refine lv_aload_n hx hb dX12_lower_0 rfl (lv_at hl 0 rfl) ?_
  refine va_get (D := (dC, dI)) (ci := 12) (v := .ref m_refused) (C := RX12) (T := TX12) (N := 33) hx hb hts inX12 hown hK hP 0 rfl rfl 0 (by decide) (hts _ (gw kw_717 rfl)) (fun _ h9 => h9) rfl dX12_lower_1 ?_
  refine lv_iload_n hx hb dX12_lower_4 rfl (lv_at hl 1 rfl) ?_
  refine lv_ineg hx hb dX12_lower_5 ?_
  refine lv_topi (fun x_1 e_1 => ?_)
  refine lv_dup2_11 hx hb dX12_lower_6 rfl rfl ?_
  have h_2 : vp_in x_1 7 := by rw [e_1]; exact hki
  refine va_iald hx hb hK hP 1 0 rfl rfl h_2 dX12_lower_7 ?_
  refine lv_topi (fun x_3 e_3 => ?_)
  refine lv_iconst (v := 1) hx hb dX12_lower_8 (by decide) ?_
  refine lv_iadd hx hb dX12_lower_9 ?_
  refine lv_topi (fun x_4 e_4 => ?_)
  have h_5 : vp_in x_1 7 := by rw [e_1]; exact hki
  refine va_iast hx hb hK hP hD hS 1 0 rfl rfl h_5 dX12_lower_10 (fun H locs hP hD hS => ?_)
  obtain ⟨f_6, e_f_6⟩ : ∃ y : Nat → Int32, y = upd mr (x_1 : Int32).toNatClampNeg x_4 := ⟨_, rfl⟩
  have hP : va_P (dC, dI) classes [(g0, .inr (12, [.ref m_refused, .ref m_kind, .ref m_figure, .ref m_weight, .ref m_got, .ref m_setting, .int men, .int msy, .int mdn, .ref m_tape, .ref m_letter, .ref m_letterAt, .ref m_told, .int tp, .int mat, .int stm, .ref m_kept, .int hi, .int ki, .int cu, .ref m_price, .ref m_offer, .ref m_gets, .ref m_yes, .ref m_buys, .ref m_ends, .ref m_carried, .ref m_row, .int rm, .ref m_keptRow, .ref m_likeGets, .ref m_likePrice, .ref m_ahead])), (m_refused, .inl (aC 0, 7, .inl f_6))] H := by rw [e_f_6]; exact hP
  have hD : va_D A [(g0, .inr (12, [.ref m_refused, .ref m_kind, .ref m_figure, .ref m_weight, .ref m_got, .ref m_setting, .int men, .int msy, .int mdn, .ref m_tape, .ref m_letter, .ref m_letterAt, .ref m_told, .int tp, .int mat, .int stm, .ref m_kept, .int hi, .int ki, .int cu, .ref m_price, .ref m_offer, .ref m_gets, .ref m_yes, .ref m_buys, .ref m_ends, .ref m_carried, .ref m_row, .int rm, .ref m_keptRow, .ref m_likeGets, .ref m_likePrice, .ref m_ahead])), (m_refused, .inl (aC 0, 7, .inl f_6))] := by rw [e_f_6]; exact hD
  refine lv_ldc hx hb hown (hts _ (gw kw_974 rfl)) dX12_lower_11 ?_
  refine lv_iload_n hx hb dX12_lower_13 rfl (lv_at hl 1 rfl) ?_
  refine lv_isub hx hb dX12_lower_14 ?_
  refine lv_topi (fun x_7 e_7 => ?_)
  have hP9 := hP.sub (ws' := [(g0, .inr (12, [.ref m_refused, .ref m_kind, .ref m_figure, .ref m_weight, .ref m_got, .ref m_setting, .int men, .int msy, .int mdn, .ref m_tape, .ref m_letter, .ref m_letterAt, .ref m_told, .int tp, .int mat, .int stm, .ref m_kept, .int hi, .int ki, .int cu, .ref m_price, .ref m_offer, .ref m_gets, .ref m_yes, .ref m_buys, .ref m_ends, .ref m_carried, .ref m_row, .int rm, .ref m_keptRow, .ref m_likeGets, .ref m_likePrice, .ref m_ahead])), (m_refused, .inl (aC 0, 7, .inl f_6))]) [0, 1] rfl
  have hD9 := hD.sub (ws' := [(g0, .inr (12, [.ref m_refused, .ref m_kind, .ref m_figure, .ref m_weight, .ref m_got, .ref m_setting, .int men, .int msy, .int mdn, .ref m_tape, .ref m_letter, .ref m_letterAt, .ref m_told, .int tp, .int mat, .int stm, .ref m_kept, .int hi, .int ki, .int cu, .ref m_price, .ref m_offer, .ref m_gets, .ref m_yes, .ref m_buys, .ref m_ends, .ref m_carried, .ref m_row, .int rm, .ref m_keptRow, .ref m_likeGets, .ref m_likePrice, .ref m_ahead])), (m_refused, .inl (aC 0, 7, .inl f_6))]) [0, 1] (by decide) rfl
  refine W.widen (k := 0) (n := 0) (by omega) (by omega) ?_
  exact W.iret (v := x_7) hx hb hr (fun t ht hW => ⟨⟨x_7, (f_6), rfl, ⟨by subst e_7; subst e_f_6; subst e_4; subst e_3; subst e_1; rfl, by subst e_7; subst e_f_6; subst e_4; subst e_3; subst e_1; rw [hk]⟩, by rw [ht]; exact hP9, va_K.moved hW.alike hK, hD9⟩, hS.F ht⟩) hS.2.2 dX12_lower_15

set_option maxHeartbeats 4000000 in
set_option maxRecDepth 100000 in
/-- X12_lowest -/
theorem c_X12_lowest (l : Launch) (dC : Nat → ClassId) (dI : Nat → Nat → Nat) (aC : Nat → ClassId) (sz : Nat) (g0 : Nat) (m_refused : Nat) (m_kind : Nat) (m_figure : Nat) (m_weight : Nat) (m_got : Nat) (m_setting : Nat) (m_tape : Nat) (m_letter : Nat) (m_letterAt : Nat) (m_told : Nat) (m_kept : Nat) (m_price : Nat) (m_offer : Nat) (m_gets : Nat) (m_yes : Nat) (m_buys : Nat) (m_ends : Nat) (m_carried : Nat) (m_row : Nat) (m_keptRow : Nat) (m_likeGets : Nat) (m_likePrice : Nat) (m_ahead : Nat) (men : Int32) (msy : Int32) (mdn : Int32) (tp : Int32) (mat : Int32) (stm : Int32) (hi : Int32) (ki : Int32) (cu : Int32) (rm : Int32) (w : Int32) (k : Nat) (mr : Nat → Int32) (hk : (-w).toNatClampNeg = k) (hki : vp_in (-w) 7) : Met l yX12_lowest (wW yX12_lowest cX12_lowest 2 (some .long)) ({ frames := 0, cells := 0, slots := 0, locals := 0 } : Room) (va_Pc [.ref g0, .int w] (fun U => U.heap.size = sz ∧ va_P (dC, dI) classes [(g0, .inr (12, [.ref m_refused, .ref m_kind, .ref m_figure, .ref m_weight, .ref m_got, .ref m_setting, .int men, .int msy, .int mdn, .ref m_tape, .ref m_letter, .ref m_letterAt, .ref m_told, .int tp, .int mat, .int stm, .ref m_kept, .int hi, .int ki, .int cu, .ref m_price, .ref m_offer, .ref m_gets, .ref m_yes, .ref m_buys, .ref m_ends, .ref m_carried, .ref m_row, .int rm, .ref m_keptRow, .ref m_likeGets, .ref m_likePrice, .ref m_ahead])), (m_refused, .inl (aC 0, 7, .inl mr))] U.heap ∧ va_K (dC, dI) classes (TY aC) U ∧ va_D (fun _ => True) [(g0, .inr (12, [.ref m_refused, .ref m_kind, .ref m_figure, .ref m_weight, .ref m_got, .ref m_setting, .int men, .int msy, .int mdn, .ref m_tape, .ref m_letter, .ref m_letterAt, .ref m_told, .int tp, .int mat, .int stm, .ref m_kept, .int hi, .int ki, .int cu, .ref m_price, .ref m_offer, .ref m_gets, .ref m_yes, .ref m_buys, .ref m_ends, .ref m_carried, .ref m_row, .int rm, .ref m_keptRow, .ref m_likeGets, .ref m_likePrice, .ref m_ahead])), (m_refused, .inl (aC 0, 7, .inl mr))] ∧ NX U)) (va_Ql (fun (r : Int64) (mr2 : Nat → Int32) => r = 4000000000000000000 - w.toInt64 ∧ mr2 = upd mr k (mr k + 1)) (fun (mr2 : Nat → Int32) (t : State) => va_P (dC, dI) classes [(g0, .inr (12, [.ref m_refused, .ref m_kind, .ref m_figure, .ref m_weight, .ref m_got, .ref m_setting, .int men, .int msy, .int mdn, .ref m_tape, .ref m_letter, .ref m_letterAt, .ref m_told, .int tp, .int mat, .int stm, .ref m_kept, .int hi, .int ki, .int cu, .ref m_price, .ref m_offer, .ref m_gets, .ref m_yes, .ref m_buys, .ref m_ends, .ref m_carried, .ref m_row, .int rm, .ref m_keptRow, .ref m_likeGets, .ref m_likePrice, .ref m_ahead])), (m_refused, .inl (aC 0, 7, .inl mr2))] t.heap ∧ va_K (dC, dI) classes (TY aC) t ∧ va_D (va_A [(g0, .inr (12, [.ref m_refused, .ref m_kind, .ref m_figure, .ref m_weight, .ref m_got, .ref m_setting, .int men, .int msy, .int mdn, .ref m_tape, .ref m_letter, .ref m_letterAt, .ref m_told, .int tp, .int mat, .int stm, .ref m_kept, .int hi, .int ki, .int cu, .ref m_price, .ref m_offer, .ref m_gets, .ref m_yes, .ref m_buys, .ref m_ends, .ref m_carried, .ref m_row, .int rm, .ref m_keptRow, .ref m_likeGets, .ref m_likePrice, .ref m_ahead])), (m_refused, .inl (aC 0, 7, .inl mr))] sz) [(g0, .inr (12, [.ref m_refused, .ref m_kind, .ref m_figure, .ref m_weight, .ref m_got, .ref m_setting, .int men, .int msy, .int mdn, .ref m_tape, .ref m_letter, .ref m_letterAt, .ref m_told, .int tp, .int mat, .int stm, .ref m_kept, .int hi, .int ki, .int cu, .ref m_price, .ref m_offer, .ref m_gets, .ref m_yes, .ref m_buys, .ref m_ends, .ref m_carried, .ref m_row, .int rm, .ref m_keptRow, .ref m_likeGets, .ref m_likePrice, .ref m_ahead])), (m_refused, .inl (aC 0, 7, .inl mr2))]) (va_A [(g0, .inr (12, [.ref m_refused, .ref m_kind, .ref m_figure, .ref m_weight, .ref m_got, .ref m_setting, .int men, .int msy, .int mdn, .ref m_tape, .ref m_letter, .ref m_letterAt, .ref m_told, .int tp, .int mat, .int stm, .ref m_kept, .int hi, .int ki, .int cu, .ref m_price, .ref m_offer, .ref m_gets, .ref m_yes, .ref m_buys, .ref m_ends, .ref m_carried, .ref m_row, .int rm, .ref m_keptRow, .ref m_likeGets, .ref m_likePrice, .ref m_ahead])), (m_refused, .inl (aC 0, 7, .inl mr))] sz)) 0 0 (va_A [(g0, .inr (12, [.ref m_refused, .ref m_kind, .ref m_figure, .ref m_weight, .ref m_got, .ref m_setting, .int men, .int msy, .int mdn, .ref m_tape, .ref m_letter, .ref m_letterAt, .ref m_told, .int tp, .int mat, .int stm, .ref m_kept, .int hi, .int ki, .int cu, .ref m_price, .ref m_offer, .ref m_gets, .ref m_yes, .ref m_buys, .ref m_ends, .ref m_carried, .ref m_row, .int rm, .ref m_keptRow, .ref m_likeGets, .ref m_likePrice, .ref m_ahead])), (m_refused, .inl (aC 0, 7, .inl mr))] sz) := by
  refine Met.ofW (cc := cX12_lowest) (maxL := 2) (ret := (some .long)) (by decide) rfl ?_
  intro p e s m args below meth c s₁ B hml hv
  obtain ⟨rfl, hsz, hP, hK, hD0, hN⟩ := hv
  have hx := B.exec
  have hb := B.bytes
  have hr := B.returns
  have hts0 := atoms_spec (ws := (wW yX12_lowest cX12_lowest 2 (some .long))) B.pre
  have hts : ∀ w9 ∈ lw_G, w9.before ([.ref g0, .int w] : List Value).toArray s = true := fun w9 h9 => hts0 w9 (List.mem_cons_of_mem _ h9)
  have hown : s.vm.findClass RX12 = some m.cls := findClass_of_methodNamed B.named
  have hlocks := B.notSynchronized
  subst hsz
  have hD := hD0.self (sz := s.heap.size)
  generalize hAe : va_A [(g0, .inr (12, [.ref m_refused, .ref m_kind, .ref m_figure, .ref m_weight, .ref m_got, .ref m_setting, .int men, .int msy, .int mdn, .ref m_tape, .ref m_letter, .ref m_letterAt, .ref m_told, .int tp, .int mat, .int stm, .ref m_kept, .int hi, .int ki, .int cu, .ref m_price, .ref m_offer, .ref m_gets, .ref m_yes, .ref m_buys, .ref m_ends, .ref m_carried, .ref m_row, .int rm, .ref m_keptRow, .ref m_likeGets, .ref m_likePrice, .ref m_ahead])), (m_refused, .inl (aC 0, 7, .inl mr))] s.heap.size = A at hD ⊢
  have hA : ∀ q : Nat, s.heap.size ≤ q → A q := fun q h => by rw [← hAe]; exact Or.inr h
  obtain ⟨H, hHe⟩ : ∃ H : Heap, H = s.heap := ⟨_, rfl⟩
  have hS : va_S A s.heap H [] := by rw [hHe]; exact va_S.rf
  have hP : va_P (dC, dI) classes [(g0, .inr (12, [.ref m_refused, .ref m_kind, .ref m_figure, .ref m_weight, .ref m_got, .ref m_setting, .int men, .int msy, .int mdn, .ref m_tape, .ref m_letter, .ref m_letterAt, .ref m_told, .int tp, .int mat, .int stm, .ref m_kept, .int hi, .int ki, .int cu, .ref m_price, .ref m_offer, .ref m_gets, .ref m_yes, .ref m_buys, .ref m_ends, .ref m_carried, .ref m_row, .int rm, .ref m_keptRow, .ref m_likeGets, .ref m_likePrice, .ref m_ahead])), (m_refused, .inl (aC 0, 7, .inl mr))] H := by rw [hHe]; exact hP
  have hl := lv_entry ([.ref g0, .int w]) (n := 2) (Nat.le_of_ble_eq_true rfl)
  rw [lg_entry_eq]
  generalize (lg_sl ([.ref g0, .int w]) ++ List.replicate (2 - (lg_sl ([.ref g0, .int w])).length) Slot.unset).toArray = ls at hl ⊢
  have hl : lv_has ls 2 [(0, .ref g0), (1, .int w)] := hl
  rw [← hHe]
  refine lv_aload_n hx hb dX12_lowest_0 rfl (lv_at hl 0 rfl) ?_
  refine va_get (D := (dC, dI)) (ci := 12) (v := .ref m_refused) (C := RX12) (T := TX12) (N := 33) hx hb hts inX12 hown hK hP 0 rfl rfl 0 (by decide) (hts _ (gw kw_717 rfl)) (fun _ h9 => h9) rfl dX12_lowest_1 ?_
  refine lv_iload_n hx hb dX12_lowest_4 rfl (lv_at hl 1 rfl) ?_
  refine lv_ineg hx hb dX12_lowest_5 ?_
  refine lv_topi (fun x_1 e_1 => ?_)
  refine lv_dup2_11 hx hb dX12_lowest_6 rfl rfl ?_
  have h_2 : vp_in x_1 7 := by rw [e_1]; exact hki
  refine va_iald hx hb hK hP 1 0 rfl rfl h_2 dX12_lowest_7 ?_
  refine lv_topi (fun x_3 e_3 => ?_)
  refine lv_iconst (v := 1) hx hb dX12_lowest_8 (by decide) ?_
  refine lv_iadd hx hb dX12_lowest_9 ?_
  refine lv_topi (fun x_4 e_4 => ?_)
  have h_5 : vp_in x_1 7 := by rw [e_1]; exact hki
  refine va_iast hx hb hK hP hD hS 1 0 rfl rfl h_5 dX12_lowest_10 (fun H locs hP hD hS => ?_)
  obtain ⟨f_6, e_f_6⟩ : ∃ y : Nat → Int32, y = upd mr (x_1 : Int32).toNatClampNeg x_4 := ⟨_, rfl⟩
  have hP : va_P (dC, dI) classes [(g0, .inr (12, [.ref m_refused, .ref m_kind, .ref m_figure, .ref m_weight, .ref m_got, .ref m_setting, .int men, .int msy, .int mdn, .ref m_tape, .ref m_letter, .ref m_letterAt, .ref m_told, .int tp, .int mat, .int stm, .ref m_kept, .int hi, .int ki, .int cu, .ref m_price, .ref m_offer, .ref m_gets, .ref m_yes, .ref m_buys, .ref m_ends, .ref m_carried, .ref m_row, .int rm, .ref m_keptRow, .ref m_likeGets, .ref m_likePrice, .ref m_ahead])), (m_refused, .inl (aC 0, 7, .inl f_6))] H := by rw [e_f_6]; exact hP
  have hD : va_D A [(g0, .inr (12, [.ref m_refused, .ref m_kind, .ref m_figure, .ref m_weight, .ref m_got, .ref m_setting, .int men, .int msy, .int mdn, .ref m_tape, .ref m_letter, .ref m_letterAt, .ref m_told, .int tp, .int mat, .int stm, .ref m_kept, .int hi, .int ki, .int cu, .ref m_price, .ref m_offer, .ref m_gets, .ref m_yes, .ref m_buys, .ref m_ends, .ref m_carried, .ref m_row, .int rm, .ref m_keptRow, .ref m_likeGets, .ref m_likePrice, .ref m_ahead])), (m_refused, .inl (aC 0, 7, .inl f_6))] := by rw [e_f_6]; exact hD
  refine lv_ldc2 hx hb hown (hts _ (gw kw_1082 rfl)) dX12_lowest_11 ?_
  refine lv_iload_n hx hb dX12_lowest_14 rfl (lv_at hl 1 rfl) ?_
  refine lv_i2l hx hb dX12_lowest_15 rfl ?_
  refine lv_topl (fun x_7 e_7 => ?_)
  refine lv_lsub hx hb dX12_lowest_16 ?_
  refine lv_topl (fun x_8 e_8 => ?_)
  have hP9 := hP.sub (ws' := [(g0, .inr (12, [.ref m_refused, .ref m_kind, .ref m_figure, .ref m_weight, .ref m_got, .ref m_setting, .int men, .int msy, .int mdn, .ref m_tape, .ref m_letter, .ref m_letterAt, .ref m_told, .int tp, .int mat, .int stm, .ref m_kept, .int hi, .int ki, .int cu, .ref m_price, .ref m_offer, .ref m_gets, .ref m_yes, .ref m_buys, .ref m_ends, .ref m_carried, .ref m_row, .int rm, .ref m_keptRow, .ref m_likeGets, .ref m_likePrice, .ref m_ahead])), (m_refused, .inl (aC 0, 7, .inl f_6))]) [0, 1] rfl
  have hD9 := hD.sub (ws' := [(g0, .inr (12, [.ref m_refused, .ref m_kind, .ref m_figure, .ref m_weight, .ref m_got, .ref m_setting, .int men, .int msy, .int mdn, .ref m_tape, .ref m_letter, .ref m_letterAt, .ref m_told, .int tp, .int mat, .int stm, .ref m_kept, .int hi, .int ki, .int cu, .ref m_price, .ref m_offer, .ref m_gets, .ref m_yes, .ref m_buys, .ref m_ends, .ref m_carried, .ref m_row, .int rm, .ref m_keptRow, .ref m_likeGets, .ref m_likePrice, .ref m_ahead])), (m_refused, .inl (aC 0, 7, .inl f_6))]) [0, 1] (by decide) rfl
  refine W.widen (k := 0) (n := 0) (by omega) (by omega) ?_
  exact W.lret (v := x_8) hx hb hr (fun t ht hW => ⟨⟨x_8, (f_6), rfl, ⟨by subst e_8; subst e_7; subst e_f_6; subst e_4; subst e_3; subst e_1; rfl, by subst e_8; subst e_7; subst e_f_6; subst e_4; subst e_3; subst e_1; rw [hk]⟩, by rw [ht]; exact hP9, va_K.moved hW.alike hK, hD9⟩, hS.F ht⟩) hS.2.2 dX12_lowest_17

set_option maxHeartbeats 4000000 in
set_option maxRecDepth 100000 in
/-- X12_isIn -/
theorem c_X12_isIn (l : Launch) (dC : Nat → ClassId) (dI : Nat → Nat → Nat) (aC : Nat → ClassId) (sz : Nat) (v : Int32) (lo : Int32) (hi : Int32)  : Met l yX12_isIn (wW yX12_isIn cX12_isIn 3 (some .boolean)) ({ frames := 0, cells := 0, slots := 0, locals := 0 } : Room) (va_Pc [.int v, .int lo, .int hi] (fun U => U.heap.size = sz ∧ va_P (dC, dI) classes [] U.heap ∧ va_K (dC, dI) classes (TY aC) U ∧ va_D (fun _ => True) [] ∧ NX U)) (va_Qi (fun (r : Int32) (_ : Unit) => r = if v < lo then 0 else if hi < v then 0 else 1) (fun (_ : Unit) (t : State) => va_P (dC, dI) classes [] t.heap ∧ va_K (dC, dI) classes (TY aC) t ∧ va_D (va_A [] sz) []) (va_A [] sz)) 0 0 (va_A [] sz) := by
  refine Met.ofW (cc := cX12_isIn) (maxL := 3) (ret := (some .boolean)) (by decide) rfl ?_
  intro p e s m args below meth c s₁ B hml hv
  obtain ⟨rfl, hsz, hP, hK, hD0, hN⟩ := hv
  have hx := B.exec
  have hb := B.bytes
  have hr := B.returns
  have hts0 := atoms_spec (ws := (wW yX12_isIn cX12_isIn 3 (some .boolean))) B.pre
  have hts : ∀ w9 ∈ lw_G, w9.before ([.int v, .int lo, .int hi] : List Value).toArray s = true := fun w9 h9 => hts0 w9 (List.mem_cons_of_mem _ h9)
  have hown : s.vm.findClass RX12 = some m.cls := findClass_of_methodNamed B.named
  have hlocks := B.notSynchronized
  subst hsz
  have hD := hD0.self (sz := s.heap.size)
  generalize hAe : va_A [] s.heap.size = A at hD ⊢
  have hA : ∀ q : Nat, s.heap.size ≤ q → A q := fun q h => by rw [← hAe]; exact Or.inr h
  obtain ⟨H, hHe⟩ : ∃ H : Heap, H = s.heap := ⟨_, rfl⟩
  have hS : va_S A s.heap H [] := by rw [hHe]; exact va_S.rf
  have hP : va_P (dC, dI) classes [] H := by rw [hHe]; exact hP
  have hl := lv_entry ([.int v, .int lo, .int hi]) (n := 3) (Nat.le_of_ble_eq_true rfl)
  rw [lg_entry_eq]
  generalize (lg_sl ([.int v, .int lo, .int hi]) ++ List.replicate (3 - (lg_sl ([.int v, .int lo, .int hi])).length) Slot.unset).toArray = ls at hl ⊢
  have hl : lv_has ls 3 [(0, .int v), (1, .int lo), (2, .int hi)] := hl
  rw [← hHe]
  refine lv_iload_n hx hb dX12_isIn_0 rfl (lv_at hl 0 rfl) ?_
  refine lv_iload_n hx hb dX12_isIn_1 rfl (lv_at hl 1 rfl) ?_
  refine lv_icmp_lt (tgt := 14) hx hb dX12_isIn_2 (by decide) (fun c_1 => ?_) (fun c_1 => ?_)
  · refine lv_iconst (v := 0) hx hb dX12_isIn_14 (by decide) ?_
    have hP9 := hP.sub (ws' := []) [] rfl
    have hD9 := hD.sub (ws' := []) [] (by decide) rfl
    refine W.widen (k := 0) (n := 0) (by omega) (by omega) ?_
    exact W.zret (v := 0) hx hb hr rfl (fun t ht hW => ⟨⟨0, (), rfl, by simp [c_1], by rw [ht]; exact hP9, va_K.moved hW.alike hK, hD9⟩, hS.F ht⟩) hS.2.2 dX12_isIn_15
  · refine lv_iload_n hx hb dX12_isIn_5 rfl (lv_at hl 0 rfl) ?_
    refine lv_iload_n hx hb dX12_isIn_6 rfl (lv_at hl 2 rfl) ?_
    refine lv_icmp_gt (tgt := 14) hx hb dX12_isIn_7 (by decide) (fun c_2 => ?_) (fun c_2 => ?_)
    · refine lv_iconst (v := 0) hx hb dX12_isIn_14 (by decide) ?_
      have hP9 := hP.sub (ws' := []) [] rfl
      have hD9 := hD.sub (ws' := []) [] (by decide) rfl
      refine W.widen (k := 0) (n := 0) (by omega) (by omega) ?_
      exact W.zret (v := 0) hx hb hr rfl (fun t ht hW => ⟨⟨0, (), rfl, by simp [c_1, c_2], by rw [ht]; exact hP9, va_K.moved hW.alike hK, hD9⟩, hS.F ht⟩) hS.2.2 dX12_isIn_15
    · refine lv_iconst (v := 1) hx hb dX12_isIn_10 (by decide) ?_
      refine lv_goto (tgt := 15) hx hb dX12_isIn_11 (by decide) ?_
      have hP9 := hP.sub (ws' := []) [] rfl
      have hD9 := hD.sub (ws' := []) [] (by decide) rfl
      refine W.widen (k := 0) (n := 0) (by omega) (by omega) ?_
      exact W.zret (v := 1) hx hb hr rfl (fun t ht hW => ⟨⟨1, (), rfl, by simp [c_1, c_2], by rw [ht]; exact hP9, va_K.moved hW.alike hK, hD9⟩, hS.F ht⟩) hS.2.2 dX12_isIn_15

set_option maxHeartbeats 4000000 in
set_option maxRecDepth 100000 in
/-- X12_bound -/
theorem c_X12_bound (l : Launch) (dC : Nat → ClassId) (dI : Nat → Nat → Nat) (aC : Nat → ClassId) (sz : Nat) (v : Int32) (lo : Int32) (hi : Int32)  : Met l yX12_bound (wW yX12_bound cX12_bound 3 (some .int)) ({ frames := 0, cells := 0, slots := 0, locals := 0 } : Room) (va_Pc [.int v, .int lo, .int hi] (fun U => U.heap.size = sz ∧ va_P (dC, dI) classes [] U.heap ∧ va_K (dC, dI) classes (TY aC) U ∧ va_D (fun _ => True) [] ∧ NX U)) (va_Qi (fun (r : Int32) (_ : Unit) => r = if v < lo then -4 else if hi < v then -6 else 0) (fun (_ : Unit) (t : State) => va_P (dC, dI) classes [] t.heap ∧ va_K (dC, dI) classes (TY aC) t ∧ va_D (va_A [] sz) []) (va_A [] sz)) 0 0 (va_A [] sz) := by
  refine Met.ofW (cc := cX12_bound) (maxL := 3) (ret := (some .int)) (by decide) rfl ?_
  intro p e s m args below meth c s₁ B hml hv
  obtain ⟨rfl, hsz, hP, hK, hD0, hN⟩ := hv
  have hx := B.exec
  have hb := B.bytes
  have hr := B.returns
  have hts0 := atoms_spec (ws := (wW yX12_bound cX12_bound 3 (some .int))) B.pre
  have hts : ∀ w9 ∈ lw_G, w9.before ([.int v, .int lo, .int hi] : List Value).toArray s = true := fun w9 h9 => hts0 w9 (List.mem_cons_of_mem _ h9)
  have hown : s.vm.findClass RX12 = some m.cls := findClass_of_methodNamed B.named
  have hlocks := B.notSynchronized
  subst hsz
  have hD := hD0.self (sz := s.heap.size)
  generalize hAe : va_A [] s.heap.size = A at hD ⊢
  have hA : ∀ q : Nat, s.heap.size ≤ q → A q := fun q h => by rw [← hAe]; exact Or.inr h
  obtain ⟨H, hHe⟩ : ∃ H : Heap, H = s.heap := ⟨_, rfl⟩
  have hS : va_S A s.heap H [] := by rw [hHe]; exact va_S.rf
  have hP : va_P (dC, dI) classes [] H := by rw [hHe]; exact hP
  have hl := lv_entry ([.int v, .int lo, .int hi]) (n := 3) (Nat.le_of_ble_eq_true rfl)
  rw [lg_entry_eq]
  generalize (lg_sl ([.int v, .int lo, .int hi]) ++ List.replicate (3 - (lg_sl ([.int v, .int lo, .int hi])).length) Slot.unset).toArray = ls at hl ⊢
  have hl : lv_has ls 3 [(0, .int v), (1, .int lo), (2, .int hi)] := hl
  rw [← hHe]
  refine lv_iload_n hx hb dX12_bound_0 rfl (lv_at hl 0 rfl) ?_
  refine lv_iload_n hx hb dX12_bound_1 rfl (lv_at hl 1 rfl) ?_
  refine lv_icmp_ge (tgt := 10) hx hb dX12_bound_2 (by decide) (fun c_1 => ?_) (fun c_1 => ?_)
  · refine lv_iload_n hx hb dX12_bound_10 rfl (lv_at hl 0 rfl) ?_
    refine lv_iload_n hx hb dX12_bound_11 rfl (lv_at hl 2 rfl) ?_
    refine lv_icmp_le (tgt := 20) hx hb dX12_bound_12 (by decide) (fun c_2 => ?_) (fun c_2 => ?_)
    · refine lv_iconst (v := 0) hx hb dX12_bound_20 (by decide) ?_
      have hP9 := hP.sub (ws' := []) [] rfl
      have hD9 := hD.sub (ws' := []) [] (by decide) rfl
      refine W.widen (k := 0) (n := 0) (by omega) (by omega) ?_
      exact W.iret (v := 0) hx hb hr (fun t ht hW => ⟨⟨0, (), rfl, by first | (simp [c_1, c_2]; done) | (rw [if_neg (Int32.not_lt.mpr c_1)]; simp [c_1, c_2]; done) | (rw [if_neg (Int32.not_lt.mpr c_1), if_neg (Int32.not_lt.mpr c_2)]), by rw [ht]; exact hP9, va_K.moved hW.alike hK, hD9⟩, hS.F ht⟩) hS.2.2 dX12_bound_21
    · refine lv_bipush (v := -6) hx hb dX12_bound_15 (by decide) ?_
      refine lv_goto (tgt := 21) hx hb dX12_bound_17 (by decide) ?_
      have hP9 := hP.sub (ws' := []) [] rfl
      have hD9 := hD.sub (ws' := []) [] (by decide) rfl
      refine W.widen (k := 0) (n := 0) (by omega) (by omega) ?_
      exact W.iret (v := -6) hx hb hr (fun t ht hW => ⟨⟨(-6), (), rfl, by first | (simp [c_1, c_2]; done) | (rw [if_neg (Int32.not_lt.mpr c_1)]; simp [c_1, c_2]; done) | (rw [if_neg (Int32.not_lt.mpr c_1), if_neg (Int32.not_lt.mpr c_2)]), by rw [ht]; exact hP9, va_K.moved hW.alike hK, hD9⟩, hS.F ht⟩) hS.2.2 dX12_bound_21
  · refine lv_bipush (v := -4) hx hb dX12_bound_5 (by decide) ?_
    refine lv_goto (tgt := 21) hx hb dX12_bound_7 (by decide) ?_
    have hP9 := hP.sub (ws' := []) [] rfl
    have hD9 := hD.sub (ws' := []) [] (by decide) rfl
    refine W.widen (k := 0) (n := 0) (by omega) (by omega) ?_
    exact W.iret (v := -4) hx hb hr (fun t ht hW => ⟨⟨(-4), (), rfl, by first | (simp [c_1]; done) | (rw [if_neg (Int32.not_lt.mpr c_1)]; simp [c_1]; done) | (rw [if_neg (Int32.not_lt.mpr c_1), if_neg (Int32.not_lt.mpr c_2)]), by rw [ht]; exact hP9, va_K.moved hW.alike hK, hD9⟩, hS.F ht⟩) hS.2.2 dX12_bound_21

set_option maxHeartbeats 4000000 in
set_option maxRecDepth 100000 in
/-- X12_isMan -/
theorem c_X12_isMan (l : Launch) (dC : Nat → ClassId) (dI : Nat → Nat → Nat) (aC : Nat → ClassId) (sz : Nat) (g0 : Nat) (m_refused : Nat) (m_kind : Nat) (m_figure : Nat) (m_weight : Nat) (m_got : Nat) (m_setting : Nat) (m_tape : Nat) (m_letter : Nat) (m_letterAt : Nat) (m_told : Nat) (m_kept : Nat) (m_price : Nat) (m_offer : Nat) (m_gets : Nat) (m_yes : Nat) (m_buys : Nat) (m_ends : Nat) (m_carried : Nat) (m_row : Nat) (m_keptRow : Nat) (m_likeGets : Nat) (m_likePrice : Nat) (m_ahead : Nat) (men : Int32) (msy : Int32) (mdn : Int32) (tp : Int32) (mat : Int32) (stm : Int32) (hi : Int32) (ki : Int32) (cu : Int32) (rm : Int32) (i : Int32)  : Met l yX12_isMan (wW yX12_isMan cX12_isMan 2 (some .boolean)) ({ frames := 0, cells := 0, slots := 0, locals := 0 } : Room) (va_Pc [.ref g0, .int i] (fun U => U.heap.size = sz ∧ va_P (dC, dI) classes [(g0, .inr (12, [.ref m_refused, .ref m_kind, .ref m_figure, .ref m_weight, .ref m_got, .ref m_setting, .int men, .int msy, .int mdn, .ref m_tape, .ref m_letter, .ref m_letterAt, .ref m_told, .int tp, .int mat, .int stm, .ref m_kept, .int hi, .int ki, .int cu, .ref m_price, .ref m_offer, .ref m_gets, .ref m_yes, .ref m_buys, .ref m_ends, .ref m_carried, .ref m_row, .int rm, .ref m_keptRow, .ref m_likeGets, .ref m_likePrice, .ref m_ahead]))] U.heap ∧ va_K (dC, dI) classes (TY aC) U ∧ va_D (fun _ => True) [(g0, .inr (12, [.ref m_refused, .ref m_kind, .ref m_figure, .ref m_weight, .ref m_got, .ref m_setting, .int men, .int msy, .int mdn, .ref m_tape, .ref m_letter, .ref m_letterAt, .ref m_told, .int tp, .int mat, .int stm, .ref m_kept, .int hi, .int ki, .int cu, .ref m_price, .ref m_offer, .ref m_gets, .ref m_yes, .ref m_buys, .ref m_ends, .ref m_carried, .ref m_row, .int rm, .ref m_keptRow, .ref m_likeGets, .ref m_likePrice, .ref m_ahead]))] ∧ NX U)) (va_Qi (fun (r : Int32) (_ : Unit) => r = if i < 0 then 0 else if men ≤ i then 0 else 1) (fun (_ : Unit) (t : State) => va_P (dC, dI) classes [(g0, .inr (12, [.ref m_refused, .ref m_kind, .ref m_figure, .ref m_weight, .ref m_got, .ref m_setting, .int men, .int msy, .int mdn, .ref m_tape, .ref m_letter, .ref m_letterAt, .ref m_told, .int tp, .int mat, .int stm, .ref m_kept, .int hi, .int ki, .int cu, .ref m_price, .ref m_offer, .ref m_gets, .ref m_yes, .ref m_buys, .ref m_ends, .ref m_carried, .ref m_row, .int rm, .ref m_keptRow, .ref m_likeGets, .ref m_likePrice, .ref m_ahead]))] t.heap ∧ va_K (dC, dI) classes (TY aC) t ∧ va_D (va_A [(g0, .inr (12, [.ref m_refused, .ref m_kind, .ref m_figure, .ref m_weight, .ref m_got, .ref m_setting, .int men, .int msy, .int mdn, .ref m_tape, .ref m_letter, .ref m_letterAt, .ref m_told, .int tp, .int mat, .int stm, .ref m_kept, .int hi, .int ki, .int cu, .ref m_price, .ref m_offer, .ref m_gets, .ref m_yes, .ref m_buys, .ref m_ends, .ref m_carried, .ref m_row, .int rm, .ref m_keptRow, .ref m_likeGets, .ref m_likePrice, .ref m_ahead]))] sz) [(g0, .inr (12, [.ref m_refused, .ref m_kind, .ref m_figure, .ref m_weight, .ref m_got, .ref m_setting, .int men, .int msy, .int mdn, .ref m_tape, .ref m_letter, .ref m_letterAt, .ref m_told, .int tp, .int mat, .int stm, .ref m_kept, .int hi, .int ki, .int cu, .ref m_price, .ref m_offer, .ref m_gets, .ref m_yes, .ref m_buys, .ref m_ends, .ref m_carried, .ref m_row, .int rm, .ref m_keptRow, .ref m_likeGets, .ref m_likePrice, .ref m_ahead]))]) (va_A [(g0, .inr (12, [.ref m_refused, .ref m_kind, .ref m_figure, .ref m_weight, .ref m_got, .ref m_setting, .int men, .int msy, .int mdn, .ref m_tape, .ref m_letter, .ref m_letterAt, .ref m_told, .int tp, .int mat, .int stm, .ref m_kept, .int hi, .int ki, .int cu, .ref m_price, .ref m_offer, .ref m_gets, .ref m_yes, .ref m_buys, .ref m_ends, .ref m_carried, .ref m_row, .int rm, .ref m_keptRow, .ref m_likeGets, .ref m_likePrice, .ref m_ahead]))] sz)) 0 0 (va_A [(g0, .inr (12, [.ref m_refused, .ref m_kind, .ref m_figure, .ref m_weight, .ref m_got, .ref m_setting, .int men, .int msy, .int mdn, .ref m_tape, .ref m_letter, .ref m_letterAt, .ref m_told, .int tp, .int mat, .int stm, .ref m_kept, .int hi, .int ki, .int cu, .ref m_price, .ref m_offer, .ref m_gets, .ref m_yes, .ref m_buys, .ref m_ends, .ref m_carried, .ref m_row, .int rm, .ref m_keptRow, .ref m_likeGets, .ref m_likePrice, .ref m_ahead]))] sz) := by
  refine Met.ofW (cc := cX12_isMan) (maxL := 2) (ret := (some .boolean)) (by decide) rfl ?_
  intro p e s m args below meth c s₁ B hml hv
  obtain ⟨rfl, hsz, hP, hK, hD0, hN⟩ := hv
  have hx := B.exec
  have hb := B.bytes
  have hr := B.returns
  have hts0 := atoms_spec (ws := (wW yX12_isMan cX12_isMan 2 (some .boolean))) B.pre
  have hts : ∀ w9 ∈ lw_G, w9.before ([.ref g0, .int i] : List Value).toArray s = true := fun w9 h9 => hts0 w9 (List.mem_cons_of_mem _ h9)
  have hown : s.vm.findClass RX12 = some m.cls := findClass_of_methodNamed B.named
  have hlocks := B.notSynchronized
  subst hsz
  have hD := hD0.self (sz := s.heap.size)
  generalize hAe : va_A [(g0, .inr (12, [.ref m_refused, .ref m_kind, .ref m_figure, .ref m_weight, .ref m_got, .ref m_setting, .int men, .int msy, .int mdn, .ref m_tape, .ref m_letter, .ref m_letterAt, .ref m_told, .int tp, .int mat, .int stm, .ref m_kept, .int hi, .int ki, .int cu, .ref m_price, .ref m_offer, .ref m_gets, .ref m_yes, .ref m_buys, .ref m_ends, .ref m_carried, .ref m_row, .int rm, .ref m_keptRow, .ref m_likeGets, .ref m_likePrice, .ref m_ahead]))] s.heap.size = A at hD ⊢
  have hA : ∀ q : Nat, s.heap.size ≤ q → A q := fun q h => by rw [← hAe]; exact Or.inr h
  obtain ⟨H, hHe⟩ : ∃ H : Heap, H = s.heap := ⟨_, rfl⟩
  have hS : va_S A s.heap H [] := by rw [hHe]; exact va_S.rf
  have hP : va_P (dC, dI) classes [(g0, .inr (12, [.ref m_refused, .ref m_kind, .ref m_figure, .ref m_weight, .ref m_got, .ref m_setting, .int men, .int msy, .int mdn, .ref m_tape, .ref m_letter, .ref m_letterAt, .ref m_told, .int tp, .int mat, .int stm, .ref m_kept, .int hi, .int ki, .int cu, .ref m_price, .ref m_offer, .ref m_gets, .ref m_yes, .ref m_buys, .ref m_ends, .ref m_carried, .ref m_row, .int rm, .ref m_keptRow, .ref m_likeGets, .ref m_likePrice, .ref m_ahead]))] H := by rw [hHe]; exact hP
  have hl := lv_entry ([.ref g0, .int i]) (n := 2) (Nat.le_of_ble_eq_true rfl)
  rw [lg_entry_eq]
  generalize (lg_sl ([.ref g0, .int i]) ++ List.replicate (2 - (lg_sl ([.ref g0, .int i])).length) Slot.unset).toArray = ls at hl ⊢
  have hl : lv_has ls 2 [(0, .ref g0), (1, .int i)] := hl
  rw [← hHe]
  refine lv_iload_n hx hb dX12_isMan_0 rfl (lv_at hl 1 rfl) ?_
  refine lv_if_lt (tgt := 16) hx hb dX12_isMan_1 (by decide) (fun c_1 => ?_) (fun c_1 => ?_)
  · refine lv_iconst (v := 0) hx hb dX12_isMan_16 (by decide) ?_
    have hP9 := hP.sub (ws' := [(g0, .inr (12, [.ref m_refused, .ref m_kind, .ref m_figure, .ref m_weight, .ref m_got, .ref m_setting, .int men, .int msy, .int mdn, .ref m_tape, .ref m_letter, .ref m_letterAt, .ref m_told, .int tp, .int mat, .int stm, .ref m_kept, .int hi, .int ki, .int cu, .ref m_price, .ref m_offer, .ref m_gets, .ref m_yes, .ref m_buys, .ref m_ends, .ref m_carried, .ref m_row, .int rm, .ref m_keptRow, .ref m_likeGets, .ref m_likePrice, .ref m_ahead]))]) [0] rfl
    have hD9 := hD.sub (ws' := [(g0, .inr (12, [.ref m_refused, .ref m_kind, .ref m_figure, .ref m_weight, .ref m_got, .ref m_setting, .int men, .int msy, .int mdn, .ref m_tape, .ref m_letter, .ref m_letterAt, .ref m_told, .int tp, .int mat, .int stm, .ref m_kept, .int hi, .int ki, .int cu, .ref m_price, .ref m_offer, .ref m_gets, .ref m_yes, .ref m_buys, .ref m_ends, .ref m_carried, .ref m_row, .int rm, .ref m_keptRow, .ref m_likeGets, .ref m_likePrice, .ref m_ahead]))]) [0] (by decide) rfl
    refine W.widen (k := 0) (n := 0) (by omega) (by omega) ?_
    exact W.zret (v := 0) hx hb hr rfl (fun t ht hW => ⟨⟨0, (), rfl, by simp [c_1], by rw [ht]; exact hP9, va_K.moved hW.alike hK, hD9⟩, hS.F ht⟩) hS.2.2 dX12_isMan_17
  · refine lv_iload_n hx hb dX12_isMan_4 rfl (lv_at hl 1 rfl) ?_
    refine lv_aload_n hx hb dX12_isMan_5 rfl (lv_at hl 0 rfl) ?_
    refine va_get (D := (dC, dI)) (ci := 12) (v := .int men) (C := RX12) (T := TX12) (N := 33) hx hb hts inX12 hown hK hP 0 rfl rfl 6 (by decide) (hts _ (gw kw_723 rfl)) (fun _ h9 => h9) rfl dX12_isMan_6 ?_
    refine lv_icmp_ge (tgt := 16) hx hb dX12_isMan_9 (by decide) (fun c_2 => ?_) (fun c_2 => ?_)
    · refine lv_iconst (v := 0) hx hb dX12_isMan_16 (by decide) ?_
      have hP9 := hP.sub (ws' := [(g0, .inr (12, [.ref m_refused, .ref m_kind, .ref m_figure, .ref m_weight, .ref m_got, .ref m_setting, .int men, .int msy, .int mdn, .ref m_tape, .ref m_letter, .ref m_letterAt, .ref m_told, .int tp, .int mat, .int stm, .ref m_kept, .int hi, .int ki, .int cu, .ref m_price, .ref m_offer, .ref m_gets, .ref m_yes, .ref m_buys, .ref m_ends, .ref m_carried, .ref m_row, .int rm, .ref m_keptRow, .ref m_likeGets, .ref m_likePrice, .ref m_ahead]))]) [0] rfl
      have hD9 := hD.sub (ws' := [(g0, .inr (12, [.ref m_refused, .ref m_kind, .ref m_figure, .ref m_weight, .ref m_got, .ref m_setting, .int men, .int msy, .int mdn, .ref m_tape, .ref m_letter, .ref m_letterAt, .ref m_told, .int tp, .int mat, .int stm, .ref m_kept, .int hi, .int ki, .int cu, .ref m_price, .ref m_offer, .ref m_gets, .ref m_yes, .ref m_buys, .ref m_ends, .ref m_carried, .ref m_row, .int rm, .ref m_keptRow, .ref m_likeGets, .ref m_likePrice, .ref m_ahead]))]) [0] (by decide) rfl
      refine W.widen (k := 0) (n := 0) (by omega) (by omega) ?_
      exact W.zret (v := 0) hx hb hr rfl (fun t ht hW => ⟨⟨0, (), rfl, by simp [c_1, c_2], by rw [ht]; exact hP9, va_K.moved hW.alike hK, hD9⟩, hS.F ht⟩) hS.2.2 dX12_isMan_17
    · refine lv_iconst (v := 1) hx hb dX12_isMan_12 (by decide) ?_
      refine lv_goto (tgt := 17) hx hb dX12_isMan_13 (by decide) ?_
      have hP9 := hP.sub (ws' := [(g0, .inr (12, [.ref m_refused, .ref m_kind, .ref m_figure, .ref m_weight, .ref m_got, .ref m_setting, .int men, .int msy, .int mdn, .ref m_tape, .ref m_letter, .ref m_letterAt, .ref m_told, .int tp, .int mat, .int stm, .ref m_kept, .int hi, .int ki, .int cu, .ref m_price, .ref m_offer, .ref m_gets, .ref m_yes, .ref m_buys, .ref m_ends, .ref m_carried, .ref m_row, .int rm, .ref m_keptRow, .ref m_likeGets, .ref m_likePrice, .ref m_ahead]))]) [0] rfl
      have hD9 := hD.sub (ws' := [(g0, .inr (12, [.ref m_refused, .ref m_kind, .ref m_figure, .ref m_weight, .ref m_got, .ref m_setting, .int men, .int msy, .int mdn, .ref m_tape, .ref m_letter, .ref m_letterAt, .ref m_told, .int tp, .int mat, .int stm, .ref m_kept, .int hi, .int ki, .int cu, .ref m_price, .ref m_offer, .ref m_gets, .ref m_yes, .ref m_buys, .ref m_ends, .ref m_carried, .ref m_row, .int rm, .ref m_keptRow, .ref m_likeGets, .ref m_likePrice, .ref m_ahead]))]) [0] (by decide) rfl
      refine W.widen (k := 0) (n := 0) (by omega) (by omega) ?_
      exact W.zret (v := 1) hx hb hr rfl (fun t ht hW => ⟨⟨1, (), rfl, by simp [c_1, c_2], by rw [ht]; exact hP9, va_K.moved hW.alike hK, hD9⟩, hS.F ht⟩) hS.2.2 dX12_isMan_17

set_option maxHeartbeats 4000000 in
set_option maxRecDepth 100000 in
/-- X12_isOver -/
theorem c_X12_isOver (l : Launch) (dC : Nat → ClassId) (dI : Nat → Nat → Nat) (aC : Nat → ClassId) (sz : Nat) (g0 : Nat) (m_refused : Nat) (m_kind : Nat) (m_figure : Nat) (m_weight : Nat) (m_got : Nat) (m_setting : Nat) (m_tape : Nat) (m_letter : Nat) (m_letterAt : Nat) (m_told : Nat) (m_kept : Nat) (m_price : Nat) (m_offer : Nat) (m_gets : Nat) (m_yes : Nat) (m_buys : Nat) (m_ends : Nat) (m_carried : Nat) (m_row : Nat) (m_keptRow : Nat) (m_likeGets : Nat) (m_likePrice : Nat) (m_ahead : Nat) (men : Int32) (msy : Int32) (mdn : Int32) (tp : Int32) (mat : Int32) (stm : Int32) (hi : Int32) (ki : Int32) (cu : Int32) (rm : Int32)  : Met l yX12_isOver (wW yX12_isOver cX12_isOver 1 (some .boolean)) ({ frames := 0, cells := 0, slots := 0, locals := 0 } : Room) (va_Pc [.ref g0] (fun U => U.heap.size = sz ∧ va_P (dC, dI) classes [(g0, .inr (12, [.ref m_refused, .ref m_kind, .ref m_figure, .ref m_weight, .ref m_got, .ref m_setting, .int men, .int msy, .int mdn, .ref m_tape, .ref m_letter, .ref m_letterAt, .ref m_told, .int tp, .int mat, .int stm, .ref m_kept, .int hi, .int ki, .int cu, .ref m_price, .ref m_offer, .ref m_gets, .ref m_yes, .ref m_buys, .ref m_ends, .ref m_carried, .ref m_row, .int rm, .ref m_keptRow, .ref m_likeGets, .ref m_likePrice, .ref m_ahead]))] U.heap ∧ va_K (dC, dI) classes (TY aC) U ∧ va_D (fun _ => True) [(g0, .inr (12, [.ref m_refused, .ref m_kind, .ref m_figure, .ref m_weight, .ref m_got, .ref m_setting, .int men, .int msy, .int mdn, .ref m_tape, .ref m_letter, .ref m_letterAt, .ref m_told, .int tp, .int mat, .int stm, .ref m_kept, .int hi, .int ki, .int cu, .ref m_price, .ref m_offer, .ref m_gets, .ref m_yes, .ref m_buys, .ref m_ends, .ref m_carried, .ref m_row, .int rm, .ref m_keptRow, .ref m_likeGets, .ref m_likePrice, .ref m_ahead]))] ∧ NX U)) (va_Qi (fun (r : Int32) (_ : Unit) => r = if men = 0 then 1 else if mdn = 1 then 1 else 0) (fun (_ : Unit) (t : State) => va_P (dC, dI) classes [(g0, .inr (12, [.ref m_refused, .ref m_kind, .ref m_figure, .ref m_weight, .ref m_got, .ref m_setting, .int men, .int msy, .int mdn, .ref m_tape, .ref m_letter, .ref m_letterAt, .ref m_told, .int tp, .int mat, .int stm, .ref m_kept, .int hi, .int ki, .int cu, .ref m_price, .ref m_offer, .ref m_gets, .ref m_yes, .ref m_buys, .ref m_ends, .ref m_carried, .ref m_row, .int rm, .ref m_keptRow, .ref m_likeGets, .ref m_likePrice, .ref m_ahead]))] t.heap ∧ va_K (dC, dI) classes (TY aC) t ∧ va_D (va_A [(g0, .inr (12, [.ref m_refused, .ref m_kind, .ref m_figure, .ref m_weight, .ref m_got, .ref m_setting, .int men, .int msy, .int mdn, .ref m_tape, .ref m_letter, .ref m_letterAt, .ref m_told, .int tp, .int mat, .int stm, .ref m_kept, .int hi, .int ki, .int cu, .ref m_price, .ref m_offer, .ref m_gets, .ref m_yes, .ref m_buys, .ref m_ends, .ref m_carried, .ref m_row, .int rm, .ref m_keptRow, .ref m_likeGets, .ref m_likePrice, .ref m_ahead]))] sz) [(g0, .inr (12, [.ref m_refused, .ref m_kind, .ref m_figure, .ref m_weight, .ref m_got, .ref m_setting, .int men, .int msy, .int mdn, .ref m_tape, .ref m_letter, .ref m_letterAt, .ref m_told, .int tp, .int mat, .int stm, .ref m_kept, .int hi, .int ki, .int cu, .ref m_price, .ref m_offer, .ref m_gets, .ref m_yes, .ref m_buys, .ref m_ends, .ref m_carried, .ref m_row, .int rm, .ref m_keptRow, .ref m_likeGets, .ref m_likePrice, .ref m_ahead]))]) (va_A [(g0, .inr (12, [.ref m_refused, .ref m_kind, .ref m_figure, .ref m_weight, .ref m_got, .ref m_setting, .int men, .int msy, .int mdn, .ref m_tape, .ref m_letter, .ref m_letterAt, .ref m_told, .int tp, .int mat, .int stm, .ref m_kept, .int hi, .int ki, .int cu, .ref m_price, .ref m_offer, .ref m_gets, .ref m_yes, .ref m_buys, .ref m_ends, .ref m_carried, .ref m_row, .int rm, .ref m_keptRow, .ref m_likeGets, .ref m_likePrice, .ref m_ahead]))] sz)) 0 0 (va_A [(g0, .inr (12, [.ref m_refused, .ref m_kind, .ref m_figure, .ref m_weight, .ref m_got, .ref m_setting, .int men, .int msy, .int mdn, .ref m_tape, .ref m_letter, .ref m_letterAt, .ref m_told, .int tp, .int mat, .int stm, .ref m_kept, .int hi, .int ki, .int cu, .ref m_price, .ref m_offer, .ref m_gets, .ref m_yes, .ref m_buys, .ref m_ends, .ref m_carried, .ref m_row, .int rm, .ref m_keptRow, .ref m_likeGets, .ref m_likePrice, .ref m_ahead]))] sz) := by
  refine Met.ofW (cc := cX12_isOver) (maxL := 1) (ret := (some .boolean)) (by decide) rfl ?_
  intro p e s m args below meth c s₁ B hml hv
  obtain ⟨rfl, hsz, hP, hK, hD0, hN⟩ := hv
  have hx := B.exec
  have hb := B.bytes
  have hr := B.returns
  have hts0 := atoms_spec (ws := (wW yX12_isOver cX12_isOver 1 (some .boolean))) B.pre
  have hts : ∀ w9 ∈ lw_G, w9.before ([.ref g0] : List Value).toArray s = true := fun w9 h9 => hts0 w9 (List.mem_cons_of_mem _ h9)
  have hown : s.vm.findClass RX12 = some m.cls := findClass_of_methodNamed B.named
  have hlocks := B.notSynchronized
  subst hsz
  have hD := hD0.self (sz := s.heap.size)
  generalize hAe : va_A [(g0, .inr (12, [.ref m_refused, .ref m_kind, .ref m_figure, .ref m_weight, .ref m_got, .ref m_setting, .int men, .int msy, .int mdn, .ref m_tape, .ref m_letter, .ref m_letterAt, .ref m_told, .int tp, .int mat, .int stm, .ref m_kept, .int hi, .int ki, .int cu, .ref m_price, .ref m_offer, .ref m_gets, .ref m_yes, .ref m_buys, .ref m_ends, .ref m_carried, .ref m_row, .int rm, .ref m_keptRow, .ref m_likeGets, .ref m_likePrice, .ref m_ahead]))] s.heap.size = A at hD ⊢
  have hA : ∀ q : Nat, s.heap.size ≤ q → A q := fun q h => by rw [← hAe]; exact Or.inr h
  obtain ⟨H, hHe⟩ : ∃ H : Heap, H = s.heap := ⟨_, rfl⟩
  have hS : va_S A s.heap H [] := by rw [hHe]; exact va_S.rf
  have hP : va_P (dC, dI) classes [(g0, .inr (12, [.ref m_refused, .ref m_kind, .ref m_figure, .ref m_weight, .ref m_got, .ref m_setting, .int men, .int msy, .int mdn, .ref m_tape, .ref m_letter, .ref m_letterAt, .ref m_told, .int tp, .int mat, .int stm, .ref m_kept, .int hi, .int ki, .int cu, .ref m_price, .ref m_offer, .ref m_gets, .ref m_yes, .ref m_buys, .ref m_ends, .ref m_carried, .ref m_row, .int rm, .ref m_keptRow, .ref m_likeGets, .ref m_likePrice, .ref m_ahead]))] H := by rw [hHe]; exact hP
  have hl := lv_entry ([.ref g0]) (n := 1) (Nat.le_of_ble_eq_true rfl)
  rw [lg_entry_eq]
  generalize (lg_sl ([.ref g0]) ++ List.replicate (1 - (lg_sl ([.ref g0])).length) Slot.unset).toArray = ls at hl ⊢
  have hl : lv_has ls 1 [(0, .ref g0)] := hl
  rw [← hHe]
  refine lv_aload_n hx hb dX12_isOver_0 rfl (lv_at hl 0 rfl) ?_
  refine va_get (D := (dC, dI)) (ci := 12) (v := .int men) (C := RX12) (T := TX12) (N := 33) hx hb hts inX12 hown hK hP 0 rfl rfl 6 (by decide) (hts _ (gw kw_723 rfl)) (fun _ h9 => h9) rfl dX12_isOver_1 ?_
  refine lv_if_eq (tgt := 15) hx hb dX12_isOver_4 (by decide) (fun c_1 => ?_) (fun c_1 => ?_)
  · refine lv_iconst (v := 1) hx hb dX12_isOver_15 (by decide) ?_
    refine lv_goto (tgt := 20) hx hb dX12_isOver_16 (by decide) ?_
    have hP9 := hP.sub (ws' := [(g0, .inr (12, [.ref m_refused, .ref m_kind, .ref m_figure, .ref m_weight, .ref m_got, .ref m_setting, .int men, .int msy, .int mdn, .ref m_tape, .ref m_letter, .ref m_letterAt, .ref m_told, .int tp, .int mat, .int stm, .ref m_kept, .int hi, .int ki, .int cu, .ref m_price, .ref m_offer, .ref m_gets, .ref m_yes, .ref m_buys, .ref m_ends, .ref m_carried, .ref m_row, .int rm, .ref m_keptRow, .ref m_likeGets, .ref m_likePrice, .ref m_ahead]))]) [0] rfl
    have hD9 := hD.sub (ws' := [(g0, .inr (12, [.ref m_refused, .ref m_kind, .ref m_figure, .ref m_weight, .ref m_got, .ref m_setting, .int men, .int msy, .int mdn, .ref m_tape, .ref m_letter, .ref m_letterAt, .ref m_told, .int tp, .int mat, .int stm, .ref m_kept, .int hi, .int ki, .int cu, .ref m_price, .ref m_offer, .ref m_gets, .ref m_yes, .ref m_buys, .ref m_ends, .ref m_carried, .ref m_row, .int rm, .ref m_keptRow, .ref m_likeGets, .ref m_likePrice, .ref m_ahead]))]) [0] (by decide) rfl
    refine W.widen (k := 0) (n := 0) (by omega) (by omega) ?_
    exact W.zret (v := 1) hx hb hr rfl (fun t ht hW => ⟨⟨1, (), rfl, by simp [c_1], by rw [ht]; exact hP9, va_K.moved hW.alike hK, hD9⟩, hS.F ht⟩) hS.2.2 dX12_isOver_20
  · refine lv_aload_n hx hb dX12_isOver_7 rfl (lv_at hl 0 rfl) ?_
    refine va_get (D := (dC, dI)) (ci := 12) (v := .int mdn) (C := RX12) (T := TX12) (N := 33) hx hb hts inX12 hown hK hP 0 rfl rfl 8 (by decide) (hts _ (gw kw_725 rfl)) (fun _ h9 => h9) rfl dX12_isOver_8 ?_
    refine lv_iconst (v := 1) hx hb dX12_isOver_11 (by decide) ?_
    refine lv_icmp_ne (tgt := 19) hx hb dX12_isOver_12 (by decide) (fun c_2 => ?_) (fun c_2 => ?_)
    · refine lv_iconst (v := 0) hx hb dX12_isOver_19 (by decide) ?_
      have hP9 := hP.sub (ws' := [(g0, .inr (12, [.ref m_refused, .ref m_kind, .ref m_figure, .ref m_weight, .ref m_got, .ref m_setting, .int men, .int msy, .int mdn, .ref m_tape, .ref m_letter, .ref m_letterAt, .ref m_told, .int tp, .int mat, .int stm, .ref m_kept, .int hi, .int ki, .int cu, .ref m_price, .ref m_offer, .ref m_gets, .ref m_yes, .ref m_buys, .ref m_ends, .ref m_carried, .ref m_row, .int rm, .ref m_keptRow, .ref m_likeGets, .ref m_likePrice, .ref m_ahead]))]) [0] rfl
      have hD9 := hD.sub (ws' := [(g0, .inr (12, [.ref m_refused, .ref m_kind, .ref m_figure, .ref m_weight, .ref m_got, .ref m_setting, .int men, .int msy, .int mdn, .ref m_tape, .ref m_letter, .ref m_letterAt, .ref m_told, .int tp, .int mat, .int stm, .ref m_kept, .int hi, .int ki, .int cu, .ref m_price, .ref m_offer, .ref m_gets, .ref m_yes, .ref m_buys, .ref m_ends, .ref m_carried, .ref m_row, .int rm, .ref m_keptRow, .ref m_likeGets, .ref m_likePrice, .ref m_ahead]))]) [0] (by decide) rfl
      refine W.widen (k := 0) (n := 0) (by omega) (by omega) ?_
      exact W.zret (v := 0) hx hb hr rfl (fun t ht hW => ⟨⟨0, (), rfl, by simp [c_1, c_2], by rw [ht]; exact hP9, va_K.moved hW.alike hK, hD9⟩, hS.F ht⟩) hS.2.2 dX12_isOver_20
    · refine lv_iconst (v := 1) hx hb dX12_isOver_15 (by decide) ?_
      refine lv_goto (tgt := 20) hx hb dX12_isOver_16 (by decide) ?_
      have hP9 := hP.sub (ws' := [(g0, .inr (12, [.ref m_refused, .ref m_kind, .ref m_figure, .ref m_weight, .ref m_got, .ref m_setting, .int men, .int msy, .int mdn, .ref m_tape, .ref m_letter, .ref m_letterAt, .ref m_told, .int tp, .int mat, .int stm, .ref m_kept, .int hi, .int ki, .int cu, .ref m_price, .ref m_offer, .ref m_gets, .ref m_yes, .ref m_buys, .ref m_ends, .ref m_carried, .ref m_row, .int rm, .ref m_keptRow, .ref m_likeGets, .ref m_likePrice, .ref m_ahead]))]) [0] rfl
      have hD9 := hD.sub (ws' := [(g0, .inr (12, [.ref m_refused, .ref m_kind, .ref m_figure, .ref m_weight, .ref m_got, .ref m_setting, .int men, .int msy, .int mdn, .ref m_tape, .ref m_letter, .ref m_letterAt, .ref m_told, .int tp, .int mat, .int stm, .ref m_kept, .int hi, .int ki, .int cu, .ref m_price, .ref m_offer, .ref m_gets, .ref m_yes, .ref m_buys, .ref m_ends, .ref m_carried, .ref m_row, .int rm, .ref m_keptRow, .ref m_likeGets, .ref m_likePrice, .ref m_ahead]))]) [0] (by decide) rfl
      refine W.widen (k := 0) (n := 0) (by omega) (by omega) ?_
      exact W.zret (v := 1) hx hb hr rfl (fun t ht hW => ⟨⟨1, (), rfl, by simp [c_1, c_2], by rw [ht]; exact hP9, va_K.moved hW.alike hK, hD9⟩, hS.F ht⟩) hS.2.2 dX12_isOver_20
