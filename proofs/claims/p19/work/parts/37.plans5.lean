/-! sets of units -/
def cst (f : Nat → Nat) (s : Nat) : Nat := sumr (fun u => if s.testBit u = true then f u else 0) 0 7
theorem sumr_zero {f : Nat → Nat} {a : Nat} : ∀ {k : Nat}, (∀ j, a ≤ j → j < a + k → f j = 0) → sumr f a k = 0
  | 0, _ => rfl
  | k + 1, h => by
    show sumr f a k + f (a + k) = 0
    rw [sumr_zero (fun j h1 h2 => h j h1 (by omega)), h (a + k) (by omega) (by omega)]
theorem cst_0 {f : Nat → Nat} : cst f 0 = 0 := sumr_zero fun j _ _ => by simp
theorem sumr_one {f g : Nat → Nat} {a t : Nat} : ∀ {k : Nat}, a ≤ t → t < a + k → (∀ j, a ≤ j → j < a + k → j ≠ t → f j = g j) → sumr f a k + g t = sumr g a k + f t
  | 0, h1, h2, _ => by omega
  | k + 1, h1, h2, h => by
    show sumr f a k + f (a + k) + g t = sumr g a k + g (a + k) + f t
    by_cases e : t = a + k
    · subst e
      rw [sumr_congr (fun j q1 q2 => h j q1 (by omega) (by omega))]
      omega
    · have := sumr_one (f := f) (g := g) (a := a) (t := t) (k := k) h1 (by omega) (fun j q1 q2 q3 => h j q1 (by omega) q3)
      rw [h (a + k) (by omega) (by omega) (fun q => e q.symm)]
      omega
theorem cst_add {f : Nat → Nat} {t s : Nat} (ht : t < 7) (hs : s < 2 ^ t) : cst f (2 ^ t + s) = cst f s + f t := by
  unfold cst
  have h1 : (2 ^ t + s).testBit t = true := by
    rw [Nat.testBit_two_pow_add_eq, Nat.testBit_lt_two_pow hs]
    rfl
  have h2 : s.testBit t = false := Nat.testBit_lt_two_pow hs
  have h := sumr_one (f := fun u => if (2 ^ t + s).testBit u = true then f u else 0) (g := fun u => if s.testBit u = true then f u else 0) (a := 0) (t := t) (k := 7) (by omega) (by omega) (fun j _ _ hj => by
    have : (2 ^ t + s).testBit j = s.testBit j := by
      rcases Nat.lt_or_ge j t with q | q
      · exact Nat.testBit_two_pow_add_gt q s
      · have hlt : t < j := by omega
        have e1 : s < 2 ^ j := Nat.lt_of_lt_of_le hs (Nat.pow_le_pow_right (by omega) q)
        have e2 : 2 ^ t + s < 2 ^ j := by
          have : 2 ^ (t + 1) ≤ 2 ^ j := Nat.pow_le_pow_right (by omega) hlt
          rw [Nat.pow_succ] at this
          omega
        rw [Nat.testBit_lt_two_pow e1, Nat.testBit_lt_two_pow e2]
    rw [this])
  simp only [h1, h2, if_true, Bool.false_eq_true, if_false] at h
  omega
theorem p2_le {t : Nat} (h : t ≤ 7) : 2 ^ t ≤ 128 := (Nat.pow_le_pow_right (by omega) h : 2 ^ t ≤ 2 ^ 7)
theorem p2_le6 {t : Nat} (h : t < 7) : 2 ^ t ≤ 64 := (Nat.pow_le_pow_right (by omega) (by omega) : 2 ^ t ≤ 2 ^ 6)
theorem p2_pos {t : Nat} : 1 ≤ 2 ^ t := Nat.one_le_two_pow
theorem sh1 : ∀ t, t < 31 → (1 : Int32) <<< (nI t &&& 31) = nI (2 ^ t) := by decide +kernel
def mu (fst : Int32) (n i u : Nat) : Nat := if fst = 0 then n - 1 - u else i + 1 + u

set_option maxHeartbeats 1000000 in
set_option maxRecDepth 100000 in
/-- X9_forgetUnits -/
theorem c_X9_forgetUnits (l : Launch) (dC : Nat → ClassId) (dI : Nat → Nat → Nat) (aC : Nat → ClassId) (sz : Nat) (h1 : Nat) (po : Nat) (pp : Nat) (ps : Nat) (pa : Nat) (pe : Nat) (pb : Nat) (pv : Nat) (pk : Nat) (pu : Nat) (pw : Nat) (pq : Nat) (pt : Nat) (un : Int32) (fw : Int32)  : Met l yX9_forgetUnits (wW yX9_forgetUnits cX9_forgetUnits 1 (none : Option FieldType)) ({ frames := 0, cells := 0, slots := 0, locals := 0 } : Room) (va_Pc [Value.ref h1] (fun U => U.heap.size = sz ∧ va_P (dC, dI) classes [oX9 h1 po pp ps pa pe pb pv pk pu pw pq pt un fw] U.heap ∧ va_K (dC, dI) classes (TY aC) U ∧ va_D (fun _ => True) [oX9 h1 po pp ps pa pe pb pv pk pu pw pq pt un fw] ∧ NX U)) (va_Qv (fun (_ : Unit) => True) (fun (_ : Unit) (t : State) => va_P (dC, dI) classes [oX9 h1 po pp ps pa pe pb pv pk pu pw pq pt 0 0] t.heap ∧ va_K (dC, dI) classes (TY aC) t ∧ va_D (va_A [oX9 h1 po pp ps pa pe pb pv pk pu pw pq pt un fw] sz) [oX9 h1 po pp ps pa pe pb pv pk pu pw pq pt 0 0]) (va_A [oX9 h1 po pp ps pa pe pb pv pk pu pw pq pt un fw] sz)) 0 0 (va_A [oX9 h1 po pp ps pa pe pb pv pk pu pw pq pt un fw] sz) := by
  refine Met.ofW (cc := cX9_forgetUnits) (maxL := 1) (ret := (none : Option FieldType)) (by decide) rfl ?_
  intro p e s m args below meth c s₁ B hml hv
  obtain ⟨rfl, hsz, hP, hK, hD0, hN⟩ := hv
  have hx := B.exec
  have hb := B.bytes
  have hr := B.returns
  have hts0 := atoms_spec (ws := (wW yX9_forgetUnits cX9_forgetUnits 1 (none : Option FieldType))) B.pre
  have hts : ∀ w9 ∈ lw_G, w9.before ([Value.ref h1] : List Value).toArray s = true := fun w9 h9 => hts0 w9 (List.mem_cons_of_mem _ h9)
  have hown : s.vm.findClass RX9 = some m.cls := findClass_of_methodNamed (x := yX9_forgetUnits) B.named
  have hlocks := B.notSynchronized
  subst hsz
  have hD := hD0.self (sz := s.heap.size)
  generalize hAe : va_A [oX9 h1 po pp ps pa pe pb pv pk pu pw pq pt un fw] s.heap.size = A at hD ⊢
  have hA : ∀ q : Nat, s.heap.size ≤ q → A q := fun q h => by rw [← hAe]; exact Or.inr h
  obtain ⟨H, hHe⟩ : ∃ H : Heap, H = s.heap := ⟨_, rfl⟩
  have hS : va_S A s.heap H [] := by rw [hHe]; exact va_S.rf
  have hP : va_P (dC, dI) classes [oX9 h1 po pp ps pa pe pb pv pk pu pw pq pt un fw] H := by rw [hHe]; exact hP
  have hl := lv_entry ([Value.ref h1]) (n := 1) (Nat.le_of_ble_eq_true rfl)
  rw [lg_entry_eq]
  generalize (lg_sl ([Value.ref h1]) ++ List.replicate (1 - (lg_sl ([Value.ref h1])).length) Slot.unset).toArray = ls at hl ⊢
  have hl : lv_has ls 1 [(0, Value.ref h1)] := hl
  rw [← hHe]
  refine lv_aload_n hx hb dX9_forgetUnits_0 rfl (lv_at hl 0 rfl) ?_
  refine lv_iconst (v := 0) hx hb dX9_forgetUnits_1 (by decide) ?_
  refine va_put (D := (dC, dI)) (ci := 9) (v := Value.int 0) (ty := .int) (C := RX9) (T := TX9) (N := 14) hx hb hts inX9 tyX9 tyX9_ok nmX9 hown hK hP hD hS 0 rfl rfl 12 (by decide) (hts _ (gw kw_169 rfl)) (fun _ h9 => h9) rfl (by decide +kernel) rfl rfl (Nat.le_of_ble_eq_true rfl) dX9_forgetUnits_2 (fun H locs hP hD hS => ?_)
  have hpd9 : PDx (dC, dI) classes A H [oX9 h1 po pp ps pa pe pb pv pk pu pw pq pt 0 fw] := ⟨hP, hD⟩
  have hP := hpd9.1
  have hD := hpd9.2
  clear hpd9
  refine lv_aload_n hx hb dX9_forgetUnits_5 rfl (lv_at hl 0 rfl) ?_
  refine lv_iconst (v := 0) hx hb dX9_forgetUnits_6 (by decide) ?_
  refine va_put (D := (dC, dI)) (ci := 9) (v := Value.int 0) (ty := .int) (C := RX9) (T := TX9) (N := 14) hx hb hts inX9 tyX9 tyX9_ok nmX9 hown hK hP hD hS 0 rfl rfl 13 (by decide) (hts _ (gw kw_170 rfl)) (fun _ h9 => h9) rfl (by decide +kernel) rfl rfl (Nat.le_of_ble_eq_true rfl) dX9_forgetUnits_7 (fun H locs hP hD hS => ?_)
  have hpd9 : PDx (dC, dI) classes A H [oX9 h1 po pp ps pa pe pb pv pk pu pw pq pt 0 0] := ⟨hP, hD⟩
  have hP := hpd9.1
  have hD := hpd9.2
  clear hpd9
  have hpd9 := pd_N (cx := [oX9 h1 po pp ps pa pe pb pv pk pu pw pq pt 0 0]) hP hD [0] (by decide) rfl
  have hP9 := hpd9.1
  have hD9 := hpd9.2
  refine W.widen (k := 0) (n := 0) (by omega) (by omega) ?_
  exact W.vret hx hb hr (fun t ht hW => ⟨⟨(), rfl, trivial, by rw [ht]; exact hP9, va_K.moved hW.alike hK, hD9⟩, hS.F ht⟩) hS.2.2 dX9_forgetUnits_10

set_option maxHeartbeats 1000000 in
set_option maxRecDepth 100000 in
/-- X9_manOfUnit -/
theorem c_X9_manOfUnit (l : Launch) (dC : Nat → ClassId) (dI : Nat → Nat → Nat) (aC : Nat → ClassId) (sz : Nat) (h1 : Nat) (po : Nat) (pp : Nat) (ps : Nat) (pa : Nat) (pe : Nat) (pb : Nat) (pv : Nat) (pk : Nat) (pu : Nat) (pw : Nat) (pq : Nat) (pt : Nat) (un : Int32) (fw : Int32) (ek : Nat) (ef : Nat) (ew : Nat) (ep : Nat) (es : Nat) (n : Nat) (sy : Int32) (dn : Int32) (stf : Nat → Int32) (i : Nat) (u : Nat) (hu : i + 1 + u < n ∧ n ≤ 8) : Met l yX9_manOfUnit (wW yX9_manOfUnit cX9_manOfUnit 3 (some .int)) ({ frames := 0, cells := 0, slots := 0, locals := 0 } : Room) (va_Pc [Value.ref h1, Value.int (nI i), Value.int (nI u)] (fun U => U.heap.size = sz ∧ va_P (dC, dI) classes [oX9 h1 po pp ps pa pe pb pv pk pu pw pq pt un fw, oX4 pv ek ef ew ep es (nI n) sy dn, cI aC es 5 stf] U.heap ∧ va_K (dC, dI) classes (TY aC) U ∧ va_D (fun _ => True) [oX9 h1 po pp ps pa pe pb pv pk pu pw pq pt un fw, oX4 pv ek ef ew ep es (nI n) sy dn, cI aC es 5 stf] ∧ NX U)) (va_Qi (fun (r : Int32) (_ : Unit) => r = nI (mu (stf 3) n i u)) (fun (_ : Unit) (t : State) => va_P (dC, dI) classes [oX9 h1 po pp ps pa pe pb pv pk pu pw pq pt un fw, oX4 pv ek ef ew ep es (nI n) sy dn, cI aC es 5 stf] t.heap ∧ va_K (dC, dI) classes (TY aC) t ∧ va_D (va_A [oX9 h1 po pp ps pa pe pb pv pk pu pw pq pt un fw, oX4 pv ek ef ew ep es (nI n) sy dn, cI aC es 5 stf] sz) [oX9 h1 po pp ps pa pe pb pv pk pu pw pq pt un fw, oX4 pv ek ef ew ep es (nI n) sy dn, cI aC es 5 stf]) (va_A [oX9 h1 po pp ps pa pe pb pv pk pu pw pq pt un fw, oX4 pv ek ef ew ep es (nI n) sy dn, cI aC es 5 stf] sz)) 0 0 (va_A [oX9 h1 po pp ps pa pe pb pv pk pu pw pq pt un fw, oX4 pv ek ef ew ep es (nI n) sy dn, cI aC es 5 stf] sz) := by
  refine Met.ofW (cc := cX9_manOfUnit) (maxL := 3) (ret := (some .int)) (by decide) rfl ?_
  intro p e s m args below meth c s₁ B hml hv
  obtain ⟨rfl, hsz, hP, hK, hD0, hN⟩ := hv
  have hx := B.exec
  have hb := B.bytes
  have hr := B.returns
  have hts0 := atoms_spec (ws := (wW yX9_manOfUnit cX9_manOfUnit 3 (some .int))) B.pre
  have hts : ∀ w9 ∈ lw_G, w9.before ([Value.ref h1, Value.int (nI i), Value.int (nI u)] : List Value).toArray s = true := fun w9 h9 => hts0 w9 (List.mem_cons_of_mem _ h9)
  have hown : s.vm.findClass RX9 = some m.cls := findClass_of_methodNamed (x := yX9_manOfUnit) B.named
  have hlocks := B.notSynchronized
  subst hsz
  have hD := hD0.self (sz := s.heap.size)
  generalize hAe : va_A [oX9 h1 po pp ps pa pe pb pv pk pu pw pq pt un fw, oX4 pv ek ef ew ep es (nI n) sy dn, cI aC es 5 stf] s.heap.size = A at hD ⊢
  have hA : ∀ q : Nat, s.heap.size ≤ q → A q := fun q h => by rw [← hAe]; exact Or.inr h
  obtain ⟨H, hHe⟩ : ∃ H : Heap, H = s.heap := ⟨_, rfl⟩
  have hS : va_S A s.heap H [] := by rw [hHe]; exact va_S.rf
  have hP : va_P (dC, dI) classes [oX9 h1 po pp ps pa pe pb pv pk pu pw pq pt un fw, oX4 pv ek ef ew ep es (nI n) sy dn, cI aC es 5 stf] H := by rw [hHe]; exact hP
  have hl := lv_entry ([Value.ref h1, Value.int (nI i), Value.int (nI u)]) (n := 3) (Nat.le_of_ble_eq_true rfl)
  rw [lg_entry_eq]
  generalize (lg_sl ([Value.ref h1, Value.int (nI i), Value.int (nI u)]) ++ List.replicate (3 - (lg_sl ([Value.ref h1, Value.int (nI i), Value.int (nI u)])).length) Slot.unset).toArray = ls at hl ⊢
  have hl : lv_has ls 3 [(0, Value.ref h1), (1, Value.int (nI i)), (2, Value.int (nI u))] := hl
  rw [← hHe]
  refine lv_aload_n hx hb dX9_manOfUnit_0 rfl (lv_at hl 0 rfl) ?_
  refine va_get (D := (dC, dI)) (ci := 9) (v := Value.ref pv) (C := RX9) (T := TX9) (N := 14) hx hb hts inX9 hown hK hP 0 rfl rfl 6 (by decide) (hts _ (gw kw_162 rfl)) (fun _ h9 => h9) rfl dX9_manOfUnit_1 ?_
  refine va_get (D := (dC, dI)) (ci := 4) (v := Value.ref es) (C := RX4) (T := TX4) (N := 8) hx hb hts inX4 hown hK hP 1 rfl rfl 4 (by decide) (hts _ (gw kw_44 rfl)) (fun _ h9 => h9) rfl dX9_manOfUnit_4 ?_
  refine lv_iconst (v := 3) hx hb dX9_manOfUnit_7 (by decide) ?_
  have h_1 : vp_in 3 5 := by first | exact vp_in_nI (by omega) (by omega) | (unfold vp_in; decide) | (subst_vars; first | (unfold vp_in; decide) | exact vp_in_nI (by omega) (by omega))
  refine va_iald hx hb hK hP 2 0 rfl rfl h_1 dX9_manOfUnit_8 ?_
  refine lv_topi (fun x_2 e_2 => ?_)
  have h9 : x_2 = (stf 3) := by rw [e_2]; rfl
  subst h9
  refine lv_if_ne (tgt := 26) hx hb dX9_manOfUnit_9 (by decide) (fun c_3 => ?_) (fun c_3 => ?_)
  · refine lv_iload_n hx hb dX9_manOfUnit_26 rfl (lv_at hl 1 rfl) ?_
    refine lv_iconst (v := 1) hx hb dX9_manOfUnit_27 (by decide) ?_
    refine lv_iadd hx hb dX9_manOfUnit_28 ?_
    refine lv_topi (fun x_4 e_4 => ?_)
    have h9 : x_4 = nI (i + 1) := by rw [e_4, nI_1]
    subst h9
    refine lv_iload_n hx hb dX9_manOfUnit_29 rfl (lv_at hl 2 rfl) ?_
    refine lv_iadd hx hb dX9_manOfUnit_30 ?_
    refine lv_topi (fun x_5 e_5 => ?_)
    have h9 : x_5 = nI (i + 1 + u) := by rw [e_5, nI_add]
    subst h9
    have hpd9 := pd_N (cx := [oX9 h1 po pp ps pa pe pb pv pk pu pw pq pt un fw, oX4 pv ek ef ew ep es (nI n) sy dn, cI aC es 5 stf]) hP hD [0, 1, 2] (by decide) rfl
    have hP9 := hpd9.1
    have hD9 := hpd9.2
    refine W.widen (k := 0) (n := 0) (by omega) (by omega) ?_
    exact W.iret (v := nI (i + 1 + u)) hx hb hr (fun t ht hW => ⟨⟨(nI (i + 1 + u)), (), rfl, by unfold mu; rw [if_neg c_3], by rw [ht]; exact hP9, va_K.moved hW.alike hK, hD9⟩, hS.F ht⟩) hS.2.2 dX9_manOfUnit_31
  · refine lv_aload_n hx hb dX9_manOfUnit_12 rfl (lv_at hl 0 rfl) ?_
    refine va_get (D := (dC, dI)) (ci := 9) (v := Value.ref pv) (C := RX9) (T := TX9) (N := 14) hx hb hts inX9 hown hK hP 0 rfl rfl 6 (by decide) (hts _ (gw kw_162 rfl)) (fun _ h9 => h9) rfl dX9_manOfUnit_13 ?_
    refine va_get (D := (dC, dI)) (ci := 4) (v := Value.int (nI n)) (C := RX4) (T := TX4) (N := 8) hx hb hts inX4 hown hK hP 1 rfl rfl 5 (by decide) (hts _ (gw kw_47 rfl)) (fun _ h9 => h9) rfl dX9_manOfUnit_16 ?_
    refine lv_iconst (v := 1) hx hb dX9_manOfUnit_19 (by decide) ?_
    refine lv_isub hx hb dX9_manOfUnit_20 ?_
    refine lv_topi (fun x_6 e_6 => ?_)
    have h9 : x_6 = nI (n - 1) := by rw [e_6]; exact pk_sub (a := n) (b := 1) (by omega)
    subst h9
    refine lv_iload_n hx hb dX9_manOfUnit_21 rfl (lv_at hl 2 rfl) ?_
    refine lv_isub hx hb dX9_manOfUnit_22 ?_
    refine lv_topi (fun x_7 e_7 => ?_)
    have h9 : x_7 = nI (n - 1 - u) := by rw [e_7]; exact pk_sub (by omega)
    subst h9
    refine lv_goto (tgt := 31) hx hb dX9_manOfUnit_23 (by decide) ?_
    have hpd9 := pd_N (cx := [oX9 h1 po pp ps pa pe pb pv pk pu pw pq pt un fw, oX4 pv ek ef ew ep es (nI n) sy dn, cI aC es 5 stf]) hP hD [0, 1, 2] (by decide) rfl
    have hP9 := hpd9.1
    have hD9 := hpd9.2
    refine W.widen (k := 0) (n := 0) (by omega) (by omega) ?_
    exact W.iret (v := nI (n - 1 - u)) hx hb hr (fun t ht hW => ⟨⟨(nI (n - 1 - u)), (), rfl, by unfold mu; rw [if_pos c_3], by rw [ht]; exact hP9, va_K.moved hW.alike hK, hD9⟩, hS.F ht⟩) hS.2.2 dX9_manOfUnit_31

set_option maxHeartbeats 1000000 in
set_option maxRecDepth 100000 in
/-- X9_addUnit -/
theorem c_X9_addUnit (l : Launch) (dC : Nat → ClassId) (dI : Nat → Nat → Nat) (aC : Nat → ClassId) (sz : Nat) (h1 : Nat) (po : Nat) (pp : Nat) (ps : Nat) (pa : Nat) (pe : Nat) (pb : Nat) (pv : Nat) (pk : Nat) (pu : Nat) (pw : Nat) (pq : Nat) (pt : Nat) (k : Nat) (fw : Nat) (p0 : Nat) (w0 : Nat) (uf : Nat → Int32) (vf : Nat → Int32) (hk : k < 7) (hp : p0 ≤ 1000) (hw : w0 ≤ 1000) : Met l yX9_addUnit (wW yX9_addUnit cX9_addUnit 3 (none : Option FieldType)) ({ frames := 0, cells := 0, slots := 0, locals := 0 } : Room) (va_Pc [Value.ref h1, Value.int (nI p0), Value.int (nI w0)] (fun U => U.heap.size = sz ∧ va_P (dC, dI) classes [oX9 h1 po pp ps pa pe pb pv pk pu pw pq pt (nI k) (nI fw), cI aC pu 7 uf, cI aC pw 7 vf] U.heap ∧ va_K (dC, dI) classes (TY aC) U ∧ va_D (fun _ => True) [oX9 h1 po pp ps pa pe pb pv pk pu pw pq pt (nI k) (nI fw), cI aC pu 7 uf, cI aC pw 7 vf] ∧ NX U)) (va_Qv (fun (u : (Nat → Int32) × (Nat → Int32)) => match u with | (ug, vg) => ug k = nI p0 ∧ (∀ q, q ≠ k → ug q = uf q) ∧ vg k = nI (if 0 < p0 then w0 else 0) ∧ ∀ q, q ≠ k → vg q = vf q) (fun (u : (Nat → Int32) × (Nat → Int32)) (t : State) => match u with | (ug, vg) => va_P (dC, dI) classes [oX9 h1 po pp ps pa pe pb pv pk pu pw pq pt (nI (k + 1)) (nI (fw + (if 0 < p0 then 0 else w0))), cI aC pu 7 ug, cI aC pw 7 vg] t.heap ∧ va_K (dC, dI) classes (TY aC) t ∧ va_D (va_A [oX9 h1 po pp ps pa pe pb pv pk pu pw pq pt (nI k) (nI fw), cI aC pu 7 uf, cI aC pw 7 vf] sz) [oX9 h1 po pp ps pa pe pb pv pk pu pw pq pt (nI (k + 1)) (nI (fw + (if 0 < p0 then 0 else w0))), cI aC pu 7 ug, cI aC pw 7 vg]) (va_A [oX9 h1 po pp ps pa pe pb pv pk pu pw pq pt (nI k) (nI fw), cI aC pu 7 uf, cI aC pw 7 vf] sz)) 0 0 (va_A [oX9 h1 po pp ps pa pe pb pv pk pu pw pq pt (nI k) (nI fw), cI aC pu 7 uf, cI aC pw 7 vf] sz) := by
  refine Met.ofW (cc := cX9_addUnit) (maxL := 3) (ret := (none : Option FieldType)) (by decide) rfl ?_
  intro p e s m args below meth c s₁ B hml hv
  obtain ⟨rfl, hsz, hP, hK, hD0, hN⟩ := hv
  have hx := B.exec
  have hb := B.bytes
  have hr := B.returns
  have hts0 := atoms_spec (ws := (wW yX9_addUnit cX9_addUnit 3 (none : Option FieldType))) B.pre
  have hts : ∀ w9 ∈ lw_G, w9.before ([Value.ref h1, Value.int (nI p0), Value.int (nI w0)] : List Value).toArray s = true := fun w9 h9 => hts0 w9 (List.mem_cons_of_mem _ h9)
  have hown : s.vm.findClass RX9 = some m.cls := findClass_of_methodNamed (x := yX9_addUnit) B.named
  have hlocks := B.notSynchronized
  subst hsz
  have hD := hD0.self (sz := s.heap.size)
  generalize hAe : va_A [oX9 h1 po pp ps pa pe pb pv pk pu pw pq pt (nI k) (nI fw), cI aC pu 7 uf, cI aC pw 7 vf] s.heap.size = A at hD ⊢
  have hA : ∀ q : Nat, s.heap.size ≤ q → A q := fun q h => by rw [← hAe]; exact Or.inr h
  obtain ⟨H, hHe⟩ : ∃ H : Heap, H = s.heap := ⟨_, rfl⟩
  have hS : va_S A s.heap H [] := by rw [hHe]; exact va_S.rf
  have hP : va_P (dC, dI) classes [oX9 h1 po pp ps pa pe pb pv pk pu pw pq pt (nI k) (nI fw), cI aC pu 7 uf, cI aC pw 7 vf] H := by rw [hHe]; exact hP
  have hl := lv_entry ([Value.ref h1, Value.int (nI p0), Value.int (nI w0)]) (n := 3) (Nat.le_of_ble_eq_true rfl)
  rw [lg_entry_eq]
  generalize (lg_sl ([Value.ref h1, Value.int (nI p0), Value.int (nI w0)]) ++ List.replicate (3 - (lg_sl ([Value.ref h1, Value.int (nI p0), Value.int (nI w0)])).length) Slot.unset).toArray = ls at hl ⊢
  have hl : lv_has ls 3 [(0, Value.ref h1), (1, Value.int (nI p0)), (2, Value.int (nI w0))] := hl
  rw [← hHe]
  refine lv_aload_n hx hb dX9_addUnit_0 rfl (lv_at hl 0 rfl) ?_
  refine va_get (D := (dC, dI)) (ci := 9) (v := Value.int (nI k)) (C := RX9) (T := TX9) (N := 14) hx hb hts inX9 hown hK hP 0 rfl rfl 12 (by decide) (hts _ (gw kw_169 rfl)) (fun _ h9 => h9) rfl dX9_addUnit_1 ?_
  refine lv_aload_n hx hb dX9_addUnit_4 rfl (lv_at hl 0 rfl) ?_
  refine va_get (D := (dC, dI)) (ci := 9) (v := Value.ref pu) (C := RX9) (T := TX9) (N := 14) hx hb hts inX9 hown hK hP 0 rfl rfl 8 (by decide) (hts _ (gw kw_165 rfl)) (fun _ h9 => h9) rfl dX9_addUnit_5 ?_
  refine va_alen (v := 7) hx hb hK hP 1 0 rfl rfl rfl dX9_addUnit_8 ?_
  refine lv_icmp_ge (tgt := 68) hx hb dX9_addUnit_9 (by decide) (fun c_1 => ?_) (fun c_1 => ?_)
  · exact absurd ((nI_leI (a := 7) (b := k) (by omega) (by omega)).mp c_1) (by omega)
  · refine lv_aload_n hx hb dX9_addUnit_12 rfl (lv_at hl 0 rfl) ?_
    refine va_get (D := (dC, dI)) (ci := 9) (v := Value.ref pu) (C := RX9) (T := TX9) (N := 14) hx hb hts inX9 hown hK hP 0 rfl rfl 8 (by decide) (hts _ (gw kw_165 rfl)) (fun _ h9 => h9) rfl dX9_addUnit_13 ?_
    refine lv_aload_n hx hb dX9_addUnit_16 rfl (lv_at hl 0 rfl) ?_
    refine va_get (D := (dC, dI)) (ci := 9) (v := Value.int (nI k)) (C := RX9) (T := TX9) (N := 14) hx hb hts inX9 hown hK hP 0 rfl rfl 12 (by decide) (hts _ (gw kw_169 rfl)) (fun _ h9 => h9) rfl dX9_addUnit_17 ?_
    refine lv_iload_n hx hb dX9_addUnit_20 rfl (lv_at hl 1 rfl) ?_
    have h_2 : vp_in (nI k) 7 := by first | exact vp_in_nI (by omega) (by omega) | (unfold vp_in; decide) | (subst_vars; first | (unfold vp_in; decide) | exact vp_in_nI (by omega) (by omega))
    refine va_iast hx hb hK hP hD hS 1 0 rfl rfl h_2 dX9_addUnit_21 (fun H locs hP hD hS => ?_)
    obtain ⟨f_3, e_f_3⟩ : ∃ y : Nat → Int32, y = upd uf (nI k : Int32).toNatClampNeg (nI p0) := ⟨_, rfl⟩
    have hpd9 : PDx (dC, dI) classes A H [oX9 h1 po pp ps pa pe pb pv pk pu pw pq pt (nI k) (nI fw), cI aC pu 7 f_3, cI aC pw 7 vf] := by rw [e_f_3]; exact ⟨hP, hD⟩
    have hP := hpd9.1
    have hD := hpd9.2
    clear hpd9
    refine lv_aload_n hx hb dX9_addUnit_22 rfl (lv_at hl 0 rfl) ?_
    refine va_get (D := (dC, dI)) (ci := 9) (v := Value.ref pw) (C := RX9) (T := TX9) (N := 14) hx hb hts inX9 hown hK hP 0 rfl rfl 9 (by decide) (hts _ (gw kw_166 rfl)) (fun _ h9 => h9) rfl dX9_addUnit_23 ?_
    refine lv_aload_n hx hb dX9_addUnit_26 rfl (lv_at hl 0 rfl) ?_
    refine va_get (D := (dC, dI)) (ci := 9) (v := Value.int (nI k)) (C := RX9) (T := TX9) (N := 14) hx hb hts inX9 hown hK hP 0 rfl rfl 12 (by decide) (hts _ (gw kw_169 rfl)) (fun _ h9 => h9) rfl dX9_addUnit_27 ?_
    refine lv_iload_n hx hb dX9_addUnit_30 rfl (lv_at hl 1 rfl) ?_
    refine lv_if_le (tgt := 38) hx hb dX9_addUnit_31 (by decide) (fun c_4 => ?_) (fun c_4 => ?_)
    · refine lv_iconst (v := 0) hx hb dX9_addUnit_38 (by decide) ?_
      have h_5 : vp_in (nI k) 7 := by first | exact vp_in_nI (by omega) (by omega) | (unfold vp_in; decide) | (subst_vars; first | (unfold vp_in; decide) | exact vp_in_nI (by omega) (by omega))
      refine va_iast hx hb hK hP hD hS 2 0 rfl rfl h_5 dX9_addUnit_39 (fun H locs hP hD hS => ?_)
      obtain ⟨f_6, e_f_6⟩ : ∃ y : Nat → Int32, y = upd vf (nI k : Int32).toNatClampNeg 0 := ⟨_, rfl⟩
      have hpd9 : PDx (dC, dI) classes A H [oX9 h1 po pp ps pa pe pb pv pk pu pw pq pt (nI k) (nI fw), cI aC pu 7 f_3, cI aC pw 7 f_6] := by rw [e_f_6]; exact ⟨hP, hD⟩
      have hP := hpd9.1
      have hD := hpd9.2
      clear hpd9
      have hp0 : p0 = 0 := by have := (nI_leI (a := p0) (b := 0) (by omega) (by omega)).mp c_4; omega
      refine lv_aload_n hx hb dX9_addUnit_40 rfl (lv_at hl 0 rfl) ?_
      refine lv_dup hx hb dX9_addUnit_41 rfl ?_
      refine va_get (D := (dC, dI)) (ci := 9) (v := Value.int (nI fw)) (C := RX9) (T := TX9) (N := 14) hx hb hts inX9 hown hK hP 0 rfl rfl 13 (by decide) (hts _ (gw kw_170 rfl)) (fun _ h9 => h9) rfl dX9_addUnit_42 ?_
      refine lv_iload_n hx hb dX9_addUnit_45 rfl (lv_at hl 1 rfl) ?_
      refine lv_if_le (tgt := 53) hx hb dX9_addUnit_46 (by decide) (fun c_7 => ?_) (fun c_7 => ?_)
      · refine lv_iload_n hx hb dX9_addUnit_53 rfl (lv_at hl 2 rfl) ?_
        refine lv_iadd hx hb dX9_addUnit_54 ?_
        refine lv_topi (fun x_8 e_8 => ?_)
        have h9 : x_8 = nI (fw + (if 0 < p0 then 0 else w0)) := by rw [e_8, if_neg (by omega)]; exact nI_add _ _
        subst h9
        refine va_put (D := (dC, dI)) (ci := 9) (v := Value.int (nI (fw + (if 0 < p0 then 0 else w0)))) (ty := .int) (C := RX9) (T := TX9) (N := 14) hx hb hts inX9 tyX9 tyX9_ok nmX9 hown hK hP hD hS 0 rfl rfl 13 (by decide) (hts _ (gw kw_170 rfl)) (fun _ h9 => h9) rfl (by decide +kernel) rfl rfl (Nat.le_of_ble_eq_true rfl) dX9_addUnit_55 (fun H locs hP hD hS => ?_)
        have hpd9 : PDx (dC, dI) classes A H [oX9 h1 po pp ps pa pe pb pv pk pu pw pq pt (nI k) (nI (fw + (if 0 < p0 then 0 else w0))), cI aC pu 7 f_3, cI aC pw 7 f_6] := ⟨hP, hD⟩
        have hP := hpd9.1
        have hD := hpd9.2
        clear hpd9
        refine lv_aload_n hx hb dX9_addUnit_58 rfl (lv_at hl 0 rfl) ?_
        refine lv_dup hx hb dX9_addUnit_59 rfl ?_
        refine va_get (D := (dC, dI)) (ci := 9) (v := Value.int (nI k)) (C := RX9) (T := TX9) (N := 14) hx hb hts inX9 hown hK hP 0 rfl rfl 12 (by decide) (hts _ (gw kw_169 rfl)) (fun _ h9 => h9) rfl dX9_addUnit_60 ?_
        refine lv_iconst (v := 1) hx hb dX9_addUnit_63 (by decide) ?_
        refine lv_iadd hx hb dX9_addUnit_64 ?_
        refine lv_topi (fun x_9 e_9 => ?_)
        have h9 : x_9 = nI (k + 1) := by rw [e_9, nI_1]
        subst h9
        refine va_put (D := (dC, dI)) (ci := 9) (v := Value.int (nI (k + 1))) (ty := .int) (C := RX9) (T := TX9) (N := 14) hx hb hts inX9 tyX9 tyX9_ok nmX9 hown hK hP hD hS 0 rfl rfl 12 (by decide) (hts _ (gw kw_169 rfl)) (fun _ h9 => h9) rfl (by decide +kernel) rfl rfl (Nat.le_of_ble_eq_true rfl) dX9_addUnit_65 (fun H locs hP hD hS => ?_)
        have hpd9 : PDx (dC, dI) classes A H [oX9 h1 po pp ps pa pe pb pv pk pu pw pq pt (nI (k + 1)) (nI (fw + (if 0 < p0 then 0 else w0))), cI aC pu 7 f_3, cI aC pw 7 f_6] := ⟨hP, hD⟩
        have hP := hpd9.1
        have hD := hpd9.2
        clear hpd9
        have hpd9 := pd_N (cx := [oX9 h1 po pp ps pa pe pb pv pk pu pw pq pt (nI (k + 1)) (nI (fw + (if 0 < p0 then 0 else w0))), cI aC pu 7 f_3, cI aC pw 7 f_6]) hP hD [0, 1, 2] (by decide) rfl
        have hP9 := hpd9.1
        have hD9 := hpd9.2
        refine W.widen (k := 0) (n := 0) (by omega) (by omega) ?_
        exact W.vret hx hb hr (fun t ht hW => ⟨⟨(f_3, f_6), rfl, ⟨by rw [e_f_3, nI_clamp (by omega), pk_us], fun q h => by rw [e_f_3, nI_clamp (by omega), pk_un h], by rw [e_f_6, nI_clamp (by omega), pk_us, if_neg (by omega)]; rfl, fun q h => by rw [e_f_6, nI_clamp (by omega), pk_un h]⟩, by rw [ht]; exact hP9, va_K.moved hW.alike hK, hD9⟩, hS.F ht⟩) hS.2.2 dX9_addUnit_68
      · exact absurd c_4 c_7
    · refine lv_iload_n hx hb dX9_addUnit_34 rfl (lv_at hl 2 rfl) ?_
      refine lv_goto (tgt := 39) hx hb dX9_addUnit_35 (by decide) ?_
      have h_10 : vp_in (nI k) 7 := by first | exact vp_in_nI (by omega) (by omega) | (unfold vp_in; decide) | (subst_vars; first | (unfold vp_in; decide) | exact vp_in_nI (by omega) (by omega))
      refine va_iast hx hb hK hP hD hS 2 0 rfl rfl h_10 dX9_addUnit_39 (fun H locs hP hD hS => ?_)
      obtain ⟨f_11, e_f_11⟩ : ∃ y : Nat → Int32, y = upd vf (nI k : Int32).toNatClampNeg (nI w0) := ⟨_, rfl⟩
      have hpd9 : PDx (dC, dI) classes A H [oX9 h1 po pp ps pa pe pb pv pk pu pw pq pt (nI k) (nI fw), cI aC pu 7 f_3, cI aC pw 7 f_11] := by rw [e_f_11]; exact ⟨hP, hD⟩
      have hP := hpd9.1
      have hD := hpd9.2
      clear hpd9
      have hp0 : 0 < p0 := by
        rcases Nat.eq_zero_or_pos p0 with q | q
        · exact absurd (by rw [q]; decide) c_4
        · exact q
      refine lv_aload_n hx hb dX9_addUnit_40 rfl (lv_at hl 0 rfl) ?_
      refine lv_dup hx hb dX9_addUnit_41 rfl ?_
      refine va_get (D := (dC, dI)) (ci := 9) (v := Value.int (nI fw)) (C := RX9) (T := TX9) (N := 14) hx hb hts inX9 hown hK hP 0 rfl rfl 13 (by decide) (hts _ (gw kw_170 rfl)) (fun _ h9 => h9) rfl dX9_addUnit_42 ?_
      refine lv_iload_n hx hb dX9_addUnit_45 rfl (lv_at hl 1 rfl) ?_
      refine lv_if_le (tgt := 53) hx hb dX9_addUnit_46 (by decide) (fun c_12 => ?_) (fun c_12 => ?_)
      · exact absurd ((nI_leI (a := p0) (b := 0) (by omega) (by omega)).mp c_12) (by omega)
      · refine lv_iconst (v := 0) hx hb dX9_addUnit_49 (by decide) ?_
        refine lv_goto (tgt := 54) hx hb dX9_addUnit_50 (by decide) ?_
        refine lv_iadd hx hb dX9_addUnit_54 ?_
        refine lv_topi (fun x_13 e_13 => ?_)
        have h9 : x_13 = nI (fw + (if 0 < p0 then 0 else w0)) := by rw [e_13, if_pos hp0]; exact nI_add _ _
        subst h9
        refine va_put (D := (dC, dI)) (ci := 9) (v := Value.int (nI (fw + (if 0 < p0 then 0 else w0)))) (ty := .int) (C := RX9) (T := TX9) (N := 14) hx hb hts inX9 tyX9 tyX9_ok nmX9 hown hK hP hD hS 0 rfl rfl 13 (by decide) (hts _ (gw kw_170 rfl)) (fun _ h9 => h9) rfl (by decide +kernel) rfl rfl (Nat.le_of_ble_eq_true rfl) dX9_addUnit_55 (fun H locs hP hD hS => ?_)
        have hpd9 : PDx (dC, dI) classes A H [oX9 h1 po pp ps pa pe pb pv pk pu pw pq pt (nI k) (nI (fw + (if 0 < p0 then 0 else w0))), cI aC pu 7 f_3, cI aC pw 7 f_11] := ⟨hP, hD⟩
        have hP := hpd9.1
        have hD := hpd9.2
        clear hpd9
        refine lv_aload_n hx hb dX9_addUnit_58 rfl (lv_at hl 0 rfl) ?_
        refine lv_dup hx hb dX9_addUnit_59 rfl ?_
        refine va_get (D := (dC, dI)) (ci := 9) (v := Value.int (nI k)) (C := RX9) (T := TX9) (N := 14) hx hb hts inX9 hown hK hP 0 rfl rfl 12 (by decide) (hts _ (gw kw_169 rfl)) (fun _ h9 => h9) rfl dX9_addUnit_60 ?_
        refine lv_iconst (v := 1) hx hb dX9_addUnit_63 (by decide) ?_
        refine lv_iadd hx hb dX9_addUnit_64 ?_
        refine lv_topi (fun x_14 e_14 => ?_)
        have h9 : x_14 = nI (k + 1) := by rw [e_14, nI_1]
        subst h9
        refine va_put (D := (dC, dI)) (ci := 9) (v := Value.int (nI (k + 1))) (ty := .int) (C := RX9) (T := TX9) (N := 14) hx hb hts inX9 tyX9 tyX9_ok nmX9 hown hK hP hD hS 0 rfl rfl 12 (by decide) (hts _ (gw kw_169 rfl)) (fun _ h9 => h9) rfl (by decide +kernel) rfl rfl (Nat.le_of_ble_eq_true rfl) dX9_addUnit_65 (fun H locs hP hD hS => ?_)
        have hpd9 : PDx (dC, dI) classes A H [oX9 h1 po pp ps pa pe pb pv pk pu pw pq pt (nI (k + 1)) (nI (fw + (if 0 < p0 then 0 else w0))), cI aC pu 7 f_3, cI aC pw 7 f_11] := ⟨hP, hD⟩
        have hP := hpd9.1
        have hD := hpd9.2
        clear hpd9
        have hpd9 := pd_N (cx := [oX9 h1 po pp ps pa pe pb pv pk pu pw pq pt (nI (k + 1)) (nI (fw + (if 0 < p0 then 0 else w0))), cI aC pu 7 f_3, cI aC pw 7 f_11]) hP hD [0, 1, 2] (by decide) rfl
        have hP9 := hpd9.1
        have hD9 := hpd9.2
        refine W.widen (k := 0) (n := 0) (by omega) (by omega) ?_
        exact W.vret hx hb hr (fun t ht hW => ⟨⟨(f_3, f_11), rfl, ⟨by rw [e_f_3, nI_clamp (by omega), pk_us], fun q h => by rw [e_f_3, nI_clamp (by omega), pk_un h], by rw [e_f_11, nI_clamp (by omega), pk_us, if_pos hp0], fun q h => by rw [e_f_11, nI_clamp (by omega), pk_un h]⟩, by rw [ht]; exact hP9, va_K.moved hW.alike hK, hD9⟩, hS.F ht⟩) hS.2.2 dX9_addUnit_68

set_option maxHeartbeats 1000000 in
set_option maxRecDepth 100000 in
/-- X9_listSets -/
theorem c_X9_listSets (l : Launch) (dC : Nat → ClassId) (dI : Nat → Nat → Nat) (aC : Nat → ClassId) (sz : Nat) (h1 : Nat) (po : Nat) (pp : Nat) (ps : Nat) (pa : Nat) (pe : Nat) (pb : Nat) (pv : Nat) (pk : Nat) (pu : Nat) (pw : Nat) (pq : Nat) (pt : Nat) (k : Nat) (fw : Nat) (ow : Nat) (up : Nat → Nat) (uw : Nat → Nat) (uf : Nat → Int32) (vf : Nat → Int32) (qf : Nat → Int32) (tf : Nat → Int32) (hk : k ≤ 7) (hu : ∀ u, u < k → uf u = nI (up u) ∧ vf u = nI (uw u)) : Met l yX9_listSets (wW yX9_listSets cX9_listSets 5 (some .int)) ({ frames := 0, cells := 0, slots := 0, locals := 0 } : Room) (va_Pc [Value.ref h1, Value.int (nI ow)] (fun U => U.heap.size = sz ∧ va_P (dC, dI) classes [oX9 h1 po pp ps pa pe pb pv pk pu pw pq pt (nI k) (nI fw), cI aC pu 7 uf, cI aC pw 7 vf, cI aC pq 128 qf, cI aC pt 128 tf] U.heap ∧ va_K (dC, dI) classes (TY aC) U ∧ va_D (fun _ => True) [oX9 h1 po pp ps pa pe pb pv pk pu pw pq pt (nI k) (nI fw), cI aC pu 7 uf, cI aC pw 7 vf, cI aC pq 128 qf, cI aC pt 128 tf] ∧ NX U)) (va_Qi (fun (r : Int32) (u : (Nat → Int32) × (Nat → Int32)) => match u with | (qg, tg) => r = nI (2 ^ k) ∧ ∀ x, x < 2 ^ k → qg x = nI (cst up x) ∧ tg x = nI (ow + fw + cst uw x)) (fun (u : (Nat → Int32) × (Nat → Int32)) (t : State) => match u with | (qg, tg) => va_P (dC, dI) classes [oX9 h1 po pp ps pa pe pb pv pk pu pw pq pt (nI k) (nI fw), cI aC pu 7 uf, cI aC pw 7 vf, cI aC pq 128 qg, cI aC pt 128 tg] t.heap ∧ va_K (dC, dI) classes (TY aC) t ∧ va_D (va_A [oX9 h1 po pp ps pa pe pb pv pk pu pw pq pt (nI k) (nI fw), cI aC pu 7 uf, cI aC pw 7 vf, cI aC pq 128 qf, cI aC pt 128 tf] sz) [oX9 h1 po pp ps pa pe pb pv pk pu pw pq pt (nI k) (nI fw), cI aC pu 7 uf, cI aC pw 7 vf, cI aC pq 128 qg, cI aC pt 128 tg]) (va_A [oX9 h1 po pp ps pa pe pb pv pk pu pw pq pt (nI k) (nI fw), cI aC pu 7 uf, cI aC pw 7 vf, cI aC pq 128 qf, cI aC pt 128 tf] sz)) 0 0 (va_A [oX9 h1 po pp ps pa pe pb pv pk pu pw pq pt (nI k) (nI fw), cI aC pu 7 uf, cI aC pw 7 vf, cI aC pq 128 qf, cI aC pt 128 tf] sz) := by
  refine Met.ofW (cc := cX9_listSets) (maxL := 5) (ret := (some .int)) (by decide) rfl ?_
  intro p e s m args below meth c s₁ B hml hv
  obtain ⟨rfl, hsz, hP, hK, hD0, hN⟩ := hv
  have hx := B.exec
  have hb := B.bytes
  have hr := B.returns
  have hts0 := atoms_spec (ws := (wW yX9_listSets cX9_listSets 5 (some .int))) B.pre
  have hts : ∀ w9 ∈ lw_G, w9.before ([Value.ref h1, Value.int (nI ow)] : List Value).toArray s = true := fun w9 h9 => hts0 w9 (List.mem_cons_of_mem _ h9)
  have hown : s.vm.findClass RX9 = some m.cls := findClass_of_methodNamed (x := yX9_listSets) B.named
  have hlocks := B.notSynchronized
  subst hsz
  have hD := hD0.self (sz := s.heap.size)
  generalize hAe : va_A [oX9 h1 po pp ps pa pe pb pv pk pu pw pq pt (nI k) (nI fw), cI aC pu 7 uf, cI aC pw 7 vf, cI aC pq 128 qf, cI aC pt 128 tf] s.heap.size = A at hD ⊢
  have hA : ∀ q : Nat, s.heap.size ≤ q → A q := fun q h => by rw [← hAe]; exact Or.inr h
  obtain ⟨H, hHe⟩ : ∃ H : Heap, H = s.heap := ⟨_, rfl⟩
  have hS : va_S A s.heap H [] := by rw [hHe]; exact va_S.rf
  have hP : va_P (dC, dI) classes [oX9 h1 po pp ps pa pe pb pv pk pu pw pq pt (nI k) (nI fw), cI aC pu 7 uf, cI aC pw 7 vf, cI aC pq 128 qf, cI aC pt 128 tf] H := by rw [hHe]; exact hP
  have hl := lv_entry ([Value.ref h1, Value.int (nI ow)]) (n := 5) (Nat.le_of_ble_eq_true rfl)
  rw [lg_entry_eq]
  generalize (lg_sl ([Value.ref h1, Value.int (nI ow)]) ++ List.replicate (5 - (lg_sl ([Value.ref h1, Value.int (nI ow)])).length) Slot.unset).toArray = ls at hl ⊢
  have hl : lv_has ls 5 [(0, Value.ref h1), (1, Value.int (nI ow))] := hl
  rw [← hHe]
  refine lv_aload_n hx hb dX9_listSets_0 rfl (lv_at hl 0 rfl) ?_
  refine va_get (D := (dC, dI)) (ci := 9) (v := Value.ref pq) (C := RX9) (T := TX9) (N := 14) hx hb hts inX9 hown hK hP 0 rfl rfl 10 (by decide) (hts _ (gw kw_167 rfl)) (fun _ h9 => h9) rfl dX9_listSets_1 ?_
  refine lv_iconst (v := 0) hx hb dX9_listSets_4 (by decide) ?_
  refine lv_iconst (v := 0) hx hb dX9_listSets_5 (by decide) ?_
  have h_1 : vp_in 0 128 := by first | exact vp_in_nI (by omega) (by omega) | (unfold vp_in; decide) | (subst_vars; first | (unfold vp_in; decide) | exact vp_in_nI (by omega) (by omega))
  refine va_iast hx hb hK hP hD hS 3 0 rfl rfl h_1 dX9_listSets_6 (fun H locs hP hD hS => ?_)
  obtain ⟨f_2, e_f_2⟩ : ∃ y : Nat → Int32, y = upd qf (0 : Int32).toNatClampNeg 0 := ⟨_, rfl⟩
  have hpd9 : PDx (dC, dI) classes A H [oX9 h1 po pp ps pa pe pb pv pk pu pw pq pt (nI k) (nI fw), cI aC pu 7 uf, cI aC pw 7 vf, cI aC pq 128 f_2, cI aC pt 128 tf] := by rw [e_f_2]; exact ⟨hP, hD⟩
  have hP := hpd9.1
  have hD := hpd9.2
  clear hpd9
  refine lv_aload_n hx hb dX9_listSets_7 rfl (lv_at hl 0 rfl) ?_
  refine va_get (D := (dC, dI)) (ci := 9) (v := Value.ref pt) (C := RX9) (T := TX9) (N := 14) hx hb hts inX9 hown hK hP 0 rfl rfl 11 (by decide) (hts _ (gw kw_168 rfl)) (fun _ h9 => h9) rfl dX9_listSets_8 ?_
  refine lv_iconst (v := 0) hx hb dX9_listSets_11 (by decide) ?_
  refine lv_iload_n hx hb dX9_listSets_12 rfl (lv_at hl 1 rfl) ?_
  refine lv_aload_n hx hb dX9_listSets_13 rfl (lv_at hl 0 rfl) ?_
  refine va_get (D := (dC, dI)) (ci := 9) (v := Value.int (nI fw)) (C := RX9) (T := TX9) (N := 14) hx hb hts inX9 hown hK hP 0 rfl rfl 13 (by decide) (hts _ (gw kw_170 rfl)) (fun _ h9 => h9) rfl dX9_listSets_14 ?_
  refine lv_iadd hx hb dX9_listSets_17 ?_
  refine lv_topi (fun x_3 e_3 => ?_)
  have h9 : x_3 = nI (ow + fw) := by rw [e_3, nI_add]
  subst h9
  have h_4 : vp_in 0 128 := by first | exact vp_in_nI (by omega) (by omega) | (unfold vp_in; decide) | (subst_vars; first | (unfold vp_in; decide) | exact vp_in_nI (by omega) (by omega))
  refine va_iast hx hb hK hP hD hS 4 0 rfl rfl h_4 dX9_listSets_18 (fun H locs hP hD hS => ?_)
  obtain ⟨f_5, e_f_5⟩ : ∃ y : Nat → Int32, y = upd tf (0 : Int32).toNatClampNeg (nI (ow + fw)) := ⟨_, rfl⟩
  have hpd9 : PDx (dC, dI) classes A H [oX9 h1 po pp ps pa pe pb pv pk pu pw pq pt (nI k) (nI fw), cI aC pu 7 uf, cI aC pw 7 vf, cI aC pq 128 f_2, cI aC pt 128 f_5] := by rw [e_f_5]; exact ⟨hP, hD⟩
  have hP := hpd9.1
  have hD := hpd9.2
  clear hpd9
  refine lv_iconst (v := 0) hx hb dX9_listSets_19 (by decide) ?_
  refine lv_istore_n (lv' := [(2, Value.int 0), (0, Value.ref h1), (1, Value.int (nI ow))]) hx hb dX9_listSets_20 rfl hl (by decide) rfl (fun ls hl => ?_)
  have hs0 : ∀ x, x < 2 ^ 0 → f_2 x = nI (cst up x) ∧ f_5 x = nI (ow + fw + cst uw x) := fun x hx => by
    have hx0 : x = 0 := by have : 2 ^ 0 = 1 := rfl; omega
    subst hx0
    rw [e_f_2, e_f_5, cst_0, cst_0]
    exact ⟨rfl, rfl⟩
  have lp_21 : ∀ (fu : Nat) (t : Nat) (qc : Nat → Int32) (tc : Nat → Int32) (hfu : k - t < fu) (ht : t ≤ k) (hs : ∀ x, x < 2 ^ t → qc x = nI (cst up x) ∧ tc x = nI (ow + fw + cst uw x)) (H : Heap) (locs : List Loc) (ls : Array Slot), va_P (dC, dI) classes [oX9 h1 po pp ps pa pe pb pv pk pu pw pq pt (nI k) (nI fw), cI aC pu 7 uf, cI aC pw 7 vf, cI aC pq 128 qc, cI aC pt 128 tc] H → va_D A [oX9 h1 po pp ps pa pe pb pv pk pu pw pq pt (nI k) (nI fw), cI aC pu 7 uf, cI aC pw 7 vf, cI aC pq 128 qc, cI aC pt 128 tc] → va_S A s.heap H locs → lv_has ls 5 [(0, Value.ref h1), (1, Value.int (nI ow)), (2, Value.int (nI t))] → W p l e (headSpec (wW yX9_listSets cX9_listSets 5 (some .int)) ({ frames := 0, cells := 0, slots := 0, locals := 0 } : Room)).room s m ([Value.ref h1, Value.int (nI ow)] : List Value).toArray below meth c H locs 0 0 (MQ below (va_Qi (fun (r : Int32) (u : (Nat → Int32) × (Nat → Int32)) => match u with | (qg, tg) => r = nI (2 ^ k) ∧ ∀ x, x < 2 ^ k → qg x = nI (cst up x) ∧ tg x = nI (ow + fw + cst uw x)) (fun (u : (Nat → Int32) × (Nat → Int32)) (t : State) => match u with | (qg, tg) => va_P (dC, dI) classes [oX9 h1 po pp ps pa pe pb pv pk pu pw pq pt (nI k) (nI fw), cI aC pu 7 uf, cI aC pw 7 vf, cI aC pq 128 qg, cI aC pt 128 tg] t.heap ∧ va_K (dC, dI) classes (TY aC) t ∧ va_D A [oX9 h1 po pp ps pa pe pb pv pk pu pw pq pt (nI k) (nI fw), cI aC pu 7 uf, cI aC pw 7 vf, cI aC pq 128 qg, cI aC pt 128 tg]) A) ([Value.ref h1, Value.int (nI ow)] : List Value).toArray s 0 0 A) (F0 m 21 ls []) := by
    intro fu
    induction fu with
    | zero => intro t qc tc hfu; exact absurd hfu (Nat.not_lt_zero _)
    | succ fu ih_21 =>
      intro t qc tc hfu ht hs H locs ls hP hD hS hl
      refine lv_iload_n hx hb dX9_listSets_21 rfl (lv_at hl 2 rfl) ?_
      refine lv_aload_n hx hb dX9_listSets_22 rfl (lv_at hl 0 rfl) ?_
      refine va_get (D := (dC, dI)) (ci := 9) (v := Value.int (nI k)) (C := RX9) (T := TX9) (N := 14) hx hb hts inX9 hown hK hP 0 rfl rfl 12 (by decide) (hts _ (gw kw_169 rfl)) (fun _ h9 => h9) rfl dX9_listSets_23 ?_
      refine lv_icmp_ge (tgt := 100) hx hb dX9_listSets_26 (by decide) (fun c_6 => ?_) (fun c_6 => ?_)
      · have hte : t = k := by
          rcases Nat.lt_or_ge t k with q | q
          · exact absurd c_6 (nI_ge q (by omega))
          · omega
        refine lv_iconst (v := 1) hx hb dX9_listSets_100 (by decide) ?_
        refine lv_aload_n hx hb dX9_listSets_101 rfl (lv_at hl 0 rfl) ?_
        refine va_get (D := (dC, dI)) (ci := 9) (v := Value.int (nI k)) (C := RX9) (T := TX9) (N := 14) hx hb hts inX9 hown hK hP 0 rfl rfl 12 (by decide) (hts _ (gw kw_169 rfl)) (fun _ h9 => h9) rfl dX9_listSets_102 ?_
        refine lv_ishl hx hb dX9_listSets_105 ?_
        refine lv_topi (fun x_7 e_7 => ?_)
        have h9 : x_7 = nI (2 ^ k) := by rw [e_7]; exact sh1 k (by omega)
        subst h9
        have hpd9 := pd_N (cx := [oX9 h1 po pp ps pa pe pb pv pk pu pw pq pt (nI k) (nI fw), cI aC pu 7 uf, cI aC pw 7 vf, cI aC pq 128 qc, cI aC pt 128 tc]) hP hD [0, 1, 2, 3, 4] (by decide) rfl
        have hP9 := hpd9.1
        have hD9 := hpd9.2
        refine W.widen (k := 0) (n := 0) (by omega) (by omega) ?_
        exact W.iret (v := nI (2 ^ k)) hx hb hr (fun t ht hW => ⟨⟨(nI (2 ^ k)), (qc, tc), rfl, ⟨rfl, fun x hx => hs x (by rw [hte]; exact hx)⟩, by rw [ht]; exact hP9, va_K.moved hW.alike hK, hD9⟩, hS.F ht⟩) hS.2.2 dX9_listSets_106
      · have hlt : t < k := by
          rcases Nat.lt_or_ge t k with q | q
          · exact q
          · exact absurd (nI_le q (by omega)) c_6
        have hp6 := p2_le6 (t := t) (by omega)
        obtain ⟨hu1, hu2⟩ := hu t hlt
        refine lv_iconst (v := 1) hx hb dX9_listSets_29 (by decide) ?_
        refine lv_iload_n hx hb dX9_listSets_30 rfl (lv_at hl 2 rfl) ?_
        refine lv_ishl hx hb dX9_listSets_31 ?_
        refine lv_topi (fun x_8 e_8 => ?_)
        have h9 : x_8 = nI (2 ^ t) := by rw [e_8]; exact sh1 t (by omega)
        subst h9
        refine lv_istore_n (lv' := [(3, Value.int (nI (2 ^ t))), (0, Value.ref h1), (1, Value.int (nI ow)), (2, Value.int (nI t))]) hx hb dX9_listSets_32 rfl hl (by decide) rfl (fun ls hl => ?_)
        refine lv_iconst (v := 0) hx hb dX9_listSets_33 (by decide) ?_
        refine lv_istore (lv' := [(4, Value.int 0), (3, Value.int (nI (2 ^ t))), (0, Value.ref h1), (1, Value.int (nI ow)), (2, Value.int (nI t))]) hx hb dX9_listSets_34 hl (by decide) rfl (fun ls hl => ?_)
        have lp_36 : ∀ (fu : Nat) (x : Nat) (qd : Nat → Int32) (td : Nat → Int32) (hfu : 2 ^ t - x < fu) (hxx : x ≤ 2 ^ t) (hd : ∀ z, z < 2 ^ t + x → qd z = nI (cst up z) ∧ td z = nI (ow + fw + cst uw z)) (H : Heap) (locs : List Loc) (ls : Array Slot), va_P (dC, dI) classes [oX9 h1 po pp ps pa pe pb pv pk pu pw pq pt (nI k) (nI fw), cI aC pu 7 uf, cI aC pw 7 vf, cI aC pq 128 qd, cI aC pt 128 td] H → va_D A [oX9 h1 po pp ps pa pe pb pv pk pu pw pq pt (nI k) (nI fw), cI aC pu 7 uf, cI aC pw 7 vf, cI aC pq 128 qd, cI aC pt 128 td] → va_S A s.heap H locs → lv_has ls 5 [(0, Value.ref h1), (1, Value.int (nI ow)), (2, Value.int (nI t)), (3, Value.int (nI (2 ^ t))), (4, Value.int (nI x))] → W p l e (headSpec (wW yX9_listSets cX9_listSets 5 (some .int)) ({ frames := 0, cells := 0, slots := 0, locals := 0 } : Room)).room s m ([Value.ref h1, Value.int (nI ow)] : List Value).toArray below meth c H locs 0 0 (MQ below (va_Qi (fun (r : Int32) (u : (Nat → Int32) × (Nat → Int32)) => match u with | (qg, tg) => r = nI (2 ^ k) ∧ ∀ x, x < 2 ^ k → qg x = nI (cst up x) ∧ tg x = nI (ow + fw + cst uw x)) (fun (u : (Nat → Int32) × (Nat → Int32)) (t : State) => match u with | (qg, tg) => va_P (dC, dI) classes [oX9 h1 po pp ps pa pe pb pv pk pu pw pq pt (nI k) (nI fw), cI aC pu 7 uf, cI aC pw 7 vf, cI aC pq 128 qg, cI aC pt 128 tg] t.heap ∧ va_K (dC, dI) classes (TY aC) t ∧ va_D A [oX9 h1 po pp ps pa pe pb pv pk pu pw pq pt (nI k) (nI fw), cI aC pu 7 uf, cI aC pw 7 vf, cI aC pq 128 qg, cI aC pt 128 tg]) A) ([Value.ref h1, Value.int (nI ow)] : List Value).toArray s 0 0 A) (F0 m 36 ls []) := by
          intro fu
          induction fu with
          | zero => intro x qd td hfu; exact absurd hfu (Nat.not_lt_zero _)
          | succ fu ih_36 =>
            intro x qd td hfu hxx hd H locs ls hP hD hS hl
            refine lv_iload hx hb dX9_listSets_36 (lv_at hl 4 rfl) ?_
            refine lv_iload_n hx hb dX9_listSets_38 rfl (lv_at hl 3 rfl) ?_
            refine lv_icmp_ge (tgt := 94) hx hb dX9_listSets_39 (by decide) (fun c_9 => ?_) (fun c_9 => ?_)
            · have hxe : x = 2 ^ t := by
                rcases Nat.lt_or_ge x (2 ^ t) with q | q
                · exact absurd c_9 (nI_ge q (by omega))
                · omega
              have hb1 : ∀ x, x < 2 ^ (t + 1) → qd x = nI (cst up x) ∧ td x = nI (ow + fw + cst uw x) := fun z hz => hd z (by rw [Nat.pow_succ] at hz; omega)
              obtain ⟨x_10, e_10⟩ : ∃ y : Int32, y = (nI t) + 1 := ⟨_, rfl⟩
              refine lv_iinc (v := x_10) (lv' := [(2, Value.int x_10), (0, Value.ref h1), (1, Value.int (nI ow)), (3, Value.int (nI (2 ^ t))), (4, Value.int (nI x))]) hx hb dX9_listSets_94 hl (k := 2) rfl (by rw [e_10]; rfl) (by decide) rfl (fun ls hl => ?_)
              have h9 : x_10 = nI (t + 1) := by rw [e_10, nI_1]
              subst h9
              refine lv_goto (tgt := 21) hx hb dX9_listSets_97 (by decide) ?_
              exact ih_21 (t + 1) qd td (by omega) (by omega) (hb1) _ _ _ (hP.sub [0, 1, 2, 3, 4] rfl) (hD.sub [0, 1, 2, 3, 4] (by decide) rfl) hS (lv_sub hl [1, 2, 0] rfl)
            · have hlx : x < 2 ^ t := by
                rcases Nat.lt_or_ge x (2 ^ t) with q | q
                · exact q
                · exact absurd (nI_le q (by omega)) c_9
              obtain ⟨hd1, hd2⟩ := hd x (by omega)
              refine lv_aload_n hx hb dX9_listSets_42 rfl (lv_at hl 0 rfl) ?_
              refine va_get (D := (dC, dI)) (ci := 9) (v := Value.ref pq) (C := RX9) (T := TX9) (N := 14) hx hb hts inX9 hown hK hP 0 rfl rfl 10 (by decide) (hts _ (gw kw_167 rfl)) (fun _ h9 => h9) rfl dX9_listSets_43 ?_
              refine lv_iload_n hx hb dX9_listSets_46 rfl (lv_at hl 3 rfl) ?_
              refine lv_iload hx hb dX9_listSets_47 (lv_at hl 4 rfl) ?_
              refine lv_iadd hx hb dX9_listSets_49 ?_
              refine lv_topi (fun x_11 e_11 => ?_)
              have h9 : x_11 = nI (2 ^ t + x) := by rw [e_11, nI_add]
              subst h9
              refine lv_aload_n hx hb dX9_listSets_50 rfl (lv_at hl 0 rfl) ?_
              refine va_get (D := (dC, dI)) (ci := 9) (v := Value.ref pq) (C := RX9) (T := TX9) (N := 14) hx hb hts inX9 hown hK hP 0 rfl rfl 10 (by decide) (hts _ (gw kw_167 rfl)) (fun _ h9 => h9) rfl dX9_listSets_51 ?_
              refine lv_iload hx hb dX9_listSets_54 (lv_at hl 4 rfl) ?_
              have h_12 : vp_in (nI x) 128 := by first | exact vp_in_nI (by omega) (by omega) | (unfold vp_in; decide) | (subst_vars; first | (unfold vp_in; decide) | exact vp_in_nI (by omega) (by omega))
              refine va_iald hx hb hK hP 3 0 rfl rfl h_12 dX9_listSets_56 ?_
              refine lv_topi (fun x_13 e_13 => ?_)
              have h9 : x_13 = nI (cst up x) := by rw [e_13, nI_clamp (by omega)]; exact hd1
              subst h9
              refine lv_aload_n hx hb dX9_listSets_57 rfl (lv_at hl 0 rfl) ?_
              refine va_get (D := (dC, dI)) (ci := 9) (v := Value.ref pu) (C := RX9) (T := TX9) (N := 14) hx hb hts inX9 hown hK hP 0 rfl rfl 8 (by decide) (hts _ (gw kw_165 rfl)) (fun _ h9 => h9) rfl dX9_listSets_58 ?_
              refine lv_iload_n hx hb dX9_listSets_61 rfl (lv_at hl 2 rfl) ?_
              have h_14 : vp_in (nI t) 7 := by first | exact vp_in_nI (by omega) (by omega) | (unfold vp_in; decide) | (subst_vars; first | (unfold vp_in; decide) | exact vp_in_nI (by omega) (by omega))
              refine va_iald hx hb hK hP 1 0 rfl rfl h_14 dX9_listSets_62 ?_
              refine lv_topi (fun x_15 e_15 => ?_)
              have h9 : x_15 = nI (up t) := by rw [e_15, nI_clamp (by omega)]; exact hu1
              subst h9
              refine lv_iadd hx hb dX9_listSets_63 ?_
              refine lv_topi (fun x_16 e_16 => ?_)
              have h9 : x_16 = nI (cst up (2 ^ t + x)) := by rw [e_16, nI_add, cst_add (by omega) hlx]
              subst h9
              have h_17 : vp_in (nI (2 ^ t + x)) 128 := by first | exact vp_in_nI (by omega) (by omega) | (unfold vp_in; decide) | (subst_vars; first | (unfold vp_in; decide) | exact vp_in_nI (by omega) (by omega))
              refine va_iast hx hb hK hP hD hS 3 0 rfl rfl h_17 dX9_listSets_64 (fun H locs hP hD hS => ?_)
              obtain ⟨f_18, e_f_18⟩ : ∃ y : Nat → Int32, y = upd qd (nI (2 ^ t + x) : Int32).toNatClampNeg (nI (cst up (2 ^ t + x))) := ⟨_, rfl⟩
              have hpd9 : PDx (dC, dI) classes A H [oX9 h1 po pp ps pa pe pb pv pk pu pw pq pt (nI k) (nI fw), cI aC pu 7 uf, cI aC pw 7 vf, cI aC pq 128 f_18, cI aC pt 128 td] := by rw [e_f_18]; exact ⟨hP, hD⟩
              have hP := hpd9.1
              have hD := hpd9.2
              clear hpd9
              refine lv_aload_n hx hb dX9_listSets_65 rfl (lv_at hl 0 rfl) ?_
              refine va_get (D := (dC, dI)) (ci := 9) (v := Value.ref pt) (C := RX9) (T := TX9) (N := 14) hx hb hts inX9 hown hK hP 0 rfl rfl 11 (by decide) (hts _ (gw kw_168 rfl)) (fun _ h9 => h9) rfl dX9_listSets_66 ?_
              refine lv_iload_n hx hb dX9_listSets_69 rfl (lv_at hl 3 rfl) ?_
              refine lv_iload hx hb dX9_listSets_70 (lv_at hl 4 rfl) ?_
              refine lv_iadd hx hb dX9_listSets_72 ?_
              refine lv_topi (fun x_19 e_19 => ?_)
              have h9 : x_19 = nI (2 ^ t + x) := by rw [e_19, nI_add]
              subst h9
              refine lv_aload_n hx hb dX9_listSets_73 rfl (lv_at hl 0 rfl) ?_
              refine va_get (D := (dC, dI)) (ci := 9) (v := Value.ref pt) (C := RX9) (T := TX9) (N := 14) hx hb hts inX9 hown hK hP 0 rfl rfl 11 (by decide) (hts _ (gw kw_168 rfl)) (fun _ h9 => h9) rfl dX9_listSets_74 ?_
              refine lv_iload hx hb dX9_listSets_77 (lv_at hl 4 rfl) ?_
              have h_20 : vp_in (nI x) 128 := by first | exact vp_in_nI (by omega) (by omega) | (unfold vp_in; decide) | (subst_vars; first | (unfold vp_in; decide) | exact vp_in_nI (by omega) (by omega))
              refine va_iald hx hb hK hP 4 0 rfl rfl h_20 dX9_listSets_79 ?_
              refine lv_topi (fun x_21 e_21 => ?_)
              have h9 : x_21 = nI (ow + fw + cst uw x) := by rw [e_21, nI_clamp (by omega)]; exact hd2
              subst h9
              refine lv_aload_n hx hb dX9_listSets_80 rfl (lv_at hl 0 rfl) ?_
              refine va_get (D := (dC, dI)) (ci := 9) (v := Value.ref pw) (C := RX9) (T := TX9) (N := 14) hx hb hts inX9 hown hK hP 0 rfl rfl 9 (by decide) (hts _ (gw kw_166 rfl)) (fun _ h9 => h9) rfl dX9_listSets_81 ?_
              refine lv_iload_n hx hb dX9_listSets_84 rfl (lv_at hl 2 rfl) ?_
              have h_22 : vp_in (nI t) 7 := by first | exact vp_in_nI (by omega) (by omega) | (unfold vp_in; decide) | (subst_vars; first | (unfold vp_in; decide) | exact vp_in_nI (by omega) (by omega))
              refine va_iald hx hb hK hP 2 0 rfl rfl h_22 dX9_listSets_85 ?_
              refine lv_topi (fun x_23 e_23 => ?_)
              have h9 : x_23 = nI (uw t) := by rw [e_23, nI_clamp (by omega)]; exact hu2
              subst h9
              refine lv_iadd hx hb dX9_listSets_86 ?_
              refine lv_topi (fun x_24 e_24 => ?_)
              have h9 : x_24 = nI (ow + fw + cst uw (2 ^ t + x)) := by rw [e_24, nI_add, cst_add (by omega) hlx, Nat.add_assoc]
              subst h9
              have h_25 : vp_in (nI (2 ^ t + x)) 128 := by first | exact vp_in_nI (by omega) (by omega) | (unfold vp_in; decide) | (subst_vars; first | (unfold vp_in; decide) | exact vp_in_nI (by omega) (by omega))
              refine va_iast hx hb hK hP hD hS 4 0 rfl rfl h_25 dX9_listSets_87 (fun H locs hP hD hS => ?_)
              obtain ⟨f_26, e_f_26⟩ : ∃ y : Nat → Int32, y = upd td (nI (2 ^ t + x) : Int32).toNatClampNeg (nI (ow + fw + cst uw (2 ^ t + x))) := ⟨_, rfl⟩
              have hpd9 : PDx (dC, dI) classes A H [oX9 h1 po pp ps pa pe pb pv pk pu pw pq pt (nI k) (nI fw), cI aC pu 7 uf, cI aC pw 7 vf, cI aC pq 128 f_18, cI aC pt 128 f_26] := by rw [e_f_26]; exact ⟨hP, hD⟩
              have hP := hpd9.1
              have hD := hpd9.2
              clear hpd9
              have hb2 : ∀ z, z < 2 ^ t + (x + 1) → f_18 z = nI (cst up z) ∧ f_26 z = nI (ow + fw + cst uw z) := fun z hz => by
                rw [e_f_18, e_f_26, nI_clamp (by omega)]
                by_cases e : z = 2 ^ t + x
                · rw [e, pk_us, pk_us]; exact ⟨rfl, rfl⟩
                · rw [pk_un e, pk_un e]; exact hd z (by omega)
              obtain ⟨x_27, e_27⟩ : ∃ y : Int32, y = (nI x) + 1 := ⟨_, rfl⟩
              refine lv_iinc (v := x_27) (lv' := [(4, Value.int x_27), (0, Value.ref h1), (1, Value.int (nI ow)), (2, Value.int (nI t)), (3, Value.int (nI (2 ^ t)))]) hx hb dX9_listSets_88 hl (k := 4) rfl (by rw [e_27]; rfl) (by decide) rfl (fun ls hl => ?_)
              have h9 : x_27 = nI (x + 1) := by rw [e_27, nI_1]
              subst h9
              refine lv_goto (tgt := 36) hx hb dX9_listSets_91 (by decide) ?_
              exact ih_36 (x + 1) f_18 f_26 (by omega) (by omega) (hb2) _ _ _ (hP.sub [0, 1, 2, 3, 4] rfl) (hD.sub [0, 1, 2, 3, 4] (by decide) rfl) hS (lv_sub hl [1, 2, 3, 4, 0] rfl)
        exact lp_36 ((2 ^ t - 0) + 1) 0 qc tc (Nat.lt_succ_self _) (Nat.zero_le _) (hs) _ _ _ (hP.sub [0, 1, 2, 3, 4] rfl) (hD.sub [0, 1, 2, 3, 4] (by decide) rfl) hS (lv_sub hl [2, 3, 4, 1, 0] rfl)
  exact lp_21 ((k - 0) + 1) 0 f_2 f_5 (Nat.lt_succ_self _) (Nat.zero_le k) (hs0) _ _ _ (hP.sub [0, 1, 2, 3, 4] rfl) (hD.sub [0, 1, 2, 3, 4] (by decide) rfl) hS (lv_sub hl [1, 2, 0] rfl)
