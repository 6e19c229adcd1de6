/-- the greatest settings -/
def GV (j : Nat) : Int32 := match j with
  | 0 => 99
  | 1 => 2
  | 2 => 1
  | 3 => 1
  | _ => 99
theorem vin {i n : Int32} {N : Nat} (h0 : ¬ i < 0) (h1 : i < n) (hn : n.toInt = N) : vp_in i N := by
  rw [vp_in_iff]
  rw [Int32.lt_iff_toInt_lt] at h1
  rw [Int32.lt_iff_toInt_lt] at h0
  have h9 : (0 : Int32).toInt = 0 := rfl
  omega
def CR (f : Nat → Int32) (n : Int32) : Int32 := if n < 1 then -9 else if 6 < n then -9 else f n.toNatClampNeg
def cntX (f : Nat → Int32) (w : Int32) : Int32 := if w = 0 then 0 else if w = 1 then 0 else if w = 2 then 0 else if w = 3 then 0 else if w = 4 then 0 else if w = 5 then 0 else if w = 6 then 0 else CR f (w - 10)
def cntM (f : Nat → Int32) (w : Int32) : Int32 := if w < 11 ∨ 16 < w then (if w = 0 then 0 else if w = 1 then 0 else if w = 2 then 0 else if w = 3 then 0 else if w = 4 then 0 else if w = 5 then 0 else if w = 6 then 0 else -9) else f (w - 10).toNatClampNeg
theorem cr_key (z : Int) (h1 : -2147483648 ≤ z) (h2 : z < 2147483648) : ((z - 10).bmod 4294967296 < 1 ∨ 6 < (z - 10).bmod 4294967296) ↔ (z < 11 ∨ 16 < z) := by
  unfold Int.bmod
  dsimp only
  split <;> omega
theorem cr_in (w : Int32) : (w - 10 < 1 ∨ 6 < w - 10) ↔ (w < 11 ∨ 16 < w) := by
  simp only [Int32.lt_iff_toInt_lt, Int32.toInt_sub]
  exact cr_key w.toInt (Int32.le_toInt w) (Int32.toInt_lt w)
theorem cnt_eq (f : Nat → Int32) (w : Int32) : cntX f w = cntM f w := by
  unfold cntX cntM CR
  have h := cr_in w
  by_cases h1 : w < 11 ∨ 16 < w
  · rw [if_pos h1]
    have h2 := h.mpr h1
    by_cases h3 : w - 10 < 1
    · rw [if_pos h3]
    · rw [if_neg h3, if_pos (h2.resolve_left h3)]
  · rw [if_neg h1]
    have h2 : ¬ (w - 10 < 1 ∨ 6 < w - 10) := fun q => h1 (h.mp q)
    rw [if_neg (fun q => h2 (Or.inl q)), if_neg (fun q => h2 (Or.inr q))]
    have n0 : ∀ k : Int32, k < 11 → ¬ w = k := fun k hk q => h1 (Or.inl (q ▸ hk))
    rw [if_neg (n0 0 (by decide)), if_neg (n0 1 (by decide)), if_neg (n0 2 (by decide)), if_neg (n0 3 (by decide)), if_neg (n0 4 (by decide)), if_neg (n0 5 (by decide)), if_neg (n0 6 (by decide))]

set_option maxHeartbeats 4000000 in
set_option maxRecDepth 100000 in
/-- X7_isFull_0 -/
theorem c_X7_isFull_0 (l : Launch) (dC : Nat → ClassId) (dI : Nat → Nat → Nat) (aC : Nat → ClassId) (sz : Nat) (h1 : Nat) (lsg : Nat)  : Met l yX7_isFull (wW yX7_isFull cX7_isFull 1 (some .boolean)) ({ frames := 0, cells := 0, slots := 0, locals := 0 } : Room) (va_Pc [.ref h1] (fun U => U.heap.size = sz ∧ va_P (dC, dI) classes [(h1, .inr (7, [.int 0, .ref lsg]))] U.heap ∧ va_K (dC, dI) classes (TY aC) U ∧ va_D (fun _ => True) [(h1, .inr (7, [.int 0, .ref lsg]))] ∧ NX U)) (va_Qi (fun (r : Int32) (_ : Unit) => r = 0) (fun (_ : Unit) (t : State) => va_P (dC, dI) classes [(h1, .inr (7, [.int 0, .ref lsg]))] t.heap ∧ va_K (dC, dI) classes (TY aC) t ∧ va_D (va_A [(h1, .inr (7, [.int 0, .ref lsg]))] sz) [(h1, .inr (7, [.int 0, .ref lsg]))]) (va_A [(h1, .inr (7, [.int 0, .ref lsg]))] sz)) 0 0 (va_A [(h1, .inr (7, [.int 0, .ref lsg]))] sz) := by
  refine Met.ofW (cc := cX7_isFull) (maxL := 1) (ret := (some .boolean)) (by decide) rfl ?_
  intro p e s m args below meth c s₁ B hml hv
  obtain ⟨rfl, hsz, hP, hK, hD0, hN⟩ := hv
  have hx := B.exec
  have hb := B.bytes
  have hr := B.returns
  have hts0 := atoms_spec (ws := (wW yX7_isFull cX7_isFull 1 (some .boolean))) B.pre
  have hts : ∀ w9 ∈ lw_G, w9.before ([.ref h1] : List Value).toArray s = true := fun w9 h9 => hts0 w9 (List.mem_cons_of_mem _ h9)
  have hown : s.vm.findClass RX7 = some m.cls := findClass_of_methodNamed B.named
  have hlocks := B.notSynchronized
  subst hsz
  have hD := hD0.self (sz := s.heap.size)
  generalize hAe : va_A [(h1, .inr (7, [.int 0, .ref lsg]))] s.heap.size = A at hD ⊢
  have hA : ∀ q : Nat, s.heap.size ≤ q → A q := fun q h => by rw [← hAe]; exact Or.inr h
  obtain ⟨H, hHe⟩ : ∃ H : Heap, H = s.heap := ⟨_, rfl⟩
  have hS : va_S A s.heap H [] := by rw [hHe]; exact va_S.rf
  have hP : va_P (dC, dI) classes [(h1, .inr (7, [.int 0, .ref lsg]))] H := by rw [hHe]; exact hP
  have hl := lv_entry ([.ref h1]) (n := 1) (Nat.le_of_ble_eq_true rfl)
  rw [lg_entry_eq]
  generalize (lg_sl ([.ref h1]) ++ List.replicate (1 - (lg_sl ([.ref h1])).length) Slot.unset).toArray = ls at hl ⊢
  have hl : lv_has ls 1 [(0, .ref h1)] := hl
  rw [← hHe]
  refine lv_aload_n hx hb dX7_isFull_0 rfl (lv_at hl 0 rfl) ?_
  refine va_get (D := (dC, dI)) (ci := 7) (v := .int 0) (C := RX7) (T := TX7) (N := 2) hx hb hts inX7 hown hK hP 0 rfl rfl 0 (by decide) (hts _ (gw kw_80 rfl)) (fun _ h9 => h9) rfl dX7_isFull_1 ?_
  refine lv_bipush (v := 64) hx hb dX7_isFull_4 (by decide) ?_
  refine lv_icmp_lt (tgt := 13) hx hb dX7_isFull_6 (by decide) (fun c_1 => ?_) (fun c_1 => ?_)
  · refine lv_iconst (v := 0) hx hb dX7_isFull_13 (by decide) ?_
    have hP9 := hP.sub (ws' := [(h1, .inr (7, [.int 0, .ref lsg]))]) [0] rfl
    have hD9 := hD.sub (ws' := [(h1, .inr (7, [.int 0, .ref lsg]))]) [0] (by decide) rfl
    refine W.widen (k := 0) (n := 0) (by omega) (by omega) ?_
    exact W.zret (v := 0) hx hb hr rfl (fun t ht hW => ⟨⟨0, (), rfl, rfl, by rw [ht]; exact hP9, va_K.moved hW.alike hK, hD9⟩, hS.F ht⟩) hS.2.2 dX7_isFull_14
  · exact absurd (by decide) c_1

set_option maxHeartbeats 4000000 in
set_option maxRecDepth 100000 in
/-- X7_add_0 -/
theorem c_X7_add_0 (l : Launch) (dC : Nat → ClassId) (dI : Nat → Nat → Nat) (aC : Nat → ClassId) (sz : Nat) (h1 : Nat) (lsg : Nat) (sg : Nat → Int32) (a : Int32)  : Met l yX7_add (wW yX7_add cX7_add 2 (some .int)) ({ frames := 0, cells := 0, slots := 0, locals := 0 } : Room) (va_Pc [.ref h1, .int a] (fun U => U.heap.size = sz ∧ va_P (dC, dI) classes [(h1, .inr (7, [.int 0, .ref lsg])), (lsg, .inl (aC 1, 64, .inl sg))] U.heap ∧ va_K (dC, dI) classes (TY aC) U ∧ va_D (fun _ => True) [(h1, .inr (7, [.int 0, .ref lsg])), (lsg, .inl (aC 1, 64, .inl sg))] ∧ NX U)) (va_Qi (fun (r : Int32) (_ : Unit) => r = 1) (fun (_ : Unit) (t : State) => va_P (dC, dI) classes [] t.heap ∧ va_K (dC, dI) classes (TY aC) t ∧ va_D (va_A [(h1, .inr (7, [.int 0, .ref lsg])), (lsg, .inl (aC 1, 64, .inl sg))] sz) []) (va_A [(h1, .inr (7, [.int 0, .ref lsg])), (lsg, .inl (aC 1, 64, .inl sg))] sz)) 0 0 (va_A [(h1, .inr (7, [.int 0, .ref lsg])), (lsg, .inl (aC 1, 64, .inl sg))] sz) := by
  refine Met.ofW (cc := cX7_add) (maxL := 2) (ret := (some .int)) (by decide) rfl ?_
  intro p e s m args below meth c s₁ B hml hv
  obtain ⟨rfl, hsz, hP, hK, hD0, hN⟩ := hv
  have hx := B.exec
  have hb := B.bytes
  have hr := B.returns
  have hts0 := atoms_spec (ws := (wW yX7_add cX7_add 2 (some .int))) B.pre
  have hts : ∀ w9 ∈ lw_G, w9.before ([.ref h1, .int a] : List Value).toArray s = true := fun w9 h9 => hts0 w9 (List.mem_cons_of_mem _ h9)
  have hown : s.vm.findClass RX7 = some m.cls := findClass_of_methodNamed B.named
  have hlocks := B.notSynchronized
  subst hsz
  have hD := hD0.self (sz := s.heap.size)
  generalize hAe : va_A [(h1, .inr (7, [.int 0, .ref lsg])), (lsg, .inl (aC 1, 64, .inl sg))] s.heap.size = A at hD ⊢
  have hA : ∀ q : Nat, s.heap.size ≤ q → A q := fun q h => by rw [← hAe]; exact Or.inr h
  obtain ⟨H, hHe⟩ : ∃ H : Heap, H = s.heap := ⟨_, rfl⟩
  have hS : va_S A s.heap H [] := by rw [hHe]; exact va_S.rf
  have hP : va_P (dC, dI) classes [(h1, .inr (7, [.int 0, .ref lsg])), (lsg, .inl (aC 1, 64, .inl sg))] H := by rw [hHe]; exact hP
  have hl := lv_entry ([.ref h1, .int a]) (n := 2) (Nat.le_of_ble_eq_true rfl)
  rw [lg_entry_eq]
  generalize (lg_sl ([.ref h1, .int a]) ++ List.replicate (2 - (lg_sl ([.ref h1, .int a])).length) Slot.unset).toArray = ls at hl ⊢
  have hl : lv_has ls 2 [(0, .ref h1), (1, .int a)] := hl
  rw [← hHe]
  refine lv_aload_n hx hb dX7_add_0 rfl (lv_at hl 0 rfl) ?_
  refine va_get (D := (dC, dI)) (ci := 7) (v := .int 0) (C := RX7) (T := TX7) (N := 2) hx hb hts inX7 hown hK hP 0 rfl rfl 0 (by decide) (hts _ (gw kw_80 rfl)) (fun _ h9 => h9) rfl dX7_add_1 ?_
  refine lv_bipush (v := 64) hx hb dX7_add_4 (by decide) ?_
  refine lv_icmp_ge (tgt := 29) hx hb dX7_add_6 (by decide) (fun c_1 => ?_) (fun c_1 => ?_)
  · exact absurd c_1 (by decide)
  · refine lv_aload_n hx hb dX7_add_9 rfl (lv_at hl 0 rfl) ?_
    refine va_get (D := (dC, dI)) (ci := 7) (v := .ref lsg) (C := RX7) (T := TX7) (N := 2) hx hb hts inX7 hown hK hP 0 rfl rfl 1 (by decide) (hts _ (gw kw_82 rfl)) (fun _ h9 => h9) rfl dX7_add_10 ?_
    refine lv_aload_n hx hb dX7_add_13 rfl (lv_at hl 0 rfl) ?_
    refine va_get (D := (dC, dI)) (ci := 7) (v := .int 0) (C := RX7) (T := TX7) (N := 2) hx hb hts inX7 hown hK hP 0 rfl rfl 0 (by decide) (hts _ (gw kw_80 rfl)) (fun _ h9 => h9) rfl dX7_add_14 ?_
    refine lv_iload_n hx hb dX7_add_17 rfl (lv_at hl 1 rfl) ?_
    have h_2 : vp_in 0 64 := by first | assumption | (unfold vp_in; decide) | exact vp_in_nI (by omega) (by omega) | (subst_vars; first | (unfold vp_in; decide) | exact vp_in_nI (by omega) (by omega))
    refine va_cast hx hb hK hP hD hS 1 1 rfl rfl h_2 dX7_add_18 (fun H locs hP hD hS => ?_)
    obtain ⟨f_3, e_f_3⟩ : ∃ y : Nat → Int32, y = upd sg (0 : Int32).toNatClampNeg (vp_nar .char a) := ⟨_, rfl⟩
    have hP : va_P (dC, dI) classes [(h1, .inr (7, [.int 0, .ref lsg])), (lsg, .inl (aC 1, 64, .inl f_3))] H := by rw [e_f_3]; exact hP
    have hD : va_D A [(h1, .inr (7, [.int 0, .ref lsg])), (lsg, .inl (aC 1, 64, .inl f_3))] := by rw [e_f_3]; exact hD
    refine lv_aload_n hx hb dX7_add_19 rfl (lv_at hl 0 rfl) ?_
    refine lv_dup hx hb dX7_add_20 rfl ?_
    refine va_get (D := (dC, dI)) (ci := 7) (v := .int 0) (C := RX7) (T := TX7) (N := 2) hx hb hts inX7 hown hK hP 0 rfl rfl 0 (by decide) (hts _ (gw kw_80 rfl)) (fun _ h9 => h9) rfl dX7_add_21 ?_
    refine lv_iconst (v := 1) hx hb dX7_add_24 (by decide) ?_
    refine lv_iadd hx hb dX7_add_25 ?_
    refine lv_topi (fun x_4 e_4 => ?_)
    refine va_put (D := (dC, dI)) (ci := 7) (v := .int x_4) (ty := .int) (C := RX7) (T := TX7) (N := 2) hx hb hts inX7 tyX7 tyX7_ok nmX7 hown hK hP hD hS 0 rfl rfl 0 (by decide) (hts _ (gw kw_80 rfl)) (fun _ h9 => h9) rfl (by decide +kernel) rfl rfl (Nat.le_of_ble_eq_true rfl) dX7_add_26 (fun H locs hP hD hS => ?_)
    have hP : va_P (dC, dI) classes [(h1, .inr (7, [.int x_4, .ref lsg])), (lsg, .inl (aC 1, 64, .inl f_3))] H := hP
    have hD : va_D A [(h1, .inr (7, [.int x_4, .ref lsg])), (lsg, .inl (aC 1, 64, .inl f_3))] := hD
    refine lv_aload_n hx hb dX7_add_29 rfl (lv_at hl 0 rfl) ?_
    refine va_get (D := (dC, dI)) (ci := 7) (v := .int x_4) (C := RX7) (T := TX7) (N := 2) hx hb hts inX7 hown hK hP 0 rfl rfl 0 (by decide) (hts _ (gw kw_80 rfl)) (fun _ h9 => h9) rfl dX7_add_30 ?_
    have hP9 := hP.sub (ws' := []) [] rfl
    have hD9 := hD.sub (ws' := []) [] (by decide) rfl
    refine W.widen (k := 0) (n := 0) (by omega) (by omega) ?_
    exact W.iret (v := x_4) hx hb hr (fun t ht hW => ⟨⟨x_4, (), rfl, by subst e_4; subst e_f_3; rfl, by rw [ht]; exact hP9, va_K.moved hW.alike hK, hD9⟩, hS.F ht⟩) hS.2.2 dX7_add_33

set_option maxHeartbeats 4000000 in
set_option maxRecDepth 100000 in
/-- X7_forget -/
theorem c_X7_forget (l : Launch) (dC : Nat → ClassId) (dI : Nat → Nat → Nat) (aC : Nat → ClassId) (sz : Nat) (h1 : Nat) (lsg : Nat) (lsz : Int32)  : Met l yX7_forget (wW yX7_forget cX7_forget 1 (none : Option FieldType)) ({ frames := 0, cells := 0, slots := 0, locals := 0 } : Room) (va_Pc [.ref h1] (fun U => U.heap.size = sz ∧ va_P (dC, dI) classes [(h1, .inr (7, [.int lsz, .ref lsg]))] U.heap ∧ va_K (dC, dI) classes (TY aC) U ∧ va_D (fun _ => True) [(h1, .inr (7, [.int lsz, .ref lsg]))] ∧ NX U)) (va_Qv (fun (_ : Unit) => True) (fun (_ : Unit) (t : State) => va_P (dC, dI) classes [(h1, .inr (7, [.int 0, .ref lsg]))] t.heap ∧ va_K (dC, dI) classes (TY aC) t ∧ va_D (va_A [(h1, .inr (7, [.int lsz, .ref lsg]))] sz) [(h1, .inr (7, [.int 0, .ref lsg]))]) (va_A [(h1, .inr (7, [.int lsz, .ref lsg]))] sz)) 0 0 (va_A [(h1, .inr (7, [.int lsz, .ref lsg]))] sz) := by
  refine Met.ofW (cc := cX7_forget) (maxL := 1) (ret := (none : Option FieldType)) (by decide) rfl ?_
  intro p e s m args below meth c s₁ B hml hv
  obtain ⟨rfl, hsz, hP, hK, hD0, hN⟩ := hv
  have hx := B.exec
  have hb := B.bytes
  have hr := B.returns
  have hts0 := atoms_spec (ws := (wW yX7_forget cX7_forget 1 (none : Option FieldType))) B.pre
  have hts : ∀ w9 ∈ lw_G, w9.before ([.ref h1] : List Value).toArray s = true := fun w9 h9 => hts0 w9 (List.mem_cons_of_mem _ h9)
  have hown : s.vm.findClass RX7 = some m.cls := findClass_of_methodNamed B.named
  have hlocks := B.notSynchronized
  subst hsz
  have hD := hD0.self (sz := s.heap.size)
  generalize hAe : va_A [(h1, .inr (7, [.int lsz, .ref lsg]))] s.heap.size = A at hD ⊢
  have hA : ∀ q : Nat, s.heap.size ≤ q → A q := fun q h => by rw [← hAe]; exact Or.inr h
  obtain ⟨H, hHe⟩ : ∃ H : Heap, H = s.heap := ⟨_, rfl⟩
  have hS : va_S A s.heap H [] := by rw [hHe]; exact va_S.rf
  have hP : va_P (dC, dI) classes [(h1, .inr (7, [.int lsz, .ref lsg]))] H := by rw [hHe]; exact hP
  have hl := lv_entry ([.ref h1]) (n := 1) (Nat.le_of_ble_eq_true rfl)
  rw [lg_entry_eq]
  generalize (lg_sl ([.ref h1]) ++ List.replicate (1 - (lg_sl ([.ref h1])).length) Slot.unset).toArray = ls at hl ⊢
  have hl : lv_has ls 1 [(0, .ref h1)] := hl
  rw [← hHe]
  refine lv_aload_n hx hb dX7_forget_0 rfl (lv_at hl 0 rfl) ?_
  refine lv_iconst (v := 0) hx hb dX7_forget_1 (by decide) ?_
  refine va_put (D := (dC, dI)) (ci := 7) (v := .int 0) (ty := .int) (C := RX7) (T := TX7) (N := 2) hx hb hts inX7 tyX7 tyX7_ok nmX7 hown hK hP hD hS 0 rfl rfl 0 (by decide) (hts _ (gw kw_80 rfl)) (fun _ h9 => h9) rfl (by decide +kernel) rfl rfl (Nat.le_of_ble_eq_true rfl) dX7_forget_2 (fun H locs hP hD hS => ?_)
  have hP : va_P (dC, dI) classes [(h1, .inr (7, [.int 0, .ref lsg]))] H := hP
  have hD : va_D A [(h1, .inr (7, [.int 0, .ref lsg]))] := hD
  have hP9 := hP.sub (ws' := [(h1, .inr (7, [.int 0, .ref lsg]))]) [0] rfl
  have hD9 := hD.sub (ws' := [(h1, .inr (7, [.int 0, .ref lsg]))]) [0] (by decide) rfl
  refine W.widen (k := 0) (n := 0) (by omega) (by omega) ?_
  exact W.vret hx hb hr (fun t ht hW => ⟨⟨(), rfl, trivial, by rw [ht]; exact hP9, va_K.moved hW.alike hK, hD9⟩, hS.F ht⟩) hS.2.2 dX7_forget_5

set_option maxHeartbeats 4000000 in
set_option maxRecDepth 100000 in
/-- X7_brokenAt_0 -/
theorem c_X7_brokenAt_0 (l : Launch) (dC : Nat → ClassId) (dI : Nat → Nat → Nat) (aC : Nat → ClassId) (sz : Nat) (h1 : Nat) (lsg : Nat)  : Met l yX7_brokenAt (wW yX7_brokenAt cX7_brokenAt 6 (some .int)) ({ frames := 0, cells := 0, slots := 0, locals := 0 } : Room) (va_Pc [.ref h1] (fun U => U.heap.size = sz ∧ va_P (dC, dI) classes [(h1, .inr (7, [.int 0, .ref lsg]))] U.heap ∧ va_K (dC, dI) classes (TY aC) U ∧ va_D (fun _ => True) [(h1, .inr (7, [.int 0, .ref lsg]))] ∧ NX U)) (va_Qi (fun (r : Int32) (_ : Unit) => r = 0) (fun (_ : Unit) (t : State) => va_P (dC, dI) classes [(h1, .inr (7, [.int 0, .ref lsg]))] t.heap ∧ va_K (dC, dI) classes (TY aC) t ∧ va_D (va_A [(h1, .inr (7, [.int 0, .ref lsg]))] sz) [(h1, .inr (7, [.int 0, .ref lsg]))]) (va_A [(h1, .inr (7, [.int 0, .ref lsg]))] sz)) 0 0 (va_A [(h1, .inr (7, [.int 0, .ref lsg]))] sz) := by
  refine Met.ofW (cc := cX7_brokenAt) (maxL := 6) (ret := (some .int)) (by decide) rfl ?_
  intro p e s m args below meth c s₁ B hml hv
  obtain ⟨rfl, hsz, hP, hK, hD0, hN⟩ := hv
  have hx := B.exec
  have hb := B.bytes
  have hr := B.returns
  have hts0 := atoms_spec (ws := (wW yX7_brokenAt cX7_brokenAt 6 (some .int))) B.pre
  have hts : ∀ w9 ∈ lw_G, w9.before ([.ref h1] : List Value).toArray s = true := fun w9 h9 => hts0 w9 (List.mem_cons_of_mem _ h9)
  have hown : s.vm.findClass RX7 = some m.cls := findClass_of_methodNamed B.named
  have hlocks := B.notSynchronized
  subst hsz
  have hD := hD0.self (sz := s.heap.size)
  generalize hAe : va_A [(h1, .inr (7, [.int 0, .ref lsg]))] s.heap.size = A at hD ⊢
  have hA : ∀ q : Nat, s.heap.size ≤ q → A q := fun q h => by rw [← hAe]; exact Or.inr h
  obtain ⟨H, hHe⟩ : ∃ H : Heap, H = s.heap := ⟨_, rfl⟩
  have hS : va_S A s.heap H [] := by rw [hHe]; exact va_S.rf
  have hP : va_P (dC, dI) classes [(h1, .inr (7, [.int 0, .ref lsg]))] H := by rw [hHe]; exact hP
  have hl := lv_entry ([.ref h1]) (n := 6) (Nat.le_of_ble_eq_true rfl)
  rw [lg_entry_eq]
  generalize (lg_sl ([.ref h1]) ++ List.replicate (6 - (lg_sl ([.ref h1])).length) Slot.unset).toArray = ls at hl ⊢
  have hl : lv_has ls 6 [(0, .ref h1)] := hl
  rw [← hHe]
  refine lv_iconst (v := 1) hx hb dX7_brokenAt_0 (by decide) ?_
  refine lv_istore_n (lv' := [(1, .int 1), (0, .ref h1)]) hx hb dX7_brokenAt_1 rfl hl (by decide) rfl (fun ls hl => ?_)
  refine lv_iconst (v := 0) hx hb dX7_brokenAt_2 (by decide) ?_
  refine lv_istore_n (lv' := [(2, .int 0), (1, .int 1), (0, .ref h1)]) hx hb dX7_brokenAt_3 rfl hl (by decide) rfl (fun ls hl => ?_)
  refine lv_iconst (v := 0) hx hb dX7_brokenAt_4 (by decide) ?_
  refine lv_istore_n (lv' := [(3, .int 0), (2, .int 0), (1, .int 1), (0, .ref h1)]) hx hb dX7_brokenAt_5 rfl hl (by decide) rfl (fun ls hl => ?_)
  refine lv_iconst (v := 0) hx hb dX7_brokenAt_6 (by decide) ?_
  refine lv_istore (lv' := [(4, .int 0), (3, .int 0), (2, .int 0), (1, .int 1), (0, .ref h1)]) hx hb dX7_brokenAt_7 hl (by decide) rfl (fun ls hl => ?_)
  refine lv_iload hx hb dX7_brokenAt_9 (lv_at hl 0 rfl) ?_
  refine lv_aload_n hx hb dX7_brokenAt_11 rfl (lv_at hl 4 rfl) ?_
  refine va_get (D := (dC, dI)) (ci := 7) (v := .int 0) (C := RX7) (T := TX7) (N := 2) hx hb hts inX7 hown hK hP 0 rfl rfl 0 (by decide) (hts _ (gw kw_80 rfl)) (fun _ h9 => h9) rfl dX7_brokenAt_12 ?_
  refine lv_icmp_ge (tgt := 120) hx hb dX7_brokenAt_15 (by decide) (fun c_1 => ?_) (fun c_1 => ?_)
  · refine lv_aload_n hx hb dX7_brokenAt_120 rfl (lv_at hl 4 rfl) ?_
    refine va_get (D := (dC, dI)) (ci := 7) (v := .int 0) (C := RX7) (T := TX7) (N := 2) hx hb hts inX7 hown hK hP 0 rfl rfl 0 (by decide) (hts _ (gw kw_80 rfl)) (fun _ h9 => h9) rfl dX7_brokenAt_121 ?_
    refine lv_if_le (tgt := 136) hx hb dX7_brokenAt_124 (by decide) (fun c_2 => ?_) (fun c_2 => ?_)
    · refine lv_aload_n hx hb dX7_brokenAt_136 rfl (lv_at hl 4 rfl) ?_
      refine va_get (D := (dC, dI)) (ci := 7) (v := .int 0) (C := RX7) (T := TX7) (N := 2) hx hb hts inX7 hown hK hP 0 rfl rfl 0 (by decide) (hts _ (gw kw_80 rfl)) (fun _ h9 => h9) rfl dX7_brokenAt_137 ?_
      have hP9 := hP.sub (ws' := [(h1, .inr (7, [.int 0, .ref lsg]))]) [0] rfl
      have hD9 := hD.sub (ws' := [(h1, .inr (7, [.int 0, .ref lsg]))]) [0] (by decide) rfl
      refine W.widen (k := 0) (n := 0) (by omega) (by omega) ?_
      exact W.iret (v := 0) hx hb hr (fun t ht hW => ⟨⟨0, (), rfl, rfl, by rw [ht]; exact hP9, va_K.moved hW.alike hK, hD9⟩, hS.F ht⟩) hS.2.2 dX7_brokenAt_140
    · exact absurd (by decide) c_2
  · exact absurd (by decide) c_1

set_option maxHeartbeats 4000000 in
set_option maxRecDepth 100000 in
/-- X7_fault_0 -/
theorem c_X7_fault_0 (l : Launch) (dC : Nat → ClassId) (dI : Nat → Nat → Nat) (aC : Nat → ClassId) (sz : Nat) (h1 : Nat) (h2 : Nat) (lsg : Nat)  : Met l yX7_fault (wW yX7_fault cX7_fault 4 (some .int)) ({ frames := 1, cells := 0, slots := 0, locals := 25 } : Room) (va_Pc [.ref h1, .ref h2] (fun U => U.heap.size = sz ∧ va_P (dC, dI) classes [(h1, .inr (7, [.int 0, .ref lsg]))] U.heap ∧ va_K (dC, dI) classes (TY aC) U ∧ va_D (fun _ => True) [(h1, .inr (7, [.int 0, .ref lsg]))] ∧ NX U)) (va_Qi (fun (r : Int32) (_ : Unit) => r = -1000) (fun (_ : Unit) (t : State) => va_P (dC, dI) classes [(h1, .inr (7, [.int 0, .ref lsg]))] t.heap ∧ va_K (dC, dI) classes (TY aC) t ∧ va_D (va_A [(h1, .inr (7, [.int 0, .ref lsg]))] sz) [(h1, .inr (7, [.int 0, .ref lsg]))]) (va_A [(h1, .inr (7, [.int 0, .ref lsg]))] sz)) 0 0 (va_A [(h1, .inr (7, [.int 0, .ref lsg]))] sz) := by
  refine Met.ofW (cc := cX7_fault) (maxL := 4) (ret := (some .int)) (by decide) rfl ?_
  intro p e s m args below meth c s₁ B hml hv
  obtain ⟨rfl, hsz, hP, hK, hD0, hN⟩ := hv
  have hx := B.exec
  have hb := B.bytes
  have hr := B.returns
  have hts0 := atoms_spec (ws := (wW yX7_fault cX7_fault 4 (some .int))) B.pre
  have hts : ∀ w9 ∈ lw_G, w9.before ([.ref h1, .ref h2] : List Value).toArray s = true := fun w9 h9 => hts0 w9 (List.mem_cons_of_mem _ h9)
  have hown : s.vm.findClass RX7 = some m.cls := findClass_of_methodNamed B.named
  have hlocks := B.notSynchronized
  subst hsz
  have hD := hD0.self (sz := s.heap.size)
  generalize hAe : va_A [(h1, .inr (7, [.int 0, .ref lsg]))] s.heap.size = A at hD ⊢
  have hA : ∀ q : Nat, s.heap.size ≤ q → A q := fun q h => by rw [← hAe]; exact Or.inr h
  obtain ⟨H, hHe⟩ : ∃ H : Heap, H = s.heap := ⟨_, rfl⟩
  have hS : va_S A s.heap H [] := by rw [hHe]; exact va_S.rf
  have hP : va_P (dC, dI) classes [(h1, .inr (7, [.int 0, .ref lsg]))] H := by rw [hHe]; exact hP
  have hl := lv_entry ([.ref h1, .ref h2]) (n := 4) (Nat.le_of_ble_eq_true rfl)
  rw [lg_entry_eq]
  generalize (lg_sl ([.ref h1, .ref h2]) ++ List.replicate (4 - (lg_sl ([.ref h1, .ref h2])).length) Slot.unset).toArray = ls at hl ⊢
  have hl : lv_has ls 4 [(0, .ref h1), (1, .ref h2)] := hl
  rw [← hHe]
  refine lv_aload_n hx hb dX7_fault_0 rfl (lv_at hl 0 rfl) ?_
  have hPc := hP.sub (ws' := [(h1, .inr (7, [.int 0, .ref lsg]))]) [0] rfl
  have hDc := hD.sub (ws' := [(h1, .inr (7, [.int 0, .ref lsg]))]) [0] (by decide) rfl
  have hFc := va_free (wc := [(h1, .inr (7, [.int 0, .ref lsg]))]) hD hS hA [0] rfl
  refine va_calli (va_runV (As := []) (rest := []) ⟨hx, hb, hml, hown, hts⟩ (c_X7_brokenAt_0 l dC dI aC H.size h1 lsg ) ⟨(callB_of 0 hts (gG kw_296) rfl rfl rfl (hts _ (gw kw_3 rfl)) (hts _ (gw kw_293 rfl)) (by decide +kernel) ⟨Nat.le_of_ble_eq_true rfl, Nat.le_of_ble_eq_true rfl⟩), (hts _ (gw kw_295 rfl)), (hts _ (gw ks_1 rfl))⟩ ⟨fun a U g mk q => by obtain ⟨q0, q1, qP, qK, qD, qN⟩ := q; exact ⟨q0, q1, qP, va_K.moved (u := U) (U := U.calling g mk a) (Vm.Alike.refl U.vm) qK, qD, NX.same (u := U) (U := U.calling g mk a) rfl qN⟩, va_recv hK hPc (ci := 7) (q0 := 0) rfl rfl, fun U hU hW => ⟨rfl, by rw [hU], by rw [hU]; exact hPc, va_K.moved hW.alike hK, hDc.weaken (fun _ _ _ _ => trivial), NX.warm hW hN⟩⟩ rfl rfl hl.1 rfl (lv_room (Nat.le_of_ble_eq_true rfl)) dX7_fault_1 ⟨Nat.le_of_ble_eq_true rfl, Nat.le_of_ble_eq_true rfl⟩) hS (fun q _ h => hFc q h) hFc (fun x_1 u t H1 locs ht hvm hw_1 hB hz1 hk1 hS => ?_)
  obtain ⟨hP1, hK1, hD1⟩ := hB
  rw [ht] at hP1
  clear hK1
  try dsimp only at hw_1
  obtain ⟨hP, hD⟩ := va_join (wr := []) (w1 := [(h1, .inr (7, [.int 0, .ref lsg]))]) hP hD [0] [] rfl rfl (by decide) (by decide) hk1 hFc hP1 hD1
  generalize H1 = H at hP hS ⊢
  have hP : va_P (dC, dI) classes [(h1, .inr (7, [.int 0, .ref lsg]))] H := hP
  have hD : va_D A [(h1, .inr (7, [.int 0, .ref lsg]))] := hD
  clear hPc hDc hFc hz1 hk1 hP1 hD1 ht hvm
  have hz_1 := hw_1
  refine lv_istore_n (lv' := [(2, .int x_1), (0, .ref h1), (1, .ref h2)]) hx hb dX7_fault_4 rfl hl (by decide) rfl (fun ls hl => ?_)
  refine lv_iload_n hx hb dX7_fault_5 rfl (lv_at hl 0 rfl) ?_
  refine lv_if_lt (tgt := 15) hx hb dX7_fault_6 (by decide) (fun c_2 => ?_) (fun c_2 => ?_)
  · exact absurd c_2 (by rw [hz_1]; decide)
  · refine lv_sipush (v := -1000) hx hb dX7_fault_9 (by decide) ?_
    refine lv_iload_n hx hb dX7_fault_12 rfl (lv_at hl 0 rfl) ?_
    refine lv_isub hx hb dX7_fault_13 ?_
    refine lv_topi (fun x_3 e_3 => ?_)
    have hP9 := hP.sub (ws' := [(h1, .inr (7, [.int 0, .ref lsg]))]) [0] rfl
    have hD9 := hD.sub (ws' := [(h1, .inr (7, [.int 0, .ref lsg]))]) [0] (by decide) rfl
    refine W.widen (k := 0) (n := 0) (by omega) (by omega) ?_
    exact W.iret (v := x_3) hx hb hr (fun t ht hW => ⟨⟨x_3, (), rfl, by subst e_3; rw [hz_1]; rfl, by rw [ht]; exact hP9, va_K.moved hW.alike hK, hD9⟩, hS.F ht⟩) hS.2.2 dX7_fault_14

set_option maxHeartbeats 4000000 in
set_option maxRecDepth 100000 in
/-- X11_beach_0 -/
theorem c_X11_beach_0 (l : Launch) (dC : Nat → ClassId) (dI : Nat → Nat → Nat) (aC : Nat → ClassId) (sz : Nat) (h0 : Nat) (xp : Nat) (xtp : Nat) (xn : Nat) (xt : Nat) (xk : Nat) (xl : Nat) (xc : Nat) (xo : Nat) (xto : Nat) (xr : Nat) (xch : Nat) (ts : Int32) (ik : Int32) (st : Int32) (lsg : Nat)  : Met l yX11_beach (wW yX11_beach cX11_beach 2 (some .int)) ({ frames := 2, cells := 0, slots := 0, locals := 48 } : Room) (va_Pc [.ref h0] (fun U => U.heap.size = sz ∧ va_P (dC, dI) classes [(h0, .inr (11, [.ref xp, .ref xtp, .ref xn, .ref xt, .ref xk, .ref xl, .ref xc, .ref xo, .ref xto, .ref xr, .ref xch, .int ts, .int ik, .int st])), (xl, .inr (7, [.int 0, .ref lsg]))] U.heap ∧ va_K (dC, dI) classes (TY aC) U ∧ va_D (fun _ => True) [(h0, .inr (11, [.ref xp, .ref xtp, .ref xn, .ref xt, .ref xk, .ref xl, .ref xc, .ref xo, .ref xto, .ref xr, .ref xch, .int ts, .int ik, .int st])), (xl, .inr (7, [.int 0, .ref lsg]))] ∧ NX U)) (va_Qi (fun (r : Int32) (_ : Unit) => r = -1000) (fun (_ : Unit) (t : State) => va_P (dC, dI) classes [] t.heap ∧ va_K (dC, dI) classes (TY aC) t ∧ va_D (va_A [(h0, .inr (11, [.ref xp, .ref xtp, .ref xn, .ref xt, .ref xk, .ref xl, .ref xc, .ref xo, .ref xto, .ref xr, .ref xch, .int ts, .int ik, .int st])), (xl, .inr (7, [.int 0, .ref lsg]))] sz) []) (va_A [(h0, .inr (11, [.ref xp, .ref xtp, .ref xn, .ref xt, .ref xk, .ref xl, .ref xc, .ref xo, .ref xto, .ref xr, .ref xch, .int ts, .int ik, .int st])), (xl, .inr (7, [.int 0, .ref lsg]))] sz)) 0 0 (va_A [(h0, .inr (11, [.ref xp, .ref xtp, .ref xn, .ref xt, .ref xk, .ref xl, .ref xc, .ref xo, .ref xto, .ref xr, .ref xch, .int ts, .int ik, .int st])), (xl, .inr (7, [.int 0, .ref lsg]))] sz) := by
  refine Met.ofW (cc := cX11_beach) (maxL := 2) (ret := (some .int)) (by decide) rfl ?_
  intro p e s m args below meth c s₁ B hml hv
  obtain ⟨rfl, hsz, hP, hK, hD0, hN⟩ := hv
  have hx := B.exec
  have hb := B.bytes
  have hr := B.returns
  have hts0 := atoms_spec (ws := (wW yX11_beach cX11_beach 2 (some .int))) B.pre
  have hts : ∀ w9 ∈ lw_G, w9.before ([.ref h0] : List Value).toArray s = true := fun w9 h9 => hts0 w9 (List.mem_cons_of_mem _ h9)
  have hown : s.vm.findClass RX11 = some m.cls := findClass_of_methodNamed B.named
  have hlocks := B.notSynchronized
  subst hsz
  have hD := hD0.self (sz := s.heap.size)
  generalize hAe : va_A [(h0, .inr (11, [.ref xp, .ref xtp, .ref xn, .ref xt, .ref xk, .ref xl, .ref xc, .ref xo, .ref xto, .ref xr, .ref xch, .int ts, .int ik, .int st])), (xl, .inr (7, [.int 0, .ref lsg]))] s.heap.size = A at hD ⊢
  have hA : ∀ q : Nat, s.heap.size ≤ q → A q := fun q h => by rw [← hAe]; exact Or.inr h
  obtain ⟨H, hHe⟩ : ∃ H : Heap, H = s.heap := ⟨_, rfl⟩
  have hS : va_S A s.heap H [] := by rw [hHe]; exact va_S.rf
  have hP : va_P (dC, dI) classes [(h0, .inr (11, [.ref xp, .ref xtp, .ref xn, .ref xt, .ref xk, .ref xl, .ref xc, .ref xo, .ref xto, .ref xr, .ref xch, .int ts, .int ik, .int st])), (xl, .inr (7, [.int 0, .ref lsg]))] H := by rw [hHe]; exact hP
  have hl := lv_entry ([.ref h0]) (n := 2) (Nat.le_of_ble_eq_true rfl)
  rw [lg_entry_eq]
  generalize (lg_sl ([.ref h0]) ++ List.replicate (2 - (lg_sl ([.ref h0])).length) Slot.unset).toArray = ls at hl ⊢
  have hl : lv_has ls 2 [(0, .ref h0)] := hl
  rw [← hHe]
  refine lv_aload_n hx hb dX11_beach_0 rfl (lv_at hl 0 rfl) ?_
  refine va_get (D := (dC, dI)) (ci := 11) (v := .ref xl) (C := RX11) (T := TX11) (N := 14) hx hb hts inX11 hown hK hP 0 rfl rfl 5 (by decide) (hts _ (gw kw_231 rfl)) (fun _ h9 => h9) rfl dX11_beach_1 ?_
  refine lv_aload_n hx hb dX11_beach_4 rfl (lv_at hl 0 rfl) ?_
  refine va_get (D := (dC, dI)) (ci := 11) (v := .ref xn) (C := RX11) (T := TX11) (N := 14) hx hb hts inX11 hown hK hP 0 rfl rfl 2 (by decide) (hts _ (gw kw_228 rfl)) (fun _ h9 => h9) rfl dX11_beach_5 ?_
  have hPc := hP.sub (ws' := [(xl, .inr (7, [.int 0, .ref lsg]))]) [1] rfl
  have hDc := hD.sub (ws' := [(xl, .inr (7, [.int 0, .ref lsg]))]) [1] (by decide) rfl
  have hFc := va_free (wc := [(xl, .inr (7, [.int 0, .ref lsg]))]) hD hS hA [1] rfl
  refine va_calli (va_runV (As := [.ref xn]) (rest := []) ⟨hx, hb, hml, hown, hts⟩ (c_X7_fault_0 l dC dI aC H.size xl xn lsg ) ⟨(callB_of 1 hts (gG kw_292) rfl rfl rfl (hts _ (gw kw_3 rfl)) (hts _ (gw kw_289 rfl)) (by decide +kernel) ⟨Nat.le_of_ble_eq_true rfl, Nat.le_of_ble_eq_true rfl⟩), (hts _ (gw kw_290 rfl)), (hts _ (gw kw_291 rfl))⟩ ⟨fun a U g mk q => by obtain ⟨q0, q1, qP, qK, qD, qN⟩ := q; exact ⟨q0, q1, qP, va_K.moved (u := U) (U := U.calling g mk a) (Vm.Alike.refl U.vm) qK, qD, NX.same (u := U) (U := U.calling g mk a) rfl qN⟩, va_recv hK hPc (ci := 7) (q0 := 0) rfl rfl, fun U hU hW => ⟨rfl, by rw [hU], by rw [hU]; exact hPc, va_K.moved hW.alike hK, hDc.weaken (fun _ _ _ _ => trivial), NX.warm hW hN⟩⟩ rfl rfl hl.1 rfl (lv_room (Nat.le_of_ble_eq_true rfl)) dX11_beach_8 ⟨Nat.le_of_ble_eq_true rfl, Nat.le_of_ble_eq_true rfl⟩) hS (fun q _ h => hFc q h) hFc (fun x_1 u t H1 locs ht hvm hw_1 hB hz1 hk1 hS => ?_)
  obtain ⟨hP1, hK1, hD1⟩ := hB
  rw [ht] at hP1
  clear hK1
  try dsimp only at hw_1
  obtain ⟨hP, hD⟩ := va_join (wr := [(h0, .inr (11, [.ref xp, .ref xtp, .ref xn, .ref xt, .ref xk, .ref xl, .ref xc, .ref xo, .ref xto, .ref xr, .ref xch, .int ts, .int ik, .int st]))]) (w1 := [(xl, .inr (7, [.int 0, .ref lsg]))]) hP hD [1] [0] rfl rfl (by decide) (by decide) hk1 hFc hP1 hD1
  generalize H1 = H at hP hS ⊢
  have hP : va_P (dC, dI) classes [(h0, .inr (11, [.ref xp, .ref xtp, .ref xn, .ref xt, .ref xk, .ref xl, .ref xc, .ref xo, .ref xto, .ref xr, .ref xch, .int ts, .int ik, .int st])), (xl, .inr (7, [.int 0, .ref lsg]))] H := hP
  have hD : va_D A [(h0, .inr (11, [.ref xp, .ref xtp, .ref xn, .ref xt, .ref xk, .ref xl, .ref xc, .ref xo, .ref xto, .ref xr, .ref xch, .int ts, .int ik, .int st])), (xl, .inr (7, [.int 0, .ref lsg]))] := hD
  clear hPc hDc hFc hz1 hk1 hP1 hD1 ht hvm
  have hz_8 := hw_1
  refine lv_istore_n (lv' := [(1, .int x_1), (0, .ref h0)]) hx hb dX11_beach_11 rfl hl (by decide) rfl (fun ls hl => ?_)
  refine lv_iload_n hx hb dX11_beach_12 rfl (lv_at hl 0 rfl) ?_
  refine lv_if_ne (tgt := 33) hx hb dX11_beach_13 (by decide) (fun c_2 => ?_) (fun c_2 => ?_)
  · refine lv_aload_n hx hb dX11_beach_33 rfl (lv_at hl 1 rfl) ?_
    refine va_get (D := (dC, dI)) (ci := 11) (v := .ref xl) (C := RX11) (T := TX11) (N := 14) hx hb hts inX11 hown hK hP 0 rfl rfl 5 (by decide) (hts _ (gw kw_231 rfl)) (fun _ h9 => h9) rfl dX11_beach_34 ?_
    have hPc := hP.sub (ws' := [(xl, .inr (7, [.int 0, .ref lsg]))]) [1] rfl
    have hDc := hD.sub (ws' := [(xl, .inr (7, [.int 0, .ref lsg]))]) [1] (by decide) rfl
    have hFc := va_free (wc := [(xl, .inr (7, [.int 0, .ref lsg]))]) hD hS hA [1] rfl
    refine va_callv (va_runV (As := []) (rest := []) ⟨hx, hb, hml, hown, hts⟩ (c_X7_forget l dC dI aC H.size xl lsg 0 ) ⟨(callB_of 0 hts (gG kw_332) rfl rfl rfl (hts _ (gw kw_3 rfl)) (hts _ (gw kw_329 rfl)) (by decide +kernel) ⟨Nat.le_of_ble_eq_true rfl, Nat.le_of_ble_eq_true rfl⟩), (hts _ (gw kw_330 rfl)), (hts _ (gw kw_331 rfl))⟩ ⟨fun a U g mk q => by obtain ⟨q0, q1, qP, qK, qD, qN⟩ := q; exact ⟨q0, q1, qP, va_K.moved (u := U) (U := U.calling g mk a) (Vm.Alike.refl U.vm) qK, qD, NX.same (u := U) (U := U.calling g mk a) rfl qN⟩, va_recv hK hPc (ci := 7) (q0 := 0) rfl rfl, fun U hU hW => ⟨rfl, by rw [hU], by rw [hU]; exact hPc, va_K.moved hW.alike hK, hDc.weaken (fun _ _ _ _ => trivial), NX.warm hW hN⟩⟩ rfl rfl hl.1 rfl (lv_room (Nat.le_of_ble_eq_true rfl)) dX11_beach_37 ⟨Nat.le_of_ble_eq_true rfl, Nat.le_of_ble_eq_true rfl⟩) hS (fun q _ h => hFc q h) hFc (fun u t H1 locs ht hvm hw_3 hB hz1 hk1 hS => ?_)
    obtain ⟨hP1, hK1, hD1⟩ := hB
    rw [ht] at hP1
    clear hK1
    try dsimp only at hw_3
    obtain ⟨hP, hD⟩ := va_join (wr := [(h0, .inr (11, [.ref xp, .ref xtp, .ref xn, .ref xt, .ref xk, .ref xl, .ref xc, .ref xo, .ref xto, .ref xr, .ref xch, .int ts, .int ik, .int st]))]) (w1 := [(xl, .inr (7, [.int 0, .ref lsg]))]) hP hD [1] [0] rfl rfl (by decide) (by decide) hk1 hFc hP1 hD1
    generalize H1 = H at hP hS ⊢
    have hP : va_P (dC, dI) classes [(h0, .inr (11, [.ref xp, .ref xtp, .ref xn, .ref xt, .ref xk, .ref xl, .ref xc, .ref xo, .ref xto, .ref xr, .ref xch, .int ts, .int ik, .int st])), (xl, .inr (7, [.int 0, .ref lsg]))] H := hP
    have hD : va_D A [(h0, .inr (11, [.ref xp, .ref xtp, .ref xn, .ref xt, .ref xk, .ref xl, .ref xc, .ref xo, .ref xto, .ref xr, .ref xch, .int ts, .int ik, .int st])), (xl, .inr (7, [.int 0, .ref lsg]))] := hD
    clear hPc hDc hFc hz1 hk1 hP1 hD1 ht hvm
    refine lv_iload_n hx hb dX11_beach_40 rfl (lv_at hl 0 rfl) ?_
    have hP9 := hP.sub (ws' := []) [] rfl
    have hD9 := hD.sub (ws' := []) [] (by decide) rfl
    refine W.widen (k := 0) (n := 0) (by omega) (by omega) ?_
    exact W.iret (v := x_1) hx hb hr (fun t ht hW => ⟨⟨x_1, (), rfl, hz_8, by rw [ht]; exact hP9, va_K.moved hW.alike hK, hD9⟩, hS.F ht⟩) hS.2.2 dX11_beach_41
  · exact absurd c_2 (by rw [hz_8]; decide)

set_option maxHeartbeats 4000000 in
set_option maxRecDepth 100000 in
/-- X11_feed_0 -/
theorem c_X11_feed_0 (l : Launch) (dC : Nat → ClassId) (dI : Nat → Nat → Nat) (aC : Nat → ClassId) (sz : Nat) (h0 : Nat) (xp : Nat) (xtp : Nat) (xn : Nat) (xt : Nat) (xk : Nat) (xl : Nat) (xc : Nat) (xo : Nat) (xto : Nat) (xr : Nat) (xch : Nat) (ts : Int32) (ik : Int32) (st : Int32) (rf : Nat → Int32) (lsg : Nat) (sg : Nat → Int32) (a1 : Int32)  : Met l yX11_feed (wW yX11_feed cX11_feed 2 (some .int)) ({ frames := 1, cells := 0, slots := 0, locals := 21 } : Room) (va_Pc [.ref h0, .int a1] (fun U => U.heap.size = sz ∧ va_P (dC, dI) classes [(h0, .inr (11, [.ref xp, .ref xtp, .ref xn, .ref xt, .ref xk, .ref xl, .ref xc, .ref xo, .ref xto, .ref xr, .ref xch, .int ts, .int ik, .int st])), (xl, .inr (7, [.int 0, .ref lsg])), (lsg, .inl (aC 1, 64, .inl sg)), (xr, .inl (aC 0, 7, .inl rf))] U.heap ∧ va_K (dC, dI) classes (TY aC) U ∧ va_D (fun _ => True) [(h0, .inr (11, [.ref xp, .ref xtp, .ref xn, .ref xt, .ref xk, .ref xl, .ref xc, .ref xo, .ref xto, .ref xr, .ref xch, .int ts, .int ik, .int st])), (xl, .inr (7, [.int 0, .ref lsg])), (lsg, .inl (aC 1, 64, .inl sg)), (xr, .inl (aC 0, 7, .inl rf))] ∧ NX U)) (va_Qi (fun (r : Int32) (_ : Unit) => r = if a1 < 0 then -4 else if 255 < a1 then -6 else 1) (fun (_ : Unit) (t : State) => va_P (dC, dI) classes [] t.heap ∧ va_K (dC, dI) classes (TY aC) t ∧ va_D (va_A [(h0, .inr (11, [.ref xp, .ref xtp, .ref xn, .ref xt, .ref xk, .ref xl, .ref xc, .ref xo, .ref xto, .ref xr, .ref xch, .int ts, .int ik, .int st])), (xl, .inr (7, [.int 0, .ref lsg])), (lsg, .inl (aC 1, 64, .inl sg)), (xr, .inl (aC 0, 7, .inl rf))] sz) []) (va_A [(h0, .inr (11, [.ref xp, .ref xtp, .ref xn, .ref xt, .ref xk, .ref xl, .ref xc, .ref xo, .ref xto, .ref xr, .ref xch, .int ts, .int ik, .int st])), (xl, .inr (7, [.int 0, .ref lsg])), (lsg, .inl (aC 1, 64, .inl sg)), (xr, .inl (aC 0, 7, .inl rf))] sz)) 0 0 (va_A [(h0, .inr (11, [.ref xp, .ref xtp, .ref xn, .ref xt, .ref xk, .ref xl, .ref xc, .ref xo, .ref xto, .ref xr, .ref xch, .int ts, .int ik, .int st])), (xl, .inr (7, [.int 0, .ref lsg])), (lsg, .inl (aC 1, 64, .inl sg)), (xr, .inl (aC 0, 7, .inl rf))] sz) := by
  refine Met.ofW (cc := cX11_feed) (maxL := 2) (ret := (some .int)) (by decide) rfl ?_
  intro p e s m args below meth c s₁ B hml hv
  obtain ⟨rfl, hsz, hP, hK, hD0, hN⟩ := hv
  have hx := B.exec
  have hb := B.bytes
  have hr := B.returns
  have hts0 := atoms_spec (ws := (wW yX11_feed cX11_feed 2 (some .int))) B.pre
  have hts : ∀ w9 ∈ lw_G, w9.before ([.ref h0, .int a1] : List Value).toArray s = true := fun w9 h9 => hts0 w9 (List.mem_cons_of_mem _ h9)
  have hown : s.vm.findClass RX11 = some m.cls := findClass_of_methodNamed B.named
  have hlocks := B.notSynchronized
  subst hsz
  have hD := hD0.self (sz := s.heap.size)
  generalize hAe : va_A [(h0, .inr (11, [.ref xp, .ref xtp, .ref xn, .ref xt, .ref xk, .ref xl, .ref xc, .ref xo, .ref xto, .ref xr, .ref xch, .int ts, .int ik, .int st])), (xl, .inr (7, [.int 0, .ref lsg])), (lsg, .inl (aC 1, 64, .inl sg)), (xr, .inl (aC 0, 7, .inl rf))] s.heap.size = A at hD ⊢
  have hA : ∀ q : Nat, s.heap.size ≤ q → A q := fun q h => by rw [← hAe]; exact Or.inr h
  obtain ⟨H, hHe⟩ : ∃ H : Heap, H = s.heap := ⟨_, rfl⟩
  have hS : va_S A s.heap H [] := by rw [hHe]; exact va_S.rf
  have hP : va_P (dC, dI) classes [(h0, .inr (11, [.ref xp, .ref xtp, .ref xn, .ref xt, .ref xk, .ref xl, .ref xc, .ref xo, .ref xto, .ref xr, .ref xch, .int ts, .int ik, .int st])), (xl, .inr (7, [.int 0, .ref lsg])), (lsg, .inl (aC 1, 64, .inl sg)), (xr, .inl (aC 0, 7, .inl rf))] H := by rw [hHe]; exact hP
  have hl := lv_entry ([.ref h0, .int a1]) (n := 2) (Nat.le_of_ble_eq_true rfl)
  rw [lg_entry_eq]
  generalize (lg_sl ([.ref h0, .int a1]) ++ List.replicate (2 - (lg_sl ([.ref h0, .int a1])).length) Slot.unset).toArray = ls at hl ⊢
  have hl : lv_has ls 2 [(0, .ref h0), (1, .int a1)] := hl
  rw [← hHe]
  refine lv_iload_n hx hb dX11_feed_0 rfl (lv_at hl 1 rfl) ?_
  refine lv_if_ge (tgt := 11) hx hb dX11_feed_1 (by decide) (fun c_1 => ?_) (fun c_1 => ?_)
  · refine lv_iload_n hx hb dX11_feed_11 rfl (lv_at hl 1 rfl) ?_
    refine lv_sipush (v := 255) hx hb dX11_feed_12 (by decide) ?_
    refine lv_icmp_gt (tgt := 28) hx hb dX11_feed_15 (by decide) (fun c_2 => ?_) (fun c_2 => ?_)
    · refine lv_aload_n hx hb dX11_feed_28 rfl (lv_at hl 0 rfl) ?_
      refine lv_bipush (v := -6) hx hb dX11_feed_29 (by decide) ?_
      have hPc := hP.sub (ws' := [(h0, .inr (11, [.ref xp, .ref xtp, .ref xn, .ref xt, .ref xk, .ref xl, .ref xc, .ref xo, .ref xto, .ref xr, .ref xch, .int ts, .int ik, .int st])), (xr, .inl (aC 0, 7, .inl rf))]) [0, 3] rfl
      have hDc := hD.sub (ws' := [(h0, .inr (11, [.ref xp, .ref xtp, .ref xn, .ref xt, .ref xk, .ref xl, .ref xc, .ref xo, .ref xto, .ref xr, .ref xch, .int ts, .int ik, .int st])), (xr, .inl (aC 0, 7, .inl rf))]) [0, 3] (by decide) rfl
      have hFc := va_free (wc := [(h0, .inr (11, [.ref xp, .ref xtp, .ref xn, .ref xt, .ref xk, .ref xl, .ref xc, .ref xo, .ref xto, .ref xr, .ref xch, .int ts, .int ik, .int st])), (xr, .inl (aC 0, 7, .inl rf))]) hD hS hA [0, 3] rfl
      refine va_calli (va_runV (As := [.int (-6)]) (rest := []) ⟨hx, hb, hml, hown, hts⟩ (c_X11_refuse l dC dI aC H.size h0 xp xtp xn xt xk xl xc xo xto xr xch ts ik st (-6) 6 rf (by decide) (by decide) (by decide) (by unfold vp_in; decide)) ⟨(callB_of 1 hts (gG kw_276) rfl rfl rfl (hts _ (gw kw_1 rfl)) (hts _ (gw kw_273 rfl)) (by decide +kernel) ⟨Nat.le_of_ble_eq_true rfl, Nat.le_of_ble_eq_true rfl⟩), (hts _ (gw kw_275 rfl)), (hts _ (gw ks_0 rfl))⟩ ⟨fun a U g mk q => by obtain ⟨q0, q1, qP, qK, qD, qN⟩ := q; exact ⟨q0, q1, qP, va_K.moved (u := U) (U := U.calling g mk a) (Vm.Alike.refl U.vm) qK, qD, NX.same (u := U) (U := U.calling g mk a) rfl qN⟩, va_recv hK hPc (ci := 11) (q0 := 0) rfl rfl, fun U hU hW => ⟨rfl, by rw [hU], by rw [hU]; exact hPc, va_K.moved hW.alike hK, hDc.weaken (fun _ _ _ _ => trivial), NX.warm hW hN⟩⟩ rfl rfl hl.1 rfl (lv_room (Nat.le_of_ble_eq_true rfl)) dX11_feed_31 ⟨Nat.le_of_ble_eq_true rfl, Nat.le_of_ble_eq_true rfl⟩) hS (fun q _ h => hFc q h) hFc (fun x_3 u t H1 locs ht hvm hw_3 hB hz1 hk1 hS => ?_)
      obtain ⟨u_4, rfl⟩ : ∃ z, z = u := ⟨_, rfl⟩
      obtain ⟨hP1, hK1, hD1⟩ := hB
      rw [ht] at hP1
      clear hK1
      try dsimp only at hw_3
      obtain ⟨hP, hD⟩ := va_join (wr := [(xl, .inr (7, [.int 0, .ref lsg])), (lsg, .inl (aC 1, 64, .inl sg))]) (w1 := [(h0, .inr (11, [.ref xp, .ref xtp, .ref xn, .ref xt, .ref xk, .ref xl, .ref xc, .ref xo, .ref xto, .ref xr, .ref xch, .int ts, .int ik, .int st])), (xr, .inl (aC 0, 7, .inl u_4))]) hP hD [0, 3] [1, 2] rfl rfl (by decide) (by decide) hk1 hFc hP1 hD1
      generalize H1 = H at hP hS ⊢
      have hP : va_P (dC, dI) classes [(xl, .inr (7, [.int 0, .ref lsg])), (lsg, .inl (aC 1, 64, .inl sg)), (h0, .inr (11, [.ref xp, .ref xtp, .ref xn, .ref xt, .ref xk, .ref xl, .ref xc, .ref xo, .ref xto, .ref xr, .ref xch, .int ts, .int ik, .int st])), (xr, .inl (aC 0, 7, .inl u_4))] H := hP
      have hD : va_D A [(xl, .inr (7, [.int 0, .ref lsg])), (lsg, .inl (aC 1, 64, .inl sg)), (h0, .inr (11, [.ref xp, .ref xtp, .ref xn, .ref xt, .ref xk, .ref xl, .ref xc, .ref xo, .ref xto, .ref xr, .ref xch, .int ts, .int ik, .int st])), (xr, .inl (aC 0, 7, .inl u_4))] := hD
      clear hPc hDc hFc hz1 hk1 hP1 hD1 ht hvm
      obtain ⟨hv9, hv8⟩ := hw_3
      have hP9 := hP.sub (ws' := []) [] rfl
      have hD9 := hD.sub (ws' := []) [] (by decide) rfl
      refine W.widen (k := 0) (n := 0) (by omega) (by omega) ?_
      exact W.iret (v := x_3) hx hb hr (fun t ht hW => ⟨⟨x_3, (), rfl, by rw [hv9, if_neg (Int32.not_lt.mpr c_1)]; simp [c_2], by rw [ht]; exact hP9, va_K.moved hW.alike hK, hD9⟩, hS.F ht⟩) hS.2.2 dX11_feed_34
    · refine lv_aload_n hx hb dX11_feed_18 rfl (lv_at hl 0 rfl) ?_
      refine va_get (D := (dC, dI)) (ci := 11) (v := .ref xl) (C := RX11) (T := TX11) (N := 14) hx hb hts inX11 hown hK hP 0 rfl rfl 5 (by decide) (hts _ (gw kw_231 rfl)) (fun _ h9 => h9) rfl dX11_feed_19 ?_
      have hPc := hP.sub (ws' := [(xl, .inr (7, [.int 0, .ref lsg]))]) [1] rfl
      have hDc := hD.sub (ws' := [(xl, .inr (7, [.int 0, .ref lsg]))]) [1] (by decide) rfl
      have hFc := va_free (wc := [(xl, .inr (7, [.int 0, .ref lsg]))]) hD hS hA [1] rfl
      refine va_calli (va_runV (As := []) (rest := []) ⟨hx, hb, hml, hown, hts⟩ (c_X7_isFull_0 l dC dI aC H.size xl lsg ) ⟨(callB_of 0 hts (gG kw_280) rfl rfl rfl (hts _ (gw kw_3 rfl)) (hts _ (gw kw_277 rfl)) (by decide +kernel) ⟨Nat.le_of_ble_eq_true rfl, Nat.le_of_ble_eq_true rfl⟩), (hts _ (gw kw_278 rfl)), (hts _ (gw kw_279 rfl))⟩ ⟨fun a U g mk q => by obtain ⟨q0, q1, qP, qK, qD, qN⟩ := q; exact ⟨q0, q1, qP, va_K.moved (u := U) (U := U.calling g mk a) (Vm.Alike.refl U.vm) qK, qD, NX.same (u := U) (U := U.calling g mk a) rfl qN⟩, va_recv hK hPc (ci := 7) (q0 := 0) rfl rfl, fun U hU hW => ⟨rfl, by rw [hU], by rw [hU]; exact hPc, va_K.moved hW.alike hK, hDc.weaken (fun _ _ _ _ => trivial), NX.warm hW hN⟩⟩ rfl rfl hl.1 rfl (lv_room (Nat.le_of_ble_eq_true rfl)) dX11_feed_22 ⟨Nat.le_of_ble_eq_true rfl, Nat.le_of_ble_eq_true rfl⟩) hS (fun q _ h => hFc q h) hFc (fun x_5 u t H1 locs ht hvm hw_5 hB hz1 hk1 hS => ?_)
      obtain ⟨hP1, hK1, hD1⟩ := hB
      rw [ht] at hP1
      clear hK1
      try dsimp only at hw_5
      obtain ⟨hP, hD⟩ := va_join (wr := [(h0, .inr (11, [.ref xp, .ref xtp, .ref xn, .ref xt, .ref xk, .ref xl, .ref xc, .ref xo, .ref xto, .ref xr, .ref xch, .int ts, .int ik, .int st])), (lsg, .inl (aC 1, 64, .inl sg)), (xr, .inl (aC 0, 7, .inl rf))]) (w1 := [(xl, .inr (7, [.int 0, .ref lsg]))]) hP hD [1] [0, 2, 3] rfl rfl (by decide) (by decide) hk1 hFc hP1 hD1
      generalize H1 = H at hP hS ⊢
      have hP : va_P (dC, dI) classes [(h0, .inr (11, [.ref xp, .ref xtp, .ref xn, .ref xt, .ref xk, .ref xl, .ref xc, .ref xo, .ref xto, .ref xr, .ref xch, .int ts, .int ik, .int st])), (lsg, .inl (aC 1, 64, .inl sg)), (xr, .inl (aC 0, 7, .inl rf)), (xl, .inr (7, [.int 0, .ref lsg]))] H := hP
      have hD : va_D A [(h0, .inr (11, [.ref xp, .ref xtp, .ref xn, .ref xt, .ref xk, .ref xl, .ref xc, .ref xo, .ref xto, .ref xr, .ref xch, .int ts, .int ik, .int st])), (lsg, .inl (aC 1, 64, .inl sg)), (xr, .inl (aC 0, 7, .inl rf)), (xl, .inr (7, [.int 0, .ref lsg]))] := hD
      clear hPc hDc hFc hz1 hk1 hP1 hD1 ht hvm
      have hz_22 := hw_5
      refine lv_if_eq (tgt := 35) hx hb dX11_feed_25 (by decide) (fun c_6 => ?_) (fun c_6 => ?_)
      · refine lv_aload_n hx hb dX11_feed_35 rfl (lv_at hl 0 rfl) ?_
        refine va_get (D := (dC, dI)) (ci := 11) (v := .ref xl) (C := RX11) (T := TX11) (N := 14) hx hb hts inX11 hown hK hP 0 rfl rfl 5 (by decide) (hts _ (gw kw_231 rfl)) (fun _ h9 => h9) rfl dX11_feed_36 ?_
        refine lv_iload_n hx hb dX11_feed_39 rfl (lv_at hl 1 rfl) ?_
        refine lv_i2c hx hb dX11_feed_40 rfl ?_
        refine lv_topi (fun x_7 e_7 => ?_)
        have hPc := hP.sub (ws' := [(xl, .inr (7, [.int 0, .ref lsg])), (lsg, .inl (aC 1, 64, .inl sg))]) [3, 1] rfl
        have hDc := hD.sub (ws' := [(xl, .inr (7, [.int 0, .ref lsg])), (lsg, .inl (aC 1, 64, .inl sg))]) [3, 1] (by decide) rfl
        have hFc := va_free (wc := [(xl, .inr (7, [.int 0, .ref lsg])), (lsg, .inl (aC 1, 64, .inl sg))]) hD hS hA [3, 1] rfl
        refine va_calli (va_runV (As := [.int x_7]) (rest := []) ⟨hx, hb, hml, hown, hts⟩ (c_X7_add_0 l dC dI aC H.size xl lsg sg x_7 ) ⟨(callB_of 1 hts (gG kw_284) rfl rfl rfl (hts _ (gw kw_3 rfl)) (hts _ (gw kw_281 rfl)) (by decide +kernel) ⟨Nat.le_of_ble_eq_true rfl, Nat.le_of_ble_eq_true rfl⟩), (hts _ (gw kw_282 rfl)), (hts _ (gw kw_283 rfl))⟩ ⟨fun a U g mk q => by obtain ⟨q0, q1, qP, qK, qD, qN⟩ := q; exact ⟨q0, q1, qP, va_K.moved (u := U) (U := U.calling g mk a) (Vm.Alike.refl U.vm) qK, qD, NX.same (u := U) (U := U.calling g mk a) rfl qN⟩, va_recv hK hPc (ci := 7) (q0 := 0) rfl rfl, fun U hU hW => ⟨rfl, by rw [hU], by rw [hU]; exact hPc, va_K.moved hW.alike hK, hDc.weaken (fun _ _ _ _ => trivial), NX.warm hW hN⟩⟩ rfl rfl hl.1 rfl (lv_room (Nat.le_of_ble_eq_true rfl)) dX11_feed_41 ⟨Nat.le_of_ble_eq_true rfl, Nat.le_of_ble_eq_true rfl⟩) hS (fun q _ h => hFc q h) hFc (fun x_8 u t H1 locs ht hvm hw_8 hB hz1 hk1 hS => ?_)
        obtain ⟨hP1, hK1, hD1⟩ := hB
        rw [ht] at hP1
        clear hK1
        try dsimp only at hw_8
        obtain ⟨hP, hD⟩ := va_join (wr := [(h0, .inr (11, [.ref xp, .ref xtp, .ref xn, .ref xt, .ref xk, .ref xl, .ref xc, .ref xo, .ref xto, .ref xr, .ref xch, .int ts, .int ik, .int st])), (xr, .inl (aC 0, 7, .inl rf))]) (w1 := []) hP hD [3, 1] [0, 2] rfl rfl (by decide) (by decide) hk1 hFc hP1 hD1
        generalize H1 = H at hP hS ⊢
        have hP : va_P (dC, dI) classes [(h0, .inr (11, [.ref xp, .ref xtp, .ref xn, .ref xt, .ref xk, .ref xl, .ref xc, .ref xo, .ref xto, .ref xr, .ref xch, .int ts, .int ik, .int st])), (xr, .inl (aC 0, 7, .inl rf))] H := hP
        have hD : va_D A [(h0, .inr (11, [.ref xp, .ref xtp, .ref xn, .ref xt, .ref xk, .ref xl, .ref xc, .ref xo, .ref xto, .ref xr, .ref xch, .int ts, .int ik, .int st])), (xr, .inl (aC 0, 7, .inl rf))] := hD
        clear hPc hDc hFc hz1 hk1 hP1 hD1 ht hvm
        have hv9 := hw_8
        have hP9 := hP.sub (ws' := []) [] rfl
        have hD9 := hD.sub (ws' := []) [] (by decide) rfl
        refine W.widen (k := 0) (n := 0) (by omega) (by omega) ?_
        exact W.iret (v := x_8) hx hb hr (fun t ht hW => ⟨⟨x_8, (), rfl, by rw [hv9, if_neg (Int32.not_lt.mpr c_1)]; simp [c_2], by rw [ht]; exact hP9, va_K.moved hW.alike hK, hD9⟩, hS.F ht⟩) hS.2.2 dX11_feed_44
      · exact absurd hz_22 c_6
  · refine lv_aload_n hx hb dX11_feed_4 rfl (lv_at hl 0 rfl) ?_
    refine lv_bipush (v := -4) hx hb dX11_feed_5 (by decide) ?_
    have hPc := hP.sub (ws' := [(h0, .inr (11, [.ref xp, .ref xtp, .ref xn, .ref xt, .ref xk, .ref xl, .ref xc, .ref xo, .ref xto, .ref xr, .ref xch, .int ts, .int ik, .int st])), (xr, .inl (aC 0, 7, .inl rf))]) [0, 3] rfl
    have hDc := hD.sub (ws' := [(h0, .inr (11, [.ref xp, .ref xtp, .ref xn, .ref xt, .ref xk, .ref xl, .ref xc, .ref xo, .ref xto, .ref xr, .ref xch, .int ts, .int ik, .int st])), (xr, .inl (aC 0, 7, .inl rf))]) [0, 3] (by decide) rfl
    have hFc := va_free (wc := [(h0, .inr (11, [.ref xp, .ref xtp, .ref xn, .ref xt, .ref xk, .ref xl, .ref xc, .ref xo, .ref xto, .ref xr, .ref xch, .int ts, .int ik, .int st])), (xr, .inl (aC 0, 7, .inl rf))]) hD hS hA [0, 3] rfl
    refine va_calli (va_runV (As := [.int (-4)]) (rest := []) ⟨hx, hb, hml, hown, hts⟩ (c_X11_refuse l dC dI aC H.size h0 xp xtp xn xt xk xl xc xo xto xr xch ts ik st (-4) 4 rf (by decide) (by decide) (by decide) (by unfold vp_in; decide)) ⟨(callB_of 1 hts (gG kw_276) rfl rfl rfl (hts _ (gw kw_1 rfl)) (hts _ (gw kw_273 rfl)) (by decide +kernel) ⟨Nat.le_of_ble_eq_true rfl, Nat.le_of_ble_eq_true rfl⟩), (hts _ (gw kw_275 rfl)), (hts _ (gw ks_0 rfl))⟩ ⟨fun a U g mk q => by obtain ⟨q0, q1, qP, qK, qD, qN⟩ := q; exact ⟨q0, q1, qP, va_K.moved (u := U) (U := U.calling g mk a) (Vm.Alike.refl U.vm) qK, qD, NX.same (u := U) (U := U.calling g mk a) rfl qN⟩, va_recv hK hPc (ci := 11) (q0 := 0) rfl rfl, fun U hU hW => ⟨rfl, by rw [hU], by rw [hU]; exact hPc, va_K.moved hW.alike hK, hDc.weaken (fun _ _ _ _ => trivial), NX.warm hW hN⟩⟩ rfl rfl hl.1 rfl (lv_room (Nat.le_of_ble_eq_true rfl)) dX11_feed_7 ⟨Nat.le_of_ble_eq_true rfl, Nat.le_of_ble_eq_true rfl⟩) hS (fun q _ h => hFc q h) hFc (fun x_9 u t H1 locs ht hvm hw_9 hB hz1 hk1 hS => ?_)
    obtain ⟨u_10, rfl⟩ : ∃ z, z = u := ⟨_, rfl⟩
    obtain ⟨hP1, hK1, hD1⟩ := hB
    rw [ht] at hP1
    clear hK1
    try dsimp only at hw_9
    obtain ⟨hP, hD⟩ := va_join (wr := [(xl, .inr (7, [.int 0, .ref lsg])), (lsg, .inl (aC 1, 64, .inl sg))]) (w1 := [(h0, .inr (11, [.ref xp, .ref xtp, .ref xn, .ref xt, .ref xk, .ref xl, .ref xc, .ref xo, .ref xto, .ref xr, .ref xch, .int ts, .int ik, .int st])), (xr, .inl (aC 0, 7, .inl u_10))]) hP hD [0, 3] [1, 2] rfl rfl (by decide) (by decide) hk1 hFc hP1 hD1
    generalize H1 = H at hP hS ⊢
    have hP : va_P (dC, dI) classes [(xl, .inr (7, [.int 0, .ref lsg])), (lsg, .inl (aC 1, 64, .inl sg)), (h0, .inr (11, [.ref xp, .ref xtp, .ref xn, .ref xt, .ref xk, .ref xl, .ref xc, .ref xo, .ref xto, .ref xr, .ref xch, .int ts, .int ik, .int st])), (xr, .inl (aC 0, 7, .inl u_10))] H := hP
    have hD : va_D A [(xl, .inr (7, [.int 0, .ref lsg])), (lsg, .inl (aC 1, 64, .inl sg)), (h0, .inr (11, [.ref xp, .ref xtp, .ref xn, .ref xt, .ref xk, .ref xl, .ref xc, .ref xo, .ref xto, .ref xr, .ref xch, .int ts, .int ik, .int st])), (xr, .inl (aC 0, 7, .inl u_10))] := hD
    clear hPc hDc hFc hz1 hk1 hP1 hD1 ht hvm
    obtain ⟨hv9, hv8⟩ := hw_9
    have hP9 := hP.sub (ws' := []) [] rfl
    have hD9 := hD.sub (ws' := []) [] (by decide) rfl
    refine W.widen (k := 0) (n := 0) (by omega) (by omega) ?_
    exact W.iret (v := x_9) hx hb hr (fun t ht hW => ⟨⟨x_9, (), rfl, by rw [hv9]; simp [Int32.not_le.mp c_1], by rw [ht]; exact hP9, va_K.moved hW.alike hK, hD9⟩, hS.F ht⟩) hS.2.2 dX11_feed_10

set_option maxHeartbeats 4000000 in
set_option maxRecDepth 100000 in
/-- X11_set -/
theorem c_X11_set (l : Launch) (dC : Nat → ClassId) (dI : Nat → Nat → Nat) (aC : Nat → ClassId) (sz : Nat) (h0 : Nat) (xp : Nat) (xtp : Nat) (xn : Nat) (xt : Nat) (xk : Nat) (xl : Nat) (xc : Nat) (xo : Nat) (xto : Nat) (xr : Nat) (xch : Nat) (ts : Int32) (ik : Int32) (st : Int32) (ek : Nat) (ef : Nat) (ew : Nat) (ep : Nat) (es : Nat) (sz0 : Int32) (sy : Int32) (dn : Int32) (rf : Nat → Int32) (sf : Nat → Int32) (a1 : Int32) (a2 : Int32) (tG : Nat)  : Met l yX11_set (wW yX11_set cX11_set 4 (some .int)) ({ frames := 1, cells := 0, slots := 0, locals := 21 } : Room) (va_Pc [.ref h0, .int a1, .int a2] (fun U => U.heap.size = sz ∧ va_P (dC, dI) classes [(h0, .inr (11, [.ref xp, .ref xtp, .ref xn, .ref xt, .ref xk, .ref xl, .ref xc, .ref xo, .ref xto, .ref xr, .ref xch, .int ts, .int ik, .int st])), (xn, .inr (4, [.ref ek, .ref ef, .ref ew, .ref ep, .ref es, .int sz0, .int sy, .int dn])), (es, .inl (aC 0, 5, .inl sf)), (xr, .inl (aC 0, 7, .inl rf))] U.heap ∧ va_K (dC, dI) classes (TY aC) U ∧ va_D (fun _ => True) [(h0, .inr (11, [.ref xp, .ref xtp, .ref xn, .ref xt, .ref xk, .ref xl, .ref xc, .ref xo, .ref xto, .ref xr, .ref xch, .int ts, .int ik, .int st])), (xn, .inr (4, [.ref ek, .ref ef, .ref ew, .ref ep, .ref es, .int sz0, .int sy, .int dn])), (es, .inl (aC 0, 5, .inl sf)), (xr, .inl (aC 0, 7, .inl rf))] ∧ NX U ∧ va_Z "EldestSays" "GREATEST" "[I" (.ref tG) (va_A [(h0, .inr (11, [.ref xp, .ref xtp, .ref xn, .ref xt, .ref xk, .ref xl, .ref xc, .ref xo, .ref xto, .ref xr, .ref xch, .int ts, .int ik, .int st])), (xn, .inr (4, [.ref ek, .ref ef, .ref ew, .ref ep, .ref es, .int sz0, .int sy, .int dn])), (es, .inl (aC 0, 5, .inl sf)), (xr, .inl (aC 0, 7, .inl rf))] sz) U U.heap ∧ va_T .int tG 5 (fun j => .int (GV j)) (va_A [(h0, .inr (11, [.ref xp, .ref xtp, .ref xn, .ref xt, .ref xk, .ref xl, .ref xc, .ref xo, .ref xto, .ref xr, .ref xch, .int ts, .int ik, .int st])), (xn, .inr (4, [.ref ek, .ref ef, .ref ew, .ref ep, .ref es, .int sz0, .int sy, .int dn])), (es, .inl (aC 0, 5, .inl sf)), (xr, .inl (aC 0, 7, .inl rf))] sz) U U.heap)) (va_Qi (fun (r : Int32) (_ : Unit) => r = if a1 < 0 then -2 else if 5 ≤ a1 then -2 else if a2 < 0 then -4 else if GV a1.toNatClampNeg < a2 then -6 else sf a1.toNatClampNeg) (fun (_ : Unit) (t : State) => va_P (dC, dI) classes [] t.heap ∧ va_K (dC, dI) classes (TY aC) t ∧ va_D (va_A [(h0, .inr (11, [.ref xp, .ref xtp, .ref xn, .ref xt, .ref xk, .ref xl, .ref xc, .ref xo, .ref xto, .ref xr, .ref xch, .int ts, .int ik, .int st])), (xn, .inr (4, [.ref ek, .ref ef, .ref ew, .ref ep, .ref es, .int sz0, .int sy, .int dn])), (es, .inl (aC 0, 5, .inl sf)), (xr, .inl (aC 0, 7, .inl rf))] sz) []) (va_A [(h0, .inr (11, [.ref xp, .ref xtp, .ref xn, .ref xt, .ref xk, .ref xl, .ref xc, .ref xo, .ref xto, .ref xr, .ref xch, .int ts, .int ik, .int st])), (xn, .inr (4, [.ref ek, .ref ef, .ref ew, .ref ep, .ref es, .int sz0, .int sy, .int dn])), (es, .inl (aC 0, 5, .inl sf)), (xr, .inl (aC 0, 7, .inl rf))] sz)) 0 0 (va_A [(h0, .inr (11, [.ref xp, .ref xtp, .ref xn, .ref xt, .ref xk, .ref xl, .ref xc, .ref xo, .ref xto, .ref xr, .ref xch, .int ts, .int ik, .int st])), (xn, .inr (4, [.ref ek, .ref ef, .ref ew, .ref ep, .ref es, .int sz0, .int sy, .int dn])), (es, .inl (aC 0, 5, .inl sf)), (xr, .inl (aC 0, 7, .inl rf))] sz) := by
  refine Met.ofW (cc := cX11_set) (maxL := 4) (ret := (some .int)) (by decide) rfl ?_
  intro p e s m args below meth c s₁ B hml hv
  obtain ⟨rfl, hsz, hP, hK, hD0, hN, hZG, hTG⟩ := hv
  have hx := B.exec
  have hb := B.bytes
  have hr := B.returns
  have hts0 := atoms_spec (ws := (wW yX11_set cX11_set 4 (some .int))) B.pre
  have hts : ∀ w9 ∈ lw_G, w9.before ([.ref h0, .int a1, .int a2] : List Value).toArray s = true := fun w9 h9 => hts0 w9 (List.mem_cons_of_mem _ h9)
  have hown : s.vm.findClass RX11 = some m.cls := findClass_of_methodNamed B.named
  have hlocks := B.notSynchronized
  subst hsz
  have hD := hD0.self (sz := s.heap.size)
  generalize hAe : va_A [(h0, .inr (11, [.ref xp, .ref xtp, .ref xn, .ref xt, .ref xk, .ref xl, .ref xc, .ref xo, .ref xto, .ref xr, .ref xch, .int ts, .int ik, .int st])), (xn, .inr (4, [.ref ek, .ref ef, .ref ew, .ref ep, .ref es, .int sz0, .int sy, .int dn])), (es, .inl (aC 0, 5, .inl sf)), (xr, .inl (aC 0, 7, .inl rf))] s.heap.size = A at hZG hTG hD ⊢
  have hA : ∀ q : Nat, s.heap.size ≤ q → A q := fun q h => by rw [← hAe]; exact Or.inr h
  obtain ⟨H, hHe⟩ : ∃ H : Heap, H = s.heap := ⟨_, rfl⟩
  have hS : va_S A s.heap H [] := by rw [hHe]; exact va_S.rf
  have hP : va_P (dC, dI) classes [(h0, .inr (11, [.ref xp, .ref xtp, .ref xn, .ref xt, .ref xk, .ref xl, .ref xc, .ref xo, .ref xto, .ref xr, .ref xch, .int ts, .int ik, .int st])), (xn, .inr (4, [.ref ek, .ref ef, .ref ew, .ref ep, .ref es, .int sz0, .int sy, .int dn])), (es, .inl (aC 0, 5, .inl sf)), (xr, .inl (aC 0, 7, .inl rf))] H := by rw [hHe]; exact hP
  have hl := lv_entry ([.ref h0, .int a1, .int a2]) (n := 4) (Nat.le_of_ble_eq_true rfl)
  rw [lg_entry_eq]
  generalize (lg_sl ([.ref h0, .int a1, .int a2]) ++ List.replicate (4 - (lg_sl ([.ref h0, .int a1, .int a2])).length) Slot.unset).toArray = ls at hl ⊢
  have hl : lv_has ls 4 [(0, .ref h0), (1, .int a1), (2, .int a2)] := hl
  rw [← hHe]
  refine lv_iload_n hx hb dX11_set_0 rfl (lv_at hl 1 rfl) ?_
  refine lv_if_lt (tgt := 12) hx hb dX11_set_1 (by decide) (fun c_1 => ?_) (fun c_1 => ?_)
  · refine lv_aload_n hx hb dX11_set_12 rfl (lv_at hl 0 rfl) ?_
    refine lv_bipush (v := -2) hx hb dX11_set_13 (by decide) ?_
    have hPc := hP.sub (ws' := [(h0, .inr (11, [.ref xp, .ref xtp, .ref xn, .ref xt, .ref xk, .ref xl, .ref xc, .ref xo, .ref xto, .ref xr, .ref xch, .int ts, .int ik, .int st])), (xr, .inl (aC 0, 7, .inl rf))]) [0, 3] rfl
    have hDc := hD.sub (ws' := [(h0, .inr (11, [.ref xp, .ref xtp, .ref xn, .ref xt, .ref xk, .ref xl, .ref xc, .ref xo, .ref xto, .ref xr, .ref xch, .int ts, .int ik, .int st])), (xr, .inl (aC 0, 7, .inl rf))]) [0, 3] (by decide) rfl
    have hFc := va_free (wc := [(h0, .inr (11, [.ref xp, .ref xtp, .ref xn, .ref xt, .ref xk, .ref xl, .ref xc, .ref xo, .ref xto, .ref xr, .ref xch, .int ts, .int ik, .int st])), (xr, .inl (aC 0, 7, .inl rf))]) hD hS hA [0, 3] rfl
    refine va_calli (va_runV (As := [.int (-2)]) (rest := []) ⟨hx, hb, hml, hown, hts⟩ (c_X11_refuse l dC dI aC H.size h0 xp xtp xn xt xk xl xc xo xto xr xch ts ik st (-2) 2 rf (by decide) (by decide) (by decide) (by unfold vp_in; decide)) ⟨(callB_of 1 hts (gG kw_276) rfl rfl rfl (hts _ (gw kw_1 rfl)) (hts _ (gw kw_273 rfl)) (by decide +kernel) ⟨Nat.le_of_ble_eq_true rfl, Nat.le_of_ble_eq_true rfl⟩), (hts _ (gw kw_275 rfl)), (hts _ (gw ks_0 rfl))⟩ ⟨fun a U g mk q => by obtain ⟨q0, q1, qP, qK, qD, qN⟩ := q; exact ⟨q0, q1, qP, va_K.moved (u := U) (U := U.calling g mk a) (Vm.Alike.refl U.vm) qK, qD, NX.same (u := U) (U := U.calling g mk a) rfl qN⟩, va_recv hK hPc (ci := 11) (q0 := 0) rfl rfl, fun U hU hW => ⟨rfl, by rw [hU], by rw [hU]; exact hPc, va_K.moved hW.alike hK, hDc.weaken (fun _ _ _ _ => trivial), NX.warm hW hN⟩⟩ rfl rfl hl.1 rfl (lv_room (Nat.le_of_ble_eq_true rfl)) dX11_set_15 ⟨Nat.le_of_ble_eq_true rfl, Nat.le_of_ble_eq_true rfl⟩) hS (fun q _ h => hFc q h) hFc (fun x_2 u t H1 locs ht hvm hw_2 hB hz1 hk1 hS => ?_)
    obtain ⟨u_3, rfl⟩ : ∃ z, z = u := ⟨_, rfl⟩
    obtain ⟨hP1, hK1, hD1⟩ := hB
    rw [ht] at hP1
    clear hK1
    try dsimp only at hw_2
    obtain ⟨hP, hD⟩ := va_join (wr := [(xn, .inr (4, [.ref ek, .ref ef, .ref ew, .ref ep, .ref es, .int sz0, .int sy, .int dn])), (es, .inl (aC 0, 5, .inl sf))]) (w1 := [(h0, .inr (11, [.ref xp, .ref xtp, .ref xn, .ref xt, .ref xk, .ref xl, .ref xc, .ref xo, .ref xto, .ref xr, .ref xch, .int ts, .int ik, .int st])), (xr, .inl (aC 0, 7, .inl u_3))]) hP hD [0, 3] [1, 2] rfl rfl (by decide) (by decide) hk1 hFc hP1 hD1
    generalize H1 = H at hP hS ⊢
    have hP : va_P (dC, dI) classes [(xn, .inr (4, [.ref ek, .ref ef, .ref ew, .ref ep, .ref es, .int sz0, .int sy, .int dn])), (es, .inl (aC 0, 5, .inl sf)), (h0, .inr (11, [.ref xp, .ref xtp, .ref xn, .ref xt, .ref xk, .ref xl, .ref xc, .ref xo, .ref xto, .ref xr, .ref xch, .int ts, .int ik, .int st])), (xr, .inl (aC 0, 7, .inl u_3))] H := hP
    have hD : va_D A [(xn, .inr (4, [.ref ek, .ref ef, .ref ew, .ref ep, .ref es, .int sz0, .int sy, .int dn])), (es, .inl (aC 0, 5, .inl sf)), (h0, .inr (11, [.ref xp, .ref xtp, .ref xn, .ref xt, .ref xk, .ref xl, .ref xc, .ref xo, .ref xto, .ref xr, .ref xch, .int ts, .int ik, .int st])), (xr, .inl (aC 0, 7, .inl u_3))] := hD
    clear hPc hDc hFc hz1 hk1 hP1 hD1 ht hvm
    obtain ⟨hv9, hv8⟩ := hw_2
    have hP9 := hP.sub (ws' := []) [] rfl
    have hD9 := hD.sub (ws' := []) [] (by decide) rfl
    refine W.widen (k := 0) (n := 0) (by omega) (by omega) ?_
    exact W.iret (v := x_2) hx hb hr (fun t ht hW => ⟨⟨x_2, (), rfl, by rw [hv9]; first | (rw [if_pos c_1]; done) | (rw [if_neg c_1, if_pos (Int32.not_lt.mp {C1})]), by rw [ht]; exact hP9, va_K.moved hW.alike hK, hD9⟩, hS.F ht⟩) hS.2.2 dX11_set_18
  · refine lv_iload_n hx hb dX11_set_4 rfl (lv_at hl 1 rfl) ?_
    refine va_gets (v := .ref tG) hx hb hZG hS hown (hts _ (gw kw_345 rfl)) (fun _ h9 => h9) dX11_set_5 ?_
    refine va_tlen (v := 5) hx hb hTG hS (by decide) dX11_set_8 ?_
    refine lv_icmp_lt (tgt := 19) hx hb dX11_set_9 (by decide) (fun c_4 => ?_) (fun c_4 => ?_)
    · refine lv_iload_n hx hb dX11_set_19 rfl (lv_at hl 2 rfl) ?_
      refine lv_if_ge (tgt := 30) hx hb dX11_set_20 (by decide) (fun c_5 => ?_) (fun c_5 => ?_)
      · refine lv_iload_n hx hb dX11_set_30 rfl (lv_at hl 2 rfl) ?_
        refine va_gets (v := .ref tG) hx hb hZG hS hown (hts _ (gw kw_345 rfl)) (fun _ h9 => h9) dX11_set_31 ?_
        refine lv_iload_n hx hb dX11_set_34 rfl (lv_at hl 1 rfl) ?_
        have h_6 : vp_in a1 5 := vin c_1 c_4 rfl
        refine va_ti hx hb hTG hS h_6 rfl dX11_set_35 ?_
        refine lv_topi (fun x_7 e_7 => ?_)
        refine lv_icmp_le (tgt := 46) hx hb dX11_set_36 (by decide) (fun c_8 => ?_) (fun c_8 => ?_)
        · refine lv_aload_n hx hb dX11_set_46 rfl (lv_at hl 0 rfl) ?_
          refine va_get (D := (dC, dI)) (ci := 11) (v := .ref xn) (C := RX11) (T := TX11) (N := 14) hx hb hts inX11 hown hK hP 0 rfl rfl 2 (by decide) (hts _ (gw kw_228 rfl)) (fun _ h9 => h9) rfl dX11_set_47 ?_
          refine va_get (D := (dC, dI)) (ci := 4) (v := .ref es) (C := RX4) (T := TX4) (N := 8) hx hb hts inX4 hown hK hP 1 rfl rfl 4 (by decide) (hts _ (gw kw_45 rfl)) (fun _ h9 => h9) rfl dX11_set_50 ?_
          refine lv_iload_n hx hb dX11_set_53 rfl (lv_at hl 1 rfl) ?_
          have h_9 : vp_in a1 5 := vin c_1 c_4 rfl
          refine va_iald hx hb hK hP 2 0 rfl rfl h_9 dX11_set_54 ?_
          refine lv_topi (fun x_10 e_10 => ?_)
          refine lv_istore_n (lv' := [(3, .int x_10), (0, .ref h0), (1, .int a1), (2, .int a2)]) hx hb dX11_set_55 rfl hl (by decide) rfl (fun ls hl => ?_)
          refine lv_aload_n hx hb dX11_set_56 rfl (lv_at hl 1 rfl) ?_
          refine va_get (D := (dC, dI)) (ci := 11) (v := .ref xn) (C := RX11) (T := TX11) (N := 14) hx hb hts inX11 hown hK hP 0 rfl rfl 2 (by decide) (hts _ (gw kw_228 rfl)) (fun _ h9 => h9) rfl dX11_set_57 ?_
          refine va_get (D := (dC, dI)) (ci := 4) (v := .ref es) (C := RX4) (T := TX4) (N := 8) hx hb hts inX4 hown hK hP 1 rfl rfl 4 (by decide) (hts _ (gw kw_45 rfl)) (fun _ h9 => h9) rfl dX11_set_60 ?_
          refine lv_iload_n hx hb dX11_set_63 rfl (lv_at hl 2 rfl) ?_
          refine lv_iload_n hx hb dX11_set_64 rfl (lv_at hl 3 rfl) ?_
          have h_11 : vp_in a1 5 := vin c_1 c_4 rfl
          refine va_iast hx hb hK hP hD hS 2 0 rfl rfl h_11 dX11_set_65 (fun H locs hP hD hS => ?_)
          obtain ⟨f_12, e_f_12⟩ : ∃ y : Nat → Int32, y = upd sf (a1 : Int32).toNatClampNeg a2 := ⟨_, rfl⟩
          have hP : va_P (dC, dI) classes [(h0, .inr (11, [.ref xp, .ref xtp, .ref xn, .ref xt, .ref xk, .ref xl, .ref xc, .ref xo, .ref xto, .ref xr, .ref xch, .int ts, .int ik, .int st])), (xn, .inr (4, [.ref ek, .ref ef, .ref ew, .ref ep, .ref es, .int sz0, .int sy, .int dn])), (es, .inl (aC 0, 5, .inl f_12)), (xr, .inl (aC 0, 7, .inl rf))] H := by rw [e_f_12]; exact hP
          have hD : va_D A [(h0, .inr (11, [.ref xp, .ref xtp, .ref xn, .ref xt, .ref xk, .ref xl, .ref xc, .ref xo, .ref xto, .ref xr, .ref xch, .int ts, .int ik, .int st])), (xn, .inr (4, [.ref ek, .ref ef, .ref ew, .ref ep, .ref es, .int sz0, .int sy, .int dn])), (es, .inl (aC 0, 5, .inl f_12)), (xr, .inl (aC 0, 7, .inl rf))] := by rw [e_f_12]; exact hD
          refine lv_aload_n hx hb dX11_set_66 rfl (lv_at hl 1 rfl) ?_
          refine lv_iconst (v := 1) hx hb dX11_set_67 (by decide) ?_
          refine va_put (D := (dC, dI)) (ci := 11) (v := .int 1) (ty := .boolean) (C := RX11) (T := TX11) (N := 14) hx hb hts inX11 tyX11 tyX11_ok nmX11 hown hK hP hD hS 0 rfl rfl 13 (by decide) (hts _ (gw kw_239 rfl)) (fun _ h9 => h9) rfl (by decide +kernel) rfl rfl (Nat.le_of_ble_eq_true rfl) dX11_set_68 (fun H locs hP hD hS => ?_)
          have hP : va_P (dC, dI) classes [(h0, .inr (11, [.ref xp, .ref xtp, .ref xn, .ref xt, .ref xk, .ref xl, .ref xc, .ref xo, .ref xto, .ref xr, .ref xch, .int ts, .int ik, .int 1])), (xn, .inr (4, [.ref ek, .ref ef, .ref ew, .ref ep, .ref es, .int sz0, .int sy, .int dn])), (es, .inl (aC 0, 5, .inl f_12)), (xr, .inl (aC 0, 7, .inl rf))] H := hP
          have hD : va_D A [(h0, .inr (11, [.ref xp, .ref xtp, .ref xn, .ref xt, .ref xk, .ref xl, .ref xc, .ref xo, .ref xto, .ref xr, .ref xch, .int ts, .int ik, .int 1])), (xn, .inr (4, [.ref ek, .ref ef, .ref ew, .ref ep, .ref es, .int sz0, .int sy, .int dn])), (es, .inl (aC 0, 5, .inl f_12)), (xr, .inl (aC 0, 7, .inl rf))] := hD
          refine lv_iload_n hx hb dX11_set_71 rfl (lv_at hl 0 rfl) ?_
          have hP9 := hP.sub (ws' := []) [] rfl
          have hD9 := hD.sub (ws' := []) [] (by decide) rfl
          refine W.widen (k := 0) (n := 0) (by omega) (by omega) ?_
          exact W.iret (v := x_10) hx hb hr (fun t ht hW => ⟨⟨x_10, (), rfl, by subst e_f_12; subst e_10; subst e_7; rw [if_neg c_1, if_neg (Int32.not_le.mpr c_4), if_neg (Int32.not_lt.mpr c_5), if_neg (Int32.not_lt.mpr c_8)], by rw [ht]; exact hP9, va_K.moved hW.alike hK, hD9⟩, hS.F ht⟩) hS.2.2 dX11_set_72
        · refine lv_aload_n hx hb dX11_set_39 rfl (lv_at hl 0 rfl) ?_
          refine lv_bipush (v := -6) hx hb dX11_set_40 (by decide) ?_
          have hPc := hP.sub (ws' := [(h0, .inr (11, [.ref xp, .ref xtp, .ref xn, .ref xt, .ref xk, .ref xl, .ref xc, .ref xo, .ref xto, .ref xr, .ref xch, .int ts, .int ik, .int st])), (xr, .inl (aC 0, 7, .inl rf))]) [0, 3] rfl
          have hDc := hD.sub (ws' := [(h0, .inr (11, [.ref xp, .ref xtp, .ref xn, .ref xt, .ref xk, .ref xl, .ref xc, .ref xo, .ref xto, .ref xr, .ref xch, .int ts, .int ik, .int st])), (xr, .inl (aC 0, 7, .inl rf))]) [0, 3] (by decide) rfl
          have hFc := va_free (wc := [(h0, .inr (11, [.ref xp, .ref xtp, .ref xn, .ref xt, .ref xk, .ref xl, .ref xc, .ref xo, .ref xto, .ref xr, .ref xch, .int ts, .int ik, .int st])), (xr, .inl (aC 0, 7, .inl rf))]) hD hS hA [0, 3] rfl
          refine va_calli (va_runV (As := [.int (-6)]) (rest := []) ⟨hx, hb, hml, hown, hts⟩ (c_X11_refuse l dC dI aC H.size h0 xp xtp xn xt xk xl xc xo xto xr xch ts ik st (-6) 6 rf (by decide) (by decide) (by decide) (by unfold vp_in; decide)) ⟨(callB_of 1 hts (gG kw_276) rfl rfl rfl (hts _ (gw kw_1 rfl)) (hts _ (gw kw_273 rfl)) (by decide +kernel) ⟨Nat.le_of_ble_eq_true rfl, Nat.le_of_ble_eq_true rfl⟩), (hts _ (gw kw_275 rfl)), (hts _ (gw ks_0 rfl))⟩ ⟨fun a U g mk q => by obtain ⟨q0, q1, qP, qK, qD, qN⟩ := q; exact ⟨q0, q1, qP, va_K.moved (u := U) (U := U.calling g mk a) (Vm.Alike.refl U.vm) qK, qD, NX.same (u := U) (U := U.calling g mk a) rfl qN⟩, va_recv hK hPc (ci := 11) (q0 := 0) rfl rfl, fun U hU hW => ⟨rfl, by rw [hU], by rw [hU]; exact hPc, va_K.moved hW.alike hK, hDc.weaken (fun _ _ _ _ => trivial), NX.warm hW hN⟩⟩ rfl rfl hl.1 rfl (lv_room (Nat.le_of_ble_eq_true rfl)) dX11_set_42 ⟨Nat.le_of_ble_eq_true rfl, Nat.le_of_ble_eq_true rfl⟩) hS (fun q _ h => hFc q h) hFc (fun x_13 u t H1 locs ht hvm hw_13 hB hz1 hk1 hS => ?_)
          obtain ⟨u_14, rfl⟩ : ∃ z, z = u := ⟨_, rfl⟩
          obtain ⟨hP1, hK1, hD1⟩ := hB
          rw [ht] at hP1
          clear hK1
          try dsimp only at hw_13
          obtain ⟨hP, hD⟩ := va_join (wr := [(xn, .inr (4, [.ref ek, .ref ef, .ref ew, .ref ep, .ref es, .int sz0, .int sy, .int dn])), (es, .inl (aC 0, 5, .inl sf))]) (w1 := [(h0, .inr (11, [.ref xp, .ref xtp, .ref xn, .ref xt, .ref xk, .ref xl, .ref xc, .ref xo, .ref xto, .ref xr, .ref xch, .int ts, .int ik, .int st])), (xr, .inl (aC 0, 7, .inl u_14))]) hP hD [0, 3] [1, 2] rfl rfl (by decide) (by decide) hk1 hFc hP1 hD1
          generalize H1 = H at hP hS ⊢
          have hP : va_P (dC, dI) classes [(xn, .inr (4, [.ref ek, .ref ef, .ref ew, .ref ep, .ref es, .int sz0, .int sy, .int dn])), (es, .inl (aC 0, 5, .inl sf)), (h0, .inr (11, [.ref xp, .ref xtp, .ref xn, .ref xt, .ref xk, .ref xl, .ref xc, .ref xo, .ref xto, .ref xr, .ref xch, .int ts, .int ik, .int st])), (xr, .inl (aC 0, 7, .inl u_14))] H := hP
          have hD : va_D A [(xn, .inr (4, [.ref ek, .ref ef, .ref ew, .ref ep, .ref es, .int sz0, .int sy, .int dn])), (es, .inl (aC 0, 5, .inl sf)), (h0, .inr (11, [.ref xp, .ref xtp, .ref xn, .ref xt, .ref xk, .ref xl, .ref xc, .ref xo, .ref xto, .ref xr, .ref xch, .int ts, .int ik, .int st])), (xr, .inl (aC 0, 7, .inl u_14))] := hD
          clear hPc hDc hFc hz1 hk1 hP1 hD1 ht hvm
          obtain ⟨hv9, hv8⟩ := hw_13
          have hP9 := hP.sub (ws' := []) [] rfl
          have hD9 := hD.sub (ws' := []) [] (by decide) rfl
          refine W.widen (k := 0) (n := 0) (by omega) (by omega) ?_
          exact W.iret (v := x_13) hx hb hr (fun t ht hW => ⟨⟨x_13, (), rfl, by rw [hv9, if_neg c_1, if_neg (Int32.not_le.mpr c_4), if_neg (Int32.not_lt.mpr c_5), if_pos (by rw [← e_7]; exact Int32.not_le.mp c_8)], by rw [ht]; exact hP9, va_K.moved hW.alike hK, hD9⟩, hS.F ht⟩) hS.2.2 dX11_set_45
      · refine lv_aload_n hx hb dX11_set_23 rfl (lv_at hl 0 rfl) ?_
        refine lv_bipush (v := -4) hx hb dX11_set_24 (by decide) ?_
        have hPc := hP.sub (ws' := [(h0, .inr (11, [.ref xp, .ref xtp, .ref xn, .ref xt, .ref xk, .ref xl, .ref xc, .ref xo, .ref xto, .ref xr, .ref xch, .int ts, .int ik, .int st])), (xr, .inl (aC 0, 7, .inl rf))]) [0, 3] rfl
        have hDc := hD.sub (ws' := [(h0, .inr (11, [.ref xp, .ref xtp, .ref xn, .ref xt, .ref xk, .ref xl, .ref xc, .ref xo, .ref xto, .ref xr, .ref xch, .int ts, .int ik, .int st])), (xr, .inl (aC 0, 7, .inl rf))]) [0, 3] (by decide) rfl
        have hFc := va_free (wc := [(h0, .inr (11, [.ref xp, .ref xtp, .ref xn, .ref xt, .ref xk, .ref xl, .ref xc, .ref xo, .ref xto, .ref xr, .ref xch, .int ts, .int ik, .int st])), (xr, .inl (aC 0, 7, .inl rf))]) hD hS hA [0, 3] rfl
        refine va_calli (va_runV (As := [.int (-4)]) (rest := []) ⟨hx, hb, hml, hown, hts⟩ (c_X11_refuse l dC dI aC H.size h0 xp xtp xn xt xk xl xc xo xto xr xch ts ik st (-4) 4 rf (by decide) (by decide) (by decide) (by unfold vp_in; decide)) ⟨(callB_of 1 hts (gG kw_276) rfl rfl rfl (hts _ (gw kw_1 rfl)) (hts _ (gw kw_273 rfl)) (by decide +kernel) ⟨Nat.le_of_ble_eq_true rfl, Nat.le_of_ble_eq_true rfl⟩), (hts _ (gw kw_275 rfl)), (hts _ (gw ks_0 rfl))⟩ ⟨fun a U g mk q => by obtain ⟨q0, q1, qP, qK, qD, qN⟩ := q; exact ⟨q0, q1, qP, va_K.moved (u := U) (U := U.calling g mk a) (Vm.Alike.refl U.vm) qK, qD, NX.same (u := U) (U := U.calling g mk a) rfl qN⟩, va_recv hK hPc (ci := 11) (q0 := 0) rfl rfl, fun U hU hW => ⟨rfl, by rw [hU], by rw [hU]; exact hPc, va_K.moved hW.alike hK, hDc.weaken (fun _ _ _ _ => trivial), NX.warm hW hN⟩⟩ rfl rfl hl.1 rfl (lv_room (Nat.le_of_ble_eq_true rfl)) dX11_set_26 ⟨Nat.le_of_ble_eq_true rfl, Nat.le_of_ble_eq_true rfl⟩) hS (fun q _ h => hFc q h) hFc (fun x_15 u t H1 locs ht hvm hw_15 hB hz1 hk1 hS => ?_)
        obtain ⟨u_16, rfl⟩ : ∃ z, z = u := ⟨_, rfl⟩
        obtain ⟨hP1, hK1, hD1⟩ := hB
        rw [ht] at hP1
        clear hK1
        try dsimp only at hw_15
        obtain ⟨hP, hD⟩ := va_join (wr := [(xn, .inr (4, [.ref ek, .ref ef, .ref ew, .ref ep, .ref es, .int sz0, .int sy, .int dn])), (es, .inl (aC 0, 5, .inl sf))]) (w1 := [(h0, .inr (11, [.ref xp, .ref xtp, .ref xn, .ref xt, .ref xk, .ref xl, .ref xc, .ref xo, .ref xto, .ref xr, .ref xch, .int ts, .int ik, .int st])), (xr, .inl (aC 0, 7, .inl u_16))]) hP hD [0, 3] [1, 2] rfl rfl (by decide) (by decide) hk1 hFc hP1 hD1
        generalize H1 = H at hP hS ⊢
        have hP : va_P (dC, dI) classes [(xn, .inr (4, [.ref ek, .ref ef, .ref ew, .ref ep, .ref es, .int sz0, .int sy, .int dn])), (es, .inl (aC 0, 5, .inl sf)), (h0, .inr (11, [.ref xp, .ref xtp, .ref xn, .ref xt, .ref xk, .ref xl, .ref xc, .ref xo, .ref xto, .ref xr, .ref xch, .int ts, .int ik, .int st])), (xr, .inl (aC 0, 7, .inl u_16))] H := hP
        have hD : va_D A [(xn, .inr (4, [.ref ek, .ref ef, .ref ew, .ref ep, .ref es, .int sz0, .int sy, .int dn])), (es, .inl (aC 0, 5, .inl sf)), (h0, .inr (11, [.ref xp, .ref xtp, .ref xn, .ref xt, .ref xk, .ref xl, .ref xc, .ref xo, .ref xto, .ref xr, .ref xch, .int ts, .int ik, .int st])), (xr, .inl (aC 0, 7, .inl u_16))] := hD
        clear hPc hDc hFc hz1 hk1 hP1 hD1 ht hvm
        obtain ⟨hv9, hv8⟩ := hw_15
        have hP9 := hP.sub (ws' := []) [] rfl
        have hD9 := hD.sub (ws' := []) [] (by decide) rfl
        refine W.widen (k := 0) (n := 0) (by omega) (by omega) ?_
        exact W.iret (v := x_15) hx hb hr (fun t ht hW => ⟨⟨x_15, (), rfl, by rw [hv9, if_neg c_1, if_neg (Int32.not_le.mpr c_4), if_pos (Int32.not_le.mp c_5)], by rw [ht]; exact hP9, va_K.moved hW.alike hK, hD9⟩, hS.F ht⟩) hS.2.2 dX11_set_29
    · refine lv_aload_n hx hb dX11_set_12 rfl (lv_at hl 0 rfl) ?_
      refine lv_bipush (v := -2) hx hb dX11_set_13 (by decide) ?_
      have hPc := hP.sub (ws' := [(h0, .inr (11, [.ref xp, .ref xtp, .ref xn, .ref xt, .ref xk, .ref xl, .ref xc, .ref xo, .ref xto, .ref xr, .ref xch, .int ts, .int ik, .int st])), (xr, .inl (aC 0, 7, .inl rf))]) [0, 3] rfl
      have hDc := hD.sub (ws' := [(h0, .inr (11, [.ref xp, .ref xtp, .ref xn, .ref xt, .ref xk, .ref xl, .ref xc, .ref xo, .ref xto, .ref xr, .ref xch, .int ts, .int ik, .int st])), (xr, .inl (aC 0, 7, .inl rf))]) [0, 3] (by decide) rfl
      have hFc := va_free (wc := [(h0, .inr (11, [.ref xp, .ref xtp, .ref xn, .ref xt, .ref xk, .ref xl, .ref xc, .ref xo, .ref xto, .ref xr, .ref xch, .int ts, .int ik, .int st])), (xr, .inl (aC 0, 7, .inl rf))]) hD hS hA [0, 3] rfl
      refine va_calli (va_runV (As := [.int (-2)]) (rest := []) ⟨hx, hb, hml, hown, hts⟩ (c_X11_refuse l dC dI aC H.size h0 xp xtp xn xt xk xl xc xo xto xr xch ts ik st (-2) 2 rf (by decide) (by decide) (by decide) (by unfold vp_in; decide)) ⟨(callB_of 1 hts (gG kw_276) rfl rfl rfl (hts _ (gw kw_1 rfl)) (hts _ (gw kw_273 rfl)) (by decide +kernel) ⟨Nat.le_of_ble_eq_true rfl, Nat.le_of_ble_eq_true rfl⟩), (hts _ (gw kw_275 rfl)), (hts _ (gw ks_0 rfl))⟩ ⟨fun a U g mk q => by obtain ⟨q0, q1, qP, qK, qD, qN⟩ := q; exact ⟨q0, q1, qP, va_K.moved (u := U) (U := U.calling g mk a) (Vm.Alike.refl U.vm) qK, qD, NX.same (u := U) (U := U.calling g mk a) rfl qN⟩, va_recv hK hPc (ci := 11) (q0 := 0) rfl rfl, fun U hU hW => ⟨rfl, by rw [hU], by rw [hU]; exact hPc, va_K.moved hW.alike hK, hDc.weaken (fun _ _ _ _ => trivial), NX.warm hW hN⟩⟩ rfl rfl hl.1 rfl (lv_room (Nat.le_of_ble_eq_true rfl)) dX11_set_15 ⟨Nat.le_of_ble_eq_true rfl, Nat.le_of_ble_eq_true rfl⟩) hS (fun q _ h => hFc q h) hFc (fun x_17 u t H1 locs ht hvm hw_17 hB hz1 hk1 hS => ?_)
      obtain ⟨u_18, rfl⟩ : ∃ z, z = u := ⟨_, rfl⟩
      obtain ⟨hP1, hK1, hD1⟩ := hB
      rw [ht] at hP1
      clear hK1
      try dsimp only at hw_17
      obtain ⟨hP, hD⟩ := va_join (wr := [(xn, .inr (4, [.ref ek, .ref ef, .ref ew, .ref ep, .ref es, .int sz0, .int sy, .int dn])), (es, .inl (aC 0, 5, .inl sf))]) (w1 := [(h0, .inr (11, [.ref xp, .ref xtp, .ref xn, .ref xt, .ref xk, .ref xl, .ref xc, .ref xo, .ref xto, .ref xr, .ref xch, .int ts, .int ik, .int st])), (xr, .inl (aC 0, 7, .inl u_18))]) hP hD [0, 3] [1, 2] rfl rfl (by decide) (by decide) hk1 hFc hP1 hD1
      generalize H1 = H at hP hS ⊢
      have hP : va_P (dC, dI) classes [(xn, .inr (4, [.ref ek, .ref ef, .ref ew, .ref ep, .ref es, .int sz0, .int sy, .int dn])), (es, .inl (aC 0, 5, .inl sf)), (h0, .inr (11, [.ref xp, .ref xtp, .ref xn, .ref xt, .ref xk, .ref xl, .ref xc, .ref xo, .ref xto, .ref xr, .ref xch, .int ts, .int ik, .int st])), (xr, .inl (aC 0, 7, .inl u_18))] H := hP
      have hD : va_D A [(xn, .inr (4, [.ref ek, .ref ef, .ref ew, .ref ep, .ref es, .int sz0, .int sy, .int dn])), (es, .inl (aC 0, 5, .inl sf)), (h0, .inr (11, [.ref xp, .ref xtp, .ref xn, .ref xt, .ref xk, .ref xl, .ref xc, .ref xo, .ref xto, .ref xr, .ref xch, .int ts, .int ik, .int st])), (xr, .inl (aC 0, 7, .inl u_18))] := hD
      clear hPc hDc hFc hz1 hk1 hP1 hD1 ht hvm
      obtain ⟨hv9, hv8⟩ := hw_17
      have hP9 := hP.sub (ws' := []) [] rfl
      have hD9 := hD.sub (ws' := []) [] (by decide) rfl
      refine W.widen (k := 0) (n := 0) (by omega) (by omega) ?_
      exact W.iret (v := x_17) hx hb hr (fun t ht hW => ⟨⟨x_17, (), rfl, by rw [hv9]; first | (rw [if_pos c_1]; done) | (rw [if_neg c_1, if_pos (Int32.not_lt.mp c_4)]), by rw [ht]; exact hP9, va_K.moved hW.alike hK, hD9⟩, hS.F ht⟩) hS.2.2 dX11_set_18

set_option maxHeartbeats 4000000 in
set_option maxRecDepth 100000 in
/-- X11_row_0 -/
theorem c_X11_row_0 (l : Launch) (dC : Nat → ClassId) (dI : Nat → Nat → Nat) (aC : Nat → ClassId) (sz : Nat) (h0 : Nat) (xp : Nat) (xtp : Nat) (xn : Nat) (xt : Nat) (xk : Nat) (xl : Nat) (xc : Nat) (xo : Nat) (xto : Nat) (xr : Nat) (xch : Nat) (ik : Int32) (st : Int32) (rf : Nat → Int32) (tf : Nat → Int32) (a1 : Int32)  : Met l yX11_row (wW yX11_row cX11_row 2 (some .int)) ({ frames := 1, cells := 0, slots := 0, locals := 21 } : Room) (va_Pc [.ref h0, .int a1] (fun U => U.heap.size = sz ∧ va_P (dC, dI) classes [(h0, .inr (11, [.ref xp, .ref xtp, .ref xn, .ref xt, .ref xk, .ref xl, .ref xc, .ref xo, .ref xto, .ref xr, .ref xch, .int 0, .int ik, .int st])), (xto, .inl (aC 0, 8, .inl tf)), (xr, .inl (aC 0, 7, .inl rf))] U.heap ∧ va_K (dC, dI) classes (TY aC) U ∧ va_D (fun _ => True) [(h0, .inr (11, [.ref xp, .ref xtp, .ref xn, .ref xt, .ref xk, .ref xl, .ref xc, .ref xo, .ref xto, .ref xr, .ref xch, .int 0, .int ik, .int st])), (xto, .inl (aC 0, 8, .inl tf)), (xr, .inl (aC 0, 7, .inl rf))] ∧ NX U)) (va_Qi (fun (r : Int32) (_ : Unit) => r = if a1 < 0 then -4 else if 99 < a1 then -6 else 1) (fun (_ : Unit) (t : State) => va_P (dC, dI) classes [] t.heap ∧ va_K (dC, dI) classes (TY aC) t ∧ va_D (va_A [(h0, .inr (11, [.ref xp, .ref xtp, .ref xn, .ref xt, .ref xk, .ref xl, .ref xc, .ref xo, .ref xto, .ref xr, .ref xch, .int 0, .int ik, .int st])), (xto, .inl (aC 0, 8, .inl tf)), (xr, .inl (aC 0, 7, .inl rf))] sz) []) (va_A [(h0, .inr (11, [.ref xp, .ref xtp, .ref xn, .ref xt, .ref xk, .ref xl, .ref xc, .ref xo, .ref xto, .ref xr, .ref xch, .int 0, .int ik, .int st])), (xto, .inl (aC 0, 8, .inl tf)), (xr, .inl (aC 0, 7, .inl rf))] sz)) 0 0 (va_A [(h0, .inr (11, [.ref xp, .ref xtp, .ref xn, .ref xt, .ref xk, .ref xl, .ref xc, .ref xo, .ref xto, .ref xr, .ref xch, .int 0, .int ik, .int st])), (xto, .inl (aC 0, 8, .inl tf)), (xr, .inl (aC 0, 7, .inl rf))] sz) := by
  refine Met.ofW (cc := cX11_row) (maxL := 2) (ret := (some .int)) (by decide) rfl ?_
  intro p e s m args below meth c s₁ B hml hv
  obtain ⟨rfl, hsz, hP, hK, hD0, hN⟩ := hv
  have hx := B.exec
  have hb := B.bytes
  have hr := B.returns
  have hts0 := atoms_spec (ws := (wW yX11_row cX11_row 2 (some .int))) B.pre
  have hts : ∀ w9 ∈ lw_G, w9.before ([.ref h0, .int a1] : List Value).toArray s = true := fun w9 h9 => hts0 w9 (List.mem_cons_of_mem _ h9)
  have hown : s.vm.findClass RX11 = some m.cls := findClass_of_methodNamed B.named
  have hlocks := B.notSynchronized
  subst hsz
  have hD := hD0.self (sz := s.heap.size)
  generalize hAe : va_A [(h0, .inr (11, [.ref xp, .ref xtp, .ref xn, .ref xt, .ref xk, .ref xl, .ref xc, .ref xo, .ref xto, .ref xr, .ref xch, .int 0, .int ik, .int st])), (xto, .inl (aC 0, 8, .inl tf)), (xr, .inl (aC 0, 7, .inl rf))] s.heap.size = A at hD ⊢
  have hA : ∀ q : Nat, s.heap.size ≤ q → A q := fun q h => by rw [← hAe]; exact Or.inr h
  obtain ⟨H, hHe⟩ : ∃ H : Heap, H = s.heap := ⟨_, rfl⟩
  have hS : va_S A s.heap H [] := by rw [hHe]; exact va_S.rf
  have hP : va_P (dC, dI) classes [(h0, .inr (11, [.ref xp, .ref xtp, .ref xn, .ref xt, .ref xk, .ref xl, .ref xc, .ref xo, .ref xto, .ref xr, .ref xch, .int 0, .int ik, .int st])), (xto, .inl (aC 0, 8, .inl tf)), (xr, .inl (aC 0, 7, .inl rf))] H := by rw [hHe]; exact hP
  have hl := lv_entry ([.ref h0, .int a1]) (n := 2) (Nat.le_of_ble_eq_true rfl)
  rw [lg_entry_eq]
  generalize (lg_sl ([.ref h0, .int a1]) ++ List.replicate (2 - (lg_sl ([.ref h0, .int a1])).length) Slot.unset).toArray = ls at hl ⊢
  have hl : lv_has ls 2 [(0, .ref h0), (1, .int a1)] := hl
  rw [← hHe]
  refine lv_iload_n hx hb dX11_row_0 rfl (lv_at hl 1 rfl) ?_
  refine lv_if_ge (tgt := 11) hx hb dX11_row_1 (by decide) (fun c_1 => ?_) (fun c_1 => ?_)
  · refine lv_iload_n hx hb dX11_row_11 rfl (lv_at hl 1 rfl) ?_
    refine lv_bipush (v := 99) hx hb dX11_row_12 (by decide) ?_
    refine lv_icmp_gt (tgt := 26) hx hb dX11_row_14 (by decide) (fun c_2 => ?_) (fun c_2 => ?_)
    · refine lv_aload_n hx hb dX11_row_26 rfl (lv_at hl 0 rfl) ?_
      refine lv_bipush (v := -6) hx hb dX11_row_27 (by decide) ?_
      have hPc := hP.sub (ws' := [(h0, .inr (11, [.ref xp, .ref xtp, .ref xn, .ref xt, .ref xk, .ref xl, .ref xc, .ref xo, .ref xto, .ref xr, .ref xch, .int 0, .int ik, .int st])), (xr, .inl (aC 0, 7, .inl rf))]) [0, 2] rfl
      have hDc := hD.sub (ws' := [(h0, .inr (11, [.ref xp, .ref xtp, .ref xn, .ref xt, .ref xk, .ref xl, .ref xc, .ref xo, .ref xto, .ref xr, .ref xch, .int 0, .int ik, .int st])), (xr, .inl (aC 0, 7, .inl rf))]) [0, 2] (by decide) rfl
      have hFc := va_free (wc := [(h0, .inr (11, [.ref xp, .ref xtp, .ref xn, .ref xt, .ref xk, .ref xl, .ref xc, .ref xo, .ref xto, .ref xr, .ref xch, .int 0, .int ik, .int st])), (xr, .inl (aC 0, 7, .inl rf))]) hD hS hA [0, 2] rfl
      refine va_calli (va_runV (As := [.int (-6)]) (rest := []) ⟨hx, hb, hml, hown, hts⟩ (c_X11_refuse l dC dI aC H.size h0 xp xtp xn xt xk xl xc xo xto xr xch 0 ik st (-6) 6 rf (by decide) (by decide) (by decide) (by unfold vp_in; decide)) ⟨(callB_of 1 hts (gG kw_276) rfl rfl rfl (hts _ (gw kw_1 rfl)) (hts _ (gw kw_273 rfl)) (by decide +kernel) ⟨Nat.le_of_ble_eq_true rfl, Nat.le_of_ble_eq_true rfl⟩), (hts _ (gw kw_275 rfl)), (hts _ (gw ks_0 rfl))⟩ ⟨fun a U g mk q => by obtain ⟨q0, q1, qP, qK, qD, qN⟩ := q; exact ⟨q0, q1, qP, va_K.moved (u := U) (U := U.calling g mk a) (Vm.Alike.refl U.vm) qK, qD, NX.same (u := U) (U := U.calling g mk a) rfl qN⟩, va_recv hK hPc (ci := 11) (q0 := 0) rfl rfl, fun U hU hW => ⟨rfl, by rw [hU], by rw [hU]; exact hPc, va_K.moved hW.alike hK, hDc.weaken (fun _ _ _ _ => trivial), NX.warm hW hN⟩⟩ rfl rfl hl.1 rfl (lv_room (Nat.le_of_ble_eq_true rfl)) dX11_row_29 ⟨Nat.le_of_ble_eq_true rfl, Nat.le_of_ble_eq_true rfl⟩) hS (fun q _ h => hFc q h) hFc (fun x_3 u t H1 locs ht hvm hw_3 hB hz1 hk1 hS => ?_)
      obtain ⟨u_4, rfl⟩ : ∃ z, z = u := ⟨_, rfl⟩
      obtain ⟨hP1, hK1, hD1⟩ := hB
      rw [ht] at hP1
      clear hK1
      try dsimp only at hw_3
      obtain ⟨hP, hD⟩ := va_join (wr := [(xto, .inl (aC 0, 8, .inl tf))]) (w1 := [(h0, .inr (11, [.ref xp, .ref xtp, .ref xn, .ref xt, .ref xk, .ref xl, .ref xc, .ref xo, .ref xto, .ref xr, .ref xch, .int 0, .int ik, .int st])), (xr, .inl (aC 0, 7, .inl u_4))]) hP hD [0, 2] [1] rfl rfl (by decide) (by decide) hk1 hFc hP1 hD1
      generalize H1 = H at hP hS ⊢
      have hP : va_P (dC, dI) classes [(xto, .inl (aC 0, 8, .inl tf)), (h0, .inr (11, [.ref xp, .ref xtp, .ref xn, .ref xt, .ref xk, .ref xl, .ref xc, .ref xo, .ref xto, .ref xr, .ref xch, .int 0, .int ik, .int st])), (xr, .inl (aC 0, 7, .inl u_4))] H := hP
      have hD : va_D A [(xto, .inl (aC 0, 8, .inl tf)), (h0, .inr (11, [.ref xp, .ref xtp, .ref xn, .ref xt, .ref xk, .ref xl, .ref xc, .ref xo, .ref xto, .ref xr, .ref xch, .int 0, .int ik, .int st])), (xr, .inl (aC 0, 7, .inl u_4))] := hD
      clear hPc hDc hFc hz1 hk1 hP1 hD1 ht hvm
      obtain ⟨hv9, hv8⟩ := hw_3
      have hP9 := hP.sub (ws' := []) [] rfl
      have hD9 := hD.sub (ws' := []) [] (by decide) rfl
      refine W.widen (k := 0) (n := 0) (by omega) (by omega) ?_
      exact W.iret (v := x_3) hx hb hr (fun t ht hW => ⟨⟨x_3, (), rfl, by rw [hv9, if_neg (Int32.not_lt.mpr c_1)]; simp [c_2], by rw [ht]; exact hP9, va_K.moved hW.alike hK, hD9⟩, hS.F ht⟩) hS.2.2 dX11_row_32
    · refine lv_aload_n hx hb dX11_row_17 rfl (lv_at hl 0 rfl) ?_
      refine va_get (D := (dC, dI)) (ci := 11) (v := .int 0) (C := RX11) (T := TX11) (N := 14) hx hb hts inX11 hown hK hP 0 rfl rfl 11 (by decide) (hts _ (gw kw_237 rfl)) (fun _ h9 => h9) rfl dX11_row_18 ?_
      refine lv_bipush (v := 8) hx hb dX11_row_21 (by decide) ?_
      refine lv_icmp_lt (tgt := 33) hx hb dX11_row_23 (by decide) (fun c_5 => ?_) (fun c_5 => ?_)
      · refine lv_aload_n hx hb dX11_row_33 rfl (lv_at hl 0 rfl) ?_
        refine va_get (D := (dC, dI)) (ci := 11) (v := .ref xto) (C := RX11) (T := TX11) (N := 14) hx hb hts inX11 hown hK hP 0 rfl rfl 8 (by decide) (hts _ (gw kw_234 rfl)) (fun _ h9 => h9) rfl dX11_row_34 ?_
        refine lv_aload_n hx hb dX11_row_37 rfl (lv_at hl 0 rfl) ?_
        refine va_get (D := (dC, dI)) (ci := 11) (v := .int 0) (C := RX11) (T := TX11) (N := 14) hx hb hts inX11 hown hK hP 0 rfl rfl 11 (by decide) (hts _ (gw kw_237 rfl)) (fun _ h9 => h9) rfl dX11_row_38 ?_
        refine lv_iload_n hx hb dX11_row_41 rfl (lv_at hl 1 rfl) ?_
        have h_6 : vp_in 0 8 := by first | assumption | (unfold vp_in; decide) | exact vp_in_nI (by omega) (by omega) | (subst_vars; first | (unfold vp_in; decide) | exact vp_in_nI (by omega) (by omega))
        refine va_iast hx hb hK hP hD hS 1 0 rfl rfl h_6 dX11_row_42 (fun H locs hP hD hS => ?_)
        obtain ⟨f_7, e_f_7⟩ : ∃ y : Nat → Int32, y = upd tf (0 : Int32).toNatClampNeg a1 := ⟨_, rfl⟩
        have hP : va_P (dC, dI) classes [(h0, .inr (11, [.ref xp, .ref xtp, .ref xn, .ref xt, .ref xk, .ref xl, .ref xc, .ref xo, .ref xto, .ref xr, .ref xch, .int 0, .int ik, .int st])), (xto, .inl (aC 0, 8, .inl f_7)), (xr, .inl (aC 0, 7, .inl rf))] H := by rw [e_f_7]; exact hP
        have hD : va_D A [(h0, .inr (11, [.ref xp, .ref xtp, .ref xn, .ref xt, .ref xk, .ref xl, .ref xc, .ref xo, .ref xto, .ref xr, .ref xch, .int 0, .int ik, .int st])), (xto, .inl (aC 0, 8, .inl f_7)), (xr, .inl (aC 0, 7, .inl rf))] := by rw [e_f_7]; exact hD
        refine lv_aload_n hx hb dX11_row_43 rfl (lv_at hl 0 rfl) ?_
        refine lv_dup hx hb dX11_row_44 rfl ?_
        refine va_get (D := (dC, dI)) (ci := 11) (v := .int 0) (C := RX11) (T := TX11) (N := 14) hx hb hts inX11 hown hK hP 0 rfl rfl 11 (by decide) (hts _ (gw kw_237 rfl)) (fun _ h9 => h9) rfl dX11_row_45 ?_
        refine lv_iconst (v := 1) hx hb dX11_row_48 (by decide) ?_
        refine lv_iadd hx hb dX11_row_49 ?_
        refine lv_topi (fun x_8 e_8 => ?_)
        refine va_put (D := (dC, dI)) (ci := 11) (v := .int x_8) (ty := .int) (C := RX11) (T := TX11) (N := 14) hx hb hts inX11 tyX11 tyX11_ok nmX11 hown hK hP hD hS 0 rfl rfl 11 (by decide) (hts _ (gw kw_237 rfl)) (fun _ h9 => h9) rfl (by decide +kernel) rfl rfl (Nat.le_of_ble_eq_true rfl) dX11_row_50 (fun H locs hP hD hS => ?_)
        have hP : va_P (dC, dI) classes [(h0, .inr (11, [.ref xp, .ref xtp, .ref xn, .ref xt, .ref xk, .ref xl, .ref xc, .ref xo, .ref xto, .ref xr, .ref xch, .int x_8, .int ik, .int st])), (xto, .inl (aC 0, 8, .inl f_7)), (xr, .inl (aC 0, 7, .inl rf))] H := hP
        have hD : va_D A [(h0, .inr (11, [.ref xp, .ref xtp, .ref xn, .ref xt, .ref xk, .ref xl, .ref xc, .ref xo, .ref xto, .ref xr, .ref xch, .int x_8, .int ik, .int st])), (xto, .inl (aC 0, 8, .inl f_7)), (xr, .inl (aC 0, 7, .inl rf))] := hD
        refine lv_aload_n hx hb dX11_row_53 rfl (lv_at hl 0 rfl) ?_
        refine va_get (D := (dC, dI)) (ci := 11) (v := .int x_8) (C := RX11) (T := TX11) (N := 14) hx hb hts inX11 hown hK hP 0 rfl rfl 11 (by decide) (hts _ (gw kw_237 rfl)) (fun _ h9 => h9) rfl dX11_row_54 ?_
        have hP9 := hP.sub (ws' := []) [] rfl
        have hD9 := hD.sub (ws' := []) [] (by decide) rfl
        refine W.widen (k := 0) (n := 0) (by omega) (by omega) ?_
        exact W.iret (v := x_8) hx hb hr (fun t ht hW => ⟨⟨x_8, (), rfl, by subst e_8; subst e_f_7; rw [if_neg (Int32.not_lt.mpr c_1)]; simp [c_2]; done, by rw [ht]; exact hP9, va_K.moved hW.alike hK, hD9⟩, hS.F ht⟩) hS.2.2 dX11_row_57
      · exact absurd (by decide) c_5
  · refine lv_aload_n hx hb dX11_row_4 rfl (lv_at hl 0 rfl) ?_
    refine lv_bipush (v := -4) hx hb dX11_row_5 (by decide) ?_
    have hPc := hP.sub (ws' := [(h0, .inr (11, [.ref xp, .ref xtp, .ref xn, .ref xt, .ref xk, .ref xl, .ref xc, .ref xo, .ref xto, .ref xr, .ref xch, .int 0, .int ik, .int st])), (xr, .inl (aC 0, 7, .inl rf))]) [0, 2] rfl
    have hDc := hD.sub (ws' := [(h0, .inr (11, [.ref xp, .ref xtp, .ref xn, .ref xt, .ref xk, .ref xl, .ref xc, .ref xo, .ref xto, .ref xr, .ref xch, .int 0, .int ik, .int st])), (xr, .inl (aC 0, 7, .inl rf))]) [0, 2] (by decide) rfl
    have hFc := va_free (wc := [(h0, .inr (11, [.ref xp, .ref xtp, .ref xn, .ref xt, .ref xk, .ref xl, .ref xc, .ref xo, .ref xto, .ref xr, .ref xch, .int 0, .int ik, .int st])), (xr, .inl (aC 0, 7, .inl rf))]) hD hS hA [0, 2] rfl
    refine va_calli (va_runV (As := [.int (-4)]) (rest := []) ⟨hx, hb, hml, hown, hts⟩ (c_X11_refuse l dC dI aC H.size h0 xp xtp xn xt xk xl xc xo xto xr xch 0 ik st (-4) 4 rf (by decide) (by decide) (by decide) (by unfold vp_in; decide)) ⟨(callB_of 1 hts (gG kw_276) rfl rfl rfl (hts _ (gw kw_1 rfl)) (hts _ (gw kw_273 rfl)) (by decide +kernel) ⟨Nat.le_of_ble_eq_true rfl, Nat.le_of_ble_eq_true rfl⟩), (hts _ (gw kw_275 rfl)), (hts _ (gw ks_0 rfl))⟩ ⟨fun a U g mk q => by obtain ⟨q0, q1, qP, qK, qD, qN⟩ := q; exact ⟨q0, q1, qP, va_K.moved (u := U) (U := U.calling g mk a) (Vm.Alike.refl U.vm) qK, qD, NX.same (u := U) (U := U.calling g mk a) rfl qN⟩, va_recv hK hPc (ci := 11) (q0 := 0) rfl rfl, fun U hU hW => ⟨rfl, by rw [hU], by rw [hU]; exact hPc, va_K.moved hW.alike hK, hDc.weaken (fun _ _ _ _ => trivial), NX.warm hW hN⟩⟩ rfl rfl hl.1 rfl (lv_room (Nat.le_of_ble_eq_true rfl)) dX11_row_7 ⟨Nat.le_of_ble_eq_true rfl, Nat.le_of_ble_eq_true rfl⟩) hS (fun q _ h => hFc q h) hFc (fun x_9 u t H1 locs ht hvm hw_9 hB hz1 hk1 hS => ?_)
    obtain ⟨u_10, rfl⟩ : ∃ z, z = u := ⟨_, rfl⟩
    obtain ⟨hP1, hK1, hD1⟩ := hB
    rw [ht] at hP1
    clear hK1
    try dsimp only at hw_9
    obtain ⟨hP, hD⟩ := va_join (wr := [(xto, .inl (aC 0, 8, .inl tf))]) (w1 := [(h0, .inr (11, [.ref xp, .ref xtp, .ref xn, .ref xt, .ref xk, .ref xl, .ref xc, .ref xo, .ref xto, .ref xr, .ref xch, .int 0, .int ik, .int st])), (xr, .inl (aC 0, 7, .inl u_10))]) hP hD [0, 2] [1] rfl rfl (by decide) (by decide) hk1 hFc hP1 hD1
    generalize H1 = H at hP hS ⊢
    have hP : va_P (dC, dI) classes [(xto, .inl (aC 0, 8, .inl tf)), (h0, .inr (11, [.ref xp, .ref xtp, .ref xn, .ref xt, .ref xk, .ref xl, .ref xc, .ref xo, .ref xto, .ref xr, .ref xch, .int 0, .int ik, .int st])), (xr, .inl (aC 0, 7, .inl u_10))] H := hP
    have hD : va_D A [(xto, .inl (aC 0, 8, .inl tf)), (h0, .inr (11, [.ref xp, .ref xtp, .ref xn, .ref xt, .ref xk, .ref xl, .ref xc, .ref xo, .ref xto, .ref xr, .ref xch, .int 0, .int ik, .int st])), (xr, .inl (aC 0, 7, .inl u_10))] := hD
    clear hPc hDc hFc hz1 hk1 hP1 hD1 ht hvm
    obtain ⟨hv9, hv8⟩ := hw_9
    have hP9 := hP.sub (ws' := []) [] rfl
    have hD9 := hD.sub (ws' := []) [] (by decide) rfl
    refine W.widen (k := 0) (n := 0) (by omega) (by omega) ?_
    exact W.iret (v := x_9) hx hb hr (fun t ht hW => ⟨⟨x_9, (), rfl, by rw [hv9]; simp [Int32.not_le.mp c_1], by rw [ht]; exact hP9, va_K.moved hW.alike hK, hD9⟩, hS.F ht⟩) hS.2.2 dX11_row_10

set_option maxHeartbeats 4000000 in
set_option maxRecDepth 100000 in
/-- X4_copy -/
theorem c_X4_copy (l : Launch) (dC : Nat → ClassId) (dI : Nat → Nat → Nat) (aC : Nat → ClassId) (sz : Nat) (h1 : Nat) (h2 : Nat) (ek : Nat) (ef : Nat) (ew : Nat) (ep : Nat) (es : Nat) (dk : Nat) (df : Nat) (dw : Nat) (dp : Nat) (ds : Nat) (sz0 : Int32) (sy : Int32) (dn : Int32) (sz1 : Int32) (sy1 : Int32) (dn1 : Int32) (k1 : Nat → Int32) (f1 : Nat → Int32) (w1 : Nat → Int32) (p1 : Nat → Int32) (s1 : Nat → Int32) (k2 : Nat → Int32) (f2 : Nat → Int32) (w2 : Nat → Int32) (p2 : Nat → Int32) (s2 : Nat → Int32) (tG : Nat) (hdn : dn = 0 ∨ dn = 1) : Met l yX4_copy (wW yX4_copy cX4_copy 2 (none : Option FieldType)) ({ frames := 1, cells := 0, slots := 0, locals := 40 } : Room) (va_Pc [.ref h1, .ref h2] (fun U => U.heap.size = sz ∧ va_P (dC, dI) classes [(h1, .inr (4, [.ref dk, .ref df, .ref dw, .ref dp, .ref ds, .int sz1, .int sy1, .int dn1])), (dk, .inl (aC 0, 8, .inl k1)), (df, .inl (aC 0, 8, .inl f1)), (dw, .inl (aC 0, 8, .inl w1)), (dp, .inl (aC 0, 8, .inl p1)), (ds, .inl (aC 0, 5, .inl s1)), (h2, .inr (4, [.ref ek, .ref ef, .ref ew, .ref ep, .ref es, .int sz0, .int sy, .int dn])), (ek, .inl (aC 0, 8, .inl k2)), (ef, .inl (aC 0, 8, .inl f2)), (ew, .inl (aC 0, 8, .inl w2)), (ep, .inl (aC 0, 8, .inl p2)), (es, .inl (aC 0, 5, .inl s2))] U.heap ∧ va_K (dC, dI) classes (TY aC) U ∧ va_D (fun _ => True) [(h1, .inr (4, [.ref dk, .ref df, .ref dw, .ref dp, .ref ds, .int sz1, .int sy1, .int dn1])), (dk, .inl (aC 0, 8, .inl k1)), (df, .inl (aC 0, 8, .inl f1)), (dw, .inl (aC 0, 8, .inl w1)), (dp, .inl (aC 0, 8, .inl p1)), (ds, .inl (aC 0, 5, .inl s1)), (h2, .inr (4, [.ref ek, .ref ef, .ref ew, .ref ep, .ref es, .int sz0, .int sy, .int dn])), (ek, .inl (aC 0, 8, .inl k2)), (ef, .inl (aC 0, 8, .inl f2)), (ew, .inl (aC 0, 8, .inl w2)), (ep, .inl (aC 0, 8, .inl p2)), (es, .inl (aC 0, 5, .inl s2))] ∧ NX U ∧ va_Z "EldestSays" "GREATEST" "[I" (.ref tG) (va_A [(h1, .inr (4, [.ref dk, .ref df, .ref dw, .ref dp, .ref ds, .int sz1, .int sy1, .int dn1])), (dk, .inl (aC 0, 8, .inl k1)), (df, .inl (aC 0, 8, .inl f1)), (dw, .inl (aC 0, 8, .inl w1)), (dp, .inl (aC 0, 8, .inl p1)), (ds, .inl (aC 0, 5, .inl s1)), (h2, .inr (4, [.ref ek, .ref ef, .ref ew, .ref ep, .ref es, .int sz0, .int sy, .int dn])), (ek, .inl (aC 0, 8, .inl k2)), (ef, .inl (aC 0, 8, .inl f2)), (ew, .inl (aC 0, 8, .inl w2)), (ep, .inl (aC 0, 8, .inl p2)), (es, .inl (aC 0, 5, .inl s2))] sz) U U.heap ∧ va_T .int tG 5 (fun j => .int (GV j)) (va_A [(h1, .inr (4, [.ref dk, .ref df, .ref dw, .ref dp, .ref ds, .int sz1, .int sy1, .int dn1])), (dk, .inl (aC 0, 8, .inl k1)), (df, .inl (aC 0, 8, .inl f1)), (dw, .inl (aC 0, 8, .inl w1)), (dp, .inl (aC 0, 8, .inl p1)), (ds, .inl (aC 0, 5, .inl s1)), (h2, .inr (4, [.ref ek, .ref ef, .ref ew, .ref ep, .ref es, .int sz0, .int sy, .int dn])), (ek, .inl (aC 0, 8, .inl k2)), (ef, .inl (aC 0, 8, .inl f2)), (ew, .inl (aC 0, 8, .inl w2)), (ep, .inl (aC 0, 8, .inl p2)), (es, .inl (aC 0, 5, .inl s2))] sz) U U.heap)) (va_Qv (fun (u : (Nat → Int32) × (Nat → Int32) × (Nat → Int32) × (Nat → Int32) × (Nat → Int32)) => match u with | (k3, f3, w3, p3, s3) => k3 = va_cpy k2 k1 0 0 8 ∧ f3 = va_cpy f2 f1 0 0 8 ∧ w3 = va_cpy w2 w1 0 0 8 ∧ p3 = va_cpy p2 p1 0 0 8 ∧ s3 = va_cpy s2 s1 0 0 5) (fun (u : (Nat → Int32) × (Nat → Int32) × (Nat → Int32) × (Nat → Int32) × (Nat → Int32)) (t : State) => match u with | (k3, f3, w3, p3, s3) => va_P (dC, dI) classes [(h1, .inr (4, [.ref dk, .ref df, .ref dw, .ref dp, .ref ds, .int sz0, .int sy, .int dn])), (dk, .inl (aC 0, 8, .inl k3)), (df, .inl (aC 0, 8, .inl f3)), (dw, .inl (aC 0, 8, .inl w3)), (dp, .inl (aC 0, 8, .inl p3)), (ds, .inl (aC 0, 5, .inl s3)), (h2, .inr (4, [.ref ek, .ref ef, .ref ew, .ref ep, .ref es, .int sz0, .int sy, .int dn])), (ek, .inl (aC 0, 8, .inl k2)), (ef, .inl (aC 0, 8, .inl f2)), (ew, .inl (aC 0, 8, .inl w2)), (ep, .inl (aC 0, 8, .inl p2)), (es, .inl (aC 0, 5, .inl s2))] t.heap ∧ va_K (dC, dI) classes (TY aC) t ∧ va_D (va_A [(h1, .inr (4, [.ref dk, .ref df, .ref dw, .ref dp, .ref ds, .int sz1, .int sy1, .int dn1])), (dk, .inl (aC 0, 8, .inl k1)), (df, .inl (aC 0, 8, .inl f1)), (dw, .inl (aC 0, 8, .inl w1)), (dp, .inl (aC 0, 8, .inl p1)), (ds, .inl (aC 0, 5, .inl s1)), (h2, .inr (4, [.ref ek, .ref ef, .ref ew, .ref ep, .ref es, .int sz0, .int sy, .int dn])), (ek, .inl (aC 0, 8, .inl k2)), (ef, .inl (aC 0, 8, .inl f2)), (ew, .inl (aC 0, 8, .inl w2)), (ep, .inl (aC 0, 8, .inl p2)), (es, .inl (aC 0, 5, .inl s2))] sz) [(h1, .inr (4, [.ref dk, .ref df, .ref dw, .ref dp, .ref ds, .int sz0, .int sy, .int dn])), (dk, .inl (aC 0, 8, .inl k3)), (df, .inl (aC 0, 8, .inl f3)), (dw, .inl (aC 0, 8, .inl w3)), (dp, .inl (aC 0, 8, .inl p3)), (ds, .inl (aC 0, 5, .inl s3)), (h2, .inr (4, [.ref ek, .ref ef, .ref ew, .ref ep, .ref es, .int sz0, .int sy, .int dn])), (ek, .inl (aC 0, 8, .inl k2)), (ef, .inl (aC 0, 8, .inl f2)), (ew, .inl (aC 0, 8, .inl w2)), (ep, .inl (aC 0, 8, .inl p2)), (es, .inl (aC 0, 5, .inl s2))]) (va_A [(h1, .inr (4, [.ref dk, .ref df, .ref dw, .ref dp, .ref ds, .int sz1, .int sy1, .int dn1])), (dk, .inl (aC 0, 8, .inl k1)), (df, .inl (aC 0, 8, .inl f1)), (dw, .inl (aC 0, 8, .inl w1)), (dp, .inl (aC 0, 8, .inl p1)), (ds, .inl (aC 0, 5, .inl s1)), (h2, .inr (4, [.ref ek, .ref ef, .ref ew, .ref ep, .ref es, .int sz0, .int sy, .int dn])), (ek, .inl (aC 0, 8, .inl k2)), (ef, .inl (aC 0, 8, .inl f2)), (ew, .inl (aC 0, 8, .inl w2)), (ep, .inl (aC 0, 8, .inl p2)), (es, .inl (aC 0, 5, .inl s2))] sz)) 0 0 (va_A [(h1, .inr (4, [.ref dk, .ref df, .ref dw, .ref dp, .ref ds, .int sz1, .int sy1, .int dn1])), (dk, .inl (aC 0, 8, .inl k1)), (df, .inl (aC 0, 8, .inl f1)), (dw, .inl (aC 0, 8, .inl w1)), (dp, .inl (aC 0, 8, .inl p1)), (ds, .inl (aC 0, 5, .inl s1)), (h2, .inr (4, [.ref ek, .ref ef, .ref ew, .ref ep, .ref es, .int sz0, .int sy, .int dn])), (ek, .inl (aC 0, 8, .inl k2)), (ef, .inl (aC 0, 8, .inl f2)), (ew, .inl (aC 0, 8, .inl w2)), (ep, .inl (aC 0, 8, .inl p2)), (es, .inl (aC 0, 5, .inl s2))] sz) := by
  refine Met.ofW (cc := cX4_copy) (maxL := 2) (ret := (none : Option FieldType)) (by decide) rfl ?_
  intro p e s m args below meth c s₁ B hml hv
  obtain ⟨rfl, hsz, hP, hK, hD0, hN, hZG, hTG⟩ := hv
  have hx := B.exec
  have hb := B.bytes
  have hr := B.returns
  have hts0 := atoms_spec (ws := (wW yX4_copy cX4_copy 2 (none : Option FieldType))) B.pre
  have hts : ∀ w9 ∈ lw_G, w9.before ([.ref h1, .ref h2] : List Value).toArray s = true := fun w9 h9 => hts0 w9 (List.mem_cons_of_mem _ h9)
  have hown : s.vm.findClass RX4 = some m.cls := findClass_of_methodNamed B.named
  have hlocks := B.notSynchronized
  subst hsz
  have hD := hD0.self (sz := s.heap.size)
  generalize hAe : va_A [(h1, .inr (4, [.ref dk, .ref df, .ref dw, .ref dp, .ref ds, .int sz1, .int sy1, .int dn1])), (dk, .inl (aC 0, 8, .inl k1)), (df, .inl (aC 0, 8, .inl f1)), (dw, .inl (aC 0, 8, .inl w1)), (dp, .inl (aC 0, 8, .inl p1)), (ds, .inl (aC 0, 5, .inl s1)), (h2, .inr (4, [.ref ek, .ref ef, .ref ew, .ref ep, .ref es, .int sz0, .int sy, .int dn])), (ek, .inl (aC 0, 8, .inl k2)), (ef, .inl (aC 0, 8, .inl f2)), (ew, .inl (aC 0, 8, .inl w2)), (ep, .inl (aC 0, 8, .inl p2)), (es, .inl (aC 0, 5, .inl s2))] s.heap.size = A at hZG hTG hD ⊢
  have hA : ∀ q : Nat, s.heap.size ≤ q → A q := fun q h => by rw [← hAe]; exact Or.inr h
  obtain ⟨H, hHe⟩ : ∃ H : Heap, H = s.heap := ⟨_, rfl⟩
  have hS : va_S A s.heap H [] := by rw [hHe]; exact va_S.rf
  have hP : va_P (dC, dI) classes [(h1, .inr (4, [.ref dk, .ref df, .ref dw, .ref dp, .ref ds, .int sz1, .int sy1, .int dn1])), (dk, .inl (aC 0, 8, .inl k1)), (df, .inl (aC 0, 8, .inl f1)), (dw, .inl (aC 0, 8, .inl w1)), (dp, .inl (aC 0, 8, .inl p1)), (ds, .inl (aC 0, 5, .inl s1)), (h2, .inr (4, [.ref ek, .ref ef, .ref ew, .ref ep, .ref es, .int sz0, .int sy, .int dn])), (ek, .inl (aC 0, 8, .inl k2)), (ef, .inl (aC 0, 8, .inl f2)), (ew, .inl (aC 0, 8, .inl w2)), (ep, .inl (aC 0, 8, .inl p2)), (es, .inl (aC 0, 5, .inl s2))] H := by rw [hHe]; exact hP
  have hl := lv_entry ([.ref h1, .ref h2]) (n := 2) (Nat.le_of_ble_eq_true rfl)
  rw [lg_entry_eq]
  generalize (lg_sl ([.ref h1, .ref h2]) ++ List.replicate (2 - (lg_sl ([.ref h1, .ref h2])).length) Slot.unset).toArray = ls at hl ⊢
  have hl : lv_has ls 2 [(0, .ref h1), (1, .ref h2)] := hl
  rw [← hHe]
  refine lv_aload_n hx hb dX4_copy_0 rfl (lv_at hl 1 rfl) ?_
  refine va_get (D := (dC, dI)) (ci := 4) (v := .ref ek) (C := RX4) (T := TX4) (N := 8) hx hb hts inX4 hown hK hP 6 rfl rfl 0 (by decide) (hts _ (gw kw_32 rfl)) (fun _ h9 => h9) rfl dX4_copy_1 ?_
  refine lv_iconst (v := 0) hx hb dX4_copy_4 (by decide) ?_
  refine lv_aload_n hx hb dX4_copy_5 rfl (lv_at hl 0 rfl) ?_
  refine va_get (D := (dC, dI)) (ci := 4) (v := .ref dk) (C := RX4) (T := TX4) (N := 8) hx hb hts inX4 hown hK hP 0 rfl rfl 0 (by decide) (hts _ (gw kw_32 rfl)) (fun _ h9 => h9) rfl dX4_copy_6 ?_
  refine lv_iconst (v := 0) hx hb dX4_copy_9 (by decide) ?_
  refine lv_bipush (v := 8) hx hb dX4_copy_10 (by decide) ?_
  refine va_copyi (ty := .int) hx hb (by rw [hml]; exact hl.1.symm) hown (hts _ (gw kw_599 rfl)) (hts _ (gw kw_486 rfl)) (hts _ (gw kw_485 rfl)) (hts _ (gw kw_16 rfl)) hK hP hD hS 7 1 0 0 rfl rfl rfl rfl rfl (by decide) (by decide) (by decide) (by decide) (by decide) (fun _ _ => rfl) (Nat.le_of_ble_eq_true rfl) (Nat.le_of_ble_eq_true rfl) dX4_copy_12 (fun H locs hP hD hS => ?_)
  obtain ⟨f_1, e_f_1⟩ : ∃ y : Nat → Int32, y = va_cpy k2 k1 (0 : Int32).toNatClampNeg (0 : Int32).toNatClampNeg (8 : Int32).toNatClampNeg := ⟨_, rfl⟩
  have hP : va_P (dC, dI) classes [(h1, .inr (4, [.ref dk, .ref df, .ref dw, .ref dp, .ref ds, .int sz1, .int sy1, .int dn1])), (dk, .inl (aC 0, 8, .inl f_1)), (df, .inl (aC 0, 8, .inl f1)), (dw, .inl (aC 0, 8, .inl w1)), (dp, .inl (aC 0, 8, .inl p1)), (ds, .inl (aC 0, 5, .inl s1)), (h2, .inr (4, [.ref ek, .ref ef, .ref ew, .ref ep, .ref es, .int sz0, .int sy, .int dn])), (ek, .inl (aC 0, 8, .inl k2)), (ef, .inl (aC 0, 8, .inl f2)), (ew, .inl (aC 0, 8, .inl w2)), (ep, .inl (aC 0, 8, .inl p2)), (es, .inl (aC 0, 5, .inl s2))] H := by rw [e_f_1]; exact hP
  have hD : va_D A [(h1, .inr (4, [.ref dk, .ref df, .ref dw, .ref dp, .ref ds, .int sz1, .int sy1, .int dn1])), (dk, .inl (aC 0, 8, .inl f_1)), (df, .inl (aC 0, 8, .inl f1)), (dw, .inl (aC 0, 8, .inl w1)), (dp, .inl (aC 0, 8, .inl p1)), (ds, .inl (aC 0, 5, .inl s1)), (h2, .inr (4, [.ref ek, .ref ef, .ref ew, .ref ep, .ref es, .int sz0, .int sy, .int dn])), (ek, .inl (aC 0, 8, .inl k2)), (ef, .inl (aC 0, 8, .inl f2)), (ew, .inl (aC 0, 8, .inl w2)), (ep, .inl (aC 0, 8, .inl p2)), (es, .inl (aC 0, 5, .inl s2))] := by rw [e_f_1]; exact hD
  refine lv_aload_n hx hb dX4_copy_15 rfl (lv_at hl 1 rfl) ?_
  refine va_get (D := (dC, dI)) (ci := 4) (v := .ref ef) (C := RX4) (T := TX4) (N := 8) hx hb hts inX4 hown hK hP 6 rfl rfl 1 (by decide) (hts _ (gw kw_35 rfl)) (fun _ h9 => h9) rfl dX4_copy_16 ?_
  refine lv_iconst (v := 0) hx hb dX4_copy_19 (by decide) ?_
  refine lv_aload_n hx hb dX4_copy_20 rfl (lv_at hl 0 rfl) ?_
  refine va_get (D := (dC, dI)) (ci := 4) (v := .ref df) (C := RX4) (T := TX4) (N := 8) hx hb hts inX4 hown hK hP 0 rfl rfl 1 (by decide) (hts _ (gw kw_35 rfl)) (fun _ h9 => h9) rfl dX4_copy_21 ?_
  refine lv_iconst (v := 0) hx hb dX4_copy_24 (by decide) ?_
  refine lv_bipush (v := 8) hx hb dX4_copy_25 (by decide) ?_
  refine va_copyi (ty := .int) hx hb (by rw [hml]; exact hl.1.symm) hown (hts _ (gw kw_599 rfl)) (hts _ (gw kw_486 rfl)) (hts _ (gw kw_485 rfl)) (hts _ (gw kw_16 rfl)) hK hP hD hS 8 2 0 0 rfl rfl rfl rfl rfl (by decide) (by decide) (by decide) (by decide) (by decide) (fun _ _ => rfl) (Nat.le_of_ble_eq_true rfl) (Nat.le_of_ble_eq_true rfl) dX4_copy_27 (fun H locs hP hD hS => ?_)
  obtain ⟨f_2, e_f_2⟩ : ∃ y : Nat → Int32, y = va_cpy f2 f1 (0 : Int32).toNatClampNeg (0 : Int32).toNatClampNeg (8 : Int32).toNatClampNeg := ⟨_, rfl⟩
  have hP : va_P (dC, dI) classes [(h1, .inr (4, [.ref dk, .ref df, .ref dw, .ref dp, .ref ds, .int sz1, .int sy1, .int dn1])), (dk, .inl (aC 0, 8, .inl f_1)), (df, .inl (aC 0, 8, .inl f_2)), (dw, .inl (aC 0, 8, .inl w1)), (dp, .inl (aC 0, 8, .inl p1)), (ds, .inl (aC 0, 5, .inl s1)), (h2, .inr (4, [.ref ek, .ref ef, .ref ew, .ref ep, .ref es, .int sz0, .int sy, .int dn])), (ek, .inl (aC 0, 8, .inl k2)), (ef, .inl (aC 0, 8, .inl f2)), (ew, .inl (aC 0, 8, .inl w2)), (ep, .inl (aC 0, 8, .inl p2)), (es, .inl (aC 0, 5, .inl s2))] H := by rw [e_f_2]; exact hP
  have hD : va_D A [(h1, .inr (4, [.ref dk, .ref df, .ref dw, .ref dp, .ref ds, .int sz1, .int sy1, .int dn1])), (dk, .inl (aC 0, 8, .inl f_1)), (df, .inl (aC 0, 8, .inl f_2)), (dw, .inl (aC 0, 8, .inl w1)), (dp, .inl (aC 0, 8, .inl p1)), (ds, .inl (aC 0, 5, .inl s1)), (h2, .inr (4, [.ref ek, .ref ef, .ref ew, .ref ep, .ref es, .int sz0, .int sy, .int dn])), (ek, .inl (aC 0, 8, .inl k2)), (ef, .inl (aC 0, 8, .inl f2)), (ew, .inl (aC 0, 8, .inl w2)), (ep, .inl (aC 0, 8, .inl p2)), (es, .inl (aC 0, 5, .inl s2))] := by rw [e_f_2]; exact hD
  refine lv_aload_n hx hb dX4_copy_30 rfl (lv_at hl 1 rfl) ?_
  refine va_get (D := (dC, dI)) (ci := 4) (v := .ref ew) (C := RX4) (T := TX4) (N := 8) hx hb hts inX4 hown hK hP 6 rfl rfl 2 (by decide) (hts _ (gw kw_38 rfl)) (fun _ h9 => h9) rfl dX4_copy_31 ?_
  refine lv_iconst (v := 0) hx hb dX4_copy_34 (by decide) ?_
  refine lv_aload_n hx hb dX4_copy_35 rfl (lv_at hl 0 rfl) ?_
  refine va_get (D := (dC, dI)) (ci := 4) (v := .ref dw) (C := RX4) (T := TX4) (N := 8) hx hb hts inX4 hown hK hP 0 rfl rfl 2 (by decide) (hts _ (gw kw_38 rfl)) (fun _ h9 => h9) rfl dX4_copy_36 ?_
  refine lv_iconst (v := 0) hx hb dX4_copy_39 (by decide) ?_
  refine lv_bipush (v := 8) hx hb dX4_copy_40 (by decide) ?_
  refine va_copyi (ty := .int) hx hb (by rw [hml]; exact hl.1.symm) hown (hts _ (gw kw_599 rfl)) (hts _ (gw kw_486 rfl)) (hts _ (gw kw_485 rfl)) (hts _ (gw kw_16 rfl)) hK hP hD hS 9 3 0 0 rfl rfl rfl rfl rfl (by decide) (by decide) (by decide) (by decide) (by decide) (fun _ _ => rfl) (Nat.le_of_ble_eq_true rfl) (Nat.le_of_ble_eq_true rfl) dX4_copy_42 (fun H locs hP hD hS => ?_)
  obtain ⟨f_3, e_f_3⟩ : ∃ y : Nat → Int32, y = va_cpy w2 w1 (0 : Int32).toNatClampNeg (0 : Int32).toNatClampNeg (8 : Int32).toNatClampNeg := ⟨_, rfl⟩
  have hP : va_P (dC, dI) classes [(h1, .inr (4, [.ref dk, .ref df, .ref dw, .ref dp, .ref ds, .int sz1, .int sy1, .int dn1])), (dk, .inl (aC 0, 8, .inl f_1)), (df, .inl (aC 0, 8, .inl f_2)), (dw, .inl (aC 0, 8, .inl f_3)), (dp, .inl (aC 0, 8, .inl p1)), (ds, .inl (aC 0, 5, .inl s1)), (h2, .inr (4, [.ref ek, .ref ef, .ref ew, .ref ep, .ref es, .int sz0, .int sy, .int dn])), (ek, .inl (aC 0, 8, .inl k2)), (ef, .inl (aC 0, 8, .inl f2)), (ew, .inl (aC 0, 8, .inl w2)), (ep, .inl (aC 0, 8, .inl p2)), (es, .inl (aC 0, 5, .inl s2))] H := by rw [e_f_3]; exact hP
  have hD : va_D A [(h1, .inr (4, [.ref dk, .ref df, .ref dw, .ref dp, .ref ds, .int sz1, .int sy1, .int dn1])), (dk, .inl (aC 0, 8, .inl f_1)), (df, .inl (aC 0, 8, .inl f_2)), (dw, .inl (aC 0, 8, .inl f_3)), (dp, .inl (aC 0, 8, .inl p1)), (ds, .inl (aC 0, 5, .inl s1)), (h2, .inr (4, [.ref ek, .ref ef, .ref ew, .ref ep, .ref es, .int sz0, .int sy, .int dn])), (ek, .inl (aC 0, 8, .inl k2)), (ef, .inl (aC 0, 8, .inl f2)), (ew, .inl (aC 0, 8, .inl w2)), (ep, .inl (aC 0, 8, .inl p2)), (es, .inl (aC 0, 5, .inl s2))] := by rw [e_f_3]; exact hD
  refine lv_aload_n hx hb dX4_copy_45 rfl (lv_at hl 1 rfl) ?_
  refine va_get (D := (dC, dI)) (ci := 4) (v := .ref ep) (C := RX4) (T := TX4) (N := 8) hx hb hts inX4 hown hK hP 6 rfl rfl 3 (by decide) (hts _ (gw kw_41 rfl)) (fun _ h9 => h9) rfl dX4_copy_46 ?_
  refine lv_iconst (v := 0) hx hb dX4_copy_49 (by decide) ?_
  refine lv_aload_n hx hb dX4_copy_50 rfl (lv_at hl 0 rfl) ?_
  refine va_get (D := (dC, dI)) (ci := 4) (v := .ref dp) (C := RX4) (T := TX4) (N := 8) hx hb hts inX4 hown hK hP 0 rfl rfl 3 (by decide) (hts _ (gw kw_41 rfl)) (fun _ h9 => h9) rfl dX4_copy_51 ?_
  refine lv_iconst (v := 0) hx hb dX4_copy_54 (by decide) ?_
  refine lv_bipush (v := 8) hx hb dX4_copy_55 (by decide) ?_
  refine va_copyi (ty := .int) hx hb (by rw [hml]; exact hl.1.symm) hown (hts _ (gw kw_599 rfl)) (hts _ (gw kw_486 rfl)) (hts _ (gw kw_485 rfl)) (hts _ (gw kw_16 rfl)) hK hP hD hS 10 4 0 0 rfl rfl rfl rfl rfl (by decide) (by decide) (by decide) (by decide) (by decide) (fun _ _ => rfl) (Nat.le_of_ble_eq_true rfl) (Nat.le_of_ble_eq_true rfl) dX4_copy_57 (fun H locs hP hD hS => ?_)
  obtain ⟨f_4, e_f_4⟩ : ∃ y : Nat → Int32, y = va_cpy p2 p1 (0 : Int32).toNatClampNeg (0 : Int32).toNatClampNeg (8 : Int32).toNatClampNeg := ⟨_, rfl⟩
  have hP : va_P (dC, dI) classes [(h1, .inr (4, [.ref dk, .ref df, .ref dw, .ref dp, .ref ds, .int sz1, .int sy1, .int dn1])), (dk, .inl (aC 0, 8, .inl f_1)), (df, .inl (aC 0, 8, .inl f_2)), (dw, .inl (aC 0, 8, .inl f_3)), (dp, .inl (aC 0, 8, .inl f_4)), (ds, .inl (aC 0, 5, .inl s1)), (h2, .inr (4, [.ref ek, .ref ef, .ref ew, .ref ep, .ref es, .int sz0, .int sy, .int dn])), (ek, .inl (aC 0, 8, .inl k2)), (ef, .inl (aC 0, 8, .inl f2)), (ew, .inl (aC 0, 8, .inl w2)), (ep, .inl (aC 0, 8, .inl p2)), (es, .inl (aC 0, 5, .inl s2))] H := by rw [e_f_4]; exact hP
  have hD : va_D A [(h1, .inr (4, [.ref dk, .ref df, .ref dw, .ref dp, .ref ds, .int sz1, .int sy1, .int dn1])), (dk, .inl (aC 0, 8, .inl f_1)), (df, .inl (aC 0, 8, .inl f_2)), (dw, .inl (aC 0, 8, .inl f_3)), (dp, .inl (aC 0, 8, .inl f_4)), (ds, .inl (aC 0, 5, .inl s1)), (h2, .inr (4, [.ref ek, .ref ef, .ref ew, .ref ep, .ref es, .int sz0, .int sy, .int dn])), (ek, .inl (aC 0, 8, .inl k2)), (ef, .inl (aC 0, 8, .inl f2)), (ew, .inl (aC 0, 8, .inl w2)), (ep, .inl (aC 0, 8, .inl p2)), (es, .inl (aC 0, 5, .inl s2))] := by rw [e_f_4]; exact hD
  refine lv_aload_n hx hb dX4_copy_60 rfl (lv_at hl 1 rfl) ?_
  refine va_get (D := (dC, dI)) (ci := 4) (v := .ref es) (C := RX4) (T := TX4) (N := 8) hx hb hts inX4 hown hK hP 6 rfl rfl 4 (by decide) (hts _ (gw kw_43 rfl)) (fun _ h9 => h9) rfl dX4_copy_61 ?_
  refine lv_iconst (v := 0) hx hb dX4_copy_64 (by decide) ?_
  refine lv_aload_n hx hb dX4_copy_65 rfl (lv_at hl 0 rfl) ?_
  refine va_get (D := (dC, dI)) (ci := 4) (v := .ref ds) (C := RX4) (T := TX4) (N := 8) hx hb hts inX4 hown hK hP 0 rfl rfl 4 (by decide) (hts _ (gw kw_43 rfl)) (fun _ h9 => h9) rfl dX4_copy_66 ?_
  refine lv_iconst (v := 0) hx hb dX4_copy_69 (by decide) ?_
  refine va_getsN (v := .ref tG) hx hb hZG hS hown (va_Nw.use rfl (hN.1 _ kw_600 rfl)) (fun _ h9 => h9) dX4_copy_70 ?_
  refine va_tlen (v := 5) hx hb hTG hS (by decide) dX4_copy_73 ?_
  refine va_copyi (ty := .int) hx hb (by rw [hml]; exact hl.1.symm) hown (hts _ (gw kw_599 rfl)) (hts _ (gw kw_486 rfl)) (hts _ (gw kw_485 rfl)) (hts _ (gw kw_16 rfl)) hK hP hD hS 11 5 0 0 rfl rfl rfl rfl rfl (by decide) (by decide) (by decide) (by decide) (by decide) (fun _ _ => rfl) (Nat.le_of_ble_eq_true rfl) (Nat.le_of_ble_eq_true rfl) dX4_copy_74 (fun H locs hP hD hS => ?_)
  obtain ⟨f_5, e_f_5⟩ : ∃ y : Nat → Int32, y = va_cpy s2 s1 (0 : Int32).toNatClampNeg (0 : Int32).toNatClampNeg (5 : Int32).toNatClampNeg := ⟨_, rfl⟩
  have hP : va_P (dC, dI) classes [(h1, .inr (4, [.ref dk, .ref df, .ref dw, .ref dp, .ref ds, .int sz1, .int sy1, .int dn1])), (dk, .inl (aC 0, 8, .inl f_1)), (df, .inl (aC 0, 8, .inl f_2)), (dw, .inl (aC 0, 8, .inl f_3)), (dp, .inl (aC 0, 8, .inl f_4)), (ds, .inl (aC 0, 5, .inl f_5)), (h2, .inr (4, [.ref ek, .ref ef, .ref ew, .ref ep, .ref es, .int sz0, .int sy, .int dn])), (ek, .inl (aC 0, 8, .inl k2)), (ef, .inl (aC 0, 8, .inl f2)), (ew, .inl (aC 0, 8, .inl w2)), (ep, .inl (aC 0, 8, .inl p2)), (es, .inl (aC 0, 5, .inl s2))] H := by rw [e_f_5]; exact hP
  have hD : va_D A [(h1, .inr (4, [.ref dk, .ref df, .ref dw, .ref dp, .ref ds, .int sz1, .int sy1, .int dn1])), (dk, .inl (aC 0, 8, .inl f_1)), (df, .inl (aC 0, 8, .inl f_2)), (dw, .inl (aC 0, 8, .inl f_3)), (dp, .inl (aC 0, 8, .inl f_4)), (ds, .inl (aC 0, 5, .inl f_5)), (h2, .inr (4, [.ref ek, .ref ef, .ref ew, .ref ep, .ref es, .int sz0, .int sy, .int dn])), (ek, .inl (aC 0, 8, .inl k2)), (ef, .inl (aC 0, 8, .inl f2)), (ew, .inl (aC 0, 8, .inl w2)), (ep, .inl (aC 0, 8, .inl p2)), (es, .inl (aC 0, 5, .inl s2))] := by rw [e_f_5]; exact hD
  refine lv_aload_n hx hb dX4_copy_77 rfl (lv_at hl 0 rfl) ?_
  refine lv_aload_n hx hb dX4_copy_78 rfl (lv_at hl 1 rfl) ?_
  refine va_get (D := (dC, dI)) (ci := 4) (v := .int sz0) (C := RX4) (T := TX4) (N := 8) hx hb hts inX4 hown hK hP 6 rfl rfl 5 (by decide) (hts _ (gw kw_48 rfl)) (fun _ h9 => h9) rfl dX4_copy_79 ?_
  refine va_put (D := (dC, dI)) (ci := 4) (v := .int sz0) (ty := .int) (C := RX4) (T := TX4) (N := 8) hx hb hts inX4 tyX4 tyX4_ok nmX4 hown hK hP hD hS 0 rfl rfl 5 (by decide) (hts _ (gw kw_48 rfl)) (fun _ h9 => h9) rfl (by decide +kernel) rfl rfl (Nat.le_of_ble_eq_true rfl) dX4_copy_82 (fun H locs hP hD hS => ?_)
  have hP : va_P (dC, dI) classes [(h1, .inr (4, [.ref dk, .ref df, .ref dw, .ref dp, .ref ds, .int sz0, .int sy1, .int dn1])), (dk, .inl (aC 0, 8, .inl f_1)), (df, .inl (aC 0, 8, .inl f_2)), (dw, .inl (aC 0, 8, .inl f_3)), (dp, .inl (aC 0, 8, .inl f_4)), (ds, .inl (aC 0, 5, .inl f_5)), (h2, .inr (4, [.ref ek, .ref ef, .ref ew, .ref ep, .ref es, .int sz0, .int sy, .int dn])), (ek, .inl (aC 0, 8, .inl k2)), (ef, .inl (aC 0, 8, .inl f2)), (ew, .inl (aC 0, 8, .inl w2)), (ep, .inl (aC 0, 8, .inl p2)), (es, .inl (aC 0, 5, .inl s2))] H := hP
  have hD : va_D A [(h1, .inr (4, [.ref dk, .ref df, .ref dw, .ref dp, .ref ds, .int sz0, .int sy1, .int dn1])), (dk, .inl (aC 0, 8, .inl f_1)), (df, .inl (aC 0, 8, .inl f_2)), (dw, .inl (aC 0, 8, .inl f_3)), (dp, .inl (aC 0, 8, .inl f_4)), (ds, .inl (aC 0, 5, .inl f_5)), (h2, .inr (4, [.ref ek, .ref ef, .ref ew, .ref ep, .ref es, .int sz0, .int sy, .int dn])), (ek, .inl (aC 0, 8, .inl k2)), (ef, .inl (aC 0, 8, .inl f2)), (ew, .inl (aC 0, 8, .inl w2)), (ep, .inl (aC 0, 8, .inl p2)), (es, .inl (aC 0, 5, .inl s2))] := hD
  refine lv_aload_n hx hb dX4_copy_85 rfl (lv_at hl 0 rfl) ?_
  refine lv_aload_n hx hb dX4_copy_86 rfl (lv_at hl 1 rfl) ?_
  refine va_get (D := (dC, dI)) (ci := 4) (v := .int sy) (C := RX4) (T := TX4) (N := 8) hx hb hts inX4 hown hK hP 6 rfl rfl 6 (by decide) (hts _ (gw kw_51 rfl)) (fun _ h9 => h9) rfl dX4_copy_87 ?_
  refine va_put (D := (dC, dI)) (ci := 4) (v := .int sy) (ty := .int) (C := RX4) (T := TX4) (N := 8) hx hb hts inX4 tyX4 tyX4_ok nmX4 hown hK hP hD hS 0 rfl rfl 6 (by decide) (hts _ (gw kw_51 rfl)) (fun _ h9 => h9) rfl (by decide +kernel) rfl rfl (Nat.le_of_ble_eq_true rfl) dX4_copy_90 (fun H locs hP hD hS => ?_)
  have hP : va_P (dC, dI) classes [(h1, .inr (4, [.ref dk, .ref df, .ref dw, .ref dp, .ref ds, .int sz0, .int sy, .int dn1])), (dk, .inl (aC 0, 8, .inl f_1)), (df, .inl (aC 0, 8, .inl f_2)), (dw, .inl (aC 0, 8, .inl f_3)), (dp, .inl (aC 0, 8, .inl f_4)), (ds, .inl (aC 0, 5, .inl f_5)), (h2, .inr (4, [.ref ek, .ref ef, .ref ew, .ref ep, .ref es, .int sz0, .int sy, .int dn])), (ek, .inl (aC 0, 8, .inl k2)), (ef, .inl (aC 0, 8, .inl f2)), (ew, .inl (aC 0, 8, .inl w2)), (ep, .inl (aC 0, 8, .inl p2)), (es, .inl (aC 0, 5, .inl s2))] H := hP
  have hD : va_D A [(h1, .inr (4, [.ref dk, .ref df, .ref dw, .ref dp, .ref ds, .int sz0, .int sy, .int dn1])), (dk, .inl (aC 0, 8, .inl f_1)), (df, .inl (aC 0, 8, .inl f_2)), (dw, .inl (aC 0, 8, .inl f_3)), (dp, .inl (aC 0, 8, .inl f_4)), (ds, .inl (aC 0, 5, .inl f_5)), (h2, .inr (4, [.ref ek, .ref ef, .ref ew, .ref ep, .ref es, .int sz0, .int sy, .int dn])), (ek, .inl (aC 0, 8, .inl k2)), (ef, .inl (aC 0, 8, .inl f2)), (ew, .inl (aC 0, 8, .inl w2)), (ep, .inl (aC 0, 8, .inl p2)), (es, .inl (aC 0, 5, .inl s2))] := hD
  refine lv_aload_n hx hb dX4_copy_93 rfl (lv_at hl 0 rfl) ?_
  refine lv_aload_n hx hb dX4_copy_94 rfl (lv_at hl 1 rfl) ?_
  refine va_get (D := (dC, dI)) (ci := 4) (v := .int dn) (C := RX4) (T := TX4) (N := 8) hx hb hts inX4 hown hK hP 6 rfl rfl 7 (by decide) (hts _ (gw kw_53 rfl)) (fun _ h9 => h9) rfl dX4_copy_95 ?_
  refine va_put (D := (dC, dI)) (ci := 4) (v := .int dn) (ty := .boolean) (C := RX4) (T := TX4) (N := 8) hx hb hts inX4 tyX4 tyX4_ok nmX4 hown hK hP hD hS 0 rfl rfl 7 (by decide) (hts _ (gw kw_53 rfl)) (fun _ h9 => h9) rfl (by decide +kernel) (by rcases hdn with h9 | h9 <;> rw [h9] <;> rfl) (by rcases hdn with h9 | h9 <;> rw [h9] <;> rfl) (Nat.le_of_ble_eq_true rfl) dX4_copy_98 (fun H locs hP hD hS => ?_)
  have hP : va_P (dC, dI) classes [(h1, .inr (4, [.ref dk, .ref df, .ref dw, .ref dp, .ref ds, .int sz0, .int sy, .int dn])), (dk, .inl (aC 0, 8, .inl f_1)), (df, .inl (aC 0, 8, .inl f_2)), (dw, .inl (aC 0, 8, .inl f_3)), (dp, .inl (aC 0, 8, .inl f_4)), (ds, .inl (aC 0, 5, .inl f_5)), (h2, .inr (4, [.ref ek, .ref ef, .ref ew, .ref ep, .ref es, .int sz0, .int sy, .int dn])), (ek, .inl (aC 0, 8, .inl k2)), (ef, .inl (aC 0, 8, .inl f2)), (ew, .inl (aC 0, 8, .inl w2)), (ep, .inl (aC 0, 8, .inl p2)), (es, .inl (aC 0, 5, .inl s2))] H := hP
  have hD : va_D A [(h1, .inr (4, [.ref dk, .ref df, .ref dw, .ref dp, .ref ds, .int sz0, .int sy, .int dn])), (dk, .inl (aC 0, 8, .inl f_1)), (df, .inl (aC 0, 8, .inl f_2)), (dw, .inl (aC 0, 8, .inl f_3)), (dp, .inl (aC 0, 8, .inl f_4)), (ds, .inl (aC 0, 5, .inl f_5)), (h2, .inr (4, [.ref ek, .ref ef, .ref ew, .ref ep, .ref es, .int sz0, .int sy, .int dn])), (ek, .inl (aC 0, 8, .inl k2)), (ef, .inl (aC 0, 8, .inl f2)), (ew, .inl (aC 0, 8, .inl w2)), (ep, .inl (aC 0, 8, .inl p2)), (es, .inl (aC 0, 5, .inl s2))] := hD
  have hP9 := hP.sub (ws' := [(h1, .inr (4, [.ref dk, .ref df, .ref dw, .ref dp, .ref ds, .int sz0, .int sy, .int dn])), (dk, .inl (aC 0, 8, .inl f_1)), (df, .inl (aC 0, 8, .inl f_2)), (dw, .inl (aC 0, 8, .inl f_3)), (dp, .inl (aC 0, 8, .inl f_4)), (ds, .inl (aC 0, 5, .inl f_5)), (h2, .inr (4, [.ref ek, .ref ef, .ref ew, .ref ep, .ref es, .int sz0, .int sy, .int dn])), (ek, .inl (aC 0, 8, .inl k2)), (ef, .inl (aC 0, 8, .inl f2)), (ew, .inl (aC 0, 8, .inl w2)), (ep, .inl (aC 0, 8, .inl p2)), (es, .inl (aC 0, 5, .inl s2))]) [0, 1, 2, 3, 4, 5, 6, 7, 8, 9, 10, 11] rfl
  have hD9 := hD.sub (ws' := [(h1, .inr (4, [.ref dk, .ref df, .ref dw, .ref dp, .ref ds, .int sz0, .int sy, .int dn])), (dk, .inl (aC 0, 8, .inl f_1)), (df, .inl (aC 0, 8, .inl f_2)), (dw, .inl (aC 0, 8, .inl f_3)), (dp, .inl (aC 0, 8, .inl f_4)), (ds, .inl (aC 0, 5, .inl f_5)), (h2, .inr (4, [.ref ek, .ref ef, .ref ew, .ref ep, .ref es, .int sz0, .int sy, .int dn])), (ek, .inl (aC 0, 8, .inl k2)), (ef, .inl (aC 0, 8, .inl f2)), (ew, .inl (aC 0, 8, .inl w2)), (ep, .inl (aC 0, 8, .inl p2)), (es, .inl (aC 0, 5, .inl s2))]) [0, 1, 2, 3, 4, 5, 6, 7, 8, 9, 10, 11] (by decide) rfl
  refine W.widen (k := 0) (n := 0) (by omega) (by omega) ?_
  exact W.vret hx hb hr (fun t ht hW => ⟨⟨(f_1, f_2, f_3, f_4, f_5), rfl, ⟨e_f_1, e_f_2, e_f_3, e_f_4, e_f_5⟩, by rw [ht]; exact hP9, va_K.moved hW.alike hK, hD9⟩, hS.F ht⟩) hS.2.2 dX4_copy_101

set_option maxHeartbeats 4000000 in
set_option maxRecDepth 100000 in
/-- X11_image_0 -/
theorem c_X11_image_0 (l : Launch) (dC : Nat → ClassId) (dI : Nat → Nat → Nat) (aC : Nat → ClassId) (sz : Nat) (h0 : Nat) (xp : Nat) (xtp : Nat) (xn : Nat) (xt : Nat) (xk : Nat) (xl : Nat) (xc : Nat) (xo : Nat) (xto : Nat) (xr : Nat) (xch : Nat) (ts : Int32) (ik : Int32) (st : Int32) (ek : Nat) (ef : Nat) (ew : Nat) (ep : Nat) (es : Nat) (dk : Nat) (df : Nat) (dw : Nat) (dp : Nat) (ds : Nat) (sz0 : Int32) (sy : Int32) (dn : Int32) (sz1 : Int32) (sy1 : Int32) (dn1 : Int32) (k1 : Nat → Int32) (f1 : Nat → Int32) (w1 : Nat → Int32) (p1 : Nat → Int32) (s1 : Nat → Int32) (k2 : Nat → Int32) (f2 : Nat → Int32) (w2 : Nat → Int32) (p2 : Nat → Int32) (s2 : Nat → Int32) (tG : Nat) (hdn : dn = 0 ∨ dn = 1) : Met l yX11_image (wW yX11_image cX11_image 1 (some .int)) ({ frames := 2, cells := 0, slots := 0, locals := 61 } : Room) (va_Pc [.ref h0] (fun U => U.heap.size = sz ∧ va_P (dC, dI) classes [(h0, .inr (11, [.ref xp, .ref xtp, .ref xn, .ref xt, .ref xk, .ref xl, .ref xc, .ref xo, .ref xto, .ref xr, .ref xch, .int ts, .int ik, .int st])), (xk, .inr (4, [.ref dk, .ref df, .ref dw, .ref dp, .ref ds, .int sz1, .int sy1, .int dn1])), (dk, .inl (aC 0, 8, .inl k1)), (df, .inl (aC 0, 8, .inl f1)), (dw, .inl (aC 0, 8, .inl w1)), (dp, .inl (aC 0, 8, .inl p1)), (ds, .inl (aC 0, 5, .inl s1)), (xn, .inr (4, [.ref ek, .ref ef, .ref ew, .ref ep, .ref es, .int sz0, .int sy, .int dn])), (ek, .inl (aC 0, 8, .inl k2)), (ef, .inl (aC 0, 8, .inl f2)), (ew, .inl (aC 0, 8, .inl w2)), (ep, .inl (aC 0, 8, .inl p2)), (es, .inl (aC 0, 5, .inl s2))] U.heap ∧ va_K (dC, dI) classes (TY aC) U ∧ va_D (fun _ => True) [(h0, .inr (11, [.ref xp, .ref xtp, .ref xn, .ref xt, .ref xk, .ref xl, .ref xc, .ref xo, .ref xto, .ref xr, .ref xch, .int ts, .int ik, .int st])), (xk, .inr (4, [.ref dk, .ref df, .ref dw, .ref dp, .ref ds, .int sz1, .int sy1, .int dn1])), (dk, .inl (aC 0, 8, .inl k1)), (df, .inl (aC 0, 8, .inl f1)), (dw, .inl (aC 0, 8, .inl w1)), (dp, .inl (aC 0, 8, .inl p1)), (ds, .inl (aC 0, 5, .inl s1)), (xn, .inr (4, [.ref ek, .ref ef, .ref ew, .ref ep, .ref es, .int sz0, .int sy, .int dn])), (ek, .inl (aC 0, 8, .inl k2)), (ef, .inl (aC 0, 8, .inl f2)), (ew, .inl (aC 0, 8, .inl w2)), (ep, .inl (aC 0, 8, .inl p2)), (es, .inl (aC 0, 5, .inl s2))] ∧ NX U ∧ va_Z "EldestSays" "GREATEST" "[I" (.ref tG) (va_A [(h0, .inr (11, [.ref xp, .ref xtp, .ref xn, .ref xt, .ref xk, .ref xl, .ref xc, .ref xo, .ref xto, .ref xr, .ref xch, .int ts, .int ik, .int st])), (xk, .inr (4, [.ref dk, .ref df, .ref dw, .ref dp, .ref ds, .int sz1, .int sy1, .int dn1])), (dk, .inl (aC 0, 8, .inl k1)), (df, .inl (aC 0, 8, .inl f1)), (dw, .inl (aC 0, 8, .inl w1)), (dp, .inl (aC 0, 8, .inl p1)), (ds, .inl (aC 0, 5, .inl s1)), (xn, .inr (4, [.ref ek, .ref ef, .ref ew, .ref ep, .ref es, .int sz0, .int sy, .int dn])), (ek, .inl (aC 0, 8, .inl k2)), (ef, .inl (aC 0, 8, .inl f2)), (ew, .inl (aC 0, 8, .inl w2)), (ep, .inl (aC 0, 8, .inl p2)), (es, .inl (aC 0, 5, .inl s2))] sz) U U.heap ∧ va_T .int tG 5 (fun j => .int (GV j)) (va_A [(h0, .inr (11, [.ref xp, .ref xtp, .ref xn, .ref xt, .ref xk, .ref xl, .ref xc, .ref xo, .ref xto, .ref xr, .ref xch, .int ts, .int ik, .int st])), (xk, .inr (4, [.ref dk, .ref df, .ref dw, .ref dp, .ref ds, .int sz1, .int sy1, .int dn1])), (dk, .inl (aC 0, 8, .inl k1)), (df, .inl (aC 0, 8, .inl f1)), (dw, .inl (aC 0, 8, .inl w1)), (dp, .inl (aC 0, 8, .inl p1)), (ds, .inl (aC 0, 5, .inl s1)), (xn, .inr (4, [.ref ek, .ref ef, .ref ew, .ref ep, .ref es, .int sz0, .int sy, .int dn])), (ek, .inl (aC 0, 8, .inl k2)), (ef, .inl (aC 0, 8, .inl f2)), (ew, .inl (aC 0, 8, .inl w2)), (ep, .inl (aC 0, 8, .inl p2)), (es, .inl (aC 0, 5, .inl s2))] sz) U U.heap)) (va_Qi (fun (r : Int32) (_ : Unit) => r = sz0) (fun (_ : Unit) (t : State) => va_P (dC, dI) classes [] t.heap ∧ va_K (dC, dI) classes (TY aC) t ∧ va_D (va_A [(h0, .inr (11, [.ref xp, .ref xtp, .ref xn, .ref xt, .ref xk, .ref xl, .ref xc, .ref xo, .ref xto, .ref xr, .ref xch, .int ts, .int ik, .int st])), (xk, .inr (4, [.ref dk, .ref df, .ref dw, .ref dp, .ref ds, .int sz1, .int sy1, .int dn1])), (dk, .inl (aC 0, 8, .inl k1)), (df, .inl (aC 0, 8, .inl f1)), (dw, .inl (aC 0, 8, .inl w1)), (dp, .inl (aC 0, 8, .inl p1)), (ds, .inl (aC 0, 5, .inl s1)), (xn, .inr (4, [.ref ek, .ref ef, .ref ew, .ref ep, .ref es, .int sz0, .int sy, .int dn])), (ek, .inl (aC 0, 8, .inl k2)), (ef, .inl (aC 0, 8, .inl f2)), (ew, .inl (aC 0, 8, .inl w2)), (ep, .inl (aC 0, 8, .inl p2)), (es, .inl (aC 0, 5, .inl s2))] sz) []) (va_A [(h0, .inr (11, [.ref xp, .ref xtp, .ref xn, .ref xt, .ref xk, .ref xl, .ref xc, .ref xo, .ref xto, .ref xr, .ref xch, .int ts, .int ik, .int st])), (xk, .inr (4, [.ref dk, .ref df, .ref dw, .ref dp, .ref ds, .int sz1, .int sy1, .int dn1])), (dk, .inl (aC 0, 8, .inl k1)), (df, .inl (aC 0, 8, .inl f1)), (dw, .inl (aC 0, 8, .inl w1)), (dp, .inl (aC 0, 8, .inl p1)), (ds, .inl (aC 0, 5, .inl s1)), (xn, .inr (4, [.ref ek, .ref ef, .ref ew, .ref ep, .ref es, .int sz0, .int sy, .int dn])), (ek, .inl (aC 0, 8, .inl k2)), (ef, .inl (aC 0, 8, .inl f2)), (ew, .inl (aC 0, 8, .inl w2)), (ep, .inl (aC 0, 8, .inl p2)), (es, .inl (aC 0, 5, .inl s2))] sz)) 0 0 (va_A [(h0, .inr (11, [.ref xp, .ref xtp, .ref xn, .ref xt, .ref xk, .ref xl, .ref xc, .ref xo, .ref xto, .ref xr, .ref xch, .int ts, .int ik, .int st])), (xk, .inr (4, [.ref dk, .ref df, .ref dw, .ref dp, .ref ds, .int sz1, .int sy1, .int dn1])), (dk, .inl (aC 0, 8, .inl k1)), (df, .inl (aC 0, 8, .inl f1)), (dw, .inl (aC 0, 8, .inl w1)), (dp, .inl (aC 0, 8, .inl p1)), (ds, .inl (aC 0, 5, .inl s1)), (xn, .inr (4, [.ref ek, .ref ef, .ref ew, .ref ep, .ref es, .int sz0, .int sy, .int dn])), (ek, .inl (aC 0, 8, .inl k2)), (ef, .inl (aC 0, 8, .inl f2)), (ew, .inl (aC 0, 8, .inl w2)), (ep, .inl (aC 0, 8, .inl p2)), (es, .inl (aC 0, 5, .inl s2))] sz) := by
  refine Met.ofW (cc := cX11_image) (maxL := 1) (ret := (some .int)) (by decide) rfl ?_
  intro p e s m args below meth c s₁ B hml hv
  obtain ⟨rfl, hsz, hP, hK, hD0, hN, hZG, hTG⟩ := hv
  have hx := B.exec
  have hb := B.bytes
  have hr := B.returns
  have hts0 := atoms_spec (ws := (wW yX11_image cX11_image 1 (some .int))) B.pre
  have hts : ∀ w9 ∈ lw_G, w9.before ([.ref h0] : List Value).toArray s = true := fun w9 h9 => hts0 w9 (List.mem_cons_of_mem _ h9)
  have hown : s.vm.findClass RX11 = some m.cls := findClass_of_methodNamed B.named
  have hlocks := B.notSynchronized
  subst hsz
  have hD := hD0.self (sz := s.heap.size)
  generalize hAe : va_A [(h0, .inr (11, [.ref xp, .ref xtp, .ref xn, .ref xt, .ref xk, .ref xl, .ref xc, .ref xo, .ref xto, .ref xr, .ref xch, .int ts, .int ik, .int st])), (xk, .inr (4, [.ref dk, .ref df, .ref dw, .ref dp, .ref ds, .int sz1, .int sy1, .int dn1])), (dk, .inl (aC 0, 8, .inl k1)), (df, .inl (aC 0, 8, .inl f1)), (dw, .inl (aC 0, 8, .inl w1)), (dp, .inl (aC 0, 8, .inl p1)), (ds, .inl (aC 0, 5, .inl s1)), (xn, .inr (4, [.ref ek, .ref ef, .ref ew, .ref ep, .ref es, .int sz0, .int sy, .int dn])), (ek, .inl (aC 0, 8, .inl k2)), (ef, .inl (aC 0, 8, .inl f2)), (ew, .inl (aC 0, 8, .inl w2)), (ep, .inl (aC 0, 8, .inl p2)), (es, .inl (aC 0, 5, .inl s2))] s.heap.size = A at hZG hTG hD ⊢
  have hA : ∀ q : Nat, s.heap.size ≤ q → A q := fun q h => by rw [← hAe]; exact Or.inr h
  obtain ⟨H, hHe⟩ : ∃ H : Heap, H = s.heap := ⟨_, rfl⟩
  have hS : va_S A s.heap H [] := by rw [hHe]; exact va_S.rf
  have hP : va_P (dC, dI) classes [(h0, .inr (11, [.ref xp, .ref xtp, .ref xn, .ref xt, .ref xk, .ref xl, .ref xc, .ref xo, .ref xto, .ref xr, .ref xch, .int ts, .int ik, .int st])), (xk, .inr (4, [.ref dk, .ref df, .ref dw, .ref dp, .ref ds, .int sz1, .int sy1, .int dn1])), (dk, .inl (aC 0, 8, .inl k1)), (df, .inl (aC 0, 8, .inl f1)), (dw, .inl (aC 0, 8, .inl w1)), (dp, .inl (aC 0, 8, .inl p1)), (ds, .inl (aC 0, 5, .inl s1)), (xn, .inr (4, [.ref ek, .ref ef, .ref ew, .ref ep, .ref es, .int sz0, .int sy, .int dn])), (ek, .inl (aC 0, 8, .inl k2)), (ef, .inl (aC 0, 8, .inl f2)), (ew, .inl (aC 0, 8, .inl w2)), (ep, .inl (aC 0, 8, .inl p2)), (es, .inl (aC 0, 5, .inl s2))] H := by rw [hHe]; exact hP
  have hl := lv_entry ([.ref h0]) (n := 1) (Nat.le_of_ble_eq_true rfl)
  rw [lg_entry_eq]
  generalize (lg_sl ([.ref h0]) ++ List.replicate (1 - (lg_sl ([.ref h0])).length) Slot.unset).toArray = ls at hl ⊢
  have hl : lv_has ls 1 [(0, .ref h0)] := hl
  rw [← hHe]
  refine lv_aload_n hx hb dX11_image_0 rfl (lv_at hl 0 rfl) ?_
  refine va_get (D := (dC, dI)) (ci := 11) (v := .ref xk) (C := RX11) (T := TX11) (N := 14) hx hb hts inX11 hown hK hP 0 rfl rfl 4 (by decide) (hts _ (gw kw_230 rfl)) (fun _ h9 => h9) rfl dX11_image_1 ?_
  refine lv_aload_n hx hb dX11_image_4 rfl (lv_at hl 0 rfl) ?_
  refine va_get (D := (dC, dI)) (ci := 11) (v := .ref xn) (C := RX11) (T := TX11) (N := 14) hx hb hts inX11 hown hK hP 0 rfl rfl 2 (by decide) (hts _ (gw kw_228 rfl)) (fun _ h9 => h9) rfl dX11_image_5 ?_
  have hPc := hP.sub (ws' := [(xk, .inr (4, [.ref dk, .ref df, .ref dw, .ref dp, .ref ds, .int sz1, .int sy1, .int dn1])), (dk, .inl (aC 0, 8, .inl k1)), (df, .inl (aC 0, 8, .inl f1)), (dw, .inl (aC 0, 8, .inl w1)), (dp, .inl (aC 0, 8, .inl p1)), (ds, .inl (aC 0, 5, .inl s1)), (xn, .inr (4, [.ref ek, .ref ef, .ref ew, .ref ep, .ref es, .int sz0, .int sy, .int dn])), (ek, .inl (aC 0, 8, .inl k2)), (ef, .inl (aC 0, 8, .inl f2)), (ew, .inl (aC 0, 8, .inl w2)), (ep, .inl (aC 0, 8, .inl p2)), (es, .inl (aC 0, 5, .inl s2))]) [1, 2, 3, 4, 5, 6, 7, 8, 9, 10, 11, 12] rfl
  have hDc := hD.sub (ws' := [(xk, .inr (4, [.ref dk, .ref df, .ref dw, .ref dp, .ref ds, .int sz1, .int sy1, .int dn1])), (dk, .inl (aC 0, 8, .inl k1)), (df, .inl (aC 0, 8, .inl f1)), (dw, .inl (aC 0, 8, .inl w1)), (dp, .inl (aC 0, 8, .inl p1)), (ds, .inl (aC 0, 5, .inl s1)), (xn, .inr (4, [.ref ek, .ref ef, .ref ew, .ref ep, .ref es, .int sz0, .int sy, .int dn])), (ek, .inl (aC 0, 8, .inl k2)), (ef, .inl (aC 0, 8, .inl f2)), (ew, .inl (aC 0, 8, .inl w2)), (ep, .inl (aC 0, 8, .inl p2)), (es, .inl (aC 0, 5, .inl s2))]) [1, 2, 3, 4, 5, 6, 7, 8, 9, 10, 11, 12] (by decide) rfl
  have hFc := va_free (wc := [(xk, .inr (4, [.ref dk, .ref df, .ref dw, .ref dp, .ref ds, .int sz1, .int sy1, .int dn1])), (dk, .inl (aC 0, 8, .inl k1)), (df, .inl (aC 0, 8, .inl f1)), (dw, .inl (aC 0, 8, .inl w1)), (dp, .inl (aC 0, 8, .inl p1)), (ds, .inl (aC 0, 5, .inl s1)), (xn, .inr (4, [.ref ek, .ref ef, .ref ew, .ref ep, .ref es, .int sz0, .int sy, .int dn])), (ek, .inl (aC 0, 8, .inl k2)), (ef, .inl (aC 0, 8, .inl f2)), (ew, .inl (aC 0, 8, .inl w2)), (ep, .inl (aC 0, 8, .inl p2)), (es, .inl (aC 0, 5, .inl s2))]) hD hS hA [1, 2, 3, 4, 5, 6, 7, 8, 9, 10, 11, 12] rfl
  refine va_callv (va_runV (As := [.ref xn]) (rest := []) ⟨hx, hb, hml, hown, hts⟩ (c_X4_copy l dC dI aC H.size xk xn ek ef ew ep es dk df dw dp ds sz0 sy dn sz1 sy1 dn1 k1 f1 w1 p1 s1 k2 f2 w2 p2 s2 tG (by first | assumption | decide | omega)) ⟨(callB_of 1 hts (gG kw_598) rfl rfl rfl (hts _ (gw kw_2 rfl)) (hts _ (gw kw_595 rfl)) (by decide +kernel) ⟨Nat.le_of_ble_eq_true rfl, Nat.le_of_ble_eq_true rfl⟩), (hts _ (gw kw_596 rfl)), (hts _ (gw kw_597 rfl))⟩ ⟨fun a U g mk q => by obtain ⟨q0, q1, qP, qK, qD, qN, z0, z1⟩ := q; exact ⟨q0, q1, qP, va_K.moved (u := U) (U := U.calling g mk a) (Vm.Alike.refl U.vm) qK, qD, NX.same (u := U) (U := U.calling g mk a) rfl qN, va_Z.moved (u := U) (U := U.calling g mk a) (Vm.Alike.refl U.vm) z0, va_T.moved (u := U) (U := U.calling g mk a) (Vm.Alike.refl U.vm) z1⟩, va_recv hK hPc (ci := 4) (q0 := 0) rfl rfl, fun U hU hW => ⟨rfl, by rw [hU], by rw [hU]; exact hPc, va_K.moved hW.alike hK, hDc.weaken (fun _ _ _ _ => trivial), NX.warm hW hN, by rw [hU]; exact va_Z.moved hW.alike (va_Z.narrow (va_Z.kept hZG hS.2.1) hFc), by rw [hU]; exact va_T.moved hW.alike (va_T.narrow (va_T.kept hTG hS.2.1) hFc)⟩⟩ rfl rfl hl.1 rfl (lv_room (Nat.le_of_ble_eq_true rfl)) dX11_image_8 ⟨Nat.le_of_ble_eq_true rfl, Nat.le_of_ble_eq_true rfl⟩) hS (fun q _ h => hFc q h) hFc (fun u t H1 locs ht hvm hw_1 hB hz1 hk1 hS => ?_)
  obtain ⟨u_2, u_3, u_4, u_5, u_6⟩ := u
  obtain ⟨hP1, hK1, hD1⟩ := hB
  rw [ht] at hP1
  clear hK1
  try dsimp only at hw_1
  obtain ⟨hP, hD⟩ := va_join (wr := [(h0, .inr (11, [.ref xp, .ref xtp, .ref xn, .ref xt, .ref xk, .ref xl, .ref xc, .ref xo, .ref xto, .ref xr, .ref xch, .int ts, .int ik, .int st]))]) (w1 := [(xk, .inr (4, [.ref dk, .ref df, .ref dw, .ref dp, .ref ds, .int sz0, .int sy, .int dn])), (dk, .inl (aC 0, 8, .inl u_2)), (df, .inl (aC 0, 8, .inl u_3)), (dw, .inl (aC 0, 8, .inl u_4)), (dp, .inl (aC 0, 8, .inl u_5)), (ds, .inl (aC 0, 5, .inl u_6)), (xn, .inr (4, [.ref ek, .ref ef, .ref ew, .ref ep, .ref es, .int sz0, .int sy, .int dn])), (ek, .inl (aC 0, 8, .inl k2)), (ef, .inl (aC 0, 8, .inl f2)), (ew, .inl (aC 0, 8, .inl w2)), (ep, .inl (aC 0, 8, .inl p2)), (es, .inl (aC 0, 5, .inl s2))]) hP hD [1, 2, 3, 4, 5, 6, 7, 8, 9, 10, 11, 12] [0] rfl rfl (by decide) (by decide) hk1 hFc hP1 hD1
  generalize H1 = H at hP hS ⊢
  have hP : va_P (dC, dI) classes [(h0, .inr (11, [.ref xp, .ref xtp, .ref xn, .ref xt, .ref xk, .ref xl, .ref xc, .ref xo, .ref xto, .ref xr, .ref xch, .int ts, .int ik, .int st])), (xk, .inr (4, [.ref dk, .ref df, .ref dw, .ref dp, .ref ds, .int sz0, .int sy, .int dn])), (dk, .inl (aC 0, 8, .inl u_2)), (df, .inl (aC 0, 8, .inl u_3)), (dw, .inl (aC 0, 8, .inl u_4)), (dp, .inl (aC 0, 8, .inl u_5)), (ds, .inl (aC 0, 5, .inl u_6)), (xn, .inr (4, [.ref ek, .ref ef, .ref ew, .ref ep, .ref es, .int sz0, .int sy, .int dn])), (ek, .inl (aC 0, 8, .inl k2)), (ef, .inl (aC 0, 8, .inl f2)), (ew, .inl (aC 0, 8, .inl w2)), (ep, .inl (aC 0, 8, .inl p2)), (es, .inl (aC 0, 5, .inl s2))] H := hP
  have hD : va_D A [(h0, .inr (11, [.ref xp, .ref xtp, .ref xn, .ref xt, .ref xk, .ref xl, .ref xc, .ref xo, .ref xto, .ref xr, .ref xch, .int ts, .int ik, .int st])), (xk, .inr (4, [.ref dk, .ref df, .ref dw, .ref dp, .ref ds, .int sz0, .int sy, .int dn])), (dk, .inl (aC 0, 8, .inl u_2)), (df, .inl (aC 0, 8, .inl u_3)), (dw, .inl (aC 0, 8, .inl u_4)), (dp, .inl (aC 0, 8, .inl u_5)), (ds, .inl (aC 0, 5, .inl u_6)), (xn, .inr (4, [.ref ek, .ref ef, .ref ew, .ref ep, .ref es, .int sz0, .int sy, .int dn])), (ek, .inl (aC 0, 8, .inl k2)), (ef, .inl (aC 0, 8, .inl f2)), (ew, .inl (aC 0, 8, .inl w2)), (ep, .inl (aC 0, 8, .inl p2)), (es, .inl (aC 0, 5, .inl s2))] := hD
  clear hPc hDc hFc hz1 hk1 hP1 hD1 ht hvm
  refine lv_aload_n hx hb dX11_image_11 rfl (lv_at hl 0 rfl) ?_
  refine lv_iconst (v := 1) hx hb dX11_image_12 (by decide) ?_
  refine va_put (D := (dC, dI)) (ci := 11) (v := .int 1) (ty := .boolean) (C := RX11) (T := TX11) (N := 14) hx hb hts inX11 tyX11 tyX11_ok nmX11 hown hK hP hD hS 0 rfl rfl 12 (by decide) (hts _ (gw kw_238 rfl)) (fun _ h9 => h9) rfl (by decide +kernel) rfl rfl (Nat.le_of_ble_eq_true rfl) dX11_image_13 (fun H locs hP hD hS => ?_)
  have hP : va_P (dC, dI) classes [(h0, .inr (11, [.ref xp, .ref xtp, .ref xn, .ref xt, .ref xk, .ref xl, .ref xc, .ref xo, .ref xto, .ref xr, .ref xch, .int ts, .int 1, .int st])), (xk, .inr (4, [.ref dk, .ref df, .ref dw, .ref dp, .ref ds, .int sz0, .int sy, .int dn])), (dk, .inl (aC 0, 8, .inl u_2)), (df, .inl (aC 0, 8, .inl u_3)), (dw, .inl (aC 0, 8, .inl u_4)), (dp, .inl (aC 0, 8, .inl u_5)), (ds, .inl (aC 0, 5, .inl u_6)), (xn, .inr (4, [.ref ek, .ref ef, .ref ew, .ref ep, .ref es, .int sz0, .int sy, .int dn])), (ek, .inl (aC 0, 8, .inl k2)), (ef, .inl (aC 0, 8, .inl f2)), (ew, .inl (aC 0, 8, .inl w2)), (ep, .inl (aC 0, 8, .inl p2)), (es, .inl (aC 0, 5, .inl s2))] H := hP
  have hD : va_D A [(h0, .inr (11, [.ref xp, .ref xtp, .ref xn, .ref xt, .ref xk, .ref xl, .ref xc, .ref xo, .ref xto, .ref xr, .ref xch, .int ts, .int 1, .int st])), (xk, .inr (4, [.ref dk, .ref df, .ref dw, .ref dp, .ref ds, .int sz0, .int sy, .int dn])), (dk, .inl (aC 0, 8, .inl u_2)), (df, .inl (aC 0, 8, .inl u_3)), (dw, .inl (aC 0, 8, .inl u_4)), (dp, .inl (aC 0, 8, .inl u_5)), (ds, .inl (aC 0, 5, .inl u_6)), (xn, .inr (4, [.ref ek, .ref ef, .ref ew, .ref ep, .ref es, .int sz0, .int sy, .int dn])), (ek, .inl (aC 0, 8, .inl k2)), (ef, .inl (aC 0, 8, .inl f2)), (ew, .inl (aC 0, 8, .inl w2)), (ep, .inl (aC 0, 8, .inl p2)), (es, .inl (aC 0, 5, .inl s2))] := hD
  refine lv_aload_n hx hb dX11_image_16 rfl (lv_at hl 0 rfl) ?_
  refine va_get (D := (dC, dI)) (ci := 11) (v := .ref xn) (C := RX11) (T := TX11) (N := 14) hx hb hts inX11 hown hK hP 0 rfl rfl 2 (by decide) (hts _ (gw kw_228 rfl)) (fun _ h9 => h9) rfl dX11_image_17 ?_
  refine va_get (D := (dC, dI)) (ci := 4) (v := .int sz0) (C := RX4) (T := TX4) (N := 8) hx hb hts inX4 hown hK hP 7 rfl rfl 5 (by decide) (hts _ (gw kw_50 rfl)) (fun _ h9 => h9) rfl dX11_image_20 ?_
  have hP9 := hP.sub (ws' := []) [] rfl
  have hD9 := hD.sub (ws' := []) [] (by decide) rfl
  refine W.widen (k := 0) (n := 0) (by omega) (by omega) ?_
  exact W.iret (v := sz0) hx hb hr (fun t ht hW => ⟨⟨sz0, (), rfl, rfl, by rw [ht]; exact hP9, va_K.moved hW.alike hK, hD9⟩, hS.F ht⟩) hS.2.2 dX11_image_23

set_option maxHeartbeats 4000000 in
set_option maxRecDepth 100000 in
/-- X11_byLaw_r -/
theorem c_X11_byLaw_r (l : Launch) (dC : Nat → ClassId) (dI : Nat → Nat → Nat) (aC : Nat → ClassId) (sz : Nat) (h0 : Nat) (xp : Nat) (xtp : Nat) (xn : Nat) (xt : Nat) (xk : Nat) (xl : Nat) (xc : Nat) (xo : Nat) (xto : Nat) (xr : Nat) (xch : Nat) (ts : Int32) (ik : Int32) (st : Int32) (ek : Nat) (ef : Nat) (ew : Nat) (ep : Nat) (es : Nat) (sz0 : Int32) (sy : Int32) (dn : Int32) (rf : Nat → Int32) (a1 : Int32) (a2 : Int32) (i : Int32) (tG : Nat) (hno : i < 0 ∨ sz0 ≤ i) : Met l yX11_byLaw (wW yX11_byLaw cX11_byLaw 4 (some .int)) ({ frames := 1, cells := 0, slots := 0, locals := 21 } : Room) (va_Pc [.ref h0, .int a1, .int a2, .int i] (fun U => U.heap.size = sz ∧ va_P (dC, dI) classes [(h0, .inr (11, [.ref xp, .ref xtp, .ref xn, .ref xt, .ref xk, .ref xl, .ref xc, .ref xo, .ref xto, .ref xr, .ref xch, .int ts, .int ik, .int st])), (xn, .inr (4, [.ref ek, .ref ef, .ref ew, .ref ep, .ref es, .int sz0, .int sy, .int dn])), (xr, .inl (aC 0, 7, .inl rf))] U.heap ∧ va_K (dC, dI) classes (TY aC) U ∧ va_D (fun _ => True) [(h0, .inr (11, [.ref xp, .ref xtp, .ref xn, .ref xt, .ref xk, .ref xl, .ref xc, .ref xo, .ref xto, .ref xr, .ref xch, .int ts, .int ik, .int st])), (xn, .inr (4, [.ref ek, .ref ef, .ref ew, .ref ep, .ref es, .int sz0, .int sy, .int dn])), (xr, .inl (aC 0, 7, .inl rf))] ∧ NX U ∧ va_Z "EldestSays" "GREATEST" "[I" (.ref tG) (va_A [(h0, .inr (11, [.ref xp, .ref xtp, .ref xn, .ref xt, .ref xk, .ref xl, .ref xc, .ref xo, .ref xto, .ref xr, .ref xch, .int ts, .int ik, .int st])), (xn, .inr (4, [.ref ek, .ref ef, .ref ew, .ref ep, .ref es, .int sz0, .int sy, .int dn])), (xr, .inl (aC 0, 7, .inl rf))] sz) U U.heap ∧ va_T .int tG 5 (fun j => .int (GV j)) (va_A [(h0, .inr (11, [.ref xp, .ref xtp, .ref xn, .ref xt, .ref xk, .ref xl, .ref xc, .ref xo, .ref xto, .ref xr, .ref xch, .int ts, .int ik, .int st])), (xn, .inr (4, [.ref ek, .ref ef, .ref ew, .ref ep, .ref es, .int sz0, .int sy, .int dn])), (xr, .inl (aC 0, 7, .inl rf))] sz) U U.heap)) (va_Qi (fun (r : Int32) (_ : Unit) => r = if a1 < 0 ∨ 2 < a1 ∨ a2 < 0 ∨ 1 < a2 then 1000000002 else 1000000001) (fun (_ : Unit) (t : State) => va_P (dC, dI) classes [] t.heap ∧ va_K (dC, dI) classes (TY aC) t ∧ va_D (va_A [(h0, .inr (11, [.ref xp, .ref xtp, .ref xn, .ref xt, .ref xk, .ref xl, .ref xc, .ref xo, .ref xto, .ref xr, .ref xch, .int ts, .int ik, .int st])), (xn, .inr (4, [.ref ek, .ref ef, .ref ew, .ref ep, .ref es, .int sz0, .int sy, .int dn])), (xr, .inl (aC 0, 7, .inl rf))] sz) []) (va_A [(h0, .inr (11, [.ref xp, .ref xtp, .ref xn, .ref xt, .ref xk, .ref xl, .ref xc, .ref xo, .ref xto, .ref xr, .ref xch, .int ts, .int ik, .int st])), (xn, .inr (4, [.ref ek, .ref ef, .ref ew, .ref ep, .ref es, .int sz0, .int sy, .int dn])), (xr, .inl (aC 0, 7, .inl rf))] sz)) 0 0 (va_A [(h0, .inr (11, [.ref xp, .ref xtp, .ref xn, .ref xt, .ref xk, .ref xl, .ref xc, .ref xo, .ref xto, .ref xr, .ref xch, .int ts, .int ik, .int st])), (xn, .inr (4, [.ref ek, .ref ef, .ref ew, .ref ep, .ref es, .int sz0, .int sy, .int dn])), (xr, .inl (aC 0, 7, .inl rf))] sz) := by
  refine Met.ofW (cc := cX11_byLaw) (maxL := 4) (ret := (some .int)) (by decide) rfl ?_
  intro p e s m args below meth c s₁ B hml hv
  obtain ⟨rfl, hsz, hP, hK, hD0, hN, hZG, hTG⟩ := hv
  have hx := B.exec
  have hb := B.bytes
  have hr := B.returns
  have hts0 := atoms_spec (ws := (wW yX11_byLaw cX11_byLaw 4 (some .int))) B.pre
  have hts : ∀ w9 ∈ lw_G, w9.before ([.ref h0, .int a1, .int a2, .int i] : List Value).toArray s = true := fun w9 h9 => hts0 w9 (List.mem_cons_of_mem _ h9)
  have hown : s.vm.findClass RX11 = some m.cls := findClass_of_methodNamed B.named
  have hlocks := B.notSynchronized
  subst hsz
  have hD := hD0.self (sz := s.heap.size)
  generalize hAe : va_A [(h0, .inr (11, [.ref xp, .ref xtp, .ref xn, .ref xt, .ref xk, .ref xl, .ref xc, .ref xo, .ref xto, .ref xr, .ref xch, .int ts, .int ik, .int st])), (xn, .inr (4, [.ref ek, .ref ef, .ref ew, .ref ep, .ref es, .int sz0, .int sy, .int dn])), (xr, .inl (aC 0, 7, .inl rf))] s.heap.size = A at hZG hTG hD ⊢
  have hA : ∀ q : Nat, s.heap.size ≤ q → A q := fun q h => by rw [← hAe]; exact Or.inr h
  obtain ⟨H, hHe⟩ : ∃ H : Heap, H = s.heap := ⟨_, rfl⟩
  have hS : va_S A s.heap H [] := by rw [hHe]; exact va_S.rf
  have hP : va_P (dC, dI) classes [(h0, .inr (11, [.ref xp, .ref xtp, .ref xn, .ref xt, .ref xk, .ref xl, .ref xc, .ref xo, .ref xto, .ref xr, .ref xch, .int ts, .int ik, .int st])), (xn, .inr (4, [.ref ek, .ref ef, .ref ew, .ref ep, .ref es, .int sz0, .int sy, .int dn])), (xr, .inl (aC 0, 7, .inl rf))] H := by rw [hHe]; exact hP
  have hl := lv_entry ([.ref h0, .int a1, .int a2, .int i]) (n := 4) (Nat.le_of_ble_eq_true rfl)
  rw [lg_entry_eq]
  generalize (lg_sl ([.ref h0, .int a1, .int a2, .int i]) ++ List.replicate (4 - (lg_sl ([.ref h0, .int a1, .int a2, .int i])).length) Slot.unset).toArray = ls at hl ⊢
  have hl : lv_has ls 4 [(0, .ref h0), (1, .int a1), (2, .int a2), (3, .int i)] := hl
  rw [← hHe]
  refine lv_iload_n hx hb dX11_byLaw_0 rfl (lv_at hl 1 rfl) ?_
  refine lv_if_lt (tgt := 26) hx hb dX11_byLaw_1 (by decide) (fun c_1 => ?_) (fun c_1 => ?_)
  · refine lv_ldc hx hb hown (hts _ (gw kw_507 rfl)) dX11_byLaw_26 ?_
    refine lv_aload_n hx hb dX11_byLaw_28 rfl (lv_at hl 0 rfl) ?_
    refine lv_bipush (v := -2) hx hb dX11_byLaw_29 (by decide) ?_
    have hPc := hP.sub (ws' := [(h0, .inr (11, [.ref xp, .ref xtp, .ref xn, .ref xt, .ref xk, .ref xl, .ref xc, .ref xo, .ref xto, .ref xr, .ref xch, .int ts, .int ik, .int st])), (xr, .inl (aC 0, 7, .inl rf))]) [0, 2] rfl
    have hDc := hD.sub (ws' := [(h0, .inr (11, [.ref xp, .ref xtp, .ref xn, .ref xt, .ref xk, .ref xl, .ref xc, .ref xo, .ref xto, .ref xr, .ref xch, .int ts, .int ik, .int st])), (xr, .inl (aC 0, 7, .inl rf))]) [0, 2] (by decide) rfl
    have hFc := va_free (wc := [(h0, .inr (11, [.ref xp, .ref xtp, .ref xn, .ref xt, .ref xk, .ref xl, .ref xc, .ref xo, .ref xto, .ref xr, .ref xch, .int ts, .int ik, .int st])), (xr, .inl (aC 0, 7, .inl rf))]) hD hS hA [0, 2] rfl
    refine va_calli (va_runV (As := [.int (-2)]) (rest := [.int 1000000000]) ⟨hx, hb, hml, hown, hts⟩ (c_X11_refuse l dC dI aC H.size h0 xp xtp xn xt xk xl xc xo xto xr xch ts ik st (-2) 2 rf (by decide) (by decide) (by decide) (by unfold vp_in; decide)) ⟨(callB_of 1 hts (gG kw_276) rfl rfl rfl (hts _ (gw kw_1 rfl)) (hts _ (gw kw_273 rfl)) (by decide +kernel) ⟨Nat.le_of_ble_eq_true rfl, Nat.le_of_ble_eq_true rfl⟩), (hts _ (gw kw_275 rfl)), (hts _ (gw ks_0 rfl))⟩ ⟨fun a U g mk q => by obtain ⟨q0, q1, qP, qK, qD, qN⟩ := q; exact ⟨q0, q1, qP, va_K.moved (u := U) (U := U.calling g mk a) (Vm.Alike.refl U.vm) qK, qD, NX.same (u := U) (U := U.calling g mk a) rfl qN⟩, va_recv hK hPc (ci := 11) (q0 := 0) rfl rfl, fun U hU hW => ⟨rfl, by rw [hU], by rw [hU]; exact hPc, va_K.moved hW.alike hK, hDc.weaken (fun _ _ _ _ => trivial), NX.warm hW hN⟩⟩ rfl rfl hl.1 rfl (lv_room (Nat.le_of_ble_eq_true rfl)) dX11_byLaw_31 ⟨Nat.le_of_ble_eq_true rfl, Nat.le_of_ble_eq_true rfl⟩) hS (fun q _ h => hFc q h) hFc (fun x_2 u t H1 locs ht hvm hw_2 hB hz1 hk1 hS => ?_)
    obtain ⟨u_3, rfl⟩ : ∃ z, z = u := ⟨_, rfl⟩
    obtain ⟨hP1, hK1, hD1⟩ := hB
    rw [ht] at hP1
    clear hK1
    try dsimp only at hw_2
    obtain ⟨hP, hD⟩ := va_join (wr := [(xn, .inr (4, [.ref ek, .ref ef, .ref ew, .ref ep, .ref es, .int sz0, .int sy, .int dn]))]) (w1 := [(h0, .inr (11, [.ref xp, .ref xtp, .ref xn, .ref xt, .ref xk, .ref xl, .ref xc, .ref xo, .ref xto, .ref xr, .ref xch, .int ts, .int ik, .int st])), (xr, .inl (aC 0, 7, .inl u_3))]) hP hD [0, 2] [1] rfl rfl (by decide) (by decide) hk1 hFc hP1 hD1
    generalize H1 = H at hP hS ⊢
    have hP : va_P (dC, dI) classes [(xn, .inr (4, [.ref ek, .ref ef, .ref ew, .ref ep, .ref es, .int sz0, .int sy, .int dn])), (h0, .inr (11, [.ref xp, .ref xtp, .ref xn, .ref xt, .ref xk, .ref xl, .ref xc, .ref xo, .ref xto, .ref xr, .ref xch, .int ts, .int ik, .int st])), (xr, .inl (aC 0, 7, .inl u_3))] H := hP
    have hD : va_D A [(xn, .inr (4, [.ref ek, .ref ef, .ref ew, .ref ep, .ref es, .int sz0, .int sy, .int dn])), (h0, .inr (11, [.ref xp, .ref xtp, .ref xn, .ref xt, .ref xk, .ref xl, .ref xc, .ref xo, .ref xto, .ref xr, .ref xch, .int ts, .int ik, .int st])), (xr, .inl (aC 0, 7, .inl u_3))] := hD
    clear hPc hDc hFc hz1 hk1 hP1 hD1 ht hvm
    obtain ⟨hv9, hv8⟩ := hw_2
    refine lv_isub hx hb dX11_byLaw_34 ?_
    refine lv_topi (fun x_4 e_4 => ?_)
    have hP9 := hP.sub (ws' := []) [] rfl
    have hD9 := hD.sub (ws' := []) [] (by decide) rfl
    refine W.widen (k := 0) (n := 0) (by omega) (by omega) ?_
    exact W.iret (v := x_4) hx hb hr (fun t ht hW => ⟨⟨x_4, (), rfl, by subst e_4; rw [hv9]; simp_all [GV]; try omega, by rw [ht]; exact hP9, va_K.moved hW.alike hK, hD9⟩, hS.F ht⟩) hS.2.2 dX11_byLaw_35
  · refine lv_iload_n hx hb dX11_byLaw_4 rfl (lv_at hl 1 rfl) ?_
    refine va_gets (v := .ref tG) hx hb hZG hS hown (hts _ (gw kw_345 rfl)) (fun _ h9 => h9) dX11_byLaw_5 ?_
    refine lv_iconst (v := 1) hx hb dX11_byLaw_8 (by decide) ?_
    have h_5 : vp_in 1 5 := by first | assumption | (unfold vp_in; decide) | exact vp_in_nI (by omega) (by omega) | (subst_vars; first | (unfold vp_in; decide) | exact vp_in_nI (by omega) (by omega))
    refine va_ti hx hb hTG hS h_5 rfl dX11_byLaw_9 ?_
    refine lv_topi (fun x_6 e_6 => ?_)
    refine lv_icmp_gt (tgt := 26) hx hb dX11_byLaw_10 (by decide) (fun c_7 => ?_) (fun c_7 => ?_)
    · refine lv_ldc hx hb hown (hts _ (gw kw_507 rfl)) dX11_byLaw_26 ?_
      refine lv_aload_n hx hb dX11_byLaw_28 rfl (lv_at hl 0 rfl) ?_
      refine lv_bipush (v := -2) hx hb dX11_byLaw_29 (by decide) ?_
      have hPc := hP.sub (ws' := [(h0, .inr (11, [.ref xp, .ref xtp, .ref xn, .ref xt, .ref xk, .ref xl, .ref xc, .ref xo, .ref xto, .ref xr, .ref xch, .int ts, .int ik, .int st])), (xr, .inl (aC 0, 7, .inl rf))]) [0, 2] rfl
      have hDc := hD.sub (ws' := [(h0, .inr (11, [.ref xp, .ref xtp, .ref xn, .ref xt, .ref xk, .ref xl, .ref xc, .ref xo, .ref xto, .ref xr, .ref xch, .int ts, .int ik, .int st])), (xr, .inl (aC 0, 7, .inl rf))]) [0, 2] (by decide) rfl
      have hFc := va_free (wc := [(h0, .inr (11, [.ref xp, .ref xtp, .ref xn, .ref xt, .ref xk, .ref xl, .ref xc, .ref xo, .ref xto, .ref xr, .ref xch, .int ts, .int ik, .int st])), (xr, .inl (aC 0, 7, .inl rf))]) hD hS hA [0, 2] rfl
      refine va_calli (va_runV (As := [.int (-2)]) (rest := [.int 1000000000]) ⟨hx, hb, hml, hown, hts⟩ (c_X11_refuse l dC dI aC H.size h0 xp xtp xn xt xk xl xc xo xto xr xch ts ik st (-2) 2 rf (by decide) (by decide) (by decide) (by unfold vp_in; decide)) ⟨(callB_of 1 hts (gG kw_276) rfl rfl rfl (hts _ (gw kw_1 rfl)) (hts _ (gw kw_273 rfl)) (by decide +kernel) ⟨Nat.le_of_ble_eq_true rfl, Nat.le_of_ble_eq_true rfl⟩), (hts _ (gw kw_275 rfl)), (hts _ (gw ks_0 rfl))⟩ ⟨fun a U g mk q => by obtain ⟨q0, q1, qP, qK, qD, qN⟩ := q; exact ⟨q0, q1, qP, va_K.moved (u := U) (U := U.calling g mk a) (Vm.Alike.refl U.vm) qK, qD, NX.same (u := U) (U := U.calling g mk a) rfl qN⟩, va_recv hK hPc (ci := 11) (q0 := 0) rfl rfl, fun U hU hW => ⟨rfl, by rw [hU], by rw [hU]; exact hPc, va_K.moved hW.alike hK, hDc.weaken (fun _ _ _ _ => trivial), NX.warm hW hN⟩⟩ rfl rfl hl.1 rfl (lv_room (Nat.le_of_ble_eq_true rfl)) dX11_byLaw_31 ⟨Nat.le_of_ble_eq_true rfl, Nat.le_of_ble_eq_true rfl⟩) hS (fun q _ h => hFc q h) hFc (fun x_8 u t H1 locs ht hvm hw_8 hB hz1 hk1 hS => ?_)
      obtain ⟨u_9, rfl⟩ : ∃ z, z = u := ⟨_, rfl⟩
      obtain ⟨hP1, hK1, hD1⟩ := hB
      rw [ht] at hP1
      clear hK1
      try dsimp only at hw_8
      obtain ⟨hP, hD⟩ := va_join (wr := [(xn, .inr (4, [.ref ek, .ref ef, .ref ew, .ref ep, .ref es, .int sz0, .int sy, .int dn]))]) (w1 := [(h0, .inr (11, [.ref xp, .ref xtp, .ref xn, .ref xt, .ref xk, .ref xl, .ref xc, .ref xo, .ref xto, .ref xr, .ref xch, .int ts, .int ik, .int st])), (xr, .inl (aC 0, 7, .inl u_9))]) hP hD [0, 2] [1] rfl rfl (by decide) (by decide) hk1 hFc hP1 hD1
      generalize H1 = H at hP hS ⊢
      have hP : va_P (dC, dI) classes [(xn, .inr (4, [.ref ek, .ref ef, .ref ew, .ref ep, .ref es, .int sz0, .int sy, .int dn])), (h0, .inr (11, [.ref xp, .ref xtp, .ref xn, .ref xt, .ref xk, .ref xl, .ref xc, .ref xo, .ref xto, .ref xr, .ref xch, .int ts, .int ik, .int st])), (xr, .inl (aC 0, 7, .inl u_9))] H := hP
      have hD : va_D A [(xn, .inr (4, [.ref ek, .ref ef, .ref ew, .ref ep, .ref es, .int sz0, .int sy, .int dn])), (h0, .inr (11, [.ref xp, .ref xtp, .ref xn, .ref xt, .ref xk, .ref xl, .ref xc, .ref xo, .ref xto, .ref xr, .ref xch, .int ts, .int ik, .int st])), (xr, .inl (aC 0, 7, .inl u_9))] := hD
      clear hPc hDc hFc hz1 hk1 hP1 hD1 ht hvm
      obtain ⟨hv9, hv8⟩ := hw_8
      refine lv_isub hx hb dX11_byLaw_34 ?_
      refine lv_topi (fun x_10 e_10 => ?_)
      have hP9 := hP.sub (ws' := []) [] rfl
      have hD9 := hD.sub (ws' := []) [] (by decide) rfl
      refine W.widen (k := 0) (n := 0) (by omega) (by omega) ?_
      exact W.iret (v := x_10) hx hb hr (fun t ht hW => ⟨⟨x_10, (), rfl, by subst e_10; subst e_6; rw [hv9]; simp_all [GV]; try omega, by rw [ht]; exact hP9, va_K.moved hW.alike hK, hD9⟩, hS.F ht⟩) hS.2.2 dX11_byLaw_35
    · refine lv_iload_n hx hb dX11_byLaw_13 rfl (lv_at hl 2 rfl) ?_
      refine lv_if_lt (tgt := 26) hx hb dX11_byLaw_14 (by decide) (fun c_11 => ?_) (fun c_11 => ?_)
      · refine lv_ldc hx hb hown (hts _ (gw kw_507 rfl)) dX11_byLaw_26 ?_
        refine lv_aload_n hx hb dX11_byLaw_28 rfl (lv_at hl 0 rfl) ?_
        refine lv_bipush (v := -2) hx hb dX11_byLaw_29 (by decide) ?_
        have hPc := hP.sub (ws' := [(h0, .inr (11, [.ref xp, .ref xtp, .ref xn, .ref xt, .ref xk, .ref xl, .ref xc, .ref xo, .ref xto, .ref xr, .ref xch, .int ts, .int ik, .int st])), (xr, .inl (aC 0, 7, .inl rf))]) [0, 2] rfl
        have hDc := hD.sub (ws' := [(h0, .inr (11, [.ref xp, .ref xtp, .ref xn, .ref xt, .ref xk, .ref xl, .ref xc, .ref xo, .ref xto, .ref xr, .ref xch, .int ts, .int ik, .int st])), (xr, .inl (aC 0, 7, .inl rf))]) [0, 2] (by decide) rfl
        have hFc := va_free (wc := [(h0, .inr (11, [.ref xp, .ref xtp, .ref xn, .ref xt, .ref xk, .ref xl, .ref xc, .ref xo, .ref xto, .ref xr, .ref xch, .int ts, .int ik, .int st])), (xr, .inl (aC 0, 7, .inl rf))]) hD hS hA [0, 2] rfl
        refine va_calli (va_runV (As := [.int (-2)]) (rest := [.int 1000000000]) ⟨hx, hb, hml, hown, hts⟩ (c_X11_refuse l dC dI aC H.size h0 xp xtp xn xt xk xl xc xo xto xr xch ts ik st (-2) 2 rf (by decide) (by decide) (by decide) (by unfold vp_in; decide)) ⟨(callB_of 1 hts (gG kw_276) rfl rfl rfl (hts _ (gw kw_1 rfl)) (hts _ (gw kw_273 rfl)) (by decide +kernel) ⟨Nat.le_of_ble_eq_true rfl, Nat.le_of_ble_eq_true rfl⟩), (hts _ (gw kw_275 rfl)), (hts _ (gw ks_0 rfl))⟩ ⟨fun a U g mk q => by obtain ⟨q0, q1, qP, qK, qD, qN⟩ := q; exact ⟨q0, q1, qP, va_K.moved (u := U) (U := U.calling g mk a) (Vm.Alike.refl U.vm) qK, qD, NX.same (u := U) (U := U.calling g mk a) rfl qN⟩, va_recv hK hPc (ci := 11) (q0 := 0) rfl rfl, fun U hU hW => ⟨rfl, by rw [hU], by rw [hU]; exact hPc, va_K.moved hW.alike hK, hDc.weaken (fun _ _ _ _ => trivial), NX.warm hW hN⟩⟩ rfl rfl hl.1 rfl (lv_room (Nat.le_of_ble_eq_true rfl)) dX11_byLaw_31 ⟨Nat.le_of_ble_eq_true rfl, Nat.le_of_ble_eq_true rfl⟩) hS (fun q _ h => hFc q h) hFc (fun x_12 u t H1 locs ht hvm hw_12 hB hz1 hk1 hS => ?_)
        obtain ⟨u_13, rfl⟩ : ∃ z, z = u := ⟨_, rfl⟩
        obtain ⟨hP1, hK1, hD1⟩ := hB
        rw [ht] at hP1
        clear hK1
        try dsimp only at hw_12
        obtain ⟨hP, hD⟩ := va_join (wr := [(xn, .inr (4, [.ref ek, .ref ef, .ref ew, .ref ep, .ref es, .int sz0, .int sy, .int dn]))]) (w1 := [(h0, .inr (11, [.ref xp, .ref xtp, .ref xn, .ref xt, .ref xk, .ref xl, .ref xc, .ref xo, .ref xto, .ref xr, .ref xch, .int ts, .int ik, .int st])), (xr, .inl (aC 0, 7, .inl u_13))]) hP hD [0, 2] [1] rfl rfl (by decide) (by decide) hk1 hFc hP1 hD1
        generalize H1 = H at hP hS ⊢
        have hP : va_P (dC, dI) classes [(xn, .inr (4, [.ref ek, .ref ef, .ref ew, .ref ep, .ref es, .int sz0, .int sy, .int dn])), (h0, .inr (11, [.ref xp, .ref xtp, .ref xn, .ref xt, .ref xk, .ref xl, .ref xc, .ref xo, .ref xto, .ref xr, .ref xch, .int ts, .int ik, .int st])), (xr, .inl (aC 0, 7, .inl u_13))] H := hP
        have hD : va_D A [(xn, .inr (4, [.ref ek, .ref ef, .ref ew, .ref ep, .ref es, .int sz0, .int sy, .int dn])), (h0, .inr (11, [.ref xp, .ref xtp, .ref xn, .ref xt, .ref xk, .ref xl, .ref xc, .ref xo, .ref xto, .ref xr, .ref xch, .int ts, .int ik, .int st])), (xr, .inl (aC 0, 7, .inl u_13))] := hD
        clear hPc hDc hFc hz1 hk1 hP1 hD1 ht hvm
        obtain ⟨hv9, hv8⟩ := hw_12
        refine lv_isub hx hb dX11_byLaw_34 ?_
        refine lv_topi (fun x_14 e_14 => ?_)
        have hP9 := hP.sub (ws' := []) [] rfl
        have hD9 := hD.sub (ws' := []) [] (by decide) rfl
        refine W.widen (k := 0) (n := 0) (by omega) (by omega) ?_
        exact W.iret (v := x_14) hx hb hr (fun t ht hW => ⟨⟨x_14, (), rfl, by subst e_14; subst e_6; rw [hv9]; simp_all [GV]; try omega, by rw [ht]; exact hP9, va_K.moved hW.alike hK, hD9⟩, hS.F ht⟩) hS.2.2 dX11_byLaw_35
      · refine lv_iload_n hx hb dX11_byLaw_17 rfl (lv_at hl 2 rfl) ?_
        refine va_gets (v := .ref tG) hx hb hZG hS hown (hts _ (gw kw_345 rfl)) (fun _ h9 => h9) dX11_byLaw_18 ?_
        refine lv_iconst (v := 2) hx hb dX11_byLaw_21 (by decide) ?_
        have h_15 : vp_in 2 5 := by first | assumption | (unfold vp_in; decide) | exact vp_in_nI (by omega) (by omega) | (subst_vars; first | (unfold vp_in; decide) | exact vp_in_nI (by omega) (by omega))
        refine va_ti hx hb hTG hS h_15 rfl dX11_byLaw_22 ?_
        refine lv_topi (fun x_16 e_16 => ?_)
        refine lv_icmp_le (tgt := 36) hx hb dX11_byLaw_23 (by decide) (fun c_17 => ?_) (fun c_17 => ?_)
        · refine lv_aload_n hx hb dX11_byLaw_36 rfl (lv_at hl 0 rfl) ?_
          refine va_get (D := (dC, dI)) (ci := 11) (v := .ref xn) (C := RX11) (T := TX11) (N := 14) hx hb hts inX11 hown hK hP 0 rfl rfl 2 (by decide) (hts _ (gw kw_228 rfl)) (fun _ h9 => h9) rfl dX11_byLaw_37 ?_
          refine lv_iload_n hx hb dX11_byLaw_40 rfl (lv_at hl 3 rfl) ?_
          have hPc := hP.sub (ws' := [(xn, .inr (4, [.ref ek, .ref ef, .ref ew, .ref ep, .ref es, .int sz0, .int sy, .int dn]))]) [1] rfl
          have hDc := hD.sub (ws' := [(xn, .inr (4, [.ref ek, .ref ef, .ref ew, .ref ep, .ref es, .int sz0, .int sy, .int dn]))]) [1] (by decide) rfl
          have hFc := va_free (wc := [(xn, .inr (4, [.ref ek, .ref ef, .ref ew, .ref ep, .ref es, .int sz0, .int sy, .int dn]))]) hD hS hA [1] rfl
          refine va_calli (va_runV (As := [.int i]) (rest := []) ⟨hx, hb, hml, hown, hts⟩ (c_X4_has l dC dI aC H.size xn ek ef ew ep es sz0 sy dn i ) ⟨(callB_of 1 hts (gG kw_340) rfl rfl rfl (hts _ (gw kw_2 rfl)) (hts _ (gw kw_337 rfl)) (by decide +kernel) ⟨Nat.le_of_ble_eq_true rfl, Nat.le_of_ble_eq_true rfl⟩), (hts _ (gw kw_338 rfl)), (hts _ (gw kw_339 rfl))⟩ ⟨fun a U g mk q => by obtain ⟨q0, q1, qP, qK, qD, qN⟩ := q; exact ⟨q0, q1, qP, va_K.moved (u := U) (U := U.calling g mk a) (Vm.Alike.refl U.vm) qK, qD, NX.same (u := U) (U := U.calling g mk a) rfl qN⟩, va_recv hK hPc (ci := 4) (q0 := 0) rfl rfl, fun U hU hW => ⟨rfl, by rw [hU], by rw [hU]; exact hPc, va_K.moved hW.alike hK, hDc.weaken (fun _ _ _ _ => trivial), NX.warm hW hN⟩⟩ rfl rfl hl.1 rfl (lv_room (Nat.le_of_ble_eq_true rfl)) dX11_byLaw_41 ⟨Nat.le_of_ble_eq_true rfl, Nat.le_of_ble_eq_true rfl⟩) hS (fun q _ h => hFc q h) hFc (fun x_18 u t H1 locs ht hvm hw_18 hB hz1 hk1 hS => ?_)
          obtain ⟨hP1, hK1, hD1⟩ := hB
          rw [ht] at hP1
          clear hK1
          try dsimp only at hw_18
          obtain ⟨hP, hD⟩ := va_join (wr := [(h0, .inr (11, [.ref xp, .ref xtp, .ref xn, .ref xt, .ref xk, .ref xl, .ref xc, .ref xo, .ref xto, .ref xr, .ref xch, .int ts, .int ik, .int st])), (xr, .inl (aC 0, 7, .inl rf))]) (w1 := [(xn, .inr (4, [.ref ek, .ref ef, .ref ew, .ref ep, .ref es, .int sz0, .int sy, .int dn]))]) hP hD [1] [0, 2] rfl rfl (by decide) (by decide) hk1 hFc hP1 hD1
          generalize H1 = H at hP hS ⊢
          have hP : va_P (dC, dI) classes [(h0, .inr (11, [.ref xp, .ref xtp, .ref xn, .ref xt, .ref xk, .ref xl, .ref xc, .ref xo, .ref xto, .ref xr, .ref xch, .int ts, .int ik, .int st])), (xr, .inl (aC 0, 7, .inl rf)), (xn, .inr (4, [.ref ek, .ref ef, .ref ew, .ref ep, .ref es, .int sz0, .int sy, .int dn]))] H := hP
          have hD : va_D A [(h0, .inr (11, [.ref xp, .ref xtp, .ref xn, .ref xt, .ref xk, .ref xl, .ref xc, .ref xo, .ref xto, .ref xr, .ref xch, .int ts, .int ik, .int st])), (xr, .inl (aC 0, 7, .inl rf)), (xn, .inr (4, [.ref ek, .ref ef, .ref ew, .ref ep, .ref es, .int sz0, .int sy, .int dn]))] := hD
          clear hPc hDc hFc hz1 hk1 hP1 hD1 ht hvm
          have hz_41 : x_18 = 0 := by rw [hw_18]; rcases hno with h9 | h9 <;> simp [h9]
          refine lv_if_eq (tgt := 58) hx hb dX11_byLaw_44 (by decide) (fun c_19 => ?_) (fun c_19 => ?_)
          · refine lv_ldc hx hb hown (hts _ (gw kw_507 rfl)) dX11_byLaw_58 ?_
            refine lv_aload_n hx hb dX11_byLaw_60 rfl (lv_at hl 0 rfl) ?_
            refine lv_iconst (v := -1) hx hb dX11_byLaw_61 (by decide) ?_
            have hPc := hP.sub (ws' := [(h0, .inr (11, [.ref xp, .ref xtp, .ref xn, .ref xt, .ref xk, .ref xl, .ref xc, .ref xo, .ref xto, .ref xr, .ref xch, .int ts, .int ik, .int st])), (xr, .inl (aC 0, 7, .inl rf))]) [0, 1] rfl
            have hDc := hD.sub (ws' := [(h0, .inr (11, [.ref xp, .ref xtp, .ref xn, .ref xt, .ref xk, .ref xl, .ref xc, .ref xo, .ref xto, .ref xr, .ref xch, .int ts, .int ik, .int st])), (xr, .inl (aC 0, 7, .inl rf))]) [0, 1] (by decide) rfl
            have hFc := va_free (wc := [(h0, .inr (11, [.ref xp, .ref xtp, .ref xn, .ref xt, .ref xk, .ref xl, .ref xc, .ref xo, .ref xto, .ref xr, .ref xch, .int ts, .int ik, .int st])), (xr, .inl (aC 0, 7, .inl rf))]) hD hS hA [0, 1] rfl
            refine va_calli (va_runV (As := [.int (-1)]) (rest := [.int 1000000000]) ⟨hx, hb, hml, hown, hts⟩ (c_X11_refuse l dC dI aC H.size h0 xp xtp xn xt xk xl xc xo xto xr xch ts ik st (-1) 1 rf (by decide) (by decide) (by decide) (by unfold vp_in; decide)) ⟨(callB_of 1 hts (gG kw_276) rfl rfl rfl (hts _ (gw kw_1 rfl)) (hts _ (gw kw_273 rfl)) (by decide +kernel) ⟨Nat.le_of_ble_eq_true rfl, Nat.le_of_ble_eq_true rfl⟩), (hts _ (gw kw_275 rfl)), (hts _ (gw ks_0 rfl))⟩ ⟨fun a U g mk q => by obtain ⟨q0, q1, qP, qK, qD, qN⟩ := q; exact ⟨q0, q1, qP, va_K.moved (u := U) (U := U.calling g mk a) (Vm.Alike.refl U.vm) qK, qD, NX.same (u := U) (U := U.calling g mk a) rfl qN⟩, va_recv hK hPc (ci := 11) (q0 := 0) rfl rfl, fun U hU hW => ⟨rfl, by rw [hU], by rw [hU]; exact hPc, va_K.moved hW.alike hK, hDc.weaken (fun _ _ _ _ => trivial), NX.warm hW hN⟩⟩ rfl rfl hl.1 rfl (lv_room (Nat.le_of_ble_eq_true rfl)) dX11_byLaw_62 ⟨Nat.le_of_ble_eq_true rfl, Nat.le_of_ble_eq_true rfl⟩) hS (fun q _ h => hFc q h) hFc (fun x_20 u t H1 locs ht hvm hw_20 hB hz1 hk1 hS => ?_)
            obtain ⟨u_21, rfl⟩ : ∃ z, z = u := ⟨_, rfl⟩
            obtain ⟨hP1, hK1, hD1⟩ := hB
            rw [ht] at hP1
            clear hK1
            try dsimp only at hw_20
            obtain ⟨hP, hD⟩ := va_join (wr := [(xn, .inr (4, [.ref ek, .ref ef, .ref ew, .ref ep, .ref es, .int sz0, .int sy, .int dn]))]) (w1 := [(h0, .inr (11, [.ref xp, .ref xtp, .ref xn, .ref xt, .ref xk, .ref xl, .ref xc, .ref xo, .ref xto, .ref xr, .ref xch, .int ts, .int ik, .int st])), (xr, .inl (aC 0, 7, .inl u_21))]) hP hD [0, 1] [2] rfl rfl (by decide) (by decide) hk1 hFc hP1 hD1
            generalize H1 = H at hP hS ⊢
            have hP : va_P (dC, dI) classes [(xn, .inr (4, [.ref ek, .ref ef, .ref ew, .ref ep, .ref es, .int sz0, .int sy, .int dn])), (h0, .inr (11, [.ref xp, .ref xtp, .ref xn, .ref xt, .ref xk, .ref xl, .ref xc, .ref xo, .ref xto, .ref xr, .ref xch, .int ts, .int ik, .int st])), (xr, .inl (aC 0, 7, .inl u_21))] H := hP
            have hD : va_D A [(xn, .inr (4, [.ref ek, .ref ef, .ref ew, .ref ep, .ref es, .int sz0, .int sy, .int dn])), (h0, .inr (11, [.ref xp, .ref xtp, .ref xn, .ref xt, .ref xk, .ref xl, .ref xc, .ref xo, .ref xto, .ref xr, .ref xch, .int ts, .int ik, .int st])), (xr, .inl (aC 0, 7, .inl u_21))] := hD
            clear hPc hDc hFc hz1 hk1 hP1 hD1 ht hvm
            obtain ⟨hv9, hv8⟩ := hw_20
            refine lv_isub hx hb dX11_byLaw_65 ?_
            refine lv_topi (fun x_22 e_22 => ?_)
            have hP9 := hP.sub (ws' := []) [] rfl
            have hD9 := hD.sub (ws' := []) [] (by decide) rfl
            refine W.widen (k := 0) (n := 0) (by omega) (by omega) ?_
            exact W.iret (v := x_22) hx hb hr (fun t ht hW => ⟨⟨x_22, (), rfl, by rw [e_22, hv9, if_neg (fun q => by rcases q with q | q | q | q <;> first | exact absurd q c_1 | exact c_7 (by rw [e_6]; exact q) | exact absurd q c_11 | exact Int32.not_lt.mpr c_17 (by rw [e_16]; exact q))]; rfl, by rw [ht]; exact hP9, va_K.moved hW.alike hK, hD9⟩, hS.F ht⟩) hS.2.2 dX11_byLaw_66
          · exact absurd hz_41 c_19
        · refine lv_ldc hx hb hown (hts _ (gw kw_507 rfl)) dX11_byLaw_26 ?_
          refine lv_aload_n hx hb dX11_byLaw_28 rfl (lv_at hl 0 rfl) ?_
          refine lv_bipush (v := -2) hx hb dX11_byLaw_29 (by decide) ?_
          have hPc := hP.sub (ws' := [(h0, .inr (11, [.ref xp, .ref xtp, .ref xn, .ref xt, .ref xk, .ref xl, .ref xc, .ref xo, .ref xto, .ref xr, .ref xch, .int ts, .int ik, .int st])), (xr, .inl (aC 0, 7, .inl rf))]) [0, 2] rfl
          have hDc := hD.sub (ws' := [(h0, .inr (11, [.ref xp, .ref xtp, .ref xn, .ref xt, .ref xk, .ref xl, .ref xc, .ref xo, .ref xto, .ref xr, .ref xch, .int ts, .int ik, .int st])), (xr, .inl (aC 0, 7, .inl rf))]) [0, 2] (by decide) rfl
          have hFc := va_free (wc := [(h0, .inr (11, [.ref xp, .ref xtp, .ref xn, .ref xt, .ref xk, .ref xl, .ref xc, .ref xo, .ref xto, .ref xr, .ref xch, .int ts, .int ik, .int st])), (xr, .inl (aC 0, 7, .inl rf))]) hD hS hA [0, 2] rfl
          refine va_calli (va_runV (As := [.int (-2)]) (rest := [.int 1000000000]) ⟨hx, hb, hml, hown, hts⟩ (c_X11_refuse l dC dI aC H.size h0 xp xtp xn xt xk xl xc xo xto xr xch ts ik st (-2) 2 rf (by decide) (by decide) (by decide) (by unfold vp_in; decide)) ⟨(callB_of 1 hts (gG kw_276) rfl rfl rfl (hts _ (gw kw_1 rfl)) (hts _ (gw kw_273 rfl)) (by decide +kernel) ⟨Nat.le_of_ble_eq_true rfl, Nat.le_of_ble_eq_true rfl⟩), (hts _ (gw kw_275 rfl)), (hts _ (gw ks_0 rfl))⟩ ⟨fun a U g mk q => by obtain ⟨q0, q1, qP, qK, qD, qN⟩ := q; exact ⟨q0, q1, qP, va_K.moved (u := U) (U := U.calling g mk a) (Vm.Alike.refl U.vm) qK, qD, NX.same (u := U) (U := U.calling g mk a) rfl qN⟩, va_recv hK hPc (ci := 11) (q0 := 0) rfl rfl, fun U hU hW => ⟨rfl, by rw [hU], by rw [hU]; exact hPc, va_K.moved hW.alike hK, hDc.weaken (fun _ _ _ _ => trivial), NX.warm hW hN⟩⟩ rfl rfl hl.1 rfl (lv_room (Nat.le_of_ble_eq_true rfl)) dX11_byLaw_31 ⟨Nat.le_of_ble_eq_true rfl, Nat.le_of_ble_eq_true rfl⟩) hS (fun q _ h => hFc q h) hFc (fun x_23 u t H1 locs ht hvm hw_23 hB hz1 hk1 hS => ?_)
          obtain ⟨u_24, rfl⟩ : ∃ z, z = u := ⟨_, rfl⟩
          obtain ⟨hP1, hK1, hD1⟩ := hB
          rw [ht] at hP1
          clear hK1
          try dsimp only at hw_23
          obtain ⟨hP, hD⟩ := va_join (wr := [(xn, .inr (4, [.ref ek, .ref ef, .ref ew, .ref ep, .ref es, .int sz0, .int sy, .int dn]))]) (w1 := [(h0, .inr (11, [.ref xp, .ref xtp, .ref xn, .ref xt, .ref xk, .ref xl, .ref xc, .ref xo, .ref xto, .ref xr, .ref xch, .int ts, .int ik, .int st])), (xr, .inl (aC 0, 7, .inl u_24))]) hP hD [0, 2] [1] rfl rfl (by decide) (by decide) hk1 hFc hP1 hD1
          generalize H1 = H at hP hS ⊢
          have hP : va_P (dC, dI) classes [(xn, .inr (4, [.ref ek, .ref ef, .ref ew, .ref ep, .ref es, .int sz0, .int sy, .int dn])), (h0, .inr (11, [.ref xp, .ref xtp, .ref xn, .ref xt, .ref xk, .ref xl, .ref xc, .ref xo, .ref xto, .ref xr, .ref xch, .int ts, .int ik, .int st])), (xr, .inl (aC 0, 7, .inl u_24))] H := hP
          have hD : va_D A [(xn, .inr (4, [.ref ek, .ref ef, .ref ew, .ref ep, .ref es, .int sz0, .int sy, .int dn])), (h0, .inr (11, [.ref xp, .ref xtp, .ref xn, .ref xt, .ref xk, .ref xl, .ref xc, .ref xo, .ref xto, .ref xr, .ref xch, .int ts, .int ik, .int st])), (xr, .inl (aC 0, 7, .inl u_24))] := hD
          clear hPc hDc hFc hz1 hk1 hP1 hD1 ht hvm
          obtain ⟨hv9, hv8⟩ := hw_23
          refine lv_isub hx hb dX11_byLaw_34 ?_
          refine lv_topi (fun x_25 e_25 => ?_)
          have hP9 := hP.sub (ws' := []) [] rfl
          have hD9 := hD.sub (ws' := []) [] (by decide) rfl
          refine W.widen (k := 0) (n := 0) (by omega) (by omega) ?_
          exact W.iret (v := x_25) hx hb hr (fun t ht hW => ⟨⟨x_25, (), rfl, by subst e_25; subst e_16; subst e_6; rw [hv9]; simp_all [GV]; try omega, by rw [ht]; exact hP9, va_K.moved hW.alike hK, hD9⟩, hS.F ht⟩) hS.2.2 dX11_byLaw_35

set_option maxHeartbeats 4000000 in
set_option maxRecDepth 100000 in
/-- X11_countRefusals -/
theorem c_X11_countRefusals (l : Launch) (dC : Nat → ClassId) (dI : Nat → Nat → Nat) (aC : Nat → ClassId) (sz : Nat) (h0 : Nat) (xp : Nat) (xtp : Nat) (xn : Nat) (xt : Nat) (xk : Nat) (xl : Nat) (xc : Nat) (xo : Nat) (xto : Nat) (xr : Nat) (xch : Nat) (ts : Int32) (ik : Int32) (st : Int32) (rf : Nat → Int32) (n : Int32)  : Met l yX11_countRefusals (wW yX11_countRefusals cX11_countRefusals 2 (some .int)) ({ frames := 0, cells := 0, slots := 0, locals := 0 } : Room) (va_Pc [.ref h0, .int n] (fun U => U.heap.size = sz ∧ va_P (dC, dI) classes [(h0, .inr (11, [.ref xp, .ref xtp, .ref xn, .ref xt, .ref xk, .ref xl, .ref xc, .ref xo, .ref xto, .ref xr, .ref xch, .int ts, .int ik, .int st])), (xr, .inl (aC 0, 7, .inl rf))] U.heap ∧ va_K (dC, dI) classes (TY aC) U ∧ va_D (fun _ => True) [(h0, .inr (11, [.ref xp, .ref xtp, .ref xn, .ref xt, .ref xk, .ref xl, .ref xc, .ref xo, .ref xto, .ref xr, .ref xch, .int ts, .int ik, .int st])), (xr, .inl (aC 0, 7, .inl rf))] ∧ NX U)) (va_Qi (fun (r : Int32) (_ : Unit) => r = CR rf n) (fun (_ : Unit) (t : State) => va_P (dC, dI) classes [(h0, .inr (11, [.ref xp, .ref xtp, .ref xn, .ref xt, .ref xk, .ref xl, .ref xc, .ref xo, .ref xto, .ref xr, .ref xch, .int ts, .int ik, .int st])), (xr, .inl (aC 0, 7, .inl rf))] t.heap ∧ va_K (dC, dI) classes (TY aC) t ∧ va_D (va_A [(h0, .inr (11, [.ref xp, .ref xtp, .ref xn, .ref xt, .ref xk, .ref xl, .ref xc, .ref xo, .ref xto, .ref xr, .ref xch, .int ts, .int ik, .int st])), (xr, .inl (aC 0, 7, .inl rf))] sz) [(h0, .inr (11, [.ref xp, .ref xtp, .ref xn, .ref xt, .ref xk, .ref xl, .ref xc, .ref xo, .ref xto, .ref xr, .ref xch, .int ts, .int ik, .int st])), (xr, .inl (aC 0, 7, .inl rf))]) (va_A [(h0, .inr (11, [.ref xp, .ref xtp, .ref xn, .ref xt, .ref xk, .ref xl, .ref xc, .ref xo, .ref xto, .ref xr, .ref xch, .int ts, .int ik, .int st])), (xr, .inl (aC 0, 7, .inl rf))] sz)) 0 0 (va_A [(h0, .inr (11, [.ref xp, .ref xtp, .ref xn, .ref xt, .ref xk, .ref xl, .ref xc, .ref xo, .ref xto, .ref xr, .ref xch, .int ts, .int ik, .int st])), (xr, .inl (aC 0, 7, .inl rf))] sz) := by
  refine Met.ofW (cc := cX11_countRefusals) (maxL := 2) (ret := (some .int)) (by decide) rfl ?_
  intro p e s m args below meth c s₁ B hml hv
  obtain ⟨rfl, hsz, hP, hK, hD0, hN⟩ := hv
  have hx := B.exec
  have hb := B.bytes
  have hr := B.returns
  have hts0 := atoms_spec (ws := (wW yX11_countRefusals cX11_countRefusals 2 (some .int))) B.pre
  have hts : ∀ w9 ∈ lw_G, w9.before ([.ref h0, .int n] : List Value).toArray s = true := fun w9 h9 => hts0 w9 (List.mem_cons_of_mem _ h9)
  have hown : s.vm.findClass RX11 = some m.cls := findClass_of_methodNamed B.named
  have hlocks := B.notSynchronized
  subst hsz
  have hD := hD0.self (sz := s.heap.size)
  generalize hAe : va_A [(h0, .inr (11, [.ref xp, .ref xtp, .ref xn, .ref xt, .ref xk, .ref xl, .ref xc, .ref xo, .ref xto, .ref xr, .ref xch, .int ts, .int ik, .int st])), (xr, .inl (aC 0, 7, .inl rf))] s.heap.size = A at hD ⊢
  have hA : ∀ q : Nat, s.heap.size ≤ q → A q := fun q h => by rw [← hAe]; exact Or.inr h
  obtain ⟨H, hHe⟩ : ∃ H : Heap, H = s.heap := ⟨_, rfl⟩
  have hS : va_S A s.heap H [] := by rw [hHe]; exact va_S.rf
  have hP : va_P (dC, dI) classes [(h0, .inr (11, [.ref xp, .ref xtp, .ref xn, .ref xt, .ref xk, .ref xl, .ref xc, .ref xo, .ref xto, .ref xr, .ref xch, .int ts, .int ik, .int st])), (xr, .inl (aC 0, 7, .inl rf))] H := by rw [hHe]; exact hP
  have hl := lv_entry ([.ref h0, .int n]) (n := 2) (Nat.le_of_ble_eq_true rfl)
  rw [lg_entry_eq]
  generalize (lg_sl ([.ref h0, .int n]) ++ List.replicate (2 - (lg_sl ([.ref h0, .int n])).length) Slot.unset).toArray = ls at hl ⊢
  have hl : lv_has ls 2 [(0, .ref h0), (1, .int n)] := hl
  rw [← hHe]
  refine lv_iload_n hx hb dX11_countRefusals_0 rfl (lv_at hl 1 rfl) ?_
  refine lv_iconst (v := 1) hx hb dX11_countRefusals_1 (by decide) ?_
  refine lv_icmp_lt (tgt := 20) hx hb dX11_countRefusals_2 (by decide) (fun c_1 => ?_) (fun c_1 => ?_)
  · refine lv_bipush (v := -9) hx hb dX11_countRefusals_20 (by decide) ?_
    have hP9 := hP.sub (ws' := [(h0, .inr (11, [.ref xp, .ref xtp, .ref xn, .ref xt, .ref xk, .ref xl, .ref xc, .ref xo, .ref xto, .ref xr, .ref xch, .int ts, .int ik, .int st])), (xr, .inl (aC 0, 7, .inl rf))]) [0, 1] rfl
    have hD9 := hD.sub (ws' := [(h0, .inr (11, [.ref xp, .ref xtp, .ref xn, .ref xt, .ref xk, .ref xl, .ref xc, .ref xo, .ref xto, .ref xr, .ref xch, .int ts, .int ik, .int st])), (xr, .inl (aC 0, 7, .inl rf))]) [0, 1] (by decide) rfl
    refine W.widen (k := 0) (n := 0) (by omega) (by omega) ?_
    exact W.iret (v := -9) hx hb hr (fun t ht hW => ⟨⟨(-9), (), rfl, by unfold CR; first | (rw [if_pos c_1]; done) | (rw [if_neg c_1, if_pos {C1}]; done) | (rw [if_neg c_1, if_neg {C1}]; skip; rfl), by rw [ht]; exact hP9, va_K.moved hW.alike hK, hD9⟩, hS.F ht⟩) hS.2.2 dX11_countRefusals_22
  · refine lv_iload_n hx hb dX11_countRefusals_5 rfl (lv_at hl 1 rfl) ?_
    refine lv_bipush (v := 6) hx hb dX11_countRefusals_6 (by decide) ?_
    refine lv_icmp_gt (tgt := 20) hx hb dX11_countRefusals_8 (by decide) (fun c_2 => ?_) (fun c_2 => ?_)
    · refine lv_bipush (v := -9) hx hb dX11_countRefusals_20 (by decide) ?_
      have hP9 := hP.sub (ws' := [(h0, .inr (11, [.ref xp, .ref xtp, .ref xn, .ref xt, .ref xk, .ref xl, .ref xc, .ref xo, .ref xto, .ref xr, .ref xch, .int ts, .int ik, .int st])), (xr, .inl (aC 0, 7, .inl rf))]) [0, 1] rfl
      have hD9 := hD.sub (ws' := [(h0, .inr (11, [.ref xp, .ref xtp, .ref xn, .ref xt, .ref xk, .ref xl, .ref xc, .ref xo, .ref xto, .ref xr, .ref xch, .int ts, .int ik, .int st])), (xr, .inl (aC 0, 7, .inl rf))]) [0, 1] (by decide) rfl
      refine W.widen (k := 0) (n := 0) (by omega) (by omega) ?_
      exact W.iret (v := -9) hx hb hr (fun t ht hW => ⟨⟨(-9), (), rfl, by unfold CR; first | (rw [if_pos c_1]; done) | (rw [if_neg c_1, if_pos c_2]; done) | (rw [if_neg c_1, if_neg c_2]; skip; rfl), by rw [ht]; exact hP9, va_K.moved hW.alike hK, hD9⟩, hS.F ht⟩) hS.2.2 dX11_countRefusals_22
    · refine lv_aload_n hx hb dX11_countRefusals_11 rfl (lv_at hl 0 rfl) ?_
      refine va_get (D := (dC, dI)) (ci := 11) (v := .ref xr) (C := RX11) (T := TX11) (N := 14) hx hb hts inX11 hown hK hP 0 rfl rfl 9 (by decide) (hts _ (gw kw_235 rfl)) (fun _ h9 => h9) rfl dX11_countRefusals_12 ?_
      refine lv_iload_n hx hb dX11_countRefusals_15 rfl (lv_at hl 1 rfl) ?_
      have h_3 : vp_in n 7 := vin (n := 7) (fun q => c_1 (Int32.lt_trans q (by decide))) (Int32.lt_of_le_of_lt (Int32.not_lt.mp c_2) (by decide)) rfl
      refine va_iald hx hb hK hP 1 0 rfl rfl h_3 dX11_countRefusals_16 ?_
      refine lv_topi (fun x_4 e_4 => ?_)
      refine lv_goto (tgt := 22) hx hb dX11_countRefusals_17 (by decide) ?_
      have hP9 := hP.sub (ws' := [(h0, .inr (11, [.ref xp, .ref xtp, .ref xn, .ref xt, .ref xk, .ref xl, .ref xc, .ref xo, .ref xto, .ref xr, .ref xch, .int ts, .int ik, .int st])), (xr, .inl (aC 0, 7, .inl rf))]) [0, 1] rfl
      have hD9 := hD.sub (ws' := [(h0, .inr (11, [.ref xp, .ref xtp, .ref xn, .ref xt, .ref xk, .ref xl, .ref xc, .ref xo, .ref xto, .ref xr, .ref xch, .int ts, .int ik, .int st])), (xr, .inl (aC 0, 7, .inl rf))]) [0, 1] (by decide) rfl
      refine W.widen (k := 0) (n := 0) (by omega) (by omega) ?_
      exact W.iret (v := x_4) hx hb hr (fun t ht hW => ⟨⟨x_4, (), rfl, by unfold CR; first | (rw [if_pos c_1]; done) | (rw [if_neg c_1, if_pos c_2]; done) | (rw [if_neg c_1, if_neg c_2]; subst e_4; rfl), by rw [ht]; exact hP9, va_K.moved hW.alike hK, hD9⟩, hS.F ht⟩) hS.2.2 dX11_countRefusals_22

set_option maxHeartbeats 4000000 in
set_option maxRecDepth 100000 in
/-- X4_weightFrom_0 -/
theorem c_X4_weightFrom_0 (l : Launch) (dC : Nat → ClassId) (dI : Nat → Nat → Nat) (aC : Nat → ClassId) (sz : Nat) (h1 : Nat) (ek : Nat) (ef : Nat) (ew : Nat) (ep : Nat) (es : Nat) (sy : Int32) (dn : Int32)  : Met l yX4_weightFrom (wW yX4_weightFrom cX4_weightFrom 4 (some .int)) ({ frames := 1, cells := 0, slots := 0, locals := 13 } : Room) (va_Pc [.ref h1, .int 0] (fun U => U.heap.size = sz ∧ va_P (dC, dI) classes [(h1, .inr (4, [.ref ek, .ref ef, .ref ew, .ref ep, .ref es, .int 0, .int sy, .int dn]))] U.heap ∧ va_K (dC, dI) classes (TY aC) U ∧ va_D (fun _ => True) [(h1, .inr (4, [.ref ek, .ref ef, .ref ew, .ref ep, .ref es, .int 0, .int sy, .int dn]))] ∧ NX U)) (va_Qi (fun (r : Int32) (_ : Unit) => r = 0) (fun (_ : Unit) (t : State) => va_P (dC, dI) classes [(h1, .inr (4, [.ref ek, .ref ef, .ref ew, .ref ep, .ref es, .int 0, .int sy, .int dn]))] t.heap ∧ va_K (dC, dI) classes (TY aC) t ∧ va_D (va_A [(h1, .inr (4, [.ref ek, .ref ef, .ref ew, .ref ep, .ref es, .int 0, .int sy, .int dn]))] sz) [(h1, .inr (4, [.ref ek, .ref ef, .ref ew, .ref ep, .ref es, .int 0, .int sy, .int dn]))]) (va_A [(h1, .inr (4, [.ref ek, .ref ef, .ref ew, .ref ep, .ref es, .int 0, .int sy, .int dn]))] sz)) 0 0 (va_A [(h1, .inr (4, [.ref ek, .ref ef, .ref ew, .ref ep, .ref es, .int 0, .int sy, .int dn]))] sz) := by
  refine Met.ofW (cc := cX4_weightFrom) (maxL := 4) (ret := (some .int)) (by decide) rfl ?_
  intro p e s m args below meth c s₁ B hml hv
  obtain ⟨rfl, hsz, hP, hK, hD0, hN⟩ := hv
  have hx := B.exec
  have hb := B.bytes
  have hr := B.returns
  have hts0 := atoms_spec (ws := (wW yX4_weightFrom cX4_weightFrom 4 (some .int))) B.pre
  have hts : ∀ w9 ∈ lw_G, w9.before ([.ref h1, .int 0] : List Value).toArray s = true := fun w9 h9 => hts0 w9 (List.mem_cons_of_mem _ h9)
  have hown : s.vm.findClass RX4 = some m.cls := findClass_of_methodNamed B.named
  have hlocks := B.notSynchronized
  subst hsz
  have hD := hD0.self (sz := s.heap.size)
  generalize hAe : va_A [(h1, .inr (4, [.ref ek, .ref ef, .ref ew, .ref ep, .ref es, .int 0, .int sy, .int dn]))] s.heap.size = A at hD ⊢
  have hA : ∀ q : Nat, s.heap.size ≤ q → A q := fun q h => by rw [← hAe]; exact Or.inr h
  obtain ⟨H, hHe⟩ : ∃ H : Heap, H = s.heap := ⟨_, rfl⟩
  have hS : va_S A s.heap H [] := by rw [hHe]; exact va_S.rf
  have hP : va_P (dC, dI) classes [(h1, .inr (4, [.ref ek, .ref ef, .ref ew, .ref ep, .ref es, .int 0, .int sy, .int dn]))] H := by rw [hHe]; exact hP
  have hl := lv_entry ([.ref h1, .int 0]) (n := 4) (Nat.le_of_ble_eq_true rfl)
  rw [lg_entry_eq]
  generalize (lg_sl ([.ref h1, .int 0]) ++ List.replicate (4 - (lg_sl ([.ref h1, .int 0])).length) Slot.unset).toArray = ls at hl ⊢
  have hl : lv_has ls 4 [(0, .ref h1), (1, .int 0)] := hl
  rw [← hHe]
  refine lv_iconst (v := 0) hx hb dX4_weightFrom_0 (by decide) ?_
  refine lv_istore_n (lv' := [(2, .int 0), (0, .ref h1), (1, .int 0)]) hx hb dX4_weightFrom_1 rfl hl (by decide) rfl (fun ls hl => ?_)
  refine lv_iconst (v := 0) hx hb dX4_weightFrom_2 (by decide) ?_
  refine lv_iload_n hx hb dX4_weightFrom_3 rfl (lv_at hl 2 rfl) ?_
  refine va_mmax hx hb (by rw [hml]; exact hl.1.symm) hown (hts _ (gw kw_466 rfl)) (hts _ (gw kw_374 rfl)) (hts _ (gw kw_14 rfl)) (hts _ (gw kw_375 rfl)) (Nat.le_of_ble_eq_true rfl) (Nat.le_of_ble_eq_true rfl) (Nat.zero_le _) (Nat.zero_le _) dX4_weightFrom_4 ?_
  refine lv_topi (fun x_1 e_1 => ?_)
  refine lv_istore_n (lv' := [(3, .int x_1), (2, .int 0), (0, .ref h1), (1, .int 0)]) hx hb dX4_weightFrom_7 rfl hl (by decide) rfl (fun ls hl => ?_)
  refine lv_iload_n hx hb dX4_weightFrom_8 rfl (lv_at hl 0 rfl) ?_
  refine lv_aload_n hx hb dX4_weightFrom_9 rfl (lv_at hl 2 rfl) ?_
  refine va_get (D := (dC, dI)) (ci := 4) (v := .int 0) (C := RX4) (T := TX4) (N := 8) hx hb hts inX4 hown hK hP 0 rfl rfl 5 (by decide) (hts _ (gw kw_48 rfl)) (fun _ h9 => h9) rfl dX4_weightFrom_10 ?_
  refine lv_icmp_ge (tgt := 31) hx hb dX4_weightFrom_13 (by decide) (fun c_2 => ?_) (fun c_2 => ?_)
  · refine lv_iload_n hx hb dX4_weightFrom_31 rfl (lv_at hl 1 rfl) ?_
    have hP9 := hP.sub (ws' := [(h1, .inr (4, [.ref ek, .ref ef, .ref ew, .ref ep, .ref es, .int 0, .int sy, .int dn]))]) [0] rfl
    have hD9 := hD.sub (ws' := [(h1, .inr (4, [.ref ek, .ref ef, .ref ew, .ref ep, .ref es, .int 0, .int sy, .int dn]))]) [0] (by decide) rfl
    refine W.widen (k := 0) (n := 0) (by omega) (by omega) ?_
    exact W.iret (v := 0) hx hb hr (fun t ht hW => ⟨⟨0, (), rfl, rfl, by rw [ht]; exact hP9, va_K.moved hW.alike hK, hD9⟩, hS.F ht⟩) hS.2.2 dX4_weightFrom_32
  · exact absurd (by rw [e_1]; decide) c_2

set_option maxHeartbeats 4000000 in
set_option maxRecDepth 100000 in
/-- X4_weightLeft_0 -/
theorem c_X4_weightLeft_0 (l : Launch) (dC : Nat → ClassId) (dI : Nat → Nat → Nat) (aC : Nat → ClassId) (sz : Nat) (h1 : Nat) (ek : Nat) (ef : Nat) (ew : Nat) (ep : Nat) (es : Nat) (dn : Int32)  : Met l yX4_weightLeft (wW yX4_weightLeft cX4_weightLeft 1 (some .int)) ({ frames := 2, cells := 0, slots := 0, locals := 36 } : Room) (va_Pc [.ref h1] (fun U => U.heap.size = sz ∧ va_P (dC, dI) classes [(h1, .inr (4, [.ref ek, .ref ef, .ref ew, .ref ep, .ref es, .int 0, .int 0, .int dn]))] U.heap ∧ va_K (dC, dI) classes (TY aC) U ∧ va_D (fun _ => True) [(h1, .inr (4, [.ref ek, .ref ef, .ref ew, .ref ep, .ref es, .int 0, .int 0, .int dn]))] ∧ NX U)) (va_Qi (fun (r : Int32) (_ : Unit) => r = 0) (fun (_ : Unit) (t : State) => va_P (dC, dI) classes [(h1, .inr (4, [.ref ek, .ref ef, .ref ew, .ref ep, .ref es, .int 0, .int 0, .int dn]))] t.heap ∧ va_K (dC, dI) classes (TY aC) t ∧ va_D (va_A [(h1, .inr (4, [.ref ek, .ref ef, .ref ew, .ref ep, .ref es, .int 0, .int 0, .int dn]))] sz) [(h1, .inr (4, [.ref ek, .ref ef, .ref ew, .ref ep, .ref es, .int 0, .int 0, .int dn]))]) (va_A [(h1, .inr (4, [.ref ek, .ref ef, .ref ew, .ref ep, .ref es, .int 0, .int 0, .int dn]))] sz)) 0 0 (va_A [(h1, .inr (4, [.ref ek, .ref ef, .ref ew, .ref ep, .ref es, .int 0, .int 0, .int dn]))] sz) := by
  refine Met.ofW (cc := cX4_weightLeft) (maxL := 1) (ret := (some .int)) (by decide) rfl ?_
  intro p e s m args below meth c s₁ B hml hv
  obtain ⟨rfl, hsz, hP, hK, hD0, hN⟩ := hv
  have hx := B.exec
  have hb := B.bytes
  have hr := B.returns
  have hts0 := atoms_spec (ws := (wW yX4_weightLeft cX4_weightLeft 1 (some .int))) B.pre
  have hts : ∀ w9 ∈ lw_G, w9.before ([.ref h1] : List Value).toArray s = true := fun w9 h9 => hts0 w9 (List.mem_cons_of_mem _ h9)
  have hown : s.vm.findClass RX4 = some m.cls := findClass_of_methodNamed B.named
  have hlocks := B.notSynchronized
  subst hsz
  have hD := hD0.self (sz := s.heap.size)
  generalize hAe : va_A [(h1, .inr (4, [.ref ek, .ref ef, .ref ew, .ref ep, .ref es, .int 0, .int 0, .int dn]))] s.heap.size = A at hD ⊢
  have hA : ∀ q : Nat, s.heap.size ≤ q → A q := fun q h => by rw [← hAe]; exact Or.inr h
  obtain ⟨H, hHe⟩ : ∃ H : Heap, H = s.heap := ⟨_, rfl⟩
  have hS : va_S A s.heap H [] := by rw [hHe]; exact va_S.rf
  have hP : va_P (dC, dI) classes [(h1, .inr (4, [.ref ek, .ref ef, .ref ew, .ref ep, .ref es, .int 0, .int 0, .int dn]))] H := by rw [hHe]; exact hP
  have hl := lv_entry ([.ref h1]) (n := 1) (Nat.le_of_ble_eq_true rfl)
  rw [lg_entry_eq]
  generalize (lg_sl ([.ref h1]) ++ List.replicate (1 - (lg_sl ([.ref h1])).length) Slot.unset).toArray = ls at hl ⊢
  have hl : lv_has ls 1 [(0, .ref h1)] := hl
  rw [← hHe]
  refine lv_aload_n hx hb dX4_weightLeft_0 rfl (lv_at hl 0 rfl) ?_
  refine lv_aload_n hx hb dX4_weightLeft_1 rfl (lv_at hl 0 rfl) ?_
  refine va_get (D := (dC, dI)) (ci := 4) (v := .int 0) (C := RX4) (T := TX4) (N := 8) hx hb hts inX4 hown hK hP 0 rfl rfl 6 (by decide) (hts _ (gw kw_51 rfl)) (fun _ h9 => h9) rfl dX4_weightLeft_2 ?_
  have hPc := hP.sub (ws' := [(h1, .inr (4, [.ref ek, .ref ef, .ref ew, .ref ep, .ref es, .int 0, .int 0, .int dn]))]) [0] rfl
  have hDc := hD.sub (ws' := [(h1, .inr (4, [.ref ek, .ref ef, .ref ew, .ref ep, .ref es, .int 0, .int 0, .int dn]))]) [0] (by decide) rfl
  have hFc := va_free (wc := [(h1, .inr (4, [.ref ek, .ref ef, .ref ew, .ref ep, .ref es, .int 0, .int 0, .int dn]))]) hD hS hA [0] rfl
  refine va_calli (va_runV (As := [.int 0]) (rest := []) ⟨hx, hb, hml, hown, hts⟩ (c_X4_has l dC dI aC H.size h1 ek ef ew ep es 0 0 dn 0 ) ⟨(callB_of 1 hts (gG kw_340) rfl rfl rfl (hts _ (gw kw_2 rfl)) (hts _ (gw kw_706 rfl)) (by decide +kernel) ⟨Nat.le_of_ble_eq_true rfl, Nat.le_of_ble_eq_true rfl⟩), (hts _ (gw kw_338 rfl)), (hts _ (gw kw_339 rfl))⟩ ⟨fun a U g mk q => by obtain ⟨q0, q1, qP, qK, qD, qN⟩ := q; exact ⟨q0, q1, qP, va_K.moved (u := U) (U := U.calling g mk a) (Vm.Alike.refl U.vm) qK, qD, NX.same (u := U) (U := U.calling g mk a) rfl qN⟩, va_recv hK hPc (ci := 4) (q0 := 0) rfl rfl, fun U hU hW => ⟨rfl, by rw [hU], by rw [hU]; exact hPc, va_K.moved hW.alike hK, hDc.weaken (fun _ _ _ _ => trivial), NX.warm hW hN⟩⟩ rfl rfl hl.1 rfl (lv_room (Nat.le_of_ble_eq_true rfl)) dX4_weightLeft_5 ⟨Nat.le_of_ble_eq_true rfl, Nat.le_of_ble_eq_true rfl⟩) hS (fun q _ h => hFc q h) hFc (fun x_1 u t H1 locs ht hvm hw_1 hB hz1 hk1 hS => ?_)
  obtain ⟨hP1, hK1, hD1⟩ := hB
  rw [ht] at hP1
  clear hK1
  try dsimp only at hw_1
  obtain ⟨hP, hD⟩ := va_join (wr := []) (w1 := [(h1, .inr (4, [.ref ek, .ref ef, .ref ew, .ref ep, .ref es, .int 0, .int 0, .int dn]))]) hP hD [0] [] rfl rfl (by decide) (by decide) hk1 hFc hP1 hD1
  generalize H1 = H at hP hS ⊢
  have hP : va_P (dC, dI) classes [(h1, .inr (4, [.ref ek, .ref ef, .ref ew, .ref ep, .ref es, .int 0, .int 0, .int dn]))] H := hP
  have hD : va_D A [(h1, .inr (4, [.ref ek, .ref ef, .ref ew, .ref ep, .ref es, .int 0, .int 0, .int dn]))] := hD
  clear hPc hDc hFc hz1 hk1 hP1 hD1 ht hvm
  have hz_5 : x_1 = 0 := hw_1
  refine lv_if_eq (tgt := 28) hx hb dX4_weightLeft_8 (by decide) (fun c_2 => ?_) (fun c_2 => ?_)
  · refine lv_aload_n hx hb dX4_weightLeft_28 rfl (lv_at hl 0 rfl) ?_
    refine lv_aload_n hx hb dX4_weightLeft_29 rfl (lv_at hl 0 rfl) ?_
    refine va_get (D := (dC, dI)) (ci := 4) (v := .int 0) (C := RX4) (T := TX4) (N := 8) hx hb hts inX4 hown hK hP 0 rfl rfl 6 (by decide) (hts _ (gw kw_51 rfl)) (fun _ h9 => h9) rfl dX4_weightLeft_30 ?_
    have hPc := hP.sub (ws' := [(h1, .inr (4, [.ref ek, .ref ef, .ref ew, .ref ep, .ref es, .int 0, .int 0, .int dn]))]) [0] rfl
    have hDc := hD.sub (ws' := [(h1, .inr (4, [.ref ek, .ref ef, .ref ew, .ref ep, .ref es, .int 0, .int 0, .int dn]))]) [0] (by decide) rfl
    have hFc := va_free (wc := [(h1, .inr (4, [.ref ek, .ref ef, .ref ew, .ref ep, .ref es, .int 0, .int 0, .int dn]))]) hD hS hA [0] rfl
    refine va_calli (va_runV (As := [.int 0]) (rest := []) ⟨hx, hb, hml, hown, hts⟩ (c_X4_weightFrom_0 l dC dI aC H.size h1 ek ef ew ep es 0 dn ) ⟨(callB_of 1 hts (gG kw_465) rfl rfl rfl (hts _ (gw kw_2 rfl)) (hts _ (gw kw_482 rfl)) (by decide +kernel) ⟨Nat.le_of_ble_eq_true rfl, Nat.le_of_ble_eq_true rfl⟩), (hts _ (gw kw_463 rfl)), (hts _ (gw kw_464 rfl))⟩ ⟨fun a U g mk q => by obtain ⟨q0, q1, qP, qK, qD, qN⟩ := q; exact ⟨q0, q1, qP, va_K.moved (u := U) (U := U.calling g mk a) (Vm.Alike.refl U.vm) qK, qD, NX.same (u := U) (U := U.calling g mk a) rfl qN⟩, va_recv hK hPc (ci := 4) (q0 := 0) rfl rfl, fun U hU hW => ⟨rfl, by rw [hU], by rw [hU]; exact hPc, va_K.moved hW.alike hK, hDc.weaken (fun _ _ _ _ => trivial), NX.warm hW hN⟩⟩ rfl rfl hl.1 rfl (lv_room (Nat.le_of_ble_eq_true rfl)) dX4_weightLeft_33 ⟨Nat.le_of_ble_eq_true rfl, Nat.le_of_ble_eq_true rfl⟩) hS (fun q _ h => hFc q h) hFc (fun x_3 u t H1 locs ht hvm hw_3 hB hz1 hk1 hS => ?_)
    obtain ⟨hP1, hK1, hD1⟩ := hB
    rw [ht] at hP1
    clear hK1
    try dsimp only at hw_3
    obtain ⟨hP, hD⟩ := va_join (wr := []) (w1 := [(h1, .inr (4, [.ref ek, .ref ef, .ref ew, .ref ep, .ref es, .int 0, .int 0, .int dn]))]) hP hD [0] [] rfl rfl (by decide) (by decide) hk1 hFc hP1 hD1
    generalize H1 = H at hP hS ⊢
    have hP : va_P (dC, dI) classes [(h1, .inr (4, [.ref ek, .ref ef, .ref ew, .ref ep, .ref es, .int 0, .int 0, .int dn]))] H := hP
    have hD : va_D A [(h1, .inr (4, [.ref ek, .ref ef, .ref ew, .ref ep, .ref es, .int 0, .int 0, .int dn]))] := hD
    clear hPc hDc hFc hz1 hk1 hP1 hD1 ht hvm
    have hv9 := hw_3
    have hP9 := hP.sub (ws' := [(h1, .inr (4, [.ref ek, .ref ef, .ref ew, .ref ep, .ref es, .int 0, .int 0, .int dn]))]) [0] rfl
    have hD9 := hD.sub (ws' := [(h1, .inr (4, [.ref ek, .ref ef, .ref ew, .ref ep, .ref es, .int 0, .int 0, .int dn]))]) [0] (by decide) rfl
    refine W.widen (k := 0) (n := 0) (by omega) (by omega) ?_
    exact W.iret (v := x_3) hx hb hr (fun t ht hW => ⟨⟨x_3, (), rfl, hv9, by rw [ht]; exact hP9, va_K.moved hW.alike hK, hD9⟩, hS.F ht⟩) hS.2.2 dX4_weightLeft_36
  · exact absurd hz_5 c_2

set_option maxHeartbeats 4000000 in
set_option maxRecDepth 100000 in
/-- X11_count_0 -/
theorem c_X11_count_0 (l : Launch) (dC : Nat → ClassId) (dI : Nat → Nat → Nat) (aC : Nat → ClassId) (sz : Nat) (h0 : Nat) (xp : Nat) (xtp : Nat) (xn : Nat) (xt : Nat) (xk : Nat) (xl : Nat) (xc : Nat) (xo : Nat) (xto : Nat) (xr : Nat) (xch : Nat) (ik : Int32) (st : Int32) (ek : Nat) (ef : Nat) (ew : Nat) (ep : Nat) (es : Nat) (rf : Nat → Int32) (lsg : Nat) (w : Int32)  : Met l yX11_count (wW yX11_count cX11_count 2 (some .int)) ({ frames := 3, cells := 0, slots := 0, locals := 56 } : Room) (va_Pc [.ref h0, .int w] (fun U => U.heap.size = sz ∧ va_P (dC, dI) classes [(h0, .inr (11, [.ref xp, .ref xtp, .ref xn, .ref xt, .ref xk, .ref xl, .ref xc, .ref xo, .ref xto, .ref xr, .ref xch, .int 0, .int ik, .int st])), (xn, .inr (4, [.ref ek, .ref ef, .ref ew, .ref ep, .ref es, .int 0, .int 0, .int 0])), (xl, .inr (7, [.int 0, .ref lsg])), (xr, .inl (aC 0, 7, .inl rf))] U.heap ∧ va_K (dC, dI) classes (TY aC) U ∧ va_D (fun _ => True) [(h0, .inr (11, [.ref xp, .ref xtp, .ref xn, .ref xt, .ref xk, .ref xl, .ref xc, .ref xo, .ref xto, .ref xr, .ref xch, .int 0, .int ik, .int st])), (xn, .inr (4, [.ref ek, .ref ef, .ref ew, .ref ep, .ref es, .int 0, .int 0, .int 0])), (xl, .inr (7, [.int 0, .ref lsg])), (xr, .inl (aC 0, 7, .inl rf))] ∧ NX U)) (va_Qi (fun (r : Int32) (_ : Unit) => r = cntX rf w) (fun (_ : Unit) (t : State) => va_P (dC, dI) classes [] t.heap ∧ va_K (dC, dI) classes (TY aC) t ∧ va_D (va_A [(h0, .inr (11, [.ref xp, .ref xtp, .ref xn, .ref xt, .ref xk, .ref xl, .ref xc, .ref xo, .ref xto, .ref xr, .ref xch, .int 0, .int ik, .int st])), (xn, .inr (4, [.ref ek, .ref ef, .ref ew, .ref ep, .ref es, .int 0, .int 0, .int 0])), (xl, .inr (7, [.int 0, .ref lsg])), (xr, .inl (aC 0, 7, .inl rf))] sz) []) (va_A [(h0, .inr (11, [.ref xp, .ref xtp, .ref xn, .ref xt, .ref xk, .ref xl, .ref xc, .ref xo, .ref xto, .ref xr, .ref xch, .int 0, .int ik, .int st])), (xn, .inr (4, [.ref ek, .ref ef, .ref ew, .ref ep, .ref es, .int 0, .int 0, .int 0])), (xl, .inr (7, [.int 0, .ref lsg])), (xr, .inl (aC 0, 7, .inl rf))] sz)) 0 0 (va_A [(h0, .inr (11, [.ref xp, .ref xtp, .ref xn, .ref xt, .ref xk, .ref xl, .ref xc, .ref xo, .ref xto, .ref xr, .ref xch, .int 0, .int ik, .int st])), (xn, .inr (4, [.ref ek, .ref ef, .ref ew, .ref ep, .ref es, .int 0, .int 0, .int 0])), (xl, .inr (7, [.int 0, .ref lsg])), (xr, .inl (aC 0, 7, .inl rf))] sz) := by
  refine Met.ofW (cc := cX11_count) (maxL := 2) (ret := (some .int)) (by decide) rfl ?_
  intro p e s m args below meth c s₁ B hml hv
  obtain ⟨rfl, hsz, hP, hK, hD0, hN⟩ := hv
  have hx := B.exec
  have hb := B.bytes
  have hr := B.returns
  have hts0 := atoms_spec (ws := (wW yX11_count cX11_count 2 (some .int))) B.pre
  have hts : ∀ w9 ∈ lw_G, w9.before ([.ref h0, .int w] : List Value).toArray s = true := fun w9 h9 => hts0 w9 (List.mem_cons_of_mem _ h9)
  have hown : s.vm.findClass RX11 = some m.cls := findClass_of_methodNamed B.named
  have hlocks := B.notSynchronized
  subst hsz
  have hD := hD0.self (sz := s.heap.size)
  generalize hAe : va_A [(h0, .inr (11, [.ref xp, .ref xtp, .ref xn, .ref xt, .ref xk, .ref xl, .ref xc, .ref xo, .ref xto, .ref xr, .ref xch, .int 0, .int ik, .int st])), (xn, .inr (4, [.ref ek, .ref ef, .ref ew, .ref ep, .ref es, .int 0, .int 0, .int 0])), (xl, .inr (7, [.int 0, .ref lsg])), (xr, .inl (aC 0, 7, .inl rf))] s.heap.size = A at hD ⊢
  have hA : ∀ q : Nat, s.heap.size ≤ q → A q := fun q h => by rw [← hAe]; exact Or.inr h
  obtain ⟨H, hHe⟩ : ∃ H : Heap, H = s.heap := ⟨_, rfl⟩
  have hS : va_S A s.heap H [] := by rw [hHe]; exact va_S.rf
  have hP : va_P (dC, dI) classes [(h0, .inr (11, [.ref xp, .ref xtp, .ref xn, .ref xt, .ref xk, .ref xl, .ref xc, .ref xo, .ref xto, .ref xr, .ref xch, .int 0, .int ik, .int st])), (xn, .inr (4, [.ref ek, .ref ef, .ref ew, .ref ep, .ref es, .int 0, .int 0, .int 0])), (xl, .inr (7, [.int 0, .ref lsg])), (xr, .inl (aC 0, 7, .inl rf))] H := by rw [hHe]; exact hP
  have hl := lv_entry ([.ref h0, .int w]) (n := 2) (Nat.le_of_ble_eq_true rfl)
  rw [lg_entry_eq]
  generalize (lg_sl ([.ref h0, .int w]) ++ List.replicate (2 - (lg_sl ([.ref h0, .int w])).length) Slot.unset).toArray = ls at hl ⊢
  have hl : lv_has ls 2 [(0, .ref h0), (1, .int w)] := hl
  rw [← hHe]
  refine lv_iload_n hx hb dX11_count_0 rfl (lv_at hl 1 rfl) ?_
  by_cases c_1 : w = 0
  · refine lv_tableIn (tgt := 44) hx hb dX11_count_1 (by rw [c_1]; decide) (by rw [c_1]; decide) (by rw [c_1]; rfl) (by decide) ?_
    refine lv_aload_n hx hb dX11_count_44 rfl (lv_at hl 0 rfl) ?_
    refine va_get (D := (dC, dI)) (ci := 11) (v := .ref xn) (C := RX11) (T := TX11) (N := 14) hx hb hts inX11 hown hK hP 0 rfl rfl 2 (by decide) (hts _ (gw kw_228 rfl)) (fun _ h9 => h9) rfl dX11_count_45 ?_
    refine va_get (D := (dC, dI)) (ci := 4) (v := .int 0) (C := RX4) (T := TX4) (N := 8) hx hb hts inX4 hown hK hP 1 rfl rfl 5 (by decide) (hts _ (gw kw_50 rfl)) (fun _ h9 => h9) rfl dX11_count_48 ?_
    have hP9 := hP.sub (ws' := []) [] rfl
    have hD9 := hD.sub (ws' := []) [] (by decide) rfl
    refine W.widen (k := 0) (n := 0) (by omega) (by omega) ?_
    exact W.iret (v := 0) hx hb hr (fun t ht hW => ⟨⟨0, (), rfl, by unfold cntX; simp [c_1], by rw [ht]; exact hP9, va_K.moved hW.alike hK, hD9⟩, hS.F ht⟩) hS.2.2 dX11_count_51
  by_cases c_2 : w = 1
  · refine lv_tableIn (tgt := 52) hx hb dX11_count_1 (by rw [c_2]; decide) (by rw [c_2]; decide) (by rw [c_2]; rfl) (by decide) ?_
    refine lv_aload_n hx hb dX11_count_52 rfl (lv_at hl 0 rfl) ?_
    refine va_get (D := (dC, dI)) (ci := 11) (v := .ref xn) (C := RX11) (T := TX11) (N := 14) hx hb hts inX11 hown hK hP 0 rfl rfl 2 (by decide) (hts _ (gw kw_228 rfl)) (fun _ h9 => h9) rfl dX11_count_53 ?_
    refine va_get (D := (dC, dI)) (ci := 4) (v := .int 0) (C := RX4) (T := TX4) (N := 8) hx hb hts inX4 hown hK hP 1 rfl rfl 6 (by decide) (hts _ (gw kw_52 rfl)) (fun _ h9 => h9) rfl dX11_count_56 ?_
    have hP9 := hP.sub (ws' := []) [] rfl
    have hD9 := hD.sub (ws' := []) [] (by decide) rfl
    refine W.widen (k := 0) (n := 0) (by omega) (by omega) ?_
    exact W.iret (v := 0) hx hb hr (fun t ht hW => ⟨⟨0, (), rfl, by unfold cntX; simp [c_1, c_2], by rw [ht]; exact hP9, va_K.moved hW.alike hK, hD9⟩, hS.F ht⟩) hS.2.2 dX11_count_59
  by_cases c_3 : w = 2
  · refine lv_tableIn (tgt := 60) hx hb dX11_count_1 (by rw [c_3]; decide) (by rw [c_3]; decide) (by rw [c_3]; rfl) (by decide) ?_
    refine lv_aload_n hx hb dX11_count_60 rfl (lv_at hl 0 rfl) ?_
    refine va_get (D := (dC, dI)) (ci := 11) (v := .ref xn) (C := RX11) (T := TX11) (N := 14) hx hb hts inX11 hown hK hP 0 rfl rfl 2 (by decide) (hts _ (gw kw_228 rfl)) (fun _ h9 => h9) rfl dX11_count_61 ?_
    refine va_get (D := (dC, dI)) (ci := 4) (v := .int 0) (C := RX4) (T := TX4) (N := 8) hx hb hts inX4 hown hK hP 1 rfl rfl 7 (by decide) (hts _ (gw kw_55 rfl)) (fun _ h9 => h9) rfl dX11_count_64 ?_
    refine lv_if_eq (tgt := 74) hx hb dX11_count_67 (by decide) (fun c_4 => ?_) (fun c_4 => ?_)
    · refine lv_iconst (v := 0) hx hb dX11_count_74 (by decide) ?_
      have hP9 := hP.sub (ws' := []) [] rfl
      have hD9 := hD.sub (ws' := []) [] (by decide) rfl
      refine W.widen (k := 0) (n := 0) (by omega) (by omega) ?_
      exact W.iret (v := 0) hx hb hr (fun t ht hW => ⟨⟨0, (), rfl, by unfold cntX; simp [c_1, c_2, c_3, c_4], by rw [ht]; exact hP9, va_K.moved hW.alike hK, hD9⟩, hS.F ht⟩) hS.2.2 dX11_count_75
    · exact absurd rfl c_4
  by_cases c_5 : w = 3
  · refine lv_tableIn (tgt := 76) hx hb dX11_count_1 (by rw [c_5]; decide) (by rw [c_5]; decide) (by rw [c_5]; rfl) (by decide) ?_
    refine lv_aload_n hx hb dX11_count_76 rfl (lv_at hl 0 rfl) ?_
    refine va_get (D := (dC, dI)) (ci := 11) (v := .ref xn) (C := RX11) (T := TX11) (N := 14) hx hb hts inX11 hown hK hP 0 rfl rfl 2 (by decide) (hts _ (gw kw_228 rfl)) (fun _ h9 => h9) rfl dX11_count_77 ?_
    have hPc := hP.sub (ws' := [(xn, .inr (4, [.ref ek, .ref ef, .ref ew, .ref ep, .ref es, .int 0, .int 0, .int 0]))]) [1] rfl
    have hDc := hD.sub (ws' := [(xn, .inr (4, [.ref ek, .ref ef, .ref ew, .ref ep, .ref es, .int 0, .int 0, .int 0]))]) [1] (by decide) rfl
    have hFc := va_free (wc := [(xn, .inr (4, [.ref ek, .ref ef, .ref ew, .ref ep, .ref es, .int 0, .int 0, .int 0]))]) hD hS hA [1] rfl
    refine va_calli (va_runV (As := []) (rest := []) ⟨hx, hb, hml, hown, hts⟩ (c_X4_weightLeft_0 l dC dI aC H.size xn ek ef ew ep es 0 ) ⟨(callB_of 0 hts (gG kw_705) rfl rfl rfl (hts _ (gw kw_2 rfl)) (hts _ (gw kw_702 rfl)) (by decide +kernel) ⟨Nat.le_of_ble_eq_true rfl, Nat.le_of_ble_eq_true rfl⟩), (hts _ (gw kw_703 rfl)), (hts _ (gw kw_704 rfl))⟩ ⟨fun a U g mk q => by obtain ⟨q0, q1, qP, qK, qD, qN⟩ := q; exact ⟨q0, q1, qP, va_K.moved (u := U) (U := U.calling g mk a) (Vm.Alike.refl U.vm) qK, qD, NX.same (u := U) (U := U.calling g mk a) rfl qN⟩, va_recv hK hPc (ci := 4) (q0 := 0) rfl rfl, fun U hU hW => ⟨rfl, by rw [hU], by rw [hU]; exact hPc, va_K.moved hW.alike hK, hDc.weaken (fun _ _ _ _ => trivial), NX.warm hW hN⟩⟩ rfl rfl hl.1 rfl (lv_room (Nat.le_of_ble_eq_true rfl)) dX11_count_80 ⟨Nat.le_of_ble_eq_true rfl, Nat.le_of_ble_eq_true rfl⟩) hS (fun q _ h => hFc q h) hFc (fun x_6 u t H1 locs ht hvm hw_6 hB hz1 hk1 hS => ?_)
    obtain ⟨hP1, hK1, hD1⟩ := hB
    rw [ht] at hP1
    clear hK1
    try dsimp only at hw_6
    obtain ⟨hP, hD⟩ := va_join (wr := [(h0, .inr (11, [.ref xp, .ref xtp, .ref xn, .ref xt, .ref xk, .ref xl, .ref xc, .ref xo, .ref xto, .ref xr, .ref xch, .int 0, .int ik, .int st])), (xl, .inr (7, [.int 0, .ref lsg])), (xr, .inl (aC 0, 7, .inl rf))]) (w1 := [(xn, .inr (4, [.ref ek, .ref ef, .ref ew, .ref ep, .ref es, .int 0, .int 0, .int 0]))]) hP hD [1] [0, 2, 3] rfl rfl (by decide) (by decide) hk1 hFc hP1 hD1
    generalize H1 = H at hP hS ⊢
    have hP : va_P (dC, dI) classes [(h0, .inr (11, [.ref xp, .ref xtp, .ref xn, .ref xt, .ref xk, .ref xl, .ref xc, .ref xo, .ref xto, .ref xr, .ref xch, .int 0, .int ik, .int st])), (xl, .inr (7, [.int 0, .ref lsg])), (xr, .inl (aC 0, 7, .inl rf)), (xn, .inr (4, [.ref ek, .ref ef, .ref ew, .ref ep, .ref es, .int 0, .int 0, .int 0]))] H := hP
    have hD : va_D A [(h0, .inr (11, [.ref xp, .ref xtp, .ref xn, .ref xt, .ref xk, .ref xl, .ref xc, .ref xo, .ref xto, .ref xr, .ref xch, .int 0, .int ik, .int st])), (xl, .inr (7, [.int 0, .ref lsg])), (xr, .inl (aC 0, 7, .inl rf)), (xn, .inr (4, [.ref ek, .ref ef, .ref ew, .ref ep, .ref es, .int 0, .int 0, .int 0]))] := hD
    clear hPc hDc hFc hz1 hk1 hP1 hD1 ht hvm
    have hv9 := hw_6
    have hP9 := hP.sub (ws' := []) [] rfl
    have hD9 := hD.sub (ws' := []) [] (by decide) rfl
    refine W.widen (k := 0) (n := 0) (by omega) (by omega) ?_
    exact W.iret (v := x_6) hx hb hr (fun t ht hW => ⟨⟨x_6, (), rfl, by rw [hv9]; unfold cntX; simp [c_1, c_2, c_3, c_5], by rw [ht]; exact hP9, va_K.moved hW.alike hK, hD9⟩, hS.F ht⟩) hS.2.2 dX11_count_83
  by_cases c_7 : w = 4
  · refine lv_tableIn (tgt := 84) hx hb dX11_count_1 (by rw [c_7]; decide) (by rw [c_7]; decide) (by rw [c_7]; rfl) (by decide) ?_
    refine lv_aload_n hx hb dX11_count_84 rfl (lv_at hl 0 rfl) ?_
    refine va_get (D := (dC, dI)) (ci := 11) (v := .ref xl) (C := RX11) (T := TX11) (N := 14) hx hb hts inX11 hown hK hP 0 rfl rfl 5 (by decide) (hts _ (gw kw_231 rfl)) (fun _ h9 => h9) rfl dX11_count_85 ?_
    refine va_get (D := (dC, dI)) (ci := 7) (v := .int 0) (C := RX7) (T := TX7) (N := 2) hx hb hts inX7 hown hK hP 2 rfl rfl 0 (by decide) (hts _ (gw kw_81 rfl)) (fun _ h9 => h9) rfl dX11_count_88 ?_
    have hP9 := hP.sub (ws' := []) [] rfl
    have hD9 := hD.sub (ws' := []) [] (by decide) rfl
    refine W.widen (k := 0) (n := 0) (by omega) (by omega) ?_
    exact W.iret (v := 0) hx hb hr (fun t ht hW => ⟨⟨0, (), rfl, by unfold cntX; simp [c_1, c_2, c_3, c_5, c_7], by rw [ht]; exact hP9, va_K.moved hW.alike hK, hD9⟩, hS.F ht⟩) hS.2.2 dX11_count_91
  by_cases c_8 : w = 5
  · refine lv_tableIn (tgt := 92) hx hb dX11_count_1 (by rw [c_8]; decide) (by rw [c_8]; decide) (by rw [c_8]; rfl) (by decide) ?_
    refine lv_aload_n hx hb dX11_count_92 rfl (lv_at hl 0 rfl) ?_
    refine va_get (D := (dC, dI)) (ci := 11) (v := .int 0) (C := RX11) (T := TX11) (N := 14) hx hb hts inX11 hown hK hP 0 rfl rfl 11 (by decide) (hts _ (gw kw_237 rfl)) (fun _ h9 => h9) rfl dX11_count_93 ?_
    have hP9 := hP.sub (ws' := []) [] rfl
    have hD9 := hD.sub (ws' := []) [] (by decide) rfl
    refine W.widen (k := 0) (n := 0) (by omega) (by omega) ?_
    exact W.iret (v := 0) hx hb hr (fun t ht hW => ⟨⟨0, (), rfl, by unfold cntX; simp [c_1, c_2, c_3, c_5, c_7, c_8], by rw [ht]; exact hP9, va_K.moved hW.alike hK, hD9⟩, hS.F ht⟩) hS.2.2 dX11_count_96
  by_cases c_9 : w = 6
  · refine lv_tableIn (tgt := 97) hx hb dX11_count_1 (by rw [c_9]; decide) (by rw [c_9]; decide) (by rw [c_9]; rfl) (by decide) ?_
    refine lv_aload_n hx hb dX11_count_97 rfl (lv_at hl 0 rfl) ?_
    refine va_get (D := (dC, dI)) (ci := 11) (v := .ref xn) (C := RX11) (T := TX11) (N := 14) hx hb hts inX11 hown hK hP 0 rfl rfl 2 (by decide) (hts _ (gw kw_228 rfl)) (fun _ h9 => h9) rfl dX11_count_98 ?_
    have hPc := hP.sub (ws' := [(xn, .inr (4, [.ref ek, .ref ef, .ref ew, .ref ep, .ref es, .int 0, .int 0, .int 0]))]) [1] rfl
    have hDc := hD.sub (ws' := [(xn, .inr (4, [.ref ek, .ref ef, .ref ew, .ref ep, .ref es, .int 0, .int 0, .int 0]))]) [1] (by decide) rfl
    have hFc := va_free (wc := [(xn, .inr (4, [.ref ek, .ref ef, .ref ew, .ref ep, .ref es, .int 0, .int 0, .int 0]))]) hD hS hA [1] rfl
    refine va_calli (va_runV (As := []) (rest := []) ⟨hx, hb, hml, hown, hts⟩ (c_X4_isOver l dC dI aC H.size xn ek ef ew ep es 0 0 0 ) ⟨(callB_of 0 hts (gG kw_523) rfl rfl rfl (hts _ (gw kw_2 rfl)) (hts _ (gw kw_520 rfl)) (by decide +kernel) ⟨Nat.le_of_ble_eq_true rfl, Nat.le_of_ble_eq_true rfl⟩), (hts _ (gw kw_521 rfl)), (hts _ (gw kw_522 rfl))⟩ ⟨fun a U g mk q => by obtain ⟨q0, q1, qP, qK, qD, qN⟩ := q; exact ⟨q0, q1, qP, va_K.moved (u := U) (U := U.calling g mk a) (Vm.Alike.refl U.vm) qK, qD, NX.same (u := U) (U := U.calling g mk a) rfl qN⟩, va_recv hK hPc (ci := 4) (q0 := 0) rfl rfl, fun U hU hW => ⟨rfl, by rw [hU], by rw [hU]; exact hPc, va_K.moved hW.alike hK, hDc.weaken (fun _ _ _ _ => trivial), NX.warm hW hN⟩⟩ rfl rfl hl.1 rfl (lv_room (Nat.le_of_ble_eq_true rfl)) dX11_count_101 ⟨Nat.le_of_ble_eq_true rfl, Nat.le_of_ble_eq_true rfl⟩) hS (fun q _ h => hFc q h) hFc (fun x_10 u t H1 locs ht hvm hw_10 hB hz1 hk1 hS => ?_)
    obtain ⟨hP1, hK1, hD1⟩ := hB
    rw [ht] at hP1
    clear hK1
    try dsimp only at hw_10
    obtain ⟨hP, hD⟩ := va_join (wr := [(h0, .inr (11, [.ref xp, .ref xtp, .ref xn, .ref xt, .ref xk, .ref xl, .ref xc, .ref xo, .ref xto, .ref xr, .ref xch, .int 0, .int ik, .int st])), (xl, .inr (7, [.int 0, .ref lsg])), (xr, .inl (aC 0, 7, .inl rf))]) (w1 := [(xn, .inr (4, [.ref ek, .ref ef, .ref ew, .ref ep, .ref es, .int 0, .int 0, .int 0]))]) hP hD [1] [0, 2, 3] rfl rfl (by decide) (by decide) hk1 hFc hP1 hD1
    generalize H1 = H at hP hS ⊢
    have hP : va_P (dC, dI) classes [(h0, .inr (11, [.ref xp, .ref xtp, .ref xn, .ref xt, .ref xk, .ref xl, .ref xc, .ref xo, .ref xto, .ref xr, .ref xch, .int 0, .int ik, .int st])), (xl, .inr (7, [.int 0, .ref lsg])), (xr, .inl (aC 0, 7, .inl rf)), (xn, .inr (4, [.ref ek, .ref ef, .ref ew, .ref ep, .ref es, .int 0, .int 0, .int 0]))] H := hP
    have hD : va_D A [(h0, .inr (11, [.ref xp, .ref xtp, .ref xn, .ref xt, .ref xk, .ref xl, .ref xc, .ref xo, .ref xto, .ref xr, .ref xch, .int 0, .int ik, .int st])), (xl, .inr (7, [.int 0, .ref lsg])), (xr, .inl (aC 0, 7, .inl rf)), (xn, .inr (4, [.ref ek, .ref ef, .ref ew, .ref ep, .ref es, .int 0, .int 0, .int 0]))] := hD
    clear hPc hDc hFc hz1 hk1 hP1 hD1 ht hvm
    have hz_101 : x_10 = 1 := hw_10
    refine lv_if_eq (tgt := 111) hx hb dX11_count_104 (by decide) (fun c_11 => ?_) (fun c_11 => ?_)
    · exact absurd c_11 (by rw [hz_101]; decide)
    · refine lv_iconst (v := 0) hx hb dX11_count_107 (by decide) ?_
      refine lv_goto (tgt := 134) hx hb dX11_count_108 (by decide) ?_
      have hP9 := hP.sub (ws' := []) [] rfl
      have hD9 := hD.sub (ws' := []) [] (by decide) rfl
      refine W.widen (k := 0) (n := 0) (by omega) (by omega) ?_
      exact W.iret (v := 0) hx hb hr (fun t ht hW => ⟨⟨0, (), rfl, by unfold cntX; simp [c_1, c_2, c_3, c_5, c_7, c_8, c_9, c_11], by rw [ht]; exact hP9, va_K.moved hW.alike hK, hD9⟩, hS.F ht⟩) hS.2.2 dX11_count_134
  refine lv_tableOut (tgt := 135) hx hb dX11_count_1 (sw_out7 c_1 c_2 c_3 c_5 c_7 c_8 c_9) (by decide) ?_
  refine lv_aload_n hx hb dX11_count_135 rfl (lv_at hl 0 rfl) ?_
  refine lv_iload_n hx hb dX11_count_136 rfl (lv_at hl 1 rfl) ?_
  refine lv_bipush (v := 10) hx hb dX11_count_137 (by decide) ?_
  refine lv_isub hx hb dX11_count_139 ?_
  refine lv_topi (fun x_12 e_12 => ?_)
  have hPc := hP.sub (ws' := [(h0, .inr (11, [.ref xp, .ref xtp, .ref xn, .ref xt, .ref xk, .ref xl, .ref xc, .ref xo, .ref xto, .ref xr, .ref xch, .int 0, .int ik, .int st])), (xr, .inl (aC 0, 7, .inl rf))]) [0, 3] rfl
  have hDc := hD.sub (ws' := [(h0, .inr (11, [.ref xp, .ref xtp, .ref xn, .ref xt, .ref xk, .ref xl, .ref xc, .ref xo, .ref xto, .ref xr, .ref xch, .int 0, .int ik, .int st])), (xr, .inl (aC 0, 7, .inl rf))]) [0, 3] (by decide) rfl
  have hFc := va_free (wc := [(h0, .inr (11, [.ref xp, .ref xtp, .ref xn, .ref xt, .ref xk, .ref xl, .ref xc, .ref xo, .ref xto, .ref xr, .ref xch, .int 0, .int ik, .int st])), (xr, .inl (aC 0, 7, .inl rf))]) hD hS hA [0, 3] rfl
  refine va_calli (va_runV (As := [.int x_12]) (rest := []) ⟨hx, hb, hml, hown, hts⟩ (c_X11_countRefusals l dC dI aC H.size h0 xp xtp xn xt xk xl xc xo xto xr xch 0 ik st rf x_12 ) ⟨(callB_of 1 hts (gG kw_710) rfl rfl rfl (hts _ (gw kw_1 rfl)) (hts _ (gw kw_707 rfl)) (by decide +kernel) ⟨Nat.le_of_ble_eq_true rfl, Nat.le_of_ble_eq_true rfl⟩), (hts _ (gw kw_709 rfl)), (hts _ (gw ks_34 rfl))⟩ ⟨fun a U g mk q => by obtain ⟨q0, q1, qP, qK, qD, qN⟩ := q; exact ⟨q0, q1, qP, va_K.moved (u := U) (U := U.calling g mk a) (Vm.Alike.refl U.vm) qK, qD, NX.same (u := U) (U := U.calling g mk a) rfl qN⟩, va_recv hK hPc (ci := 11) (q0 := 0) rfl rfl, fun U hU hW => ⟨rfl, by rw [hU], by rw [hU]; exact hPc, va_K.moved hW.alike hK, hDc.weaken (fun _ _ _ _ => trivial), NX.warm hW hN⟩⟩ rfl rfl hl.1 rfl (lv_room (Nat.le_of_ble_eq_true rfl)) dX11_count_140 ⟨Nat.le_of_ble_eq_true rfl, Nat.le_of_ble_eq_true rfl⟩) hS (fun q _ h => hFc q h) hFc (fun x_13 u t H1 locs ht hvm hw_13 hB hz1 hk1 hS => ?_)
  obtain ⟨hP1, hK1, hD1⟩ := hB
  rw [ht] at hP1
  clear hK1
  try dsimp only at hw_13
  obtain ⟨hP, hD⟩ := va_join (wr := [(xn, .inr (4, [.ref ek, .ref ef, .ref ew, .ref ep, .ref es, .int 0, .int 0, .int 0])), (xl, .inr (7, [.int 0, .ref lsg]))]) (w1 := [(h0, .inr (11, [.ref xp, .ref xtp, .ref xn, .ref xt, .ref xk, .ref xl, .ref xc, .ref xo, .ref xto, .ref xr, .ref xch, .int 0, .int ik, .int st])), (xr, .inl (aC 0, 7, .inl rf))]) hP hD [0, 3] [1, 2] rfl rfl (by decide) (by decide) hk1 hFc hP1 hD1
  generalize H1 = H at hP hS ⊢
  have hP : va_P (dC, dI) classes [(xn, .inr (4, [.ref ek, .ref ef, .ref ew, .ref ep, .ref es, .int 0, .int 0, .int 0])), (xl, .inr (7, [.int 0, .ref lsg])), (h0, .inr (11, [.ref xp, .ref xtp, .ref xn, .ref xt, .ref xk, .ref xl, .ref xc, .ref xo, .ref xto, .ref xr, .ref xch, .int 0, .int ik, .int st])), (xr, .inl (aC 0, 7, .inl rf))] H := hP
  have hD : va_D A [(xn, .inr (4, [.ref ek, .ref ef, .ref ew, .ref ep, .ref es, .int 0, .int 0, .int 0])), (xl, .inr (7, [.int 0, .ref lsg])), (h0, .inr (11, [.ref xp, .ref xtp, .ref xn, .ref xt, .ref xk, .ref xl, .ref xc, .ref xo, .ref xto, .ref xr, .ref xch, .int 0, .int ik, .int st])), (xr, .inl (aC 0, 7, .inl rf))] := hD
  clear hPc hDc hFc hz1 hk1 hP1 hD1 ht hvm
  have hv9 := hw_13
  have hP9 := hP.sub (ws' := []) [] rfl
  have hD9 := hD.sub (ws' := []) [] (by decide) rfl
  refine W.widen (k := 0) (n := 0) (by omega) (by omega) ?_
  exact W.iret (v := x_13) hx hb hr (fun t ht hW => ⟨⟨x_13, (), rfl, by rw [hv9, e_12]; unfold cntX; simp [c_1, c_2, c_3, c_5, c_7, c_8, c_9], by rw [ht]; exact hP9, va_K.moved hW.alike hK, hD9⟩, hS.F ht⟩) hS.2.2 dX11_count_143
