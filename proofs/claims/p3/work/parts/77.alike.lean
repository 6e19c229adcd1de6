theorem mn60 {n : Nat} (h : n ≤ 60) : (if (60 : Int32) < nI n then 60 else nI n) = nI n := if_neg (fun q => absurd ((nI_ltI (a := 60) (b := n) (by omega) (by omega)).mp q) (by omega))

set_option maxHeartbeats 1000000 in
set_option maxRecDepth 100000 in
/-- J7_fill_i -/
theorem c_J7_fill_i (l : Launch) (dC : Nat → ClassId) (dI : Nat → Nat → Nat) (aC : Nat → ClassId) (sz : Nat) (oa : Nat) (nA : Nat) (f : Nat → Int32) (v : Int32) (hn : nA < 2 ^ 31) : Met l yJ7_fill_53178 (wW yJ7_fill_53178 cJ7_fill_53178 4 (none : Option FieldType)) ({ frames := 0, cells := 0, slots := 0, locals := 0 } : Room) (va_Pc [.ref oa, .int v] (fun U => U.heap.size = sz ∧ va_P (dC, dI) classes [(oa, .inl (aC 0, nA, .inl f))] U.heap ∧ va_K (dC, dI) classes (TY aC) U ∧ va_D (fun _ => True) [(oa, .inl (aC 0, nA, .inl f))] ∧ NX U)) (va_Qv (fun (f2 : Nat → Int32) => True) (fun (f2 : Nat → Int32) (t : State) => va_P (dC, dI) classes [(oa, .inl (aC 0, nA, .inl f2))] t.heap ∧ va_K (dC, dI) classes (TY aC) t ∧ va_D (va_A [(oa, .inl (aC 0, nA, .inl f))] sz) [(oa, .inl (aC 0, nA, .inl f2))]) (va_A [(oa, .inl (aC 0, nA, .inl f))] sz)) 0 0 (va_A [(oa, .inl (aC 0, nA, .inl f))] sz) := by
  refine Met.ofW (cc := cJ7_fill_53178) (maxL := 4) (ret := (none : Option FieldType)) (by decide) rfl ?_
  intro p e s m args below meth c s₁ B hml hv
  obtain ⟨rfl, hsz, hP, hK, hD0, hN⟩ := hv
  have hx := B.exec
  have hb := B.bytes
  have hr := B.returns
  have hts0 := atoms_spec (ws := (wW yJ7_fill_53178 cJ7_fill_53178 4 (none : Option FieldType))) B.pre
  have hts : ∀ w9 ∈ lw_G, w9.before ([.ref oa, .int v] : List Value).toArray s = true := fun w9 h9 => hts0 w9 (List.mem_cons_of_mem _ h9)
  have hown : s.vm.findClass RJ7 = some m.cls := findClass_of_methodNamed B.named
  have hlocks := B.notSynchronized
  subst hsz
  have hD := hD0.self (sz := s.heap.size)
  generalize hAe : va_A [(oa, .inl (aC 0, nA, .inl f))] s.heap.size = A at hD ⊢
  have hA : ∀ q : Nat, s.heap.size ≤ q → A q := fun q h => by rw [← hAe]; exact Or.inr h
  obtain ⟨H, hHe⟩ : ∃ H : Heap, H = s.heap := ⟨_, rfl⟩
  have hS : va_S A s.heap H [] := by rw [hHe]; exact va_S.rf
  have hP : va_P (dC, dI) classes [(oa, .inl (aC 0, nA, .inl f))] H := by rw [hHe]; exact hP
  have hl := lv_entry ([.ref oa, .int v]) (n := 4) (Nat.le_of_ble_eq_true rfl)
  rw [lg_entry_eq]
  generalize (lg_sl ([.ref oa, .int v]) ++ List.replicate (4 - (lg_sl ([.ref oa, .int v])).length) Slot.unset).toArray = ls at hl ⊢
  have hl : lv_has ls 4 [(0, .ref oa), (1, .int v)] := hl
  rw [← hHe]
  refine lv_iconst (v := 0) hx hb dJ7_fill_53178_0 (by decide) ?_
  refine lv_istore_n (lv' := [(2, .int 0), (0, .ref oa), (1, .int v)]) hx hb dJ7_fill_53178_1 rfl hl (by decide) rfl (fun ls hl => ?_)
  refine lv_aload_n hx hb dJ7_fill_53178_2 rfl (lv_at hl 1 rfl) ?_
  refine va_alen (v := Int32.ofNat nA) hx hb hK hP 0 0 rfl rfl rfl dJ7_fill_53178_3 ?_
  refine lv_topi (fun x_1 e_1 => ?_)
  have h9 : x_1 = nI nA := e_1
  subst h9
  refine lv_istore_n (lv' := [(3, .int (nI nA)), (2, .int 0), (0, .ref oa), (1, .int v)]) hx hb dJ7_fill_53178_4 rfl hl (by decide) rfl (fun ls hl => ?_)
  have lp_5 : ∀ (fu : Nat) (k : Nat) (fc : Nat → Int32) (hfu : nA - k < fu) (hk : k ≤ nA) (H : Heap) (locs : List Loc) (ls : Array Slot), va_P (dC, dI) classes [(oa, .inl (aC 0, nA, .inl fc))] H → va_D A [(oa, .inl (aC 0, nA, .inl fc))] → va_S A s.heap H locs → lv_has ls 4 [(0, .ref oa), (1, .int v), (2, .int (nI k)), (3, .int (nI nA))] → W p l e (headSpec (wW yJ7_fill_53178 cJ7_fill_53178 4 (none : Option FieldType)) ({ frames := 0, cells := 0, slots := 0, locals := 0 } : Room)).room s m ([.ref oa, .int v] : List Value).toArray below meth c H locs 0 0 (MQ below (va_Qv (fun (f2 : Nat → Int32) => True) (fun (f2 : Nat → Int32) (t : State) => va_P (dC, dI) classes [(oa, .inl (aC 0, nA, .inl f2))] t.heap ∧ va_K (dC, dI) classes (TY aC) t ∧ va_D A [(oa, .inl (aC 0, nA, .inl f2))]) A) ([.ref oa, .int v] : List Value).toArray s 0 0 A) (F0 m 5 ls []) := by
    intro fu
    induction fu with
    | zero => intro k fc hfu; exact absurd hfu (Nat.not_lt_zero _)
    | succ fu ih_5 =>
      intro k fc hfu hk H locs ls hP hD hS hl
      refine lv_iload_n hx hb dJ7_fill_53178_5 rfl (lv_at hl 2 rfl) ?_
      refine lv_iload_n hx hb dJ7_fill_53178_6 rfl (lv_at hl 3 rfl) ?_
      refine lv_icmp_ge (tgt := 20) hx hb dJ7_fill_53178_7 (by decide) (fun c_2 => ?_) (fun c_2 => ?_)
      · have hP9 := hP.sub (ws' := [(oa, .inl (aC 0, nA, .inl fc))]) [0] rfl
        have hD9 := hD.sub (ws' := [(oa, .inl (aC 0, nA, .inl fc))]) [0] (by decide) rfl
        refine W.widen (k := 0) (n := 0) (by omega) (by omega) ?_
        exact W.vret hx hb hr (fun t ht hW => ⟨⟨(fc), rfl, trivial, by rw [ht]; exact hP9, va_K.moved hW.alike hK, hD9⟩, hS.F ht⟩) hS.2.2 dJ7_fill_53178_20
      · have hlt : k < nA := by
          rcases Nat.lt_or_ge k nA with q | q
          · exact q
          · exact absurd (nI_le q (by omega)) c_2
        refine lv_aload_n hx hb dJ7_fill_53178_10 rfl (lv_at hl 0 rfl) ?_
        refine lv_iload_n hx hb dJ7_fill_53178_11 rfl (lv_at hl 2 rfl) ?_
        refine lv_iload_n hx hb dJ7_fill_53178_12 rfl (lv_at hl 1 rfl) ?_
        have h_3 : vp_in (nI k) nA := vp_in_nI (by omega) (by omega)
        refine va_iast hx hb hK hP hD hS 0 0 rfl rfl h_3 dJ7_fill_53178_13 (fun H locs hP hD hS => ?_)
        obtain ⟨f_4, e_f_4⟩ : ∃ y : Nat → Int32, y = upd fc (nI k : Int32).toNatClampNeg v := ⟨_, rfl⟩
        have hP : va_P (dC, dI) classes [(oa, .inl (aC 0, nA, .inl f_4))] H := by rw [e_f_4]; exact hP
        have hD : va_D A [(oa, .inl (aC 0, nA, .inl f_4))] := by rw [e_f_4]; exact hD
        obtain ⟨x_5, e_5⟩ : ∃ y : Int32, y = (nI k) + 1 := ⟨_, rfl⟩
        refine lv_iinc (v := x_5) (lv' := [(2, .int x_5), (0, .ref oa), (1, .int v), (3, .int (nI nA))]) hx hb dJ7_fill_53178_14 hl (k := 2) rfl (by rw [e_5]; rfl) (by decide) rfl (fun ls hl => ?_)
        have h9 : x_5 = nI (k + 1) := by rw [e_5, nI_1]
        subst h9
        refine lv_goto (tgt := 5) hx hb dJ7_fill_53178_17 (by decide) ?_
        exact ih_5 (k + 1) f_4 (by omega) (by omega) _ _ _ (hP.sub [0] rfl) (hD.sub [0] (by decide) rfl) hS (lv_sub hl [1, 2, 0, 3] rfl)
  exact lp_5 ((nA - 0) + 1) 0 f (Nat.lt_succ_self _) (by omega) _ _ _ (hP.sub [0] rfl) (hD.sub [0] (by decide) rfl) hS (lv_sub hl [2, 3, 1, 0] rfl)

set_option maxHeartbeats 1000000 in
set_option maxRecDepth 100000 in
/-- X0_ask_w -/
theorem c_X0_ask_w (l : Launch) (dC : Nat → ClassId) (dI : Nat → Nat → Nat) (aC : Nat → ClassId) (sz : Nat) (h1 : Nat) (s0 : Int32) (f0 : Int32) (t0 : Int32)  : Met l yX0_ask (wW yX0_ask cX0_ask 5 (some .int)) ({ frames := 0, cells := 0, slots := 0, locals := 0 } : Room) (va_Pc [.ref h1, .int s0, .int f0, .int t0] (fun U => U.heap.size = sz ∧ va_P (dC, dI) classes [] U.heap ∧ va_K (dC, dI) classes (TY aC) U ∧ va_D (fun _ => True) [] ∧ NX U)) (va_Qi (fun (r : Int32) (_ : Unit) => True) (fun (_ : Unit) (t : State) => va_P (dC, dI) classes [] t.heap ∧ va_K (dC, dI) classes (TY aC) t ∧ va_D (va_A [] sz) []) (va_A [] sz)) 0 0 (va_A [] sz) := by
  refine Met.ofW (cc := cX0_ask) (maxL := 5) (ret := (some .int)) (by decide) rfl ?_
  intro p e s m args below meth c s₁ B hml hv
  obtain ⟨rfl, hsz, hP, hK, hD0, hN⟩ := hv
  have hx := B.exec
  have hb := B.bytes
  have hr := B.returns
  have hts0 := atoms_spec (ws := (wW yX0_ask cX0_ask 5 (some .int))) B.pre
  have hts : ∀ w9 ∈ lw_G, w9.before ([.ref h1, .int s0, .int f0, .int t0] : List Value).toArray s = true := fun w9 h9 => hts0 w9 (List.mem_cons_of_mem _ h9)
  have hown : s.vm.findClass RX0 = some m.cls := findClass_of_methodNamed B.named
  have hlocks := B.notSynchronized
  subst hsz
  have hD := hD0.self (sz := s.heap.size)
  generalize hAe : va_A [] s.heap.size = A at hD ⊢
  have hA : ∀ q : Nat, s.heap.size ≤ q → A q := fun q h => by rw [← hAe]; exact Or.inr h
  obtain ⟨H, hHe⟩ : ∃ H : Heap, H = s.heap := ⟨_, rfl⟩
  have hS : va_S A s.heap H [] := by rw [hHe]; exact va_S.rf
  have hP : va_P (dC, dI) classes [] H := by rw [hHe]; exact hP
  have hl := lv_entry ([.ref h1, .int s0, .int f0, .int t0]) (n := 5) (Nat.le_of_ble_eq_true rfl)
  rw [lg_entry_eq]
  generalize (lg_sl ([.ref h1, .int s0, .int f0, .int t0]) ++ List.replicate (5 - (lg_sl ([.ref h1, .int s0, .int f0, .int t0])).length) Slot.unset).toArray = ls at hl ⊢
  have hl : lv_has ls 5 [(0, .ref h1), (1, .int s0), (2, .int f0), (3, .int t0)] := hl
  rw [← hHe]
  refine lv_iload_n hx hb dX0_ask_0 rfl (lv_at hl 3 rfl) ?_
  refine lv_iconst (v := 1) hx hb dX0_ask_1 (by decide) ?_
  refine lv_icmp_ne (tgt := 9) hx hb dX0_ask_2 (by decide) (fun c_1 => ?_) (fun c_1 => ?_)
  · refine lv_iload_n hx hb dX0_ask_9 rfl (lv_at hl 1 rfl) ?_
    refine lv_iconst (v := 1) hx hb dX0_ask_10 (by decide) ?_
    refine lv_iadd hx hb dX0_ask_11 ?_
    refine lv_topi (fun x_2 e_2 => ?_)
    refine lv_istore (lv' := [(4, .int x_2), (0, .ref h1), (1, .int s0), (2, .int f0), (3, .int t0)]) hx hb dX0_ask_12 hl (by decide) rfl (fun ls hl => ?_)
    refine lv_iload hx hb dX0_ask_14 (lv_at hl 0 rfl) ?_
    refine lv_if_le (tgt := 24) hx hb dX0_ask_16 (by decide) (fun c_3 => ?_) (fun c_3 => ?_)
    · refine lv_iconst (v := 0) hx hb dX0_ask_24 (by decide) ?_
      have hP9 := hP.sub (ws' := []) [] rfl
      have hD9 := hD.sub (ws' := []) [] (by decide) rfl
      refine W.widen (k := 0) (n := 0) (by omega) (by omega) ?_
      exact W.iret (v := 0) hx hb hr (fun t ht hW => ⟨⟨0, (), rfl, trivial, by rw [ht]; exact hP9, va_K.moved hW.alike hK, hD9⟩, hS.F ht⟩) hS.2.2 dX0_ask_25
    · refine lv_iload hx hb dX0_ask_19 (lv_at hl 0 rfl) ?_
      refine lv_goto (tgt := 25) hx hb dX0_ask_21 (by decide) ?_
      have hP9 := hP.sub (ws' := []) [] rfl
      have hD9 := hD.sub (ws' := []) [] (by decide) rfl
      refine W.widen (k := 0) (n := 0) (by omega) (by omega) ?_
      exact W.iret (v := x_2) hx hb hr (fun t ht hW => ⟨⟨x_2, (), rfl, trivial, by rw [ht]; exact hP9, va_K.moved hW.alike hK, hD9⟩, hS.F ht⟩) hS.2.2 dX0_ask_25
  · refine lv_iload_n hx hb dX0_ask_5 rfl (lv_at hl 1 rfl) ?_
    refine lv_goto (tgt := 12) hx hb dX0_ask_6 (by decide) ?_
    refine lv_istore (lv' := [(4, .int s0), (0, .ref h1), (1, .int s0), (2, .int f0), (3, .int t0)]) hx hb dX0_ask_12 hl (by decide) rfl (fun ls hl => ?_)
    refine lv_iload hx hb dX0_ask_14 (lv_at hl 0 rfl) ?_
    refine lv_if_le (tgt := 24) hx hb dX0_ask_16 (by decide) (fun c_4 => ?_) (fun c_4 => ?_)
    · refine lv_iconst (v := 0) hx hb dX0_ask_24 (by decide) ?_
      have hP9 := hP.sub (ws' := []) [] rfl
      have hD9 := hD.sub (ws' := []) [] (by decide) rfl
      refine W.widen (k := 0) (n := 0) (by omega) (by omega) ?_
      exact W.iret (v := 0) hx hb hr (fun t ht hW => ⟨⟨0, (), rfl, trivial, by rw [ht]; exact hP9, va_K.moved hW.alike hK, hD9⟩, hS.F ht⟩) hS.2.2 dX0_ask_25
    · refine lv_iload hx hb dX0_ask_19 (lv_at hl 0 rfl) ?_
      refine lv_goto (tgt := 25) hx hb dX0_ask_21 (by decide) ?_
      have hP9 := hP.sub (ws' := []) [] rfl
      have hD9 := hD.sub (ws' := []) [] (by decide) rfl
      refine W.widen (k := 0) (n := 0) (by omega) (by omega) ?_
      exact W.iret (v := s0) hx hb hr (fun t ht hW => ⟨⟨s0, (), rfl, trivial, by rw [ht]; exact hP9, va_K.moved hW.alike hK, hD9⟩, hS.F ht⟩) hS.2.2 dX0_ask_25

set_option maxHeartbeats 1000000 in
set_option maxRecDepth 100000 in
/-- X11_isEnough_w -/
theorem c_X11_isEnough_w (l : Launch) (dC : Nat → ClassId) (dI : Nat → Nat → Nat) (aC : Nat → ClassId) (sz : Nat) (law : Int32) (y : Int32) (a : Int32)  : Met l yX11_isEnough (wW yX11_isEnough cX11_isEnough 3 (some .boolean)) ({ frames := 0, cells := 0, slots := 0, locals := 0 } : Room) (va_Pc [.int law, .int y, .int a] (fun U => U.heap.size = sz ∧ va_P (dC, dI) classes [] U.heap ∧ va_K (dC, dI) classes (TY aC) U ∧ va_D (fun _ => True) [] ∧ NX U)) (va_Qi (fun (r : Int32) (_ : Unit) => True) (fun (_ : Unit) (t : State) => va_P (dC, dI) classes [] t.heap ∧ va_K (dC, dI) classes (TY aC) t ∧ va_D (va_A [] sz) []) (va_A [] sz)) 0 0 (va_A [] sz) := by
  refine Met.ofW (cc := cX11_isEnough) (maxL := 3) (ret := (some .boolean)) (by decide) rfl ?_
  intro p e s m args below meth c s₁ B hml hv
  obtain ⟨rfl, hsz, hP, hK, hD0, hN⟩ := hv
  have hx := B.exec
  have hb := B.bytes
  have hr := B.returns
  have hts0 := atoms_spec (ws := (wW yX11_isEnough cX11_isEnough 3 (some .boolean))) B.pre
  have hts : ∀ w9 ∈ lw_G, w9.before ([.int law, .int y, .int a] : List Value).toArray s = true := fun w9 h9 => hts0 w9 (List.mem_cons_of_mem _ h9)
  have hown : s.vm.findClass RX11 = some m.cls := findClass_of_methodNamed B.named
  have hlocks := B.notSynchronized
  subst hsz
  have hD := hD0.self (sz := s.heap.size)
  generalize hAe : va_A [] s.heap.size = A at hD ⊢
  have hA : ∀ q : Nat, s.heap.size ≤ q → A q := fun q h => by rw [← hAe]; exact Or.inr h
  obtain ⟨H, hHe⟩ : ∃ H : Heap, H = s.heap := ⟨_, rfl⟩
  have hS : va_S A s.heap H [] := by rw [hHe]; exact va_S.rf
  have hP : va_P (dC, dI) classes [] H := by rw [hHe]; exact hP
  have hl := lv_entry ([.int law, .int y, .int a]) (n := 3) (Nat.le_of_ble_eq_true rfl)
  rw [lg_entry_eq]
  generalize (lg_sl ([.int law, .int y, .int a]) ++ List.replicate (3 - (lg_sl ([.int law, .int y, .int a])).length) Slot.unset).toArray = ls at hl ⊢
  have hl : lv_has ls 3 [(0, .int law), (1, .int y), (2, .int a)] := hl
  rw [← hHe]
  refine lv_iload_n hx hb dX11_isEnough_0 rfl (lv_at hl 0 rfl) ?_
  by_cases c_1 : law = 0
  · refine lv_lookup (off := 27) (tgt := 28) hx hb dX11_isEnough_1 (by decide) (by rw [c_1]; decide) (by decide) ?_
    refine lv_iconst (v := 2) hx hb dX11_isEnough_28 (by decide) ?_
    refine lv_iload_n hx hb dX11_isEnough_29 rfl (lv_at hl 1 rfl) ?_
    refine lv_imul hx hb dX11_isEnough_30 ?_
    refine lv_topi (fun x_2 e_2 => ?_)
    refine lv_iload_n hx hb dX11_isEnough_31 rfl (lv_at hl 2 rfl) ?_
    refine lv_icmp_lt (tgt := 39) hx hb dX11_isEnough_32 (by decide) (fun c_3 => ?_) (fun c_3 => ?_)
    · refine lv_iconst (v := 0) hx hb dX11_isEnough_39 (by decide) ?_
      have hP9 := hP.sub (ws' := []) [] rfl
      have hD9 := hD.sub (ws' := []) [] (by decide) rfl
      refine W.widen (k := 0) (n := 0) (by omega) (by omega) ?_
      exact W.zret (v := 0) hx hb hr rfl (fun t ht hW => ⟨⟨0, (), rfl, trivial, by rw [ht]; exact hP9, va_K.moved hW.alike hK, hD9⟩, hS.F ht⟩) hS.2.2 dX11_isEnough_40
    · refine lv_iconst (v := 1) hx hb dX11_isEnough_35 (by decide) ?_
      refine lv_goto (tgt := 40) hx hb dX11_isEnough_36 (by decide) ?_
      have hP9 := hP.sub (ws' := []) [] rfl
      have hD9 := hD.sub (ws' := []) [] (by decide) rfl
      refine W.widen (k := 0) (n := 0) (by omega) (by omega) ?_
      exact W.zret (v := 1) hx hb hr rfl (fun t ht hW => ⟨⟨1, (), rfl, trivial, by rw [ht]; exact hP9, va_K.moved hW.alike hK, hD9⟩, hS.F ht⟩) hS.2.2 dX11_isEnough_40
  by_cases c_4 : law = 1
  · refine lv_lookup (off := 40) (tgt := 41) hx hb dX11_isEnough_1 (by decide) (by rw [c_4]; decide) (by decide) ?_
    refine lv_iconst (v := 2) hx hb dX11_isEnough_41 (by decide) ?_
    refine lv_iload_n hx hb dX11_isEnough_42 rfl (lv_at hl 1 rfl) ?_
    refine lv_imul hx hb dX11_isEnough_43 ?_
    refine lv_topi (fun x_5 e_5 => ?_)
    refine lv_iload_n hx hb dX11_isEnough_44 rfl (lv_at hl 2 rfl) ?_
    refine lv_icmp_le (tgt := 52) hx hb dX11_isEnough_45 (by decide) (fun c_6 => ?_) (fun c_6 => ?_)
    · refine lv_iconst (v := 0) hx hb dX11_isEnough_52 (by decide) ?_
      have hP9 := hP.sub (ws' := []) [] rfl
      have hD9 := hD.sub (ws' := []) [] (by decide) rfl
      refine W.widen (k := 0) (n := 0) (by omega) (by omega) ?_
      exact W.zret (v := 0) hx hb hr rfl (fun t ht hW => ⟨⟨0, (), rfl, trivial, by rw [ht]; exact hP9, va_K.moved hW.alike hK, hD9⟩, hS.F ht⟩) hS.2.2 dX11_isEnough_53
    · refine lv_iconst (v := 1) hx hb dX11_isEnough_48 (by decide) ?_
      refine lv_goto (tgt := 53) hx hb dX11_isEnough_49 (by decide) ?_
      have hP9 := hP.sub (ws' := []) [] rfl
      have hD9 := hD.sub (ws' := []) [] (by decide) rfl
      refine W.widen (k := 0) (n := 0) (by omega) (by omega) ?_
      exact W.zret (v := 1) hx hb hr rfl (fun t ht hW => ⟨⟨1, (), rfl, trivial, by rw [ht]; exact hP9, va_K.moved hW.alike hK, hD9⟩, hS.F ht⟩) hS.2.2 dX11_isEnough_53
  refine lv_lookup (off := 53) (tgt := 54) hx hb dX11_isEnough_1 (by decide) (by rw [lv_osw c_1 (by decide)]; rw [lv_osw c_4 (by decide)]; rfl) (by decide) ?_
  refine lv_iconst (v := 3) hx hb dX11_isEnough_54 (by decide) ?_
  refine lv_iload_n hx hb dX11_isEnough_55 rfl (lv_at hl 1 rfl) ?_
  refine lv_imul hx hb dX11_isEnough_56 ?_
  refine lv_topi (fun x_7 e_7 => ?_)
  refine lv_iconst (v := 2) hx hb dX11_isEnough_57 (by decide) ?_
  refine lv_iload_n hx hb dX11_isEnough_58 rfl (lv_at hl 2 rfl) ?_
  refine lv_imul hx hb dX11_isEnough_59 ?_
  refine lv_topi (fun x_8 e_8 => ?_)
  refine lv_icmp_lt (tgt := 67) hx hb dX11_isEnough_60 (by decide) (fun c_9 => ?_) (fun c_9 => ?_)
  · refine lv_iconst (v := 0) hx hb dX11_isEnough_67 (by decide) ?_
    have hP9 := hP.sub (ws' := []) [] rfl
    have hD9 := hD.sub (ws' := []) [] (by decide) rfl
    refine W.widen (k := 0) (n := 0) (by omega) (by omega) ?_
    exact W.zret (v := 0) hx hb hr rfl (fun t ht hW => ⟨⟨0, (), rfl, trivial, by rw [ht]; exact hP9, va_K.moved hW.alike hK, hD9⟩, hS.F ht⟩) hS.2.2 dX11_isEnough_68
  · refine lv_iconst (v := 1) hx hb dX11_isEnough_63 (by decide) ?_
    refine lv_goto (tgt := 68) hx hb dX11_isEnough_64 (by decide) ?_
    have hP9 := hP.sub (ws' := []) [] rfl
    have hD9 := hD.sub (ws' := []) [] (by decide) rfl
    refine W.widen (k := 0) (n := 0) (by omega) (by omega) ?_
    exact W.zret (v := 1) hx hb hr rfl (fun t ht hW => ⟨⟨1, (), rfl, trivial, by rw [ht]; exact hP9, va_K.moved hW.alike hK, hD9⟩, hS.F ht⟩) hS.2.2 dX11_isEnough_68

set_option maxHeartbeats 1000000 in
set_option maxRecDepth 100000 in
/-- X2_askYounger -/
theorem c_X2_askYounger (l : Launch) (dC : Nat → ClassId) (dI : Nat → Nat → Nat) (aC : Nat → ClassId) (sz : Nat) (xc : Nat) (cs : Nat) (ca : Nat) (cf : Nat) (k0 : Nat) (n : Nat) (co : Int32) (sf : Nat → Int32) (af : Nat → Int32) (of : Nat → Int32) (i : Nat) (tie : Int32) (hi : i < n ∧ n ≤ 60) : Met l yX2_askYounger (wW yX2_askYounger cX2_askYounger 5 (some .int)) ({ frames := 1, cells := 0, slots := 0, locals := 24 } : Room) (va_Pc [.ref xc, .int (nI i), .int tie] (fun U => U.heap.size = sz ∧ va_P (dC, dI) classes [(xc, .inr (2, [.ref cs, .ref ca, .ref cf, .ref k0, .int (nI n), .int co])), (cs, .inl (aC 0, 60, .inl sf)), (ca, .inl (aC 0, 60, .inl af)), (cf, .inl (aC 0, 60, .inl of)), (k0, .inr (0, []))] U.heap ∧ va_K (dC, dI) classes (TY aC) U ∧ va_D (fun _ => True) [(xc, .inr (2, [.ref cs, .ref ca, .ref cf, .ref k0, .int (nI n), .int co])), (cs, .inl (aC 0, 60, .inl sf)), (ca, .inl (aC 0, 60, .inl af)), (cf, .inl (aC 0, 60, .inl of)), (k0, .inr (0, []))] ∧ NX U)) (va_Qi (fun (r : Int32) (ag : Nat → Int32) => ∃ f, f ≤ n - 1 - i ∧ r = nI f) (fun (ag : Nat → Int32) (t : State) => va_P (dC, dI) classes [(xc, .inr (2, [.ref cs, .ref ca, .ref cf, .ref k0, .int (nI n), .int co])), (cs, .inl (aC 0, 60, .inl sf)), (ca, .inl (aC 0, 60, .inl ag)), (cf, .inl (aC 0, 60, .inl of)), (k0, .inr (0, []))] t.heap ∧ va_K (dC, dI) classes (TY aC) t ∧ va_D (va_A [(xc, .inr (2, [.ref cs, .ref ca, .ref cf, .ref k0, .int (nI n), .int co])), (cs, .inl (aC 0, 60, .inl sf)), (ca, .inl (aC 0, 60, .inl af)), (cf, .inl (aC 0, 60, .inl of)), (k0, .inr (0, []))] sz) [(xc, .inr (2, [.ref cs, .ref ca, .ref cf, .ref k0, .int (nI n), .int co])), (cs, .inl (aC 0, 60, .inl sf)), (ca, .inl (aC 0, 60, .inl ag)), (cf, .inl (aC 0, 60, .inl of)), (k0, .inr (0, []))]) (va_A [(xc, .inr (2, [.ref cs, .ref ca, .ref cf, .ref k0, .int (nI n), .int co])), (cs, .inl (aC 0, 60, .inl sf)), (ca, .inl (aC 0, 60, .inl af)), (cf, .inl (aC 0, 60, .inl of)), (k0, .inr (0, []))] sz)) 0 0 (va_A [(xc, .inr (2, [.ref cs, .ref ca, .ref cf, .ref k0, .int (nI n), .int co])), (cs, .inl (aC 0, 60, .inl sf)), (ca, .inl (aC 0, 60, .inl af)), (cf, .inl (aC 0, 60, .inl of)), (k0, .inr (0, []))] sz) := by
  refine Met.ofW (cc := cX2_askYounger) (maxL := 5) (ret := (some .int)) (by decide) rfl ?_
  intro p e s m args below meth c s₁ B hml hv
  obtain ⟨rfl, hsz, hP, hK, hD0, hN⟩ := hv
  have hx := B.exec
  have hb := B.bytes
  have hr := B.returns
  have hts0 := atoms_spec (ws := (wW yX2_askYounger cX2_askYounger 5 (some .int))) B.pre
  have hts : ∀ w9 ∈ lw_G, w9.before ([.ref xc, .int (nI i), .int tie] : List Value).toArray s = true := fun w9 h9 => hts0 w9 (List.mem_cons_of_mem _ h9)
  have hown : s.vm.findClass RX2 = some m.cls := findClass_of_methodNamed B.named
  have hlocks := B.notSynchronized
  subst hsz
  have hD := hD0.self (sz := s.heap.size)
  generalize hAe : va_A [(xc, .inr (2, [.ref cs, .ref ca, .ref cf, .ref k0, .int (nI n), .int co])), (cs, .inl (aC 0, 60, .inl sf)), (ca, .inl (aC 0, 60, .inl af)), (cf, .inl (aC 0, 60, .inl of)), (k0, .inr (0, []))] s.heap.size = A at hD ⊢
  have hA : ∀ q : Nat, s.heap.size ≤ q → A q := fun q h => by rw [← hAe]; exact Or.inr h
  obtain ⟨H, hHe⟩ : ∃ H : Heap, H = s.heap := ⟨_, rfl⟩
  have hS : va_S A s.heap H [] := by rw [hHe]; exact va_S.rf
  have hP : va_P (dC, dI) classes [(xc, .inr (2, [.ref cs, .ref ca, .ref cf, .ref k0, .int (nI n), .int co])), (cs, .inl (aC 0, 60, .inl sf)), (ca, .inl (aC 0, 60, .inl af)), (cf, .inl (aC 0, 60, .inl of)), (k0, .inr (0, []))] H := by rw [hHe]; exact hP
  have hl := lv_entry ([.ref xc, .int (nI i), .int tie]) (n := 5) (Nat.le_of_ble_eq_true rfl)
  rw [lg_entry_eq]
  generalize (lg_sl ([.ref xc, .int (nI i), .int tie]) ++ List.replicate (5 - (lg_sl ([.ref xc, .int (nI i), .int tie])).length) Slot.unset).toArray = ls at hl ⊢
  have hl : lv_has ls 5 [(0, .ref xc), (1, .int (nI i)), (2, .int tie)] := hl
  rw [← hHe]
  refine lv_iconst (v := 0) hx hb dX2_askYounger_0 (by decide) ?_
  refine lv_istore_n (lv' := [(3, .int 0), (0, .ref xc), (1, .int (nI i)), (2, .int tie)]) hx hb dX2_askYounger_1 rfl hl (by decide) rfl (fun ls hl => ?_)
  refine lv_iload_n hx hb dX2_askYounger_2 rfl (lv_at hl 2 rfl) ?_
  refine lv_iconst (v := 1) hx hb dX2_askYounger_3 (by decide) ?_
  refine lv_iadd hx hb dX2_askYounger_4 ?_
  refine lv_topi (fun x_1 e_1 => ?_)
  refine lv_istore (lv' := [(4, .int x_1), (3, .int 0), (0, .ref xc), (1, .int (nI i)), (2, .int tie)]) hx hb dX2_askYounger_5 hl (by decide) rfl (fun ls hl => ?_)
  have h9 : x_1 = nI (i + 1) := by rw [e_1, nI_1]
  subst h9
  have lp_7 : ∀ (fu : Nat) (j : Nat) (fr : Nat) (ac : Nat → Int32) (hfu : n - j < fu) (hj : i < j ∧ j ≤ n) (hfr : fr ≤ j - (i + 1)) (H : Heap) (locs : List Loc) (ls : Array Slot), va_P (dC, dI) classes [(xc, .inr (2, [.ref cs, .ref ca, .ref cf, .ref k0, .int (nI n), .int co])), (cs, .inl (aC 0, 60, .inl sf)), (ca, .inl (aC 0, 60, .inl ac)), (cf, .inl (aC 0, 60, .inl of)), (k0, .inr (0, []))] H → va_D A [(xc, .inr (2, [.ref cs, .ref ca, .ref cf, .ref k0, .int (nI n), .int co])), (cs, .inl (aC 0, 60, .inl sf)), (ca, .inl (aC 0, 60, .inl ac)), (cf, .inl (aC 0, 60, .inl of)), (k0, .inr (0, []))] → va_S A s.heap H locs → lv_has ls 5 [(0, .ref xc), (1, .int (nI i)), (2, .int tie), (3, .int (nI fr)), (4, .int (nI j))] → W p l e (headSpec (wW yX2_askYounger cX2_askYounger 5 (some .int)) ({ frames := 1, cells := 0, slots := 0, locals := 24 } : Room)).room s m ([.ref xc, .int (nI i), .int tie] : List Value).toArray below meth c H locs 0 0 (MQ below (va_Qi (fun (r : Int32) (ag : Nat → Int32) => ∃ f, f ≤ n - 1 - i ∧ r = nI f) (fun (ag : Nat → Int32) (t : State) => va_P (dC, dI) classes [(xc, .inr (2, [.ref cs, .ref ca, .ref cf, .ref k0, .int (nI n), .int co])), (cs, .inl (aC 0, 60, .inl sf)), (ca, .inl (aC 0, 60, .inl ag)), (cf, .inl (aC 0, 60, .inl of)), (k0, .inr (0, []))] t.heap ∧ va_K (dC, dI) classes (TY aC) t ∧ va_D A [(xc, .inr (2, [.ref cs, .ref ca, .ref cf, .ref k0, .int (nI n), .int co])), (cs, .inl (aC 0, 60, .inl sf)), (ca, .inl (aC 0, 60, .inl ag)), (cf, .inl (aC 0, 60, .inl of)), (k0, .inr (0, []))]) A) ([.ref xc, .int (nI i), .int tie] : List Value).toArray s 0 0 A) (F0 m 7 ls []) := by
    intro fu
    induction fu with
    | zero => intro j fr ac hfu; exact absurd hfu (Nat.not_lt_zero _)
    | succ fu ih_7 =>
      intro j fr ac hfu hj hfr H locs ls hP hD hS hl
      refine lv_iload hx hb dX2_askYounger_7 (lv_at hl 4 rfl) ?_
      refine lv_aload_n hx hb dX2_askYounger_9 rfl (lv_at hl 0 rfl) ?_
      refine va_get (D := (dC, dI)) (ci := 2) (v := .int (nI n)) (C := RX2) (T := TX2) (N := 6) hx hb hts inX2 hown hK hP 0 rfl rfl 4 (by decide) (hts _ (gw kw_211 rfl)) (fun _ h9 => h9) rfl dX2_askYounger_10 ?_
      refine lv_icmp_ge (tgt := 58) hx hb dX2_askYounger_13 (by decide) (fun c_2 => ?_) (fun c_2 => ?_)
      · refine lv_iload_n hx hb dX2_askYounger_58 rfl (lv_at hl 3 rfl) ?_
        have hP9 := hP.sub (ws' := [(xc, .inr (2, [.ref cs, .ref ca, .ref cf, .ref k0, .int (nI n), .int co])), (cs, .inl (aC 0, 60, .inl sf)), (ca, .inl (aC 0, 60, .inl ac)), (cf, .inl (aC 0, 60, .inl of)), (k0, .inr (0, []))]) [0, 1, 2, 3, 4] rfl
        have hD9 := hD.sub (ws' := [(xc, .inr (2, [.ref cs, .ref ca, .ref cf, .ref k0, .int (nI n), .int co])), (cs, .inl (aC 0, 60, .inl sf)), (ca, .inl (aC 0, 60, .inl ac)), (cf, .inl (aC 0, 60, .inl of)), (k0, .inr (0, []))]) [0, 1, 2, 3, 4] (by decide) rfl
        refine W.widen (k := 0) (n := 0) (by omega) (by omega) ?_
        exact W.iret (v := nI fr) hx hb hr (fun t ht hW => ⟨⟨(nI fr), (ac), rfl, ⟨fr, by omega, rfl⟩, by rw [ht]; exact hP9, va_K.moved hW.alike hK, hD9⟩, hS.F ht⟩) hS.2.2 dX2_askYounger_59
      · have hlt : j < n := by
          rcases Nat.lt_or_ge j n with q | q
          · exact q
          · exact absurd (nI_le q (by omega)) c_2
        refine lv_aload_n hx hb dX2_askYounger_16 rfl (lv_at hl 0 rfl) ?_
        refine va_get (D := (dC, dI)) (ci := 2) (v := .ref ca) (C := RX2) (T := TX2) (N := 6) hx hb hts inX2 hown hK hP 0 rfl rfl 1 (by decide) (hts _ (gw kw_208 rfl)) (fun _ h9 => h9) rfl dX2_askYounger_17 ?_
        refine lv_iload hx hb dX2_askYounger_20 (lv_at hl 4 rfl) ?_
        refine lv_aload_n hx hb dX2_askYounger_22 rfl (lv_at hl 0 rfl) ?_
        refine va_get (D := (dC, dI)) (ci := 2) (v := .ref k0) (C := RX2) (T := TX2) (N := 6) hx hb hts inX2 hown hK hP 0 rfl rfl 3 (by decide) (hts _ (gw kw_210 rfl)) (fun _ h9 => h9) rfl dX2_askYounger_23 ?_
        refine lv_aload_n hx hb dX2_askYounger_26 rfl (lv_at hl 0 rfl) ?_
        refine va_get (D := (dC, dI)) (ci := 2) (v := .ref cs) (C := RX2) (T := TX2) (N := 6) hx hb hts inX2 hown hK hP 0 rfl rfl 0 (by decide) (hts _ (gw kw_206 rfl)) (fun _ h9 => h9) rfl dX2_askYounger_27 ?_
        refine lv_iload hx hb dX2_askYounger_30 (lv_at hl 4 rfl) ?_
        have h_3 : vp_in (nI j) 60 := vp_in_nI (by omega) (by omega)
        refine va_iald hx hb hK hP 1 0 rfl rfl h_3 dX2_askYounger_32 ?_
        refine lv_topi (fun x_4 e_4 => ?_)
        refine lv_iconst (v := 0) hx hb dX2_askYounger_33 (by decide) ?_
        refine lv_iload_n hx hb dX2_askYounger_34 rfl (lv_at hl 2 rfl) ?_
        have hPc := hP.sub (ws' := []) [] rfl
        have hDc := hD.sub (ws' := []) [] (by decide) rfl
        have hFc := va_free (wc := []) hD hS hA [] rfl
        refine va_calli (va_runV (As := [.int x_4, .int 0, .int tie]) (rest := [.int (nI j), .ref ca]) ⟨hx, hb, hml, hown, hts⟩ (c_X0_ask_w l dC dI aC H.size k0 x_4 0 tie ) ⟨(callB_of 3 hts (gG kw_392) rfl rfl rfl (hts _ (gw kw_4 rfl)) (hts _ (gw kw_572 rfl)) (by decide +kernel) ⟨Nat.le_of_ble_eq_true rfl, Nat.le_of_ble_eq_true rfl⟩), (hts _ (gw kw_367 rfl)), (hts _ (gw kw_368 rfl))⟩ ⟨fun a U g mk q => by obtain ⟨q0, q1, qP, qK, qD, qN⟩ := q; exact ⟨q0, q1, qP, va_K.moved (u := U) (U := U.calling g mk a) (Vm.Alike.refl U.vm) qK, qD, NX.same (u := U) (U := U.calling g mk a) rfl qN⟩, va_recv hK hP (ci := 0) (q0 := 4) rfl rfl, fun U hU hW => ⟨rfl, by rw [hU], by rw [hU]; exact hPc, va_K.moved hW.alike hK, hDc.weaken (fun _ _ _ _ => trivial), NX.warm hW hN⟩⟩ rfl rfl hl.1 rfl (lv_room (Nat.le_of_ble_eq_true rfl)) dX2_askYounger_35 ⟨Nat.le_of_ble_eq_true rfl, Nat.le_of_ble_eq_true rfl⟩) hS (fun q _ h => hFc q h) hFc (fun x_5 u9 t9 H1 locs ht hvm hw_5 hB hz1 hk1 hS => ?_)
        obtain ⟨hP1, hK1, hD1⟩ := hB
        rw [ht] at hP1
        clear hK1
        try dsimp only at hw_5
        obtain ⟨hP, hD⟩ := va_join (wr := [(xc, .inr (2, [.ref cs, .ref ca, .ref cf, .ref k0, .int (nI n), .int co])), (cs, .inl (aC 0, 60, .inl sf)), (ca, .inl (aC 0, 60, .inl ac)), (cf, .inl (aC 0, 60, .inl of)), (k0, .inr (0, []))]) (w1 := []) hP hD [] [0, 1, 2, 3, 4] rfl rfl (by decide) (by decide) hk1 hFc hP1 hD1
        generalize H1 = H at hP hS ⊢
        have hP : va_P (dC, dI) classes [(xc, .inr (2, [.ref cs, .ref ca, .ref cf, .ref k0, .int (nI n), .int co])), (cs, .inl (aC 0, 60, .inl sf)), (ca, .inl (aC 0, 60, .inl ac)), (cf, .inl (aC 0, 60, .inl of)), (k0, .inr (0, []))] H := hP
        have hD : va_D A [(xc, .inr (2, [.ref cs, .ref ca, .ref cf, .ref k0, .int (nI n), .int co])), (cs, .inl (aC 0, 60, .inl sf)), (ca, .inl (aC 0, 60, .inl ac)), (cf, .inl (aC 0, 60, .inl of)), (k0, .inr (0, []))] := hD
        clear hPc hDc hFc hz1 hk1 hP1 hD1 ht hvm
        have h_6 : vp_in (nI j) 60 := vp_in_nI (by omega) (by omega)
        refine va_iast hx hb hK hP hD hS 2 0 rfl rfl h_6 dX2_askYounger_38 (fun H locs hP hD hS => ?_)
        obtain ⟨f_7, e_f_7⟩ : ∃ y : Nat → Int32, y = upd ac (nI j : Int32).toNatClampNeg x_5 := ⟨_, rfl⟩
        have hP : va_P (dC, dI) classes [(xc, .inr (2, [.ref cs, .ref ca, .ref cf, .ref k0, .int (nI n), .int co])), (cs, .inl (aC 0, 60, .inl sf)), (ca, .inl (aC 0, 60, .inl f_7)), (cf, .inl (aC 0, 60, .inl of)), (k0, .inr (0, []))] H := by rw [e_f_7]; exact hP
        have hD : va_D A [(xc, .inr (2, [.ref cs, .ref ca, .ref cf, .ref k0, .int (nI n), .int co])), (cs, .inl (aC 0, 60, .inl sf)), (ca, .inl (aC 0, 60, .inl f_7)), (cf, .inl (aC 0, 60, .inl of)), (k0, .inr (0, []))] := by rw [e_f_7]; exact hD
        refine lv_aload_n hx hb dX2_askYounger_39 rfl (lv_at hl 0 rfl) ?_
        refine va_get (D := (dC, dI)) (ci := 2) (v := .ref ca) (C := RX2) (T := TX2) (N := 6) hx hb hts inX2 hown hK hP 0 rfl rfl 1 (by decide) (hts _ (gw kw_208 rfl)) (fun _ h9 => h9) rfl dX2_askYounger_40 ?_
        refine lv_iload hx hb dX2_askYounger_43 (lv_at hl 4 rfl) ?_
        have h_8 : vp_in (nI j) 60 := vp_in_nI (by omega) (by omega)
        refine va_iald hx hb hK hP 2 0 rfl rfl h_8 dX2_askYounger_45 ?_
        refine lv_topi (fun x_9 e_9 => ?_)
        refine lv_if_ne (tgt := 52) hx hb dX2_askYounger_46 (by decide) (fun c_10 => ?_) (fun c_10 => ?_)
        · obtain ⟨x_11, e_11⟩ : ∃ y : Int32, y = (nI j) + 1 := ⟨_, rfl⟩
          refine lv_iinc (v := x_11) (lv' := [(4, .int x_11), (0, .ref xc), (1, .int (nI i)), (2, .int tie), (3, .int (nI fr))]) hx hb dX2_askYounger_52 hl (k := 4) rfl (by rw [e_11]; rfl) (by decide) rfl (fun ls hl => ?_)
          have h9 : x_11 = nI (j + 1) := by rw [e_11, nI_1]
          subst h9
          refine lv_goto (tgt := 7) hx hb dX2_askYounger_55 (by decide) ?_
          exact ih_7 (j + 1) fr f_7 (ms_lt hlt hfu) (by omega) (by omega) _ _ _ (hP.sub [0, 1, 2, 3, 4] rfl) (hD.sub [0, 1, 2, 3, 4] (by decide) rfl) hS (lv_sub hl [1, 2, 3, 4, 0] rfl)
        · obtain ⟨x_12, e_12⟩ : ∃ y : Int32, y = (nI fr) + 1 := ⟨_, rfl⟩
          refine lv_iinc (v := x_12) (lv' := [(3, .int x_12), (0, .ref xc), (1, .int (nI i)), (2, .int tie), (4, .int (nI j))]) hx hb dX2_askYounger_49 hl (k := 3) rfl (by rw [e_12]; rfl) (by decide) rfl (fun ls hl => ?_)
          have h9 : x_12 = nI (fr + 1) := by rw [e_12, nI_1]
          subst h9
          obtain ⟨x_13, e_13⟩ : ∃ y : Int32, y = (nI j) + 1 := ⟨_, rfl⟩
          refine lv_iinc (v := x_13) (lv' := [(4, .int x_13), (3, .int (nI (fr + 1))), (0, .ref xc), (1, .int (nI i)), (2, .int tie)]) hx hb dX2_askYounger_52 hl (k := 4) rfl (by rw [e_13]; rfl) (by decide) rfl (fun ls hl => ?_)
          have h9 : x_13 = nI (j + 1) := by rw [e_13, nI_1]
          subst h9
          refine lv_goto (tgt := 7) hx hb dX2_askYounger_55 (by decide) ?_
          exact ih_7 (j + 1) (fr + 1) f_7 (ms_lt hlt hfu) (by omega) (by omega) _ _ _ (hP.sub [0, 1, 2, 3, 4] rfl) (hD.sub [0, 1, 2, 3, 4] (by decide) rfl) hS (lv_sub hl [2, 3, 4, 1, 0] rfl)
  exact lp_7 ((n - (i + 1)) + 1) (i + 1) 0 af (Nat.lt_succ_self _) (by omega) (by omega) _ _ _ (hP.sub [0, 1, 2, 3, 4] rfl) (hD.sub [0, 1, 2, 3, 4] (by decide) rfl) hS (lv_sub hl [2, 3, 4, 1, 0] rfl)

set_option maxHeartbeats 1000000 in
set_option maxRecDepth 100000 in
/-- X2_votesLacking -/
theorem c_X2_votesLacking (l : Launch) (dC : Nat → ClassId) (dI : Nat → Nat → Nat) (aC : Nat → ClassId) (sz : Nat) (y : Nat) (a : Nat) (law : Int32) (hy : y ≤ 100 ∧ a ≤ 100) : Met l yX2_votesLacking (wW yX2_votesLacking cX2_votesLacking 4 (some .int)) ({ frames := 1, cells := 0, slots := 0, locals := 22 } : Room) (va_Pc [.int (nI y), .int (nI a), .int law] (fun U => U.heap.size = sz ∧ va_P (dC, dI) classes [] U.heap ∧ va_K (dC, dI) classes (TY aC) U ∧ va_D (fun _ => True) [] ∧ NX U)) (va_Qi (fun (r : Int32) (_ : Unit) => True) (fun (_ : Unit) (t : State) => va_P (dC, dI) classes [] t.heap ∧ va_K (dC, dI) classes (TY aC) t ∧ va_D (va_A [] sz) []) (va_A [] sz)) 0 0 (va_A [] sz) := by
  refine Met.ofW (cc := cX2_votesLacking) (maxL := 4) (ret := (some .int)) (by decide) rfl ?_
  intro p e s m args below meth c s₁ B hml hv
  obtain ⟨rfl, hsz, hP, hK, hD0, hN⟩ := hv
  have hx := B.exec
  have hb := B.bytes
  have hr := B.returns
  have hts0 := atoms_spec (ws := (wW yX2_votesLacking cX2_votesLacking 4 (some .int))) B.pre
  have hts : ∀ w9 ∈ lw_G, w9.before ([.int (nI y), .int (nI a), .int law] : List Value).toArray s = true := fun w9 h9 => hts0 w9 (List.mem_cons_of_mem _ h9)
  have hown : s.vm.findClass RX2 = some m.cls := findClass_of_methodNamed B.named
  have hlocks := B.notSynchronized
  subst hsz
  have hD := hD0.self (sz := s.heap.size)
  generalize hAe : va_A [] s.heap.size = A at hD ⊢
  have hA : ∀ q : Nat, s.heap.size ≤ q → A q := fun q h => by rw [← hAe]; exact Or.inr h
  obtain ⟨H, hHe⟩ : ∃ H : Heap, H = s.heap := ⟨_, rfl⟩
  have hS : va_S A s.heap H [] := by rw [hHe]; exact va_S.rf
  have hP : va_P (dC, dI) classes [] H := by rw [hHe]; exact hP
  have hl := lv_entry ([.int (nI y), .int (nI a), .int law]) (n := 4) (Nat.le_of_ble_eq_true rfl)
  rw [lg_entry_eq]
  generalize (lg_sl ([.int (nI y), .int (nI a), .int law]) ++ List.replicate (4 - (lg_sl ([.int (nI y), .int (nI a), .int law])).length) Slot.unset).toArray = ls at hl ⊢
  have hl : lv_has ls 4 [(0, .int (nI y)), (1, .int (nI a)), (2, .int law)] := hl
  rw [← hHe]
  refine lv_iconst (v := 0) hx hb dX2_votesLacking_0 (by decide) ?_
  refine lv_istore_n (lv' := [(3, .int 0), (0, .int (nI y)), (1, .int (nI a)), (2, .int law)]) hx hb dX2_votesLacking_1 rfl hl (by decide) rfl (fun ls hl => ?_)
  have lp_2 : ∀ (fu : Nat) (k : Nat) (hfu : a - k < fu) (hk : k ≤ a) (H : Heap) (locs : List Loc) (ls : Array Slot), va_P (dC, dI) classes [] H → va_D A [] → va_S A s.heap H locs → lv_has ls 4 [(0, .int (nI y)), (1, .int (nI a)), (2, .int law), (3, .int (nI k))] → W p l e (headSpec (wW yX2_votesLacking cX2_votesLacking 4 (some .int)) ({ frames := 1, cells := 0, slots := 0, locals := 22 } : Room)).room s m ([.int (nI y), .int (nI a), .int law] : List Value).toArray below meth c H locs 0 0 (MQ below (va_Qi (fun (r : Int32) (_ : Unit) => True) (fun (_ : Unit) (t : State) => va_P (dC, dI) classes [] t.heap ∧ va_K (dC, dI) classes (TY aC) t ∧ va_D A []) A) ([.int (nI y), .int (nI a), .int law] : List Value).toArray s 0 0 A) (F0 m 2 ls []) := by
    intro fu
    induction fu with
    | zero => intro k hfu; exact absurd hfu (Nat.not_lt_zero _)
    | succ fu ih_2 =>
      intro k hfu hk H locs ls hP hD hS hl
      refine lv_iload_n hx hb dX2_votesLacking_2 rfl (lv_at hl 0 rfl) ?_
      refine lv_iload_n hx hb dX2_votesLacking_3 rfl (lv_at hl 3 rfl) ?_
      refine lv_iadd hx hb dX2_votesLacking_4 ?_
      refine lv_topi (fun x_1 e_1 => ?_)
      have h9 : x_1 = nI (y + k) := by rw [e_1, nI_add]
      subst h9
      refine lv_iload_n hx hb dX2_votesLacking_5 rfl (lv_at hl 1 rfl) ?_
      refine lv_icmp_ge (tgt := 26) hx hb dX2_votesLacking_6 (by decide) (fun c_2 => ?_) (fun c_2 => ?_)
      · refine lv_iload_n hx hb dX2_votesLacking_26 rfl (lv_at hl 3 rfl) ?_
        have hP9 := hP.sub (ws' := []) [] rfl
        have hD9 := hD.sub (ws' := []) [] (by decide) rfl
        refine W.widen (k := 0) (n := 0) (by omega) (by omega) ?_
        exact W.iret (v := nI k) hx hb hr (fun t ht hW => ⟨⟨(nI k), (), rfl, trivial, by rw [ht]; exact hP9, va_K.moved hW.alike hK, hD9⟩, hS.F ht⟩) hS.2.2 dX2_votesLacking_27
      · have hlt : y + k < a := by
          rcases Nat.lt_or_ge (y + k) a with q | q
          · exact q
          · exact absurd (nI_le q (by omega)) c_2
        refine lv_iload_n hx hb dX2_votesLacking_9 rfl (lv_at hl 2 rfl) ?_
        refine lv_iload_n hx hb dX2_votesLacking_10 rfl (lv_at hl 0 rfl) ?_
        refine lv_iload_n hx hb dX2_votesLacking_11 rfl (lv_at hl 3 rfl) ?_
        refine lv_iadd hx hb dX2_votesLacking_12 ?_
        refine lv_topi (fun x_3 e_3 => ?_)
        refine lv_iload_n hx hb dX2_votesLacking_13 rfl (lv_at hl 1 rfl) ?_
        have hPc := hP.sub (ws' := []) [] rfl
        have hDc := hD.sub (ws' := []) [] (by decide) rfl
        have hFc := va_free (wc := []) hD hS hA [] rfl
        refine va_calli (va_runSN (As := [.int law, .int x_3, .int (nI a)]) (rest := []) ⟨hx, hb, hml, hown, hts⟩ (c_X11_isEnough_w l dC dI aC H.size law x_3 (nI a) ) ⟨(va_cnB 3 hts (gG kw_469) rfl rfl rfl (hN.1 _ kw_576 rfl) (hts _ (gw kw_1 rfl)) (by decide +kernel) ⟨Nat.le_of_ble_eq_true rfl, Nat.le_of_ble_eq_true rfl⟩), (hts _ (gw kw_468 rfl)), trivial⟩ ⟨fun a U g mk q => by obtain ⟨q0, q1, qP, qK, qD, qN⟩ := q; exact ⟨q0, q1, qP, va_K.moved (u := U) (U := U.calling g mk a) (Vm.Alike.refl U.vm) qK, qD, NX.same (u := U) (U := U.calling g mk a) rfl qN⟩, fun U hU hW => ⟨rfl, by rw [hU], by rw [hU]; exact hPc, va_K.moved hW.alike hK, hDc.weaken (fun _ _ _ _ => trivial), NX.warm hW hN⟩⟩ rfl rfl hl.1 rfl (lv_room (Nat.le_of_ble_eq_true rfl)) dX2_votesLacking_14 ⟨Nat.le_of_ble_eq_true rfl, Nat.le_of_ble_eq_true rfl⟩) hS (fun q _ h => hFc q h) hFc (fun x_4 u9 t9 H1 locs ht hvm hw_4 hB hz1 hk1 hS => ?_)
        obtain ⟨hP1, hK1, hD1⟩ := hB
        rw [ht] at hP1
        clear hK1
        try dsimp only at hw_4
        obtain ⟨hP, hD⟩ := va_join (wr := []) (w1 := []) hP hD [] [] rfl rfl (by decide) (by decide) hk1 hFc hP1 hD1
        generalize H1 = H at hP hS ⊢
        have hP : va_P (dC, dI) classes [] H := hP
        have hD : va_D A [] := hD
        clear hPc hDc hFc hz1 hk1 hP1 hD1 ht hvm
        refine lv_if_ne (tgt := 26) hx hb dX2_votesLacking_17 (by decide) (fun c_5 => ?_) (fun c_5 => ?_)
        · refine lv_iload_n hx hb dX2_votesLacking_26 rfl (lv_at hl 3 rfl) ?_
          have hP9 := hP.sub (ws' := []) [] rfl
          have hD9 := hD.sub (ws' := []) [] (by decide) rfl
          refine W.widen (k := 0) (n := 0) (by omega) (by omega) ?_
          exact W.iret (v := nI k) hx hb hr (fun t ht hW => ⟨⟨(nI k), (), rfl, trivial, by rw [ht]; exact hP9, va_K.moved hW.alike hK, hD9⟩, hS.F ht⟩) hS.2.2 dX2_votesLacking_27
        · obtain ⟨x_6, e_6⟩ : ∃ y : Int32, y = (nI k) + 1 := ⟨_, rfl⟩
          refine lv_iinc (v := x_6) (lv' := [(3, .int x_6), (0, .int (nI y)), (1, .int (nI a)), (2, .int law)]) hx hb dX2_votesLacking_20 hl (k := 3) rfl (by rw [e_6]; rfl) (by decide) rfl (fun ls hl => ?_)
          have h9 : x_6 = nI (k + 1) := by rw [e_6, nI_1]
          subst h9
          refine lv_goto (tgt := 2) hx hb dX2_votesLacking_23 (by decide) ?_
          exact ih_2 (k + 1) (by omega) (by omega) _ _ _ (hP.sub [] rfl) (hD.sub [] (by decide) rfl) hS (lv_sub hl [1, 2, 3, 0] rfl)
  exact lp_2 ((a - 0) + 1) 0 (Nat.lt_succ_self _) (by omega) _ _ _ (hP.sub [] rfl) (hD.sub [] (by decide) rfl) hS (lv_sub hl [1, 2, 3, 0] rfl)

set_option maxHeartbeats 1000000 in
set_option maxRecDepth 100000 in
/-- X2_nextLevel -/
theorem c_X2_nextLevel (l : Launch) (dC : Nat → ClassId) (dI : Nat → Nat → Nat) (aC : Nat → ClassId) (sz : Nat) (xc : Nat) (cs : Nat) (ca : Nat) (cf : Nat) (k0 : Nat) (n : Nat) (co : Int32) (sf : Nat → Int32) (af : Nat → Int32) (of : Nat → Int32) (i : Nat) (lv : Int32) (hi : i < n ∧ n ≤ 60) : Met l yX2_nextLevel (wW yX2_nextLevel cX2_nextLevel 5 (some .int)) ({ frames := 1, cells := 0, slots := 0, locals := 13 } : Room) (va_Pc [.ref xc, .int (nI i), .int lv] (fun U => U.heap.size = sz ∧ va_P (dC, dI) classes [(xc, .inr (2, [.ref cs, .ref ca, .ref cf, .ref k0, .int (nI n), .int co])), (cs, .inl (aC 0, 60, .inl sf)), (ca, .inl (aC 0, 60, .inl af)), (cf, .inl (aC 0, 60, .inl of)), (k0, .inr (0, []))] U.heap ∧ va_K (dC, dI) classes (TY aC) U ∧ va_D (fun _ => True) [(xc, .inr (2, [.ref cs, .ref ca, .ref cf, .ref k0, .int (nI n), .int co])), (cs, .inl (aC 0, 60, .inl sf)), (ca, .inl (aC 0, 60, .inl af)), (cf, .inl (aC 0, 60, .inl of)), (k0, .inr (0, []))] ∧ NX U)) (va_Qi (fun (r : Int32) (_ : Unit) => True) (fun (_ : Unit) (t : State) => va_P (dC, dI) classes [(xc, .inr (2, [.ref cs, .ref ca, .ref cf, .ref k0, .int (nI n), .int co])), (cs, .inl (aC 0, 60, .inl sf)), (ca, .inl (aC 0, 60, .inl af)), (cf, .inl (aC 0, 60, .inl of)), (k0, .inr (0, []))] t.heap ∧ va_K (dC, dI) classes (TY aC) t ∧ va_D (va_A [(xc, .inr (2, [.ref cs, .ref ca, .ref cf, .ref k0, .int (nI n), .int co])), (cs, .inl (aC 0, 60, .inl sf)), (ca, .inl (aC 0, 60, .inl af)), (cf, .inl (aC 0, 60, .inl of)), (k0, .inr (0, []))] sz) [(xc, .inr (2, [.ref cs, .ref ca, .ref cf, .ref k0, .int (nI n), .int co])), (cs, .inl (aC 0, 60, .inl sf)), (ca, .inl (aC 0, 60, .inl af)), (cf, .inl (aC 0, 60, .inl of)), (k0, .inr (0, []))]) (va_A [(xc, .inr (2, [.ref cs, .ref ca, .ref cf, .ref k0, .int (nI n), .int co])), (cs, .inl (aC 0, 60, .inl sf)), (ca, .inl (aC 0, 60, .inl af)), (cf, .inl (aC 0, 60, .inl of)), (k0, .inr (0, []))] sz)) 0 0 (va_A [(xc, .inr (2, [.ref cs, .ref ca, .ref cf, .ref k0, .int (nI n), .int co])), (cs, .inl (aC 0, 60, .inl sf)), (ca, .inl (aC 0, 60, .inl af)), (cf, .inl (aC 0, 60, .inl of)), (k0, .inr (0, []))] sz) := by
  refine Met.ofW (cc := cX2_nextLevel) (maxL := 5) (ret := (some .int)) (by decide) rfl ?_
  intro p e s m args below meth c s₁ B hml hv
  obtain ⟨rfl, hsz, hP, hK, hD0, hN⟩ := hv
  have hx := B.exec
  have hb := B.bytes
  have hr := B.returns
  have hts0 := atoms_spec (ws := (wW yX2_nextLevel cX2_nextLevel 5 (some .int))) B.pre
  have hts : ∀ w9 ∈ lw_G, w9.before ([.ref xc, .int (nI i), .int lv] : List Value).toArray s = true := fun w9 h9 => hts0 w9 (List.mem_cons_of_mem _ h9)
  have hown : s.vm.findClass RX2 = some m.cls := findClass_of_methodNamed B.named
  have hlocks := B.notSynchronized
  subst hsz
  have hD := hD0.self (sz := s.heap.size)
  generalize hAe : va_A [(xc, .inr (2, [.ref cs, .ref ca, .ref cf, .ref k0, .int (nI n), .int co])), (cs, .inl (aC 0, 60, .inl sf)), (ca, .inl (aC 0, 60, .inl af)), (cf, .inl (aC 0, 60, .inl of)), (k0, .inr (0, []))] s.heap.size = A at hD ⊢
  have hA : ∀ q : Nat, s.heap.size ≤ q → A q := fun q h => by rw [← hAe]; exact Or.inr h
  obtain ⟨H, hHe⟩ : ∃ H : Heap, H = s.heap := ⟨_, rfl⟩
  have hS : va_S A s.heap H [] := by rw [hHe]; exact va_S.rf
  have hP : va_P (dC, dI) classes [(xc, .inr (2, [.ref cs, .ref ca, .ref cf, .ref k0, .int (nI n), .int co])), (cs, .inl (aC 0, 60, .inl sf)), (ca, .inl (aC 0, 60, .inl af)), (cf, .inl (aC 0, 60, .inl of)), (k0, .inr (0, []))] H := by rw [hHe]; exact hP
  have hl := lv_entry ([.ref xc, .int (nI i), .int lv]) (n := 5) (Nat.le_of_ble_eq_true rfl)
  rw [lg_entry_eq]
  generalize (lg_sl ([.ref xc, .int (nI i), .int lv]) ++ List.replicate (5 - (lg_sl ([.ref xc, .int (nI i), .int lv])).length) Slot.unset).toArray = ls at hl ⊢
  have hl : lv_has ls 5 [(0, .ref xc), (1, .int (nI i)), (2, .int lv)] := hl
  rw [← hHe]
  refine lv_sipush (v := 1000) hx hb dX2_nextLevel_0 (by decide) ?_
  refine lv_istore_n (lv' := [(3, .int 1000), (0, .ref xc), (1, .int (nI i)), (2, .int lv)]) hx hb dX2_nextLevel_3 rfl hl (by decide) rfl (fun ls hl => ?_)
  refine lv_iload_n hx hb dX2_nextLevel_4 rfl (lv_at hl 2 rfl) ?_
  refine lv_iconst (v := 1) hx hb dX2_nextLevel_5 (by decide) ?_
  refine lv_iadd hx hb dX2_nextLevel_6 ?_
  refine lv_topi (fun x_1 e_1 => ?_)
  refine lv_istore (lv' := [(4, .int x_1), (3, .int 1000), (0, .ref xc), (1, .int (nI i)), (2, .int lv)]) hx hb dX2_nextLevel_7 hl (by decide) rfl (fun ls hl => ?_)
  have h9 : x_1 = nI (i + 1) := by rw [e_1, nI_1]
  subst h9
  have lp_9 : ∀ (fu : Nat) (j : Nat) (x3 : Int32) (hfu : n - j < fu) (hj : i < j ∧ j ≤ n) (H : Heap) (locs : List Loc) (ls : Array Slot), va_P (dC, dI) classes [(xc, .inr (2, [.ref cs, .ref ca, .ref cf, .ref k0, .int (nI n), .int co])), (cs, .inl (aC 0, 60, .inl sf)), (ca, .inl (aC 0, 60, .inl af)), (cf, .inl (aC 0, 60, .inl of)), (k0, .inr (0, []))] H → va_D A [(xc, .inr (2, [.ref cs, .ref ca, .ref cf, .ref k0, .int (nI n), .int co])), (cs, .inl (aC 0, 60, .inl sf)), (ca, .inl (aC 0, 60, .inl af)), (cf, .inl (aC 0, 60, .inl of)), (k0, .inr (0, []))] → va_S A s.heap H locs → lv_has ls 5 [(0, .ref xc), (1, .int (nI i)), (2, .int lv), (3, .int x3), (4, .int (nI j))] → W p l e (headSpec (wW yX2_nextLevel cX2_nextLevel 5 (some .int)) ({ frames := 1, cells := 0, slots := 0, locals := 13 } : Room)).room s m ([.ref xc, .int (nI i), .int lv] : List Value).toArray below meth c H locs 0 0 (MQ below (va_Qi (fun (r : Int32) (_ : Unit) => True) (fun (_ : Unit) (t : State) => va_P (dC, dI) classes [(xc, .inr (2, [.ref cs, .ref ca, .ref cf, .ref k0, .int (nI n), .int co])), (cs, .inl (aC 0, 60, .inl sf)), (ca, .inl (aC 0, 60, .inl af)), (cf, .inl (aC 0, 60, .inl of)), (k0, .inr (0, []))] t.heap ∧ va_K (dC, dI) classes (TY aC) t ∧ va_D A [(xc, .inr (2, [.ref cs, .ref ca, .ref cf, .ref k0, .int (nI n), .int co])), (cs, .inl (aC 0, 60, .inl sf)), (ca, .inl (aC 0, 60, .inl af)), (cf, .inl (aC 0, 60, .inl of)), (k0, .inr (0, []))]) A) ([.ref xc, .int (nI i), .int lv] : List Value).toArray s 0 0 A) (F0 m 9 ls []) := by
    intro fu
    induction fu with
    | zero => intro j x3 hfu; exact absurd hfu (Nat.not_lt_zero _)
    | succ fu ih_9 =>
      intro j x3 hfu hj H locs ls hP hD hS hl
      refine lv_iload hx hb dX2_nextLevel_9 (lv_at hl 4 rfl) ?_
      refine lv_aload_n hx hb dX2_nextLevel_11 rfl (lv_at hl 0 rfl) ?_
      refine va_get (D := (dC, dI)) (ci := 2) (v := .int (nI n)) (C := RX2) (T := TX2) (N := 6) hx hb hts inX2 hown hK hP 0 rfl rfl 4 (by decide) (hts _ (gw kw_211 rfl)) (fun _ h9 => h9) rfl dX2_nextLevel_12 ?_
      refine lv_icmp_ge (tgt := 47) hx hb dX2_nextLevel_15 (by decide) (fun c_2 => ?_) (fun c_2 => ?_)
      · refine lv_iload_n hx hb dX2_nextLevel_47 rfl (lv_at hl 3 rfl) ?_
        have hP9 := hP.sub (ws' := [(xc, .inr (2, [.ref cs, .ref ca, .ref cf, .ref k0, .int (nI n), .int co])), (cs, .inl (aC 0, 60, .inl sf)), (ca, .inl (aC 0, 60, .inl af)), (cf, .inl (aC 0, 60, .inl of)), (k0, .inr (0, []))]) [0, 1, 2, 3, 4] rfl
        have hD9 := hD.sub (ws' := [(xc, .inr (2, [.ref cs, .ref ca, .ref cf, .ref k0, .int (nI n), .int co])), (cs, .inl (aC 0, 60, .inl sf)), (ca, .inl (aC 0, 60, .inl af)), (cf, .inl (aC 0, 60, .inl of)), (k0, .inr (0, []))]) [0, 1, 2, 3, 4] (by decide) rfl
        refine W.widen (k := 0) (n := 0) (by omega) (by omega) ?_
        exact W.iret (v := x3) hx hb hr (fun t ht hW => ⟨⟨x3, (), rfl, trivial, by rw [ht]; exact hP9, va_K.moved hW.alike hK, hD9⟩, hS.F ht⟩) hS.2.2 dX2_nextLevel_48
      · have hlt : j < n := by
          rcases Nat.lt_or_ge j n with q | q
          · exact q
          · exact absurd (nI_le q (by omega)) c_2
        refine lv_aload_n hx hb dX2_nextLevel_18 rfl (lv_at hl 0 rfl) ?_
        refine va_get (D := (dC, dI)) (ci := 2) (v := .ref ca) (C := RX2) (T := TX2) (N := 6) hx hb hts inX2 hown hK hP 0 rfl rfl 1 (by decide) (hts _ (gw kw_208 rfl)) (fun _ h9 => h9) rfl dX2_nextLevel_19 ?_
        refine lv_iload hx hb dX2_nextLevel_22 (lv_at hl 4 rfl) ?_
        have h_3 : vp_in (nI j) 60 := vp_in_nI (by omega) (by omega)
        refine va_iald hx hb hK hP 2 0 rfl rfl h_3 dX2_nextLevel_24 ?_
        refine lv_topi (fun x_4 e_4 => ?_)
        refine lv_iload_n hx hb dX2_nextLevel_25 rfl (lv_at hl 2 rfl) ?_
        refine lv_icmp_le (tgt := 41) hx hb dX2_nextLevel_26 (by decide) (fun c_5 => ?_) (fun c_5 => ?_)
        · obtain ⟨x_6, e_6⟩ : ∃ y : Int32, y = (nI j) + 1 := ⟨_, rfl⟩
          refine lv_iinc (v := x_6) (lv' := [(4, .int x_6), (0, .ref xc), (1, .int (nI i)), (2, .int lv), (3, .int x3)]) hx hb dX2_nextLevel_41 hl (k := 4) rfl (by rw [e_6]; rfl) (by decide) rfl (fun ls hl => ?_)
          have h9 : x_6 = nI (j + 1) := by rw [e_6, nI_1]
          subst h9
          refine lv_goto (tgt := 9) hx hb dX2_nextLevel_44 (by decide) ?_
          exact ih_9 (j + 1) x3 (ms_lt hlt hfu) (by omega) _ _ _ (hP.sub [0, 1, 2, 3, 4] rfl) (hD.sub [0, 1, 2, 3, 4] (by decide) rfl) hS (lv_sub hl [1, 2, 3, 4, 0] rfl)
        · refine lv_iload_n hx hb dX2_nextLevel_29 rfl (lv_at hl 3 rfl) ?_
          refine lv_aload_n hx hb dX2_nextLevel_30 rfl (lv_at hl 0 rfl) ?_
          refine va_get (D := (dC, dI)) (ci := 2) (v := .ref ca) (C := RX2) (T := TX2) (N := 6) hx hb hts inX2 hown hK hP 0 rfl rfl 1 (by decide) (hts _ (gw kw_208 rfl)) (fun _ h9 => h9) rfl dX2_nextLevel_31 ?_
          refine lv_iload hx hb dX2_nextLevel_34 (lv_at hl 4 rfl) ?_
          have h_7 : vp_in (nI j) 60 := vp_in_nI (by omega) (by omega)
          refine va_iald hx hb hK hP 2 0 rfl rfl h_7 dX2_nextLevel_36 ?_
          refine lv_topi (fun x_8 e_8 => ?_)
          refine va_mmin hx hb (by rw [hml]; exact hl.1.symm) hown (hts _ (gw kw_565 rfl)) (hts _ (gw kw_566 rfl)) (hts _ (gw kw_14 rfl)) (hts _ (gw kw_567 rfl)) (Nat.le_of_ble_eq_true rfl) (Nat.le_of_ble_eq_true rfl) (Nat.zero_le _) (Nat.zero_le _) dX2_nextLevel_37 ?_
          refine lv_topi (fun x_9 e_9 => ?_)
          refine lv_istore_n (lv' := [(3, .int x_9), (0, .ref xc), (1, .int (nI i)), (2, .int lv), (4, .int (nI j))]) hx hb dX2_nextLevel_40 rfl hl (by decide) rfl (fun ls hl => ?_)
          obtain ⟨x_10, e_10⟩ : ∃ y : Int32, y = (nI j) + 1 := ⟨_, rfl⟩
          refine lv_iinc (v := x_10) (lv' := [(4, .int x_10), (3, .int x_9), (0, .ref xc), (1, .int (nI i)), (2, .int lv)]) hx hb dX2_nextLevel_41 hl (k := 4) rfl (by rw [e_10]; rfl) (by decide) rfl (fun ls hl => ?_)
          have h9 : x_10 = nI (j + 1) := by rw [e_10, nI_1]
          subst h9
          refine lv_goto (tgt := 9) hx hb dX2_nextLevel_44 (by decide) ?_
          exact ih_9 (j + 1) x_9 (ms_lt hlt hfu) (by omega) _ _ _ (hP.sub [0, 1, 2, 3, 4] rfl) (hD.sub [0, 1, 2, 3, 4] (by decide) rfl) hS (lv_sub hl [2, 3, 4, 1, 0] rfl)
  exact lp_9 ((n - (i + 1)) + 1) (i + 1) 1000 (Nat.lt_succ_self _) (by omega) _ _ _ (hP.sub [0, 1, 2, 3, 4] rfl) (hD.sub [0, 1, 2, 3, 4] (by decide) rfl) hS (lv_sub hl [2, 3, 4, 1, 0] rfl)

set_option maxHeartbeats 1000000 in
set_option maxRecDepth 100000 in
/-- X2_buyAtLevel -/
theorem c_X2_buyAtLevel (l : Launch) (dC : Nat → ClassId) (dI : Nat → Nat → Nat) (aC : Nat → ClassId) (sz : Nat) (xc : Nat) (cs : Nat) (ca : Nat) (cf : Nat) (k0 : Nat) (n : Nat) (co : Int32) (sf : Nat → Int32) (af : Nat → Int32) (of : Nat → Int32) (i : Nat) (lv : Int32) (ms : Int32) (fi : Int32) (hi : i < n ∧ n ≤ 60) : Met l yX2_buyAtLevel (wW yX2_buyAtLevel cX2_buyAtLevel 9 (some .int)) ({ frames := 0, cells := 0, slots := 0, locals := 0 } : Room) (va_Pc [.ref xc, .int (nI i), .int lv, .int ms, .int fi] (fun U => U.heap.size = sz ∧ va_P (dC, dI) classes [(xc, .inr (2, [.ref cs, .ref ca, .ref cf, .ref k0, .int (nI n), .int co])), (cs, .inl (aC 0, 60, .inl sf)), (ca, .inl (aC 0, 60, .inl af)), (cf, .inl (aC 0, 60, .inl of)), (k0, .inr (0, []))] U.heap ∧ va_K (dC, dI) classes (TY aC) U ∧ va_D (fun _ => True) [(xc, .inr (2, [.ref cs, .ref ca, .ref cf, .ref k0, .int (nI n), .int co])), (cs, .inl (aC 0, 60, .inl sf)), (ca, .inl (aC 0, 60, .inl af)), (cf, .inl (aC 0, 60, .inl of)), (k0, .inr (0, []))] ∧ NX U)) (va_Qi (fun (r : Int32) (og : Nat → Int32) => True) (fun (og : Nat → Int32) (t : State) => va_P (dC, dI) classes [(xc, .inr (2, [.ref cs, .ref ca, .ref cf, .ref k0, .int (nI n), .int co])), (cs, .inl (aC 0, 60, .inl sf)), (ca, .inl (aC 0, 60, .inl af)), (cf, .inl (aC 0, 60, .inl og)), (k0, .inr (0, []))] t.heap ∧ va_K (dC, dI) classes (TY aC) t ∧ va_D (va_A [(xc, .inr (2, [.ref cs, .ref ca, .ref cf, .ref k0, .int (nI n), .int co])), (cs, .inl (aC 0, 60, .inl sf)), (ca, .inl (aC 0, 60, .inl af)), (cf, .inl (aC 0, 60, .inl of)), (k0, .inr (0, []))] sz) [(xc, .inr (2, [.ref cs, .ref ca, .ref cf, .ref k0, .int (nI n), .int co])), (cs, .inl (aC 0, 60, .inl sf)), (ca, .inl (aC 0, 60, .inl af)), (cf, .inl (aC 0, 60, .inl og)), (k0, .inr (0, []))]) (va_A [(xc, .inr (2, [.ref cs, .ref ca, .ref cf, .ref k0, .int (nI n), .int co])), (cs, .inl (aC 0, 60, .inl sf)), (ca, .inl (aC 0, 60, .inl af)), (cf, .inl (aC 0, 60, .inl of)), (k0, .inr (0, []))] sz)) 0 0 (va_A [(xc, .inr (2, [.ref cs, .ref ca, .ref cf, .ref k0, .int (nI n), .int co])), (cs, .inl (aC 0, 60, .inl sf)), (ca, .inl (aC 0, 60, .inl af)), (cf, .inl (aC 0, 60, .inl of)), (k0, .inr (0, []))] sz) := by
  refine Met.ofW (cc := cX2_buyAtLevel) (maxL := 9) (ret := (some .int)) (by decide) rfl ?_
  intro p e s m args below meth c s₁ B hml hv
  obtain ⟨rfl, hsz, hP, hK, hD0, hN⟩ := hv
  have hx := B.exec
  have hb := B.bytes
  have hr := B.returns
  have hts0 := atoms_spec (ws := (wW yX2_buyAtLevel cX2_buyAtLevel 9 (some .int))) B.pre
  have hts : ∀ w9 ∈ lw_G, w9.before ([.ref xc, .int (nI i), .int lv, .int ms, .int fi] : List Value).toArray s = true := fun w9 h9 => hts0 w9 (List.mem_cons_of_mem _ h9)
  have hown : s.vm.findClass RX2 = some m.cls := findClass_of_methodNamed B.named
  have hlocks := B.notSynchronized
  subst hsz
  have hD := hD0.self (sz := s.heap.size)
  generalize hAe : va_A [(xc, .inr (2, [.ref cs, .ref ca, .ref cf, .ref k0, .int (nI n), .int co])), (cs, .inl (aC 0, 60, .inl sf)), (ca, .inl (aC 0, 60, .inl af)), (cf, .inl (aC 0, 60, .inl of)), (k0, .inr (0, []))] s.heap.size = A at hD ⊢
  have hA : ∀ q : Nat, s.heap.size ≤ q → A q := fun q h => by rw [← hAe]; exact Or.inr h
  obtain ⟨H, hHe⟩ : ∃ H : Heap, H = s.heap := ⟨_, rfl⟩
  have hS : va_S A s.heap H [] := by rw [hHe]; exact va_S.rf
  have hP : va_P (dC, dI) classes [(xc, .inr (2, [.ref cs, .ref ca, .ref cf, .ref k0, .int (nI n), .int co])), (cs, .inl (aC 0, 60, .inl sf)), (ca, .inl (aC 0, 60, .inl af)), (cf, .inl (aC 0, 60, .inl of)), (k0, .inr (0, []))] H := by rw [hHe]; exact hP
  have hl := lv_entry ([.ref xc, .int (nI i), .int lv, .int ms, .int fi]) (n := 9) (Nat.le_of_ble_eq_true rfl)
  rw [lg_entry_eq]
  generalize (lg_sl ([.ref xc, .int (nI i), .int lv, .int ms, .int fi]) ++ List.replicate (9 - (lg_sl ([.ref xc, .int (nI i), .int lv, .int ms, .int fi])).length) Slot.unset).toArray = ls at hl ⊢
  have hl : lv_has ls 9 [(0, .ref xc), (1, .int (nI i)), (2, .int lv), (3, .int ms), (4, .int fi)] := hl
  rw [← hHe]
  refine lv_iconst (v := 0) hx hb dX2_buyAtLevel_0 (by decide) ?_
  refine lv_istore (lv' := [(5, .int 0), (0, .ref xc), (1, .int (nI i)), (2, .int lv), (3, .int ms), (4, .int fi)]) hx hb dX2_buyAtLevel_1 hl (by decide) rfl (fun ls hl => ?_)
  refine lv_aload_n hx hb dX2_buyAtLevel_3 rfl (lv_at hl 1 rfl) ?_
  refine va_get (D := (dC, dI)) (ci := 2) (v := .int (nI n)) (C := RX2) (T := TX2) (N := 6) hx hb hts inX2 hown hK hP 0 rfl rfl 4 (by decide) (hts _ (gw kw_211 rfl)) (fun _ h9 => h9) rfl dX2_buyAtLevel_4 ?_
  refine lv_iconst (v := 1) hx hb dX2_buyAtLevel_7 (by decide) ?_
  refine lv_isub hx hb dX2_buyAtLevel_8 ?_
  refine lv_topi (fun x_1 e_1 => ?_)
  have h9 : x_1 = nI (n - 1) := by rw [e_1]; exact pk_sub (a := n) (b := 1) (by omega)
  subst h9
  refine lv_iload_n hx hb dX2_buyAtLevel_9 rfl (lv_at hl 2 rfl) ?_
  refine lv_isub hx hb dX2_buyAtLevel_10 ?_
  refine lv_topi (fun x_2 e_2 => ?_)
  have h9 : x_2 = nI (n - 1 - i) := by rw [e_2]; exact pk_sub (by omega)
  subst h9
  refine lv_istore (lv' := [(6, .int (nI (n - 1 - i))), (5, .int 0), (0, .ref xc), (1, .int (nI i)), (2, .int lv), (3, .int ms), (4, .int fi)]) hx hb dX2_buyAtLevel_11 hl (by decide) rfl (fun ls hl => ?_)
  refine lv_iconst (v := 0) hx hb dX2_buyAtLevel_13 (by decide) ?_
  refine lv_istore (lv' := [(7, .int 0), (6, .int (nI (n - 1 - i))), (5, .int 0), (0, .ref xc), (1, .int (nI i)), (2, .int lv), (3, .int ms), (4, .int fi)]) hx hb dX2_buyAtLevel_14 hl (by decide) rfl (fun ls hl => ?_)
  have lp_16 : ∀ (fu : Nat) (k : Nat) (x5 : Int32) (oc : Nat → Int32) (hfu : n - 1 - i - k < fu) (hk : k ≤ n - 1 - i) (H : Heap) (locs : List Loc) (ls : Array Slot), va_P (dC, dI) classes [(xc, .inr (2, [.ref cs, .ref ca, .ref cf, .ref k0, .int (nI n), .int co])), (cs, .inl (aC 0, 60, .inl sf)), (ca, .inl (aC 0, 60, .inl af)), (cf, .inl (aC 0, 60, .inl oc)), (k0, .inr (0, []))] H → va_D A [(xc, .inr (2, [.ref cs, .ref ca, .ref cf, .ref k0, .int (nI n), .int co])), (cs, .inl (aC 0, 60, .inl sf)), (ca, .inl (aC 0, 60, .inl af)), (cf, .inl (aC 0, 60, .inl oc)), (k0, .inr (0, []))] → va_S A s.heap H locs → lv_has ls 9 [(0, .ref xc), (1, .int (nI i)), (2, .int lv), (3, .int ms), (4, .int fi), (5, .int x5), (6, .int (nI (n - 1 - i))), (7, .int (nI k))] → W p l e (headSpec (wW yX2_buyAtLevel cX2_buyAtLevel 9 (some .int)) ({ frames := 0, cells := 0, slots := 0, locals := 0 } : Room)).room s m ([.ref xc, .int (nI i), .int lv, .int ms, .int fi] : List Value).toArray below meth c H locs 0 0 (MQ below (va_Qi (fun (r : Int32) (og : Nat → Int32) => True) (fun (og : Nat → Int32) (t : State) => va_P (dC, dI) classes [(xc, .inr (2, [.ref cs, .ref ca, .ref cf, .ref k0, .int (nI n), .int co])), (cs, .inl (aC 0, 60, .inl sf)), (ca, .inl (aC 0, 60, .inl af)), (cf, .inl (aC 0, 60, .inl og)), (k0, .inr (0, []))] t.heap ∧ va_K (dC, dI) classes (TY aC) t ∧ va_D A [(xc, .inr (2, [.ref cs, .ref ca, .ref cf, .ref k0, .int (nI n), .int co])), (cs, .inl (aC 0, 60, .inl sf)), (ca, .inl (aC 0, 60, .inl af)), (cf, .inl (aC 0, 60, .inl og)), (k0, .inr (0, []))]) A) ([.ref xc, .int (nI i), .int lv, .int ms, .int fi] : List Value).toArray s 0 0 A) (F0 m 16 ls []) := by
    intro fu
    induction fu with
    | zero => intro k x5 oc hfu; exact absurd hfu (Nat.not_lt_zero _)
    | succ fu ih_16 =>
      intro k x5 oc hfu hk H locs ls hP hD hS hl
      refine lv_iload hx hb dX2_buyAtLevel_16 (lv_at hl 7 rfl) ?_
      refine lv_iload hx hb dX2_buyAtLevel_18 (lv_at hl 6 rfl) ?_
      refine lv_icmp_ge (tgt := 82) hx hb dX2_buyAtLevel_20 (by decide) (fun c_3 => ?_) (fun c_3 => ?_)
      · refine lv_iload hx hb dX2_buyAtLevel_82 (lv_at hl 5 rfl) ?_
        have hP9 := hP.sub (ws' := [(xc, .inr (2, [.ref cs, .ref ca, .ref cf, .ref k0, .int (nI n), .int co])), (cs, .inl (aC 0, 60, .inl sf)), (ca, .inl (aC 0, 60, .inl af)), (cf, .inl (aC 0, 60, .inl oc)), (k0, .inr (0, []))]) [0, 1, 2, 3, 4] rfl
        have hD9 := hD.sub (ws' := [(xc, .inr (2, [.ref cs, .ref ca, .ref cf, .ref k0, .int (nI n), .int co])), (cs, .inl (aC 0, 60, .inl sf)), (ca, .inl (aC 0, 60, .inl af)), (cf, .inl (aC 0, 60, .inl oc)), (k0, .inr (0, []))]) [0, 1, 2, 3, 4] (by decide) rfl
        refine W.widen (k := 0) (n := 0) (by omega) (by omega) ?_
        exact W.iret (v := x5) hx hb hr (fun t ht hW => ⟨⟨x5, (oc), rfl, trivial, by rw [ht]; exact hP9, va_K.moved hW.alike hK, hD9⟩, hS.F ht⟩) hS.2.2 dX2_buyAtLevel_84
      · have hlt : k < (n - 1 - i) := by
          rcases Nat.lt_or_ge k (n - 1 - i) with q | q
          · exact q
          · exact absurd (nI_le q (by omega)) c_3
        refine lv_iload hx hb dX2_buyAtLevel_23 (lv_at hl 5 rfl) ?_
        refine lv_iload_n hx hb dX2_buyAtLevel_25 rfl (lv_at hl 3 rfl) ?_
        refine lv_icmp_ge (tgt := 82) hx hb dX2_buyAtLevel_26 (by decide) (fun c_4 => ?_) (fun c_4 => ?_)
        · refine lv_iload hx hb dX2_buyAtLevel_82 (lv_at hl 5 rfl) ?_
          have hP9 := hP.sub (ws' := [(xc, .inr (2, [.ref cs, .ref ca, .ref cf, .ref k0, .int (nI n), .int co])), (cs, .inl (aC 0, 60, .inl sf)), (ca, .inl (aC 0, 60, .inl af)), (cf, .inl (aC 0, 60, .inl oc)), (k0, .inr (0, []))]) [0, 1, 2, 3, 4] rfl
          have hD9 := hD.sub (ws' := [(xc, .inr (2, [.ref cs, .ref ca, .ref cf, .ref k0, .int (nI n), .int co])), (cs, .inl (aC 0, 60, .inl sf)), (ca, .inl (aC 0, 60, .inl af)), (cf, .inl (aC 0, 60, .inl oc)), (k0, .inr (0, []))]) [0, 1, 2, 3, 4] (by decide) rfl
          refine W.widen (k := 0) (n := 0) (by omega) (by omega) ?_
          exact W.iret (v := x5) hx hb hr (fun t ht hW => ⟨⟨x5, (oc), rfl, trivial, by rw [ht]; exact hP9, va_K.moved hW.alike hK, hD9⟩, hS.F ht⟩) hS.2.2 dX2_buyAtLevel_84
        · refine lv_iload hx hb dX2_buyAtLevel_29 (lv_at hl 4 rfl) ?_
          refine lv_if_ne (tgt := 43) hx hb dX2_buyAtLevel_31 (by decide) (fun c_5 => ?_) (fun c_5 => ?_)
          · refine lv_aload_n hx hb dX2_buyAtLevel_43 rfl (lv_at hl 0 rfl) ?_
            refine va_get (D := (dC, dI)) (ci := 2) (v := .int (nI n)) (C := RX2) (T := TX2) (N := 6) hx hb hts inX2 hown hK hP 0 rfl rfl 4 (by decide) (hts _ (gw kw_211 rfl)) (fun _ h9 => h9) rfl dX2_buyAtLevel_44 ?_
            refine lv_iconst (v := 1) hx hb dX2_buyAtLevel_47 (by decide) ?_
            refine lv_isub hx hb dX2_buyAtLevel_48 ?_
            refine lv_topi (fun x_6 e_6 => ?_)
            have h9 : x_6 = nI (n - 1) := by rw [e_6]; exact pk_sub (a := n) (b := 1) (by omega)
            subst h9
            refine lv_iload hx hb dX2_buyAtLevel_49 (lv_at hl 7 rfl) ?_
            refine lv_isub hx hb dX2_buyAtLevel_51 ?_
            refine lv_topi (fun x_7 e_7 => ?_)
            have h9 : x_7 = nI (n - 1 - k) := by rw [e_7]; exact pk_sub (by omega)
            subst h9
            refine lv_istore (lv' := [(8, .int (nI (n - 1 - k))), (0, .ref xc), (1, .int (nI i)), (2, .int lv), (3, .int ms), (4, .int fi), (5, .int x5), (6, .int (nI (n - 1 - i))), (7, .int (nI k))]) hx hb dX2_buyAtLevel_52 hl (by decide) rfl (fun ls hl => ?_)
            refine lv_aload_n hx hb dX2_buyAtLevel_54 rfl (lv_at hl 1 rfl) ?_
            refine va_get (D := (dC, dI)) (ci := 2) (v := .ref ca) (C := RX2) (T := TX2) (N := 6) hx hb hts inX2 hown hK hP 0 rfl rfl 1 (by decide) (hts _ (gw kw_208 rfl)) (fun _ h9 => h9) rfl dX2_buyAtLevel_55 ?_
            refine lv_iload hx hb dX2_buyAtLevel_58 (lv_at hl 0 rfl) ?_
            have h_8 : vp_in (nI (n - 1 - k)) 60 := vp_in_nI (by omega) (by omega)
            refine va_iald hx hb hK hP 2 0 rfl rfl h_8 dX2_buyAtLevel_60 ?_
            refine lv_topi (fun x_9 e_9 => ?_)
            refine lv_iload_n hx hb dX2_buyAtLevel_61 rfl (lv_at hl 3 rfl) ?_
            refine lv_icmp_ne (tgt := 76) hx hb dX2_buyAtLevel_62 (by decide) (fun c_10 => ?_) (fun c_10 => ?_)
            · obtain ⟨x_11, e_11⟩ : ∃ y : Int32, y = (nI k) + 1 := ⟨_, rfl⟩
              refine lv_iinc (v := x_11) (lv' := [(7, .int x_11), (8, .int (nI (n - 1 - k))), (0, .ref xc), (1, .int (nI i)), (2, .int lv), (3, .int ms), (4, .int fi), (5, .int x5), (6, .int (nI (n - 1 - i)))]) hx hb dX2_buyAtLevel_76 hl (k := 8) rfl (by rw [e_11]; rfl) (by decide) rfl (fun ls hl => ?_)
              have h9 : x_11 = nI (k + 1) := by rw [e_11, nI_1]
              subst h9
              refine lv_goto (tgt := 16) hx hb dX2_buyAtLevel_79 (by decide) ?_
              exact ih_16 (k + 1) x5 oc (by omega) (by omega) _ _ _ (hP.sub [0, 1, 2, 3, 4] rfl) (hD.sub [0, 1, 2, 3, 4] (by decide) rfl) hS (lv_sub hl [2, 3, 4, 5, 6, 7, 8, 0] rfl)
            · refine lv_aload_n hx hb dX2_buyAtLevel_65 rfl (lv_at hl 1 rfl) ?_
              refine va_get (D := (dC, dI)) (ci := 2) (v := .ref cf) (C := RX2) (T := TX2) (N := 6) hx hb hts inX2 hown hK hP 0 rfl rfl 2 (by decide) (hts _ (gw kw_209 rfl)) (fun _ h9 => h9) rfl dX2_buyAtLevel_66 ?_
              refine lv_iload hx hb dX2_buyAtLevel_69 (lv_at hl 0 rfl) ?_
              refine lv_iload_n hx hb dX2_buyAtLevel_71 rfl (lv_at hl 3 rfl) ?_
              have h_12 : vp_in (nI (n - 1 - k)) 60 := vp_in_nI (by omega) (by omega)
              refine va_iast hx hb hK hP hD hS 3 0 rfl rfl h_12 dX2_buyAtLevel_72 (fun H locs hP hD hS => ?_)
              obtain ⟨f_13, e_f_13⟩ : ∃ y : Nat → Int32, y = upd oc (nI (n - 1 - k) : Int32).toNatClampNeg lv := ⟨_, rfl⟩
              have hP : va_P (dC, dI) classes [(xc, .inr (2, [.ref cs, .ref ca, .ref cf, .ref k0, .int (nI n), .int co])), (cs, .inl (aC 0, 60, .inl sf)), (ca, .inl (aC 0, 60, .inl af)), (cf, .inl (aC 0, 60, .inl f_13)), (k0, .inr (0, []))] H := by rw [e_f_13]; exact hP
              have hD : va_D A [(xc, .inr (2, [.ref cs, .ref ca, .ref cf, .ref k0, .int (nI n), .int co])), (cs, .inl (aC 0, 60, .inl sf)), (ca, .inl (aC 0, 60, .inl af)), (cf, .inl (aC 0, 60, .inl f_13)), (k0, .inr (0, []))] := by rw [e_f_13]; exact hD
              obtain ⟨x_14, e_14⟩ : ∃ y : Int32, y = x5 + 1 := ⟨_, rfl⟩
              refine lv_iinc (v := x_14) (lv' := [(5, .int x_14), (8, .int (nI (n - 1 - k))), (0, .ref xc), (1, .int (nI i)), (2, .int lv), (3, .int ms), (4, .int fi), (6, .int (nI (n - 1 - i))), (7, .int (nI k))]) hx hb dX2_buyAtLevel_73 hl (k := 6) rfl (by rw [e_14]; rfl) (by decide) rfl (fun ls hl => ?_)
              obtain ⟨x_15, e_15⟩ : ∃ y : Int32, y = (nI k) + 1 := ⟨_, rfl⟩
              refine lv_iinc (v := x_15) (lv' := [(7, .int x_15), (5, .int x_14), (8, .int (nI (n - 1 - k))), (0, .ref xc), (1, .int (nI i)), (2, .int lv), (3, .int ms), (4, .int fi), (6, .int (nI (n - 1 - i)))]) hx hb dX2_buyAtLevel_76 hl (k := 8) rfl (by rw [e_15]; rfl) (by decide) rfl (fun ls hl => ?_)
              have h9 : x_15 = nI (k + 1) := by rw [e_15, nI_1]
              subst h9
              refine lv_goto (tgt := 16) hx hb dX2_buyAtLevel_79 (by decide) ?_
              exact ih_16 (k + 1) x_14 f_13 (by omega) (by omega) _ _ _ (hP.sub [0, 1, 2, 3, 4] rfl) (hD.sub [0, 1, 2, 3, 4] (by decide) rfl) hS (lv_sub hl [3, 4, 5, 6, 7, 1, 8, 0] rfl)
          · refine lv_iload_n hx hb dX2_buyAtLevel_34 rfl (lv_at hl 1 rfl) ?_
            refine lv_iconst (v := 1) hx hb dX2_buyAtLevel_35 (by decide) ?_
            refine lv_iadd hx hb dX2_buyAtLevel_36 ?_
            refine lv_topi (fun x_16 e_16 => ?_)
            have h9 : x_16 = nI (i + 1) := by rw [e_16, nI_1]
            subst h9
            refine lv_iload hx hb dX2_buyAtLevel_37 (lv_at hl 7 rfl) ?_
            refine lv_iadd hx hb dX2_buyAtLevel_39 ?_
            refine lv_topi (fun x_17 e_17 => ?_)
            have h9 : x_17 = nI (i + 1 + k) := by rw [e_17, nI_add]
            subst h9
            refine lv_goto (tgt := 52) hx hb dX2_buyAtLevel_40 (by decide) ?_
            refine lv_istore (lv' := [(8, .int (nI (i + 1 + k))), (0, .ref xc), (1, .int (nI i)), (2, .int lv), (3, .int ms), (4, .int fi), (5, .int x5), (6, .int (nI (n - 1 - i))), (7, .int (nI k))]) hx hb dX2_buyAtLevel_52 hl (by decide) rfl (fun ls hl => ?_)
            refine lv_aload_n hx hb dX2_buyAtLevel_54 rfl (lv_at hl 1 rfl) ?_
            refine va_get (D := (dC, dI)) (ci := 2) (v := .ref ca) (C := RX2) (T := TX2) (N := 6) hx hb hts inX2 hown hK hP 0 rfl rfl 1 (by decide) (hts _ (gw kw_208 rfl)) (fun _ h9 => h9) rfl dX2_buyAtLevel_55 ?_
            refine lv_iload hx hb dX2_buyAtLevel_58 (lv_at hl 0 rfl) ?_
            have h_18 : vp_in (nI (i + 1 + k)) 60 := vp_in_nI (by omega) (by omega)
            refine va_iald hx hb hK hP 2 0 rfl rfl h_18 dX2_buyAtLevel_60 ?_
            refine lv_topi (fun x_19 e_19 => ?_)
            refine lv_iload_n hx hb dX2_buyAtLevel_61 rfl (lv_at hl 3 rfl) ?_
            refine lv_icmp_ne (tgt := 76) hx hb dX2_buyAtLevel_62 (by decide) (fun c_20 => ?_) (fun c_20 => ?_)
            · obtain ⟨x_21, e_21⟩ : ∃ y : Int32, y = (nI k) + 1 := ⟨_, rfl⟩
              refine lv_iinc (v := x_21) (lv' := [(7, .int x_21), (8, .int (nI (i + 1 + k))), (0, .ref xc), (1, .int (nI i)), (2, .int lv), (3, .int ms), (4, .int fi), (5, .int x5), (6, .int (nI (n - 1 - i)))]) hx hb dX2_buyAtLevel_76 hl (k := 8) rfl (by rw [e_21]; rfl) (by decide) rfl (fun ls hl => ?_)
              have h9 : x_21 = nI (k + 1) := by rw [e_21, nI_1]
              subst h9
              refine lv_goto (tgt := 16) hx hb dX2_buyAtLevel_79 (by decide) ?_
              exact ih_16 (k + 1) x5 oc (by omega) (by omega) _ _ _ (hP.sub [0, 1, 2, 3, 4] rfl) (hD.sub [0, 1, 2, 3, 4] (by decide) rfl) hS (lv_sub hl [2, 3, 4, 5, 6, 7, 8, 0] rfl)
            · refine lv_aload_n hx hb dX2_buyAtLevel_65 rfl (lv_at hl 1 rfl) ?_
              refine va_get (D := (dC, dI)) (ci := 2) (v := .ref cf) (C := RX2) (T := TX2) (N := 6) hx hb hts inX2 hown hK hP 0 rfl rfl 2 (by decide) (hts _ (gw kw_209 rfl)) (fun _ h9 => h9) rfl dX2_buyAtLevel_66 ?_
              refine lv_iload hx hb dX2_buyAtLevel_69 (lv_at hl 0 rfl) ?_
              refine lv_iload_n hx hb dX2_buyAtLevel_71 rfl (lv_at hl 3 rfl) ?_
              have h_22 : vp_in (nI (i + 1 + k)) 60 := vp_in_nI (by omega) (by omega)
              refine va_iast hx hb hK hP hD hS 3 0 rfl rfl h_22 dX2_buyAtLevel_72 (fun H locs hP hD hS => ?_)
              obtain ⟨f_23, e_f_23⟩ : ∃ y : Nat → Int32, y = upd oc (nI (i + 1 + k) : Int32).toNatClampNeg lv := ⟨_, rfl⟩
              have hP : va_P (dC, dI) classes [(xc, .inr (2, [.ref cs, .ref ca, .ref cf, .ref k0, .int (nI n), .int co])), (cs, .inl (aC 0, 60, .inl sf)), (ca, .inl (aC 0, 60, .inl af)), (cf, .inl (aC 0, 60, .inl f_23)), (k0, .inr (0, []))] H := by rw [e_f_23]; exact hP
              have hD : va_D A [(xc, .inr (2, [.ref cs, .ref ca, .ref cf, .ref k0, .int (nI n), .int co])), (cs, .inl (aC 0, 60, .inl sf)), (ca, .inl (aC 0, 60, .inl af)), (cf, .inl (aC 0, 60, .inl f_23)), (k0, .inr (0, []))] := by rw [e_f_23]; exact hD
              obtain ⟨x_24, e_24⟩ : ∃ y : Int32, y = x5 + 1 := ⟨_, rfl⟩
              refine lv_iinc (v := x_24) (lv' := [(5, .int x_24), (8, .int (nI (i + 1 + k))), (0, .ref xc), (1, .int (nI i)), (2, .int lv), (3, .int ms), (4, .int fi), (6, .int (nI (n - 1 - i))), (7, .int (nI k))]) hx hb dX2_buyAtLevel_73 hl (k := 6) rfl (by rw [e_24]; rfl) (by decide) rfl (fun ls hl => ?_)
              obtain ⟨x_25, e_25⟩ : ∃ y : Int32, y = (nI k) + 1 := ⟨_, rfl⟩
              refine lv_iinc (v := x_25) (lv' := [(7, .int x_25), (5, .int x_24), (8, .int (nI (i + 1 + k))), (0, .ref xc), (1, .int (nI i)), (2, .int lv), (3, .int ms), (4, .int fi), (6, .int (nI (n - 1 - i)))]) hx hb dX2_buyAtLevel_76 hl (k := 8) rfl (by rw [e_25]; rfl) (by decide) rfl (fun ls hl => ?_)
              have h9 : x_25 = nI (k + 1) := by rw [e_25, nI_1]
              subst h9
              refine lv_goto (tgt := 16) hx hb dX2_buyAtLevel_79 (by decide) ?_
              exact ih_16 (k + 1) x_24 f_23 (by omega) (by omega) _ _ _ (hP.sub [0, 1, 2, 3, 4] rfl) (hD.sub [0, 1, 2, 3, 4] (by decide) rfl) hS (lv_sub hl [3, 4, 5, 6, 7, 1, 8, 0] rfl)
  exact lp_16 ((n - 1 - i - 0) + 1) 0 0 of (Nat.lt_succ_self _) (by omega) _ _ _ (hP.sub [0, 1, 2, 3, 4] rfl) (hD.sub [0, 1, 2, 3, 4] (by decide) rfl) hS (lv_sub hl [3, 4, 5, 6, 7, 2, 1, 0] rfl)

set_option maxHeartbeats 1000000 in
set_option maxRecDepth 100000 in
/-- X2_buyYounger -/
theorem c_X2_buyYounger (l : Launch) (dC : Nat → ClassId) (dI : Nat → Nat → Nat) (aC : Nat → ClassId) (sz : Nat) (xc : Nat) (cs : Nat) (ca : Nat) (cf : Nat) (k0 : Nat) (n : Nat) (co : Int32) (sf : Nat → Int32) (af : Nat → Int32) (of : Nat → Int32) (i : Nat) (lk : Int32) (fi : Int32) (hi : i < n ∧ n ≤ 60) : Met l yX2_buyYounger (wW yX2_buyYounger cX2_buyYounger 9 (some .int)) ({ frames := 2, cells := 0, slots := 0, locals := 37 } : Room) (va_Pc [.ref xc, .int (nI i), .int lk, .int fi] (fun U => U.heap.size = sz ∧ va_P (dC, dI) classes [(xc, .inr (2, [.ref cs, .ref ca, .ref cf, .ref k0, .int (nI n), .int co])), (cs, .inl (aC 0, 60, .inl sf)), (ca, .inl (aC 0, 60, .inl af)), (cf, .inl (aC 0, 60, .inl of)), (k0, .inr (0, []))] U.heap ∧ va_K (dC, dI) classes (TY aC) U ∧ va_D (fun _ => True) [(xc, .inr (2, [.ref cs, .ref ca, .ref cf, .ref k0, .int (nI n), .int co])), (cs, .inl (aC 0, 60, .inl sf)), (ca, .inl (aC 0, 60, .inl af)), (cf, .inl (aC 0, 60, .inl of)), (k0, .inr (0, []))] ∧ NX U)) (va_Qi (fun (r : Int32) (og : Nat → Int32) => True) (fun (og : Nat → Int32) (t : State) => va_P (dC, dI) classes [(xc, .inr (2, [.ref cs, .ref ca, .ref cf, .ref k0, .int (nI n), .int co])), (cs, .inl (aC 0, 60, .inl sf)), (ca, .inl (aC 0, 60, .inl af)), (cf, .inl (aC 0, 60, .inl og)), (k0, .inr (0, []))] t.heap ∧ va_K (dC, dI) classes (TY aC) t ∧ va_D (va_A [(xc, .inr (2, [.ref cs, .ref ca, .ref cf, .ref k0, .int (nI n), .int co])), (cs, .inl (aC 0, 60, .inl sf)), (ca, .inl (aC 0, 60, .inl af)), (cf, .inl (aC 0, 60, .inl of)), (k0, .inr (0, []))] sz) [(xc, .inr (2, [.ref cs, .ref ca, .ref cf, .ref k0, .int (nI n), .int co])), (cs, .inl (aC 0, 60, .inl sf)), (ca, .inl (aC 0, 60, .inl af)), (cf, .inl (aC 0, 60, .inl og)), (k0, .inr (0, []))]) (va_A [(xc, .inr (2, [.ref cs, .ref ca, .ref cf, .ref k0, .int (nI n), .int co])), (cs, .inl (aC 0, 60, .inl sf)), (ca, .inl (aC 0, 60, .inl af)), (cf, .inl (aC 0, 60, .inl of)), (k0, .inr (0, []))] sz)) 0 0 (va_A [(xc, .inr (2, [.ref cs, .ref ca, .ref cf, .ref k0, .int (nI n), .int co])), (cs, .inl (aC 0, 60, .inl sf)), (ca, .inl (aC 0, 60, .inl af)), (cf, .inl (aC 0, 60, .inl of)), (k0, .inr (0, []))] sz) := by
  refine Met.ofW (cc := cX2_buyYounger) (maxL := 9) (ret := (some .int)) (by decide) rfl ?_
  intro p e s m args below meth c s₁ B hml hv
  obtain ⟨rfl, hsz, hP, hK, hD0, hN⟩ := hv
  have hx := B.exec
  have hb := B.bytes
  have hr := B.returns
  have hts0 := atoms_spec (ws := (wW yX2_buyYounger cX2_buyYounger 9 (some .int))) B.pre
  have hts : ∀ w9 ∈ lw_G, w9.before ([.ref xc, .int (nI i), .int lk, .int fi] : List Value).toArray s = true := fun w9 h9 => hts0 w9 (List.mem_cons_of_mem _ h9)
  have hown : s.vm.findClass RX2 = some m.cls := findClass_of_methodNamed B.named
  have hlocks := B.notSynchronized
  subst hsz
  have hD := hD0.self (sz := s.heap.size)
  generalize hAe : va_A [(xc, .inr (2, [.ref cs, .ref ca, .ref cf, .ref k0, .int (nI n), .int co])), (cs, .inl (aC 0, 60, .inl sf)), (ca, .inl (aC 0, 60, .inl af)), (cf, .inl (aC 0, 60, .inl of)), (k0, .inr (0, []))] s.heap.size = A at hD ⊢
  have hA : ∀ q : Nat, s.heap.size ≤ q → A q := fun q h => by rw [← hAe]; exact Or.inr h
  obtain ⟨H, hHe⟩ : ∃ H : Heap, H = s.heap := ⟨_, rfl⟩
  have hS : va_S A s.heap H [] := by rw [hHe]; exact va_S.rf
  have hP : va_P (dC, dI) classes [(xc, .inr (2, [.ref cs, .ref ca, .ref cf, .ref k0, .int (nI n), .int co])), (cs, .inl (aC 0, 60, .inl sf)), (ca, .inl (aC 0, 60, .inl af)), (cf, .inl (aC 0, 60, .inl of)), (k0, .inr (0, []))] H := by rw [hHe]; exact hP
  have hl := lv_entry ([.ref xc, .int (nI i), .int lk, .int fi]) (n := 9) (Nat.le_of_ble_eq_true rfl)
  rw [lg_entry_eq]
  generalize (lg_sl ([.ref xc, .int (nI i), .int lk, .int fi]) ++ List.replicate (9 - (lg_sl ([.ref xc, .int (nI i), .int lk, .int fi])).length) Slot.unset).toArray = ls at hl ⊢
  have hl : lv_has ls 9 [(0, .ref xc), (1, .int (nI i)), (2, .int lk), (3, .int fi)] := hl
  rw [← hHe]
  refine lv_aload_n hx hb dX2_buyYounger_0 rfl (lv_at hl 0 rfl) ?_
  refine va_get (D := (dC, dI)) (ci := 2) (v := .ref cf) (C := RX2) (T := TX2) (N := 6) hx hb hts inX2 hown hK hP 0 rfl rfl 2 (by decide) (hts _ (gw kw_209 rfl)) (fun _ h9 => h9) rfl dX2_buyYounger_1 ?_
  refine lv_iconst (v := 0) hx hb dX2_buyYounger_4 (by decide) ?_
  have hPc := hP.sub (ws' := [(cf, .inl (aC 0, 60, .inl of))]) [3] rfl
  have hDc := hD.sub (ws' := [(cf, .inl (aC 0, 60, .inl of))]) [3] (by decide) rfl
  have hFc := va_free (wc := [(cf, .inl (aC 0, 60, .inl of))]) hD hS hA [3] rfl
  refine va_callv (va_runS (As := [.ref cf, .int 0]) (rest := []) ⟨hx, hb, hml, hown, hts⟩ (c_J7_fill_i l dC dI aC H.size cf 60 of 0 (by omega)) ⟨(callB_of 2 hts (gG kw_399) rfl rfl rfl (hts _ (gw kw_15 rfl)) (hts _ (gw kw_581 rfl)) (by decide +kernel) ⟨Nat.le_of_ble_eq_true rfl, Nat.le_of_ble_eq_true rfl⟩), (hts _ (gw kw_398 rfl))⟩ ⟨fun a U g mk q => by obtain ⟨q0, q1, qP, qK, qD, qN⟩ := q; exact ⟨q0, q1, qP, va_K.moved (u := U) (U := U.calling g mk a) (Vm.Alike.refl U.vm) qK, qD, NX.same (u := U) (U := U.calling g mk a) rfl qN⟩, fun U hU hW => ⟨rfl, by rw [hU], by rw [hU]; exact hPc, va_K.moved hW.alike hK, hDc.weaken (fun _ _ _ _ => trivial), NX.warm hW hN⟩⟩ rfl rfl hl.1 rfl (lv_room (Nat.le_of_ble_eq_true rfl)) dX2_buyYounger_5 ⟨Nat.le_of_ble_eq_true rfl, Nat.le_of_ble_eq_true rfl⟩) hS (fun q _ h => hFc q h) hFc (fun u9 t9 H1 locs ht hvm hw_1 hB hz1 hk1 hS => ?_)
  obtain ⟨u_2, rfl⟩ : ∃ z, z = u9 := ⟨_, rfl⟩
  obtain ⟨hP1, hK1, hD1⟩ := hB
  rw [ht] at hP1
  clear hK1
  try dsimp only at hw_1
  obtain ⟨hP, hD⟩ := va_join (wr := [(xc, .inr (2, [.ref cs, .ref ca, .ref cf, .ref k0, .int (nI n), .int co])), (cs, .inl (aC 0, 60, .inl sf)), (ca, .inl (aC 0, 60, .inl af)), (k0, .inr (0, []))]) (w1 := [(cf, .inl (aC 0, 60, .inl u_2))]) hP hD [3] [0, 1, 2, 4] rfl rfl (by decide) (by decide) hk1 hFc hP1 hD1
  generalize H1 = H at hP hS ⊢
  have hP : va_P (dC, dI) classes [(xc, .inr (2, [.ref cs, .ref ca, .ref cf, .ref k0, .int (nI n), .int co])), (cs, .inl (aC 0, 60, .inl sf)), (ca, .inl (aC 0, 60, .inl af)), (k0, .inr (0, [])), (cf, .inl (aC 0, 60, .inl u_2))] H := hP
  have hD : va_D A [(xc, .inr (2, [.ref cs, .ref ca, .ref cf, .ref k0, .int (nI n), .int co])), (cs, .inl (aC 0, 60, .inl sf)), (ca, .inl (aC 0, 60, .inl af)), (k0, .inr (0, [])), (cf, .inl (aC 0, 60, .inl u_2))] := hD
  clear hPc hDc hFc hz1 hk1 hP1 hD1 ht hvm
  refine lv_iconst (v := 0) hx hb dX2_buyYounger_8 (by decide) ?_
  refine lv_istore (lv' := [(4, .int 0), (0, .ref xc), (1, .int (nI i)), (2, .int lk), (3, .int fi)]) hx hb dX2_buyYounger_9 hl (by decide) rfl (fun ls hl => ?_)
  refine lv_iload_n hx hb dX2_buyYounger_11 rfl (lv_at hl 3 rfl) ?_
  refine lv_istore (lv' := [(5, .int lk), (4, .int 0), (0, .ref xc), (1, .int (nI i)), (2, .int lk), (3, .int fi)]) hx hb dX2_buyYounger_12 hl (by decide) rfl (fun ls hl => ?_)
  refine lv_iconst (v := 0) hx hb dX2_buyYounger_14 (by decide) ?_
  refine lv_istore (lv' := [(6, .int 0), (5, .int lk), (4, .int 0), (0, .ref xc), (1, .int (nI i)), (2, .int lk), (3, .int fi)]) hx hb dX2_buyYounger_15 hl (by decide) rfl (fun ls hl => ?_)
  refine lv_iconst (v := 0) hx hb dX2_buyYounger_17 (by decide) ?_
  refine lv_istore (lv' := [(7, .int 0), (6, .int 0), (5, .int lk), (4, .int 0), (0, .ref xc), (1, .int (nI i)), (2, .int lk), (3, .int fi)]) hx hb dX2_buyYounger_18 hl (by decide) rfl (fun ls hl => ?_)
  have lp_20 : ∀ (fu : Nat) (k : Nat) (x4 : Int32) (x5 : Int32) (x6 : Int32) (oc : Nat → Int32) (hfu : n - k < fu) (hk : k ≤ n) (H : Heap) (locs : List Loc) (ls : Array Slot), va_P (dC, dI) classes [(xc, .inr (2, [.ref cs, .ref ca, .ref cf, .ref k0, .int (nI n), .int co])), (cs, .inl (aC 0, 60, .inl sf)), (ca, .inl (aC 0, 60, .inl af)), (k0, .inr (0, [])), (cf, .inl (aC 0, 60, .inl oc))] H → va_D A [(xc, .inr (2, [.ref cs, .ref ca, .ref cf, .ref k0, .int (nI n), .int co])), (cs, .inl (aC 0, 60, .inl sf)), (ca, .inl (aC 0, 60, .inl af)), (k0, .inr (0, [])), (cf, .inl (aC 0, 60, .inl oc))] → va_S A s.heap H locs → lv_has ls 9 [(0, .ref xc), (1, .int (nI i)), (2, .int lk), (3, .int fi), (4, .int x4), (5, .int x5), (6, .int x6), (7, .int (nI k))] → W p l e (headSpec (wW yX2_buyYounger cX2_buyYounger 9 (some .int)) ({ frames := 2, cells := 0, slots := 0, locals := 37 } : Room)).room s m ([.ref xc, .int (nI i), .int lk, .int fi] : List Value).toArray below meth c H locs 0 0 (MQ below (va_Qi (fun (r : Int32) (og : Nat → Int32) => True) (fun (og : Nat → Int32) (t : State) => va_P (dC, dI) classes [(xc, .inr (2, [.ref cs, .ref ca, .ref cf, .ref k0, .int (nI n), .int co])), (cs, .inl (aC 0, 60, .inl sf)), (ca, .inl (aC 0, 60, .inl af)), (cf, .inl (aC 0, 60, .inl og)), (k0, .inr (0, []))] t.heap ∧ va_K (dC, dI) classes (TY aC) t ∧ va_D A [(xc, .inr (2, [.ref cs, .ref ca, .ref cf, .ref k0, .int (nI n), .int co])), (cs, .inl (aC 0, 60, .inl sf)), (ca, .inl (aC 0, 60, .inl af)), (cf, .inl (aC 0, 60, .inl og)), (k0, .inr (0, []))]) A) ([.ref xc, .int (nI i), .int lk, .int fi] : List Value).toArray s 0 0 A) (F0 m 20 ls []) := by
    intro fu
    induction fu with
    | zero => intro k x4 x5 x6 oc hfu; exact absurd hfu (Nat.not_lt_zero _)
    | succ fu ih_20 =>
      intro k x4 x5 x6 oc hfu hk H locs ls hP hD hS hl
      refine lv_iload hx hb dX2_buyYounger_20 (lv_at hl 7 rfl) ?_
      refine lv_aload_n hx hb dX2_buyYounger_22 rfl (lv_at hl 0 rfl) ?_
      refine va_get (D := (dC, dI)) (ci := 2) (v := .int (nI n)) (C := RX2) (T := TX2) (N := 6) hx hb hts inX2 hown hK hP 0 rfl rfl 4 (by decide) (hts _ (gw kw_211 rfl)) (fun _ h9 => h9) rfl dX2_buyYounger_23 ?_
      refine lv_icmp_ge (tgt := 87) hx hb dX2_buyYounger_26 (by decide) (fun c_3 => ?_) (fun c_3 => ?_)
      · refine lv_iload hx hb dX2_buyYounger_87 (lv_at hl 4 rfl) ?_
        have hP9 := hP.sub (ws' := [(xc, .inr (2, [.ref cs, .ref ca, .ref cf, .ref k0, .int (nI n), .int co])), (cs, .inl (aC 0, 60, .inl sf)), (ca, .inl (aC 0, 60, .inl af)), (cf, .inl (aC 0, 60, .inl oc)), (k0, .inr (0, []))]) [0, 1, 2, 4, 3] rfl
        have hD9 := hD.sub (ws' := [(xc, .inr (2, [.ref cs, .ref ca, .ref cf, .ref k0, .int (nI n), .int co])), (cs, .inl (aC 0, 60, .inl sf)), (ca, .inl (aC 0, 60, .inl af)), (cf, .inl (aC 0, 60, .inl oc)), (k0, .inr (0, []))]) [0, 1, 2, 4, 3] (by decide) rfl
        refine W.widen (k := 0) (n := 0) (by omega) (by omega) ?_
        exact W.iret (v := x4) hx hb hr (fun t ht hW => ⟨⟨x4, (oc), rfl, trivial, by rw [ht]; exact hP9, va_K.moved hW.alike hK, hD9⟩, hS.F ht⟩) hS.2.2 dX2_buyYounger_89
      · have hlt : k < n := by
          rcases Nat.lt_or_ge k n with q | q
          · exact q
          · exact absurd (nI_le q (by omega)) c_3
        refine lv_iload hx hb dX2_buyYounger_29 (lv_at hl 5 rfl) ?_
        refine lv_if_le (tgt := 87) hx hb dX2_buyYounger_31 (by decide) (fun c_4 => ?_) (fun c_4 => ?_)
        · refine lv_iload hx hb dX2_buyYounger_87 (lv_at hl 4 rfl) ?_
          have hP9 := hP.sub (ws' := [(xc, .inr (2, [.ref cs, .ref ca, .ref cf, .ref k0, .int (nI n), .int co])), (cs, .inl (aC 0, 60, .inl sf)), (ca, .inl (aC 0, 60, .inl af)), (cf, .inl (aC 0, 60, .inl oc)), (k0, .inr (0, []))]) [0, 1, 2, 4, 3] rfl
          have hD9 := hD.sub (ws' := [(xc, .inr (2, [.ref cs, .ref ca, .ref cf, .ref k0, .int (nI n), .int co])), (cs, .inl (aC 0, 60, .inl sf)), (ca, .inl (aC 0, 60, .inl af)), (cf, .inl (aC 0, 60, .inl oc)), (k0, .inr (0, []))]) [0, 1, 2, 4, 3] (by decide) rfl
          refine W.widen (k := 0) (n := 0) (by omega) (by omega) ?_
          exact W.iret (v := x4) hx hb hr (fun t ht hW => ⟨⟨x4, (oc), rfl, trivial, by rw [ht]; exact hP9, va_K.moved hW.alike hK, hD9⟩, hS.F ht⟩) hS.2.2 dX2_buyYounger_89
        · refine lv_iload hx hb dX2_buyYounger_34 (lv_at hl 4 rfl) ?_
          refine lv_aload_n hx hb dX2_buyYounger_36 rfl (lv_at hl 0 rfl) ?_
          refine va_get (D := (dC, dI)) (ci := 2) (v := .int co) (C := RX2) (T := TX2) (N := 6) hx hb hts inX2 hown hK hP 0 rfl rfl 5 (by decide) (hts _ (gw kw_212 rfl)) (fun _ h9 => h9) rfl dX2_buyYounger_37 ?_
          refine lv_icmp_gt (tgt := 87) hx hb dX2_buyYounger_40 (by decide) (fun c_5 => ?_) (fun c_5 => ?_)
          · refine lv_iload hx hb dX2_buyYounger_87 (lv_at hl 4 rfl) ?_
            have hP9 := hP.sub (ws' := [(xc, .inr (2, [.ref cs, .ref ca, .ref cf, .ref k0, .int (nI n), .int co])), (cs, .inl (aC 0, 60, .inl sf)), (ca, .inl (aC 0, 60, .inl af)), (cf, .inl (aC 0, 60, .inl oc)), (k0, .inr (0, []))]) [0, 1, 2, 4, 3] rfl
            have hD9 := hD.sub (ws' := [(xc, .inr (2, [.ref cs, .ref ca, .ref cf, .ref k0, .int (nI n), .int co])), (cs, .inl (aC 0, 60, .inl sf)), (ca, .inl (aC 0, 60, .inl af)), (cf, .inl (aC 0, 60, .inl oc)), (k0, .inr (0, []))]) [0, 1, 2, 4, 3] (by decide) rfl
            refine W.widen (k := 0) (n := 0) (by omega) (by omega) ?_
            exact W.iret (v := x4) hx hb hr (fun t ht hW => ⟨⟨x4, (oc), rfl, trivial, by rw [ht]; exact hP9, va_K.moved hW.alike hK, hD9⟩, hS.F ht⟩) hS.2.2 dX2_buyYounger_89
          · refine lv_aload_n hx hb dX2_buyYounger_43 rfl (lv_at hl 0 rfl) ?_
            refine lv_iload_n hx hb dX2_buyYounger_44 rfl (lv_at hl 1 rfl) ?_
            refine lv_iload hx hb dX2_buyYounger_45 (lv_at hl 6 rfl) ?_
            have hPc := hP.sub (ws' := [(xc, .inr (2, [.ref cs, .ref ca, .ref cf, .ref k0, .int (nI n), .int co])), (cs, .inl (aC 0, 60, .inl sf)), (ca, .inl (aC 0, 60, .inl af)), (cf, .inl (aC 0, 60, .inl oc)), (k0, .inr (0, []))]) [0, 1, 2, 4, 3] rfl
            have hDc := hD.sub (ws' := [(xc, .inr (2, [.ref cs, .ref ca, .ref cf, .ref k0, .int (nI n), .int co])), (cs, .inl (aC 0, 60, .inl sf)), (ca, .inl (aC 0, 60, .inl af)), (cf, .inl (aC 0, 60, .inl oc)), (k0, .inr (0, []))]) [0, 1, 2, 4, 3] (by decide) rfl
            have hFc := va_free (wc := [(xc, .inr (2, [.ref cs, .ref ca, .ref cf, .ref k0, .int (nI n), .int co])), (cs, .inl (aC 0, 60, .inl sf)), (ca, .inl (aC 0, 60, .inl af)), (cf, .inl (aC 0, 60, .inl oc)), (k0, .inr (0, []))]) hD hS hA [0, 1, 2, 4, 3] rfl
            refine va_calli (va_runV (As := [.int (nI i), .int x6]) (rest := []) ⟨hx, hb, hml, hown, hts⟩ (c_X2_nextLevel l dC dI aC H.size xc cs ca cf k0 n co sf af oc i x6 (hi)) ⟨(callB_of 2 hts (gG kw_585) rfl rfl rfl (hts _ (gw kw_12 rfl)) (hts _ (gw kw_582 rfl)) (by decide +kernel) ⟨Nat.le_of_ble_eq_true rfl, Nat.le_of_ble_eq_true rfl⟩), (hts _ (gw kw_584 rfl)), (hts _ (gw ks_24 rfl))⟩ ⟨fun a U g mk q => by obtain ⟨q0, q1, qP, qK, qD, qN⟩ := q; exact ⟨q0, q1, qP, va_K.moved (u := U) (U := U.calling g mk a) (Vm.Alike.refl U.vm) qK, qD, NX.same (u := U) (U := U.calling g mk a) rfl qN⟩, va_recv hK hPc (ci := 2) (q0 := 0) rfl rfl, fun U hU hW => ⟨rfl, by rw [hU], by rw [hU]; exact hPc, va_K.moved hW.alike hK, hDc.weaken (fun _ _ _ _ => trivial), NX.warm hW hN⟩⟩ rfl rfl hl.1 rfl (lv_room (Nat.le_of_ble_eq_true rfl)) dX2_buyYounger_47 ⟨Nat.le_of_ble_eq_true rfl, Nat.le_of_ble_eq_true rfl⟩) hS (fun q _ h => hFc q h) hFc (fun x_6 u9 t9 H1 locs ht hvm hw_6 hB hz1 hk1 hS => ?_)
            obtain ⟨hP1, hK1, hD1⟩ := hB
            rw [ht] at hP1
            clear hK1
            try dsimp only at hw_6
            obtain ⟨hP, hD⟩ := va_join (wr := []) (w1 := [(xc, .inr (2, [.ref cs, .ref ca, .ref cf, .ref k0, .int (nI n), .int co])), (cs, .inl (aC 0, 60, .inl sf)), (ca, .inl (aC 0, 60, .inl af)), (cf, .inl (aC 0, 60, .inl oc)), (k0, .inr (0, []))]) hP hD [0, 1, 2, 4, 3] [] rfl rfl (by decide) (by decide) hk1 hFc hP1 hD1
            generalize H1 = H at hP hS ⊢
            have hP : va_P (dC, dI) classes [(xc, .inr (2, [.ref cs, .ref ca, .ref cf, .ref k0, .int (nI n), .int co])), (cs, .inl (aC 0, 60, .inl sf)), (ca, .inl (aC 0, 60, .inl af)), (cf, .inl (aC 0, 60, .inl oc)), (k0, .inr (0, []))] H := hP
            have hD : va_D A [(xc, .inr (2, [.ref cs, .ref ca, .ref cf, .ref k0, .int (nI n), .int co])), (cs, .inl (aC 0, 60, .inl sf)), (ca, .inl (aC 0, 60, .inl af)), (cf, .inl (aC 0, 60, .inl oc)), (k0, .inr (0, []))] := hD
            clear hPc hDc hFc hz1 hk1 hP1 hD1 ht hvm
            refine lv_istore (lv' := [(6, .int x_6), (0, .ref xc), (1, .int (nI i)), (2, .int lk), (3, .int fi), (4, .int x4), (5, .int x5), (7, .int (nI k))]) hx hb dX2_buyYounger_50 hl (by decide) rfl (fun ls hl => ?_)
            refine lv_aload_n hx hb dX2_buyYounger_52 rfl (lv_at hl 1 rfl) ?_
            refine lv_iload_n hx hb dX2_buyYounger_53 rfl (lv_at hl 2 rfl) ?_
            refine lv_iload hx hb dX2_buyYounger_54 (lv_at hl 0 rfl) ?_
            refine lv_iload hx hb dX2_buyYounger_56 (lv_at hl 6 rfl) ?_
            refine lv_iload_n hx hb dX2_buyYounger_58 rfl (lv_at hl 4 rfl) ?_
            have hPc := hP.sub (ws' := [(xc, .inr (2, [.ref cs, .ref ca, .ref cf, .ref k0, .int (nI n), .int co])), (cs, .inl (aC 0, 60, .inl sf)), (ca, .inl (aC 0, 60, .inl af)), (cf, .inl (aC 0, 60, .inl oc)), (k0, .inr (0, []))]) [0, 1, 2, 3, 4] rfl
            have hDc := hD.sub (ws' := [(xc, .inr (2, [.ref cs, .ref ca, .ref cf, .ref k0, .int (nI n), .int co])), (cs, .inl (aC 0, 60, .inl sf)), (ca, .inl (aC 0, 60, .inl af)), (cf, .inl (aC 0, 60, .inl oc)), (k0, .inr (0, []))]) [0, 1, 2, 3, 4] (by decide) rfl
            have hFc := va_free (wc := [(xc, .inr (2, [.ref cs, .ref ca, .ref cf, .ref k0, .int (nI n), .int co])), (cs, .inl (aC 0, 60, .inl sf)), (ca, .inl (aC 0, 60, .inl af)), (cf, .inl (aC 0, 60, .inl oc)), (k0, .inr (0, []))]) hD hS hA [0, 1, 2, 3, 4] rfl
            refine va_calli (va_runV (As := [.int (nI i), .int x_6, .int x5, .int fi]) (rest := []) ⟨hx, hb, hml, hown, hts⟩ (c_X2_buyAtLevel l dC dI aC H.size xc cs ca cf k0 n co sf af oc i x_6 x5 fi (hi)) ⟨(callB_of 4 hts (gG kw_589) rfl rfl rfl (hts _ (gw kw_12 rfl)) (hts _ (gw kw_586 rfl)) (by decide +kernel) ⟨Nat.le_of_ble_eq_true rfl, Nat.le_of_ble_eq_true rfl⟩), (hts _ (gw kw_588 rfl)), (hts _ (gw ks_25 rfl))⟩ ⟨fun a U g mk q => by obtain ⟨q0, q1, qP, qK, qD, qN⟩ := q; exact ⟨q0, q1, qP, va_K.moved (u := U) (U := U.calling g mk a) (Vm.Alike.refl U.vm) qK, qD, NX.same (u := U) (U := U.calling g mk a) rfl qN⟩, va_recv hK hPc (ci := 2) (q0 := 0) rfl rfl, fun U hU hW => ⟨rfl, by rw [hU], by rw [hU]; exact hPc, va_K.moved hW.alike hK, hDc.weaken (fun _ _ _ _ => trivial), NX.warm hW hN⟩⟩ rfl rfl hl.1 rfl (lv_room (Nat.le_of_ble_eq_true rfl)) dX2_buyYounger_59 ⟨Nat.le_of_ble_eq_true rfl, Nat.le_of_ble_eq_true rfl⟩) hS (fun q _ h => hFc q h) hFc (fun x_7 u9 t9 H1 locs ht hvm hw_7 hB hz1 hk1 hS => ?_)
            obtain ⟨u_8, rfl⟩ : ∃ z, z = u9 := ⟨_, rfl⟩
            obtain ⟨hP1, hK1, hD1⟩ := hB
            rw [ht] at hP1
            clear hK1
            try dsimp only at hw_7
            obtain ⟨hP, hD⟩ := va_join (wr := []) (w1 := [(xc, .inr (2, [.ref cs, .ref ca, .ref cf, .ref k0, .int (nI n), .int co])), (cs, .inl (aC 0, 60, .inl sf)), (ca, .inl (aC 0, 60, .inl af)), (cf, .inl (aC 0, 60, .inl u_8)), (k0, .inr (0, []))]) hP hD [0, 1, 2, 3, 4] [] rfl rfl (by decide) (by decide) hk1 hFc hP1 hD1
            generalize H1 = H at hP hS ⊢
            have hP : va_P (dC, dI) classes [(xc, .inr (2, [.ref cs, .ref ca, .ref cf, .ref k0, .int (nI n), .int co])), (cs, .inl (aC 0, 60, .inl sf)), (ca, .inl (aC 0, 60, .inl af)), (cf, .inl (aC 0, 60, .inl u_8)), (k0, .inr (0, []))] H := hP
            have hD : va_D A [(xc, .inr (2, [.ref cs, .ref ca, .ref cf, .ref k0, .int (nI n), .int co])), (cs, .inl (aC 0, 60, .inl sf)), (ca, .inl (aC 0, 60, .inl af)), (cf, .inl (aC 0, 60, .inl u_8)), (k0, .inr (0, []))] := hD
            clear hPc hDc hFc hz1 hk1 hP1 hD1 ht hvm
            refine lv_istore (lv' := [(8, .int x_7), (6, .int x_6), (0, .ref xc), (1, .int (nI i)), (2, .int lk), (3, .int fi), (4, .int x4), (5, .int x5), (7, .int (nI k))]) hx hb dX2_buyYounger_62 hl (by decide) rfl (fun ls hl => ?_)
            refine lv_iload hx hb dX2_buyYounger_64 (lv_at hl 6 rfl) ?_
            refine lv_iload hx hb dX2_buyYounger_66 (lv_at hl 0 rfl) ?_
            refine lv_iload hx hb dX2_buyYounger_68 (lv_at hl 1 rfl) ?_
            refine lv_imul hx hb dX2_buyYounger_70 ?_
            refine lv_topi (fun x_9 e_9 => ?_)
            refine lv_iadd hx hb dX2_buyYounger_71 ?_
            refine lv_topi (fun x_10 e_10 => ?_)
            refine lv_istore (lv' := [(4, .int x_10), (8, .int x_7), (6, .int x_6), (0, .ref xc), (1, .int (nI i)), (2, .int lk), (3, .int fi), (5, .int x5), (7, .int (nI k))]) hx hb dX2_buyYounger_72 hl (by decide) rfl (fun ls hl => ?_)
            refine lv_iload hx hb dX2_buyYounger_74 (lv_at hl 7 rfl) ?_
            refine lv_iload hx hb dX2_buyYounger_76 (lv_at hl 1 rfl) ?_
            refine lv_isub hx hb dX2_buyYounger_78 ?_
            refine lv_topi (fun x_11 e_11 => ?_)
            refine lv_istore (lv' := [(5, .int x_11), (4, .int x_10), (8, .int x_7), (6, .int x_6), (0, .ref xc), (1, .int (nI i)), (2, .int lk), (3, .int fi), (7, .int (nI k))]) hx hb dX2_buyYounger_79 hl (by decide) rfl (fun ls hl => ?_)
            obtain ⟨x_12, e_12⟩ : ∃ y : Int32, y = (nI k) + 1 := ⟨_, rfl⟩
            refine lv_iinc (v := x_12) (lv' := [(7, .int x_12), (5, .int x_11), (4, .int x_10), (8, .int x_7), (6, .int x_6), (0, .ref xc), (1, .int (nI i)), (2, .int lk), (3, .int fi)]) hx hb dX2_buyYounger_81 hl (k := 8) rfl (by rw [e_12]; rfl) (by decide) rfl (fun ls hl => ?_)
            have h9 : x_12 = nI (k + 1) := by rw [e_12, nI_1]
            subst h9
            refine lv_goto (tgt := 20) hx hb dX2_buyYounger_84 (by decide) ?_
            exact ih_20 (k + 1) x_10 x_11 x_6 u_8 (by omega) (by omega) _ _ _ (hP.sub [0, 1, 2, 4, 3] rfl) (hD.sub [0, 1, 2, 4, 3] (by decide) rfl) hS (lv_sub hl [5, 6, 7, 8, 2, 1, 4, 0] rfl)
  exact lp_20 ((n - 0) + 1) 0 0 lk 0 u_2 (Nat.lt_succ_self _) (by omega) _ _ _ (hP.sub [0, 1, 2, 3, 4] rfl) (hD.sub [0, 1, 2, 3, 4] (by decide) rfl) hS (lv_sub hl [4, 5, 6, 7, 3, 2, 1, 0] rfl)

set_option maxHeartbeats 1000000 in
set_option maxRecDepth 100000 in
/-- X2_solve -/
theorem c_X2_solve (l : Launch) (dC : Nat → ClassId) (dI : Nat → Nat → Nat) (aC : Nat → ClassId) (sz : Nat) (xc : Nat) (cs : Nat) (ca : Nat) (cf : Nat) (k0 : Nat) (co : Int32) (sf : Nat → Int32) (af : Nat → Int32) (of : Nat → Int32) (z1 : Int32) (n : Nat) (c0 : Int32) (es : Nat) (stf : Nat → Int32) (hn : 1 ≤ n ∧ n ≤ 60) : Met l yX2_solve (wW yX2_solve cX2_solve 8 (none : Option FieldType)) ({ frames := 3, cells := 0, slots := 0, locals := 65 } : Room) (va_Pc [.ref xc, .int (nI n), .int c0, .ref es] (fun U => U.heap.size = sz ∧ va_P (dC, dI) classes [(xc, .inr (2, [.ref cs, .ref ca, .ref cf, .ref k0, .int z1, .int co])), (cs, .inl (aC 0, 60, .inl sf)), (ca, .inl (aC 0, 60, .inl af)), (cf, .inl (aC 0, 60, .inl of)), (k0, .inr (0, [])), (es, .inl (aC 0, 5, .inl stf))] U.heap ∧ va_K (dC, dI) classes (TY aC) U ∧ va_D (fun _ => True) [(xc, .inr (2, [.ref cs, .ref ca, .ref cf, .ref k0, .int z1, .int co])), (cs, .inl (aC 0, 60, .inl sf)), (ca, .inl (aC 0, 60, .inl af)), (cf, .inl (aC 0, 60, .inl of)), (k0, .inr (0, [])), (es, .inl (aC 0, 5, .inl stf))] ∧ NX U)) (va_Qv (fun (u : (Nat → Int32) × (Nat → Int32) × (Nat → Int32)) => match u with | (sg, ag, og) => True) (fun (u : (Nat → Int32) × (Nat → Int32) × (Nat → Int32)) (t : State) => match u with | (sg, ag, og) => va_P (dC, dI) classes [(xc, .inr (2, [.ref cs, .ref ca, .ref cf, .ref k0, .int (nI n), .int c0])), (cs, .inl (aC 0, 60, .inl sg)), (ca, .inl (aC 0, 60, .inl ag)), (cf, .inl (aC 0, 60, .inl og)), (k0, .inr (0, [])), (es, .inl (aC 0, 5, .inl stf))] t.heap ∧ va_K (dC, dI) classes (TY aC) t ∧ va_D (va_A [(xc, .inr (2, [.ref cs, .ref ca, .ref cf, .ref k0, .int z1, .int co])), (cs, .inl (aC 0, 60, .inl sf)), (ca, .inl (aC 0, 60, .inl af)), (cf, .inl (aC 0, 60, .inl of)), (k0, .inr (0, [])), (es, .inl (aC 0, 5, .inl stf))] sz) [(xc, .inr (2, [.ref cs, .ref ca, .ref cf, .ref k0, .int (nI n), .int c0])), (cs, .inl (aC 0, 60, .inl sg)), (ca, .inl (aC 0, 60, .inl ag)), (cf, .inl (aC 0, 60, .inl og)), (k0, .inr (0, [])), (es, .inl (aC 0, 5, .inl stf))]) (va_A [(xc, .inr (2, [.ref cs, .ref ca, .ref cf, .ref k0, .int z1, .int co])), (cs, .inl (aC 0, 60, .inl sf)), (ca, .inl (aC 0, 60, .inl af)), (cf, .inl (aC 0, 60, .inl of)), (k0, .inr (0, [])), (es, .inl (aC 0, 5, .inl stf))] sz)) 0 0 (va_A [(xc, .inr (2, [.ref cs, .ref ca, .ref cf, .ref k0, .int z1, .int co])), (cs, .inl (aC 0, 60, .inl sf)), (ca, .inl (aC 0, 60, .inl af)), (cf, .inl (aC 0, 60, .inl of)), (k0, .inr (0, [])), (es, .inl (aC 0, 5, .inl stf))] sz) := by
  refine Met.ofW (cc := cX2_solve) (maxL := 8) (ret := (none : Option FieldType)) (by decide) rfl ?_
  intro p e s m args below meth c s₁ B hml hv
  obtain ⟨rfl, hsz, hP, hK, hD0, hN⟩ := hv
  have hx := B.exec
  have hb := B.bytes
  have hr := B.returns
  have hts0 := atoms_spec (ws := (wW yX2_solve cX2_solve 8 (none : Option FieldType))) B.pre
  have hts : ∀ w9 ∈ lw_G, w9.before ([.ref xc, .int (nI n), .int c0, .ref es] : List Value).toArray s = true := fun w9 h9 => hts0 w9 (List.mem_cons_of_mem _ h9)
  have hown : s.vm.findClass RX2 = some m.cls := findClass_of_methodNamed B.named
  have hlocks := B.notSynchronized
  subst hsz
  have hD := hD0.self (sz := s.heap.size)
  generalize hAe : va_A [(xc, .inr (2, [.ref cs, .ref ca, .ref cf, .ref k0, .int z1, .int co])), (cs, .inl (aC 0, 60, .inl sf)), (ca, .inl (aC 0, 60, .inl af)), (cf, .inl (aC 0, 60, .inl of)), (k0, .inr (0, [])), (es, .inl (aC 0, 5, .inl stf))] s.heap.size = A at hD ⊢
  have hA : ∀ q : Nat, s.heap.size ≤ q → A q := fun q h => by rw [← hAe]; exact Or.inr h
  obtain ⟨H, hHe⟩ : ∃ H : Heap, H = s.heap := ⟨_, rfl⟩
  have hS : va_S A s.heap H [] := by rw [hHe]; exact va_S.rf
  have hP : va_P (dC, dI) classes [(xc, .inr (2, [.ref cs, .ref ca, .ref cf, .ref k0, .int z1, .int co])), (cs, .inl (aC 0, 60, .inl sf)), (ca, .inl (aC 0, 60, .inl af)), (cf, .inl (aC 0, 60, .inl of)), (k0, .inr (0, [])), (es, .inl (aC 0, 5, .inl stf))] H := by rw [hHe]; exact hP
  have hl := lv_entry ([.ref xc, .int (nI n), .int c0, .ref es]) (n := 8) (Nat.le_of_ble_eq_true rfl)
  rw [lg_entry_eq]
  generalize (lg_sl ([.ref xc, .int (nI n), .int c0, .ref es]) ++ List.replicate (8 - (lg_sl ([.ref xc, .int (nI n), .int c0, .ref es])).length) Slot.unset).toArray = ls at hl ⊢
  have hl : lv_has ls 8 [(0, .ref xc), (1, .int (nI n)), (2, .int c0), (3, .ref es)] := hl
  rw [← hHe]
  refine lv_aload_n hx hb dX2_solve_0 rfl (lv_at hl 0 rfl) ?_
  refine lv_iload_n hx hb dX2_solve_1 rfl (lv_at hl 1 rfl) ?_
  refine lv_bipush (v := 60) hx hb dX2_solve_2 (by decide) ?_
  refine va_mmin hx hb (by rw [hml]; exact hl.1.symm) hown (hts _ (gw kw_565 rfl)) (hts _ (gw kw_566 rfl)) (hts _ (gw kw_14 rfl)) (hts _ (gw kw_567 rfl)) (Nat.le_of_ble_eq_true rfl) (Nat.le_of_ble_eq_true rfl) (Nat.zero_le _) (Nat.zero_le _) dX2_solve_4 ?_
  refine lv_topi (fun x_1 e_1 => ?_)
  have h9 : x_1 = nI n := by rw [e_1]; exact mn60 hn.2
  subst h9
  refine va_put (D := (dC, dI)) (ci := 2) (v := .int (nI n)) (ty := .int) (C := RX2) (T := TX2) (N := 6) hx hb hts inX2 tyX2 tyX2_ok nmX2 hown hK hP hD hS 0 rfl rfl 4 (by decide) (hts _ (gw kw_211 rfl)) (fun _ h9 => h9) rfl (by decide +kernel) rfl rfl (Nat.le_of_ble_eq_true rfl) dX2_solve_7 (fun H locs hP hD hS => ?_)
  have hP : va_P (dC, dI) classes [(xc, .inr (2, [.ref cs, .ref ca, .ref cf, .ref k0, .int (nI n), .int co])), (cs, .inl (aC 0, 60, .inl sf)), (ca, .inl (aC 0, 60, .inl af)), (cf, .inl (aC 0, 60, .inl of)), (k0, .inr (0, [])), (es, .inl (aC 0, 5, .inl stf))] H := hP
  have hD : va_D A [(xc, .inr (2, [.ref cs, .ref ca, .ref cf, .ref k0, .int (nI n), .int co])), (cs, .inl (aC 0, 60, .inl sf)), (ca, .inl (aC 0, 60, .inl af)), (cf, .inl (aC 0, 60, .inl of)), (k0, .inr (0, [])), (es, .inl (aC 0, 5, .inl stf))] := hD
  refine lv_aload_n hx hb dX2_solve_10 rfl (lv_at hl 0 rfl) ?_
  refine lv_iload_n hx hb dX2_solve_11 rfl (lv_at hl 2 rfl) ?_
  refine va_put (D := (dC, dI)) (ci := 2) (v := .int c0) (ty := .int) (C := RX2) (T := TX2) (N := 6) hx hb hts inX2 tyX2 tyX2_ok nmX2 hown hK hP hD hS 0 rfl rfl 5 (by decide) (hts _ (gw kw_212 rfl)) (fun _ h9 => h9) rfl (by decide +kernel) rfl rfl (Nat.le_of_ble_eq_true rfl) dX2_solve_12 (fun H locs hP hD hS => ?_)
  have hP : va_P (dC, dI) classes [(xc, .inr (2, [.ref cs, .ref ca, .ref cf, .ref k0, .int (nI n), .int c0])), (cs, .inl (aC 0, 60, .inl sf)), (ca, .inl (aC 0, 60, .inl af)), (cf, .inl (aC 0, 60, .inl of)), (k0, .inr (0, [])), (es, .inl (aC 0, 5, .inl stf))] H := hP
  have hD : va_D A [(xc, .inr (2, [.ref cs, .ref ca, .ref cf, .ref k0, .int (nI n), .int c0])), (cs, .inl (aC 0, 60, .inl sf)), (ca, .inl (aC 0, 60, .inl af)), (cf, .inl (aC 0, 60, .inl of)), (k0, .inr (0, [])), (es, .inl (aC 0, 5, .inl stf))] := hD
  refine lv_aload_n hx hb dX2_solve_15 rfl (lv_at hl 0 rfl) ?_
  refine va_get (D := (dC, dI)) (ci := 2) (v := .int (nI n)) (C := RX2) (T := TX2) (N := 6) hx hb hts inX2 hown hK hP 0 rfl rfl 4 (by decide) (hts _ (gw kw_211 rfl)) (fun _ h9 => h9) rfl dX2_solve_16 ?_
  refine lv_iconst (v := 1) hx hb dX2_solve_19 (by decide) ?_
  refine lv_isub hx hb dX2_solve_20 ?_
  refine lv_topi (fun x_2 e_2 => ?_)
  refine lv_istore (lv' := [(4, .int x_2), (0, .ref xc), (1, .int (nI n)), (2, .int c0), (3, .ref es)]) hx hb dX2_solve_21 hl (by decide) rfl (fun ls hl => ?_)
  have lp_23 : ∀ (fu : Nat) (kk : Nat) (x4 : Int32) (sc : Nat → Int32) (ac : Nat → Int32) (oc : Nat → Int32) (hfu : kk < fu) (hkk : kk ≤ n) (hx4 : x4 = iI ((kk : Int) - 1)) (H : Heap) (locs : List Loc) (ls : Array Slot), va_P (dC, dI) classes [(xc, .inr (2, [.ref cs, .ref ca, .ref cf, .ref k0, .int (nI n), .int c0])), (cs, .inl (aC 0, 60, .inl sc)), (ca, .inl (aC 0, 60, .inl ac)), (cf, .inl (aC 0, 60, .inl oc)), (k0, .inr (0, [])), (es, .inl (aC 0, 5, .inl stf))] H → va_D A [(xc, .inr (2, [.ref cs, .ref ca, .ref cf, .ref k0, .int (nI n), .int c0])), (cs, .inl (aC 0, 60, .inl sc)), (ca, .inl (aC 0, 60, .inl ac)), (cf, .inl (aC 0, 60, .inl oc)), (k0, .inr (0, [])), (es, .inl (aC 0, 5, .inl stf))] → va_S A s.heap H locs → lv_has ls 8 [(0, .ref xc), (1, .int (nI n)), (2, .int c0), (3, .ref es), (4, .int x4)] → W p l e (headSpec (wW yX2_solve cX2_solve 8 (none : Option FieldType)) ({ frames := 3, cells := 0, slots := 0, locals := 65 } : Room)).room s m ([.ref xc, .int (nI n), .int c0, .ref es] : List Value).toArray below meth c H locs 0 0 (MQ below (va_Qv (fun (u : (Nat → Int32) × (Nat → Int32) × (Nat → Int32)) => match u with | (sg, ag, og) => True) (fun (u : (Nat → Int32) × (Nat → Int32) × (Nat → Int32)) (t : State) => match u with | (sg, ag, og) => va_P (dC, dI) classes [(xc, .inr (2, [.ref cs, .ref ca, .ref cf, .ref k0, .int (nI n), .int c0])), (cs, .inl (aC 0, 60, .inl sg)), (ca, .inl (aC 0, 60, .inl ag)), (cf, .inl (aC 0, 60, .inl og)), (k0, .inr (0, [])), (es, .inl (aC 0, 5, .inl stf))] t.heap ∧ va_K (dC, dI) classes (TY aC) t ∧ va_D A [(xc, .inr (2, [.ref cs, .ref ca, .ref cf, .ref k0, .int (nI n), .int c0])), (cs, .inl (aC 0, 60, .inl sg)), (ca, .inl (aC 0, 60, .inl ag)), (cf, .inl (aC 0, 60, .inl og)), (k0, .inr (0, [])), (es, .inl (aC 0, 5, .inl stf))]) A) ([.ref xc, .int (nI n), .int c0, .ref es] : List Value).toArray s 0 0 A) (F0 m 23 ls []) := by
    intro fu
    induction fu with
    | zero => intro kk x4 sc ac oc hfu; exact absurd hfu (Nat.not_lt_zero _)
    | succ fu ih_23 =>
      intro kk x4 sc ac oc hfu hkk hx4 H locs ls hP hD hS hl
      refine lv_iload hx hb dX2_solve_23 (lv_at hl 4 rfl) ?_
      refine lv_if_lt (tgt := 126) hx hb dX2_solve_25 (by decide) (fun c_3 => ?_) (fun c_3 => ?_)
      · have hP9 := hP.sub (ws' := [(xc, .inr (2, [.ref cs, .ref ca, .ref cf, .ref k0, .int (nI n), .int c0])), (cs, .inl (aC 0, 60, .inl sc)), (ca, .inl (aC 0, 60, .inl ac)), (cf, .inl (aC 0, 60, .inl oc)), (k0, .inr (0, [])), (es, .inl (aC 0, 5, .inl stf))]) [0, 1, 2, 3, 4, 5] rfl
        have hD9 := hD.sub (ws' := [(xc, .inr (2, [.ref cs, .ref ca, .ref cf, .ref k0, .int (nI n), .int c0])), (cs, .inl (aC 0, 60, .inl sc)), (ca, .inl (aC 0, 60, .inl ac)), (cf, .inl (aC 0, 60, .inl oc)), (k0, .inr (0, [])), (es, .inl (aC 0, 5, .inl stf))]) [0, 1, 2, 3, 4, 5] (by decide) rfl
        refine W.widen (k := 0) (n := 0) (by omega) (by omega) ?_
        exact W.vret hx hb hr (fun t ht hW => ⟨⟨(sc, ac, oc), rfl, trivial, by rw [ht]; exact hP9, va_K.moved hW.alike hK, hD9⟩, hS.F ht⟩) hS.2.2 dX2_solve_126
      · have hk1 : 1 ≤ kk := by
          rcases Nat.eq_zero_or_pos kk with q | q
          · subst q; exact absurd (by rw [hx4]; decide) c_3
          · exact q
        obtain ⟨i, hkk⟩ : ∃ i, kk = i + 1 := ⟨kk - 1, by omega⟩
        subst hkk
        have h9 : x4 = nI i := by rw [hx4, nI_iI]; congr 1; omega
        subst h9
        refine lv_aload_n hx hb dX2_solve_28 rfl (lv_at hl 0 rfl) ?_
        refine lv_iload hx hb dX2_solve_29 (lv_at hl 4 rfl) ?_
        refine lv_aload_n hx hb dX2_solve_31 rfl (lv_at hl 3 rfl) ?_
        refine lv_iconst (v := 2) hx hb dX2_solve_32 (by decide) ?_
        have h_4 : vp_in 2 5 := by unfold vp_in; decide
        refine va_iald hx hb hK hP 5 0 rfl rfl h_4 dX2_solve_33 ?_
        refine lv_topi (fun x_5 e_5 => ?_)
        have hPc := hP.sub (ws' := [(xc, .inr (2, [.ref cs, .ref ca, .ref cf, .ref k0, .int (nI n), .int c0])), (cs, .inl (aC 0, 60, .inl sc)), (ca, .inl (aC 0, 60, .inl ac)), (cf, .inl (aC 0, 60, .inl oc)), (k0, .inr (0, []))]) [0, 1, 2, 3, 4] rfl
        have hDc := hD.sub (ws' := [(xc, .inr (2, [.ref cs, .ref ca, .ref cf, .ref k0, .int (nI n), .int c0])), (cs, .inl (aC 0, 60, .inl sc)), (ca, .inl (aC 0, 60, .inl ac)), (cf, .inl (aC 0, 60, .inl oc)), (k0, .inr (0, []))]) [0, 1, 2, 3, 4] (by decide) rfl
        have hFc := va_free (wc := [(xc, .inr (2, [.ref cs, .ref ca, .ref cf, .ref k0, .int (nI n), .int c0])), (cs, .inl (aC 0, 60, .inl sc)), (ca, .inl (aC 0, 60, .inl ac)), (cf, .inl (aC 0, 60, .inl oc)), (k0, .inr (0, []))]) hD hS hA [0, 1, 2, 3, 4] rfl
        refine va_calli (va_runV (As := [.int (nI i), .int x_5]) (rest := []) ⟨hx, hb, hml, hown, hts⟩ (c_X2_askYounger l dC dI aC H.size xc cs ca cf k0 n c0 sc ac oc i x_5 (by omega)) ⟨(callB_of 2 hts (gG kw_571) rfl rfl rfl (hts _ (gw kw_12 rfl)) (hts _ (gw kw_568 rfl)) (by decide +kernel) ⟨Nat.le_of_ble_eq_true rfl, Nat.le_of_ble_eq_true rfl⟩), (hts _ (gw kw_570 rfl)), (hts _ (gw ks_22 rfl))⟩ ⟨fun a U g mk q => by obtain ⟨q0, q1, qP, qK, qD, qN⟩ := q; exact ⟨q0, q1, qP, va_K.moved (u := U) (U := U.calling g mk a) (Vm.Alike.refl U.vm) qK, qD, NX.same (u := U) (U := U.calling g mk a) rfl qN⟩, va_recv hK hPc (ci := 2) (q0 := 0) rfl rfl, fun U hU hW => ⟨rfl, by rw [hU], by rw [hU]; exact hPc, va_K.moved hW.alike hK, hDc.weaken (fun _ _ _ _ => trivial), NX.warm hW hN⟩⟩ rfl rfl hl.1 rfl (lv_room (Nat.le_of_ble_eq_true rfl)) dX2_solve_34 ⟨Nat.le_of_ble_eq_true rfl, Nat.le_of_ble_eq_true rfl⟩) hS (fun q _ h => hFc q h) hFc (fun x_6 u9 t9 H1 locs ht hvm hw_6 hB hz1 hk1 hS => ?_)
        obtain ⟨u_7, rfl⟩ : ∃ z, z = u9 := ⟨_, rfl⟩
        obtain ⟨hP1, hK1, hD1⟩ := hB
        rw [ht] at hP1
        clear hK1
        try dsimp only at hw_6
        obtain ⟨hP, hD⟩ := va_join (wr := [(es, .inl (aC 0, 5, .inl stf))]) (w1 := [(xc, .inr (2, [.ref cs, .ref ca, .ref cf, .ref k0, .int (nI n), .int c0])), (cs, .inl (aC 0, 60, .inl sc)), (ca, .inl (aC 0, 60, .inl u_7)), (cf, .inl (aC 0, 60, .inl oc)), (k0, .inr (0, []))]) hP hD [0, 1, 2, 3, 4] [5] rfl rfl (by decide) (by decide) hk1 hFc hP1 hD1
        generalize H1 = H at hP hS ⊢
        have hP : va_P (dC, dI) classes [(es, .inl (aC 0, 5, .inl stf)), (xc, .inr (2, [.ref cs, .ref ca, .ref cf, .ref k0, .int (nI n), .int c0])), (cs, .inl (aC 0, 60, .inl sc)), (ca, .inl (aC 0, 60, .inl u_7)), (cf, .inl (aC 0, 60, .inl oc)), (k0, .inr (0, []))] H := hP
        have hD : va_D A [(es, .inl (aC 0, 5, .inl stf)), (xc, .inr (2, [.ref cs, .ref ca, .ref cf, .ref k0, .int (nI n), .int c0])), (cs, .inl (aC 0, 60, .inl sc)), (ca, .inl (aC 0, 60, .inl u_7)), (cf, .inl (aC 0, 60, .inl oc)), (k0, .inr (0, []))] := hD
        clear hPc hDc hFc hz1 hk1 hP1 hD1 ht hvm
        obtain ⟨fr, hfr, hfe⟩ := hw_6
        have h9 : x_6 = nI fr := hfe
        subst h9
        refine lv_istore (lv' := [(5, .int (nI fr)), (0, .ref xc), (1, .int (nI n)), (2, .int c0), (3, .ref es), (4, .int (nI i))]) hx hb dX2_solve_37 hl (by decide) rfl (fun ls hl => ?_)
        refine lv_iconst (v := 1) hx hb dX2_solve_39 (by decide) ?_
        refine lv_iload hx hb dX2_solve_40 (lv_at hl 0 rfl) ?_
        refine lv_iadd hx hb dX2_solve_42 ?_
        refine lv_topi (fun x_8 e_8 => ?_)
        have h9 : x_8 = nI (1 + fr) := by rw [e_8]; exact nI_add 1 fr
        subst h9
        refine lv_aload_n hx hb dX2_solve_43 rfl (lv_at hl 1 rfl) ?_
        refine va_get (D := (dC, dI)) (ci := 2) (v := .int (nI n)) (C := RX2) (T := TX2) (N := 6) hx hb hts inX2 hown hK hP 1 rfl rfl 4 (by decide) (hts _ (gw kw_211 rfl)) (fun _ h9 => h9) rfl dX2_solve_44 ?_
        refine lv_iload hx hb dX2_solve_47 (lv_at hl 5 rfl) ?_
        refine lv_isub hx hb dX2_solve_49 ?_
        refine lv_topi (fun x_9 e_9 => ?_)
        have h9 : x_9 = nI (n - i) := by rw [e_9]; exact pk_sub (by omega)
        subst h9
        refine lv_aload_n hx hb dX2_solve_50 rfl (lv_at hl 4 rfl) ?_
        refine lv_iconst (v := 1) hx hb dX2_solve_51 (by decide) ?_
        have h_10 : vp_in 1 5 := by unfold vp_in; decide
        refine va_iald hx hb hK hP 0 0 rfl rfl h_10 dX2_solve_52 ?_
        refine lv_topi (fun x_11 e_11 => ?_)
        have hPc := hP.sub (ws' := []) [] rfl
        have hDc := hD.sub (ws' := []) [] (by decide) rfl
        have hFc := va_free (wc := []) hD hS hA [] rfl
        refine va_calli (va_runS (As := [.int (nI (1 + fr)), .int (nI (n - i)), .int x_11]) (rest := []) ⟨hx, hb, hml, hown, hts⟩ (c_X2_votesLacking l dC dI aC H.size (1 + fr) (n - i) x_11 (by omega)) ⟨(callB_of 3 hts (gG kw_575) rfl rfl rfl (hts _ (gw kw_12 rfl)) (hts _ (gw kw_573 rfl)) (by decide +kernel) ⟨Nat.le_of_ble_eq_true rfl, Nat.le_of_ble_eq_true rfl⟩), (hts _ (gw kw_574 rfl))⟩ ⟨fun a U g mk q => by obtain ⟨q0, q1, qP, qK, qD, qN⟩ := q; exact ⟨q0, q1, qP, va_K.moved (u := U) (U := U.calling g mk a) (Vm.Alike.refl U.vm) qK, qD, NX.same (u := U) (U := U.calling g mk a) rfl qN⟩, fun U hU hW => ⟨rfl, by rw [hU], by rw [hU]; exact hPc, va_K.moved hW.alike hK, hDc.weaken (fun _ _ _ _ => trivial), NX.warm hW hN⟩⟩ rfl rfl hl.1 rfl (lv_room (Nat.le_of_ble_eq_true rfl)) dX2_solve_53 ⟨Nat.le_of_ble_eq_true rfl, Nat.le_of_ble_eq_true rfl⟩) hS (fun q _ h => hFc q h) hFc (fun x_12 u9 t9 H1 locs ht hvm hw_12 hB hz1 hk1 hS => ?_)
        obtain ⟨hP1, hK1, hD1⟩ := hB
        rw [ht] at hP1
        clear hK1
        try dsimp only at hw_12
        obtain ⟨hP, hD⟩ := va_join (wr := [(es, .inl (aC 0, 5, .inl stf)), (xc, .inr (2, [.ref cs, .ref ca, .ref cf, .ref k0, .int (nI n), .int c0])), (cs, .inl (aC 0, 60, .inl sc)), (ca, .inl (aC 0, 60, .inl u_7)), (cf, .inl (aC 0, 60, .inl oc)), (k0, .inr (0, []))]) (w1 := []) hP hD [] [0, 1, 2, 3, 4, 5] rfl rfl (by decide) (by decide) hk1 hFc hP1 hD1
        generalize H1 = H at hP hS ⊢
        have hP : va_P (dC, dI) classes [(es, .inl (aC 0, 5, .inl stf)), (xc, .inr (2, [.ref cs, .ref ca, .ref cf, .ref k0, .int (nI n), .int c0])), (cs, .inl (aC 0, 60, .inl sc)), (ca, .inl (aC 0, 60, .inl u_7)), (cf, .inl (aC 0, 60, .inl oc)), (k0, .inr (0, []))] H := hP
        have hD : va_D A [(es, .inl (aC 0, 5, .inl stf)), (xc, .inr (2, [.ref cs, .ref ca, .ref cf, .ref k0, .int (nI n), .int c0])), (cs, .inl (aC 0, 60, .inl sc)), (ca, .inl (aC 0, 60, .inl u_7)), (cf, .inl (aC 0, 60, .inl oc)), (k0, .inr (0, []))] := hD
        clear hPc hDc hFc hz1 hk1 hP1 hD1 ht hvm
        refine lv_istore (lv' := [(6, .int x_12), (5, .int (nI fr)), (0, .ref xc), (1, .int (nI n)), (2, .int c0), (3, .ref es), (4, .int (nI i))]) hx hb dX2_solve_56 hl (by decide) rfl (fun ls hl => ?_)
        refine lv_aload_n hx hb dX2_solve_58 rfl (lv_at hl 2 rfl) ?_
        refine lv_iload hx hb dX2_solve_59 (lv_at hl 6 rfl) ?_
        refine lv_iload hx hb dX2_solve_61 (lv_at hl 0 rfl) ?_
        refine lv_aload_n hx hb dX2_solve_63 rfl (lv_at hl 5 rfl) ?_
        refine lv_iconst (v := 3) hx hb dX2_solve_64 (by decide) ?_
        have h_13 : vp_in 3 5 := by unfold vp_in; decide
        refine va_iald hx hb hK hP 0 0 rfl rfl h_13 dX2_solve_65 ?_
        refine lv_topi (fun x_14 e_14 => ?_)
        have hPc := hP.sub (ws' := [(xc, .inr (2, [.ref cs, .ref ca, .ref cf, .ref k0, .int (nI n), .int c0])), (cs, .inl (aC 0, 60, .inl sc)), (ca, .inl (aC 0, 60, .inl u_7)), (cf, .inl (aC 0, 60, .inl oc)), (k0, .inr (0, []))]) [1, 2, 3, 4, 5] rfl
        have hDc := hD.sub (ws' := [(xc, .inr (2, [.ref cs, .ref ca, .ref cf, .ref k0, .int (nI n), .int c0])), (cs, .inl (aC 0, 60, .inl sc)), (ca, .inl (aC 0, 60, .inl u_7)), (cf, .inl (aC 0, 60, .inl oc)), (k0, .inr (0, []))]) [1, 2, 3, 4, 5] (by decide) rfl
        have hFc := va_free (wc := [(xc, .inr (2, [.ref cs, .ref ca, .ref cf, .ref k0, .int (nI n), .int c0])), (cs, .inl (aC 0, 60, .inl sc)), (ca, .inl (aC 0, 60, .inl u_7)), (cf, .inl (aC 0, 60, .inl oc)), (k0, .inr (0, []))]) hD hS hA [1, 2, 3, 4, 5] rfl
        refine va_calli (va_runV (As := [.int (nI i), .int x_12, .int x_14]) (rest := []) ⟨hx, hb, hml, hown, hts⟩ (c_X2_buyYounger l dC dI aC H.size xc cs ca cf k0 n c0 sc u_7 oc i x_12 x_14 (by omega)) ⟨(callB_of 3 hts (gG kw_580) rfl rfl rfl (hts _ (gw kw_12 rfl)) (hts _ (gw kw_577 rfl)) (by decide +kernel) ⟨Nat.le_of_ble_eq_true rfl, Nat.le_of_ble_eq_true rfl⟩), (hts _ (gw kw_579 rfl)), (hts _ (gw ks_23 rfl))⟩ ⟨fun a U g mk q => by obtain ⟨q0, q1, qP, qK, qD, qN⟩ := q; exact ⟨q0, q1, qP, va_K.moved (u := U) (U := U.calling g mk a) (Vm.Alike.refl U.vm) qK, qD, NX.same (u := U) (U := U.calling g mk a) rfl qN⟩, va_recv hK hPc (ci := 2) (q0 := 0) rfl rfl, fun U hU hW => ⟨rfl, by rw [hU], by rw [hU]; exact hPc, va_K.moved hW.alike hK, hDc.weaken (fun _ _ _ _ => trivial), NX.warm hW hN⟩⟩ rfl rfl hl.1 rfl (lv_room (Nat.le_of_ble_eq_true rfl)) dX2_solve_66 ⟨Nat.le_of_ble_eq_true rfl, Nat.le_of_ble_eq_true rfl⟩) hS (fun q _ h => hFc q h) hFc (fun x_15 u9 t9 H1 locs ht hvm hw_15 hB hz1 hk1 hS => ?_)
        obtain ⟨u_16, rfl⟩ : ∃ z, z = u9 := ⟨_, rfl⟩
        obtain ⟨hP1, hK1, hD1⟩ := hB
        rw [ht] at hP1
        clear hK1
        try dsimp only at hw_15
        obtain ⟨hP, hD⟩ := va_join (wr := [(es, .inl (aC 0, 5, .inl stf))]) (w1 := [(xc, .inr (2, [.ref cs, .ref ca, .ref cf, .ref k0, .int (nI n), .int c0])), (cs, .inl (aC 0, 60, .inl sc)), (ca, .inl (aC 0, 60, .inl u_7)), (cf, .inl (aC 0, 60, .inl u_16)), (k0, .inr (0, []))]) hP hD [1, 2, 3, 4, 5] [0] rfl rfl (by decide) (by decide) hk1 hFc hP1 hD1
        generalize H1 = H at hP hS ⊢
        have hP : va_P (dC, dI) classes [(es, .inl (aC 0, 5, .inl stf)), (xc, .inr (2, [.ref cs, .ref ca, .ref cf, .ref k0, .int (nI n), .int c0])), (cs, .inl (aC 0, 60, .inl sc)), (ca, .inl (aC 0, 60, .inl u_7)), (cf, .inl (aC 0, 60, .inl u_16)), (k0, .inr (0, []))] H := hP
        have hD : va_D A [(es, .inl (aC 0, 5, .inl stf)), (xc, .inr (2, [.ref cs, .ref ca, .ref cf, .ref k0, .int (nI n), .int c0])), (cs, .inl (aC 0, 60, .inl sc)), (ca, .inl (aC 0, 60, .inl u_7)), (cf, .inl (aC 0, 60, .inl u_16)), (k0, .inr (0, []))] := hD
        clear hPc hDc hFc hz1 hk1 hP1 hD1 ht hvm
        refine lv_istore (lv' := [(7, .int x_15), (6, .int x_12), (5, .int (nI fr)), (0, .ref xc), (1, .int (nI n)), (2, .int c0), (3, .ref es), (4, .int (nI i))]) hx hb dX2_solve_69 hl (by decide) rfl (fun ls hl => ?_)
        refine lv_iload hx hb dX2_solve_71 (lv_at hl 0 rfl) ?_
        refine lv_aload_n hx hb dX2_solve_73 rfl (lv_at hl 3 rfl) ?_
        refine va_get (D := (dC, dI)) (ci := 2) (v := .int c0) (C := RX2) (T := TX2) (N := 6) hx hb hts inX2 hown hK hP 1 rfl rfl 5 (by decide) (hts _ (gw kw_212 rfl)) (fun _ h9 => h9) rfl dX2_solve_74 ?_
        refine lv_icmp_gt (tgt := 112) hx hb dX2_solve_77 (by decide) (fun c_17 => ?_) (fun c_17 => ?_)
        · refine lv_aload_n hx hb dX2_solve_112 rfl (lv_at hl 3 rfl) ?_
          refine va_get (D := (dC, dI)) (ci := 2) (v := .ref cs) (C := RX2) (T := TX2) (N := 6) hx hb hts inX2 hown hK hP 1 rfl rfl 0 (by decide) (hts _ (gw kw_206 rfl)) (fun _ h9 => h9) rfl dX2_solve_113 ?_
          refine lv_iload hx hb dX2_solve_116 (lv_at hl 7 rfl) ?_
          refine lv_iconst (v := -1) hx hb dX2_solve_118 (by decide) ?_
          have h_18 : vp_in (nI i) 60 := vp_in_nI (by omega) (by omega)
          refine va_iast hx hb hK hP hD hS 2 0 rfl rfl h_18 dX2_solve_119 (fun H locs hP hD hS => ?_)
          obtain ⟨f_19, e_f_19⟩ : ∃ y : Nat → Int32, y = upd sc (nI i : Int32).toNatClampNeg (-1) := ⟨_, rfl⟩
          have hP : va_P (dC, dI) classes [(es, .inl (aC 0, 5, .inl stf)), (xc, .inr (2, [.ref cs, .ref ca, .ref cf, .ref k0, .int (nI n), .int c0])), (cs, .inl (aC 0, 60, .inl f_19)), (ca, .inl (aC 0, 60, .inl u_7)), (cf, .inl (aC 0, 60, .inl u_16)), (k0, .inr (0, []))] H := by rw [e_f_19]; exact hP
          have hD : va_D A [(es, .inl (aC 0, 5, .inl stf)), (xc, .inr (2, [.ref cs, .ref ca, .ref cf, .ref k0, .int (nI n), .int c0])), (cs, .inl (aC 0, 60, .inl f_19)), (ca, .inl (aC 0, 60, .inl u_7)), (cf, .inl (aC 0, 60, .inl u_16)), (k0, .inr (0, []))] := by rw [e_f_19]; exact hD
          obtain ⟨x_20, e_20⟩ : ∃ y : Int32, y = (nI i) + (-1) := ⟨_, rfl⟩
          refine lv_iinc (v := x_20) (lv' := [(4, .int x_20), (7, .int x_15), (6, .int x_12), (5, .int (nI fr)), (0, .ref xc), (1, .int (nI n)), (2, .int c0), (3, .ref es)]) hx hb dX2_solve_120 hl (k := 7) rfl (by rw [e_20]; rfl) (by decide) rfl (fun ls hl => ?_)
          refine lv_goto (tgt := 23) hx hb dX2_solve_123 (by decide) ?_
          exact ih_23 i x_20 f_19 u_7 u_16 (by omega) (by omega) (by rw [e_20, nI_iI, show (-1 : Int32) = iI (-1) from rfl, iI_add]; rfl) _ _ _ (hP.sub [1, 2, 3, 4, 5, 0] rfl) (hD.sub [1, 2, 3, 4, 5, 0] (by decide) rfl) hS (lv_sub hl [4, 5, 6, 7, 0] rfl)
        · refine lv_aload_n hx hb dX2_solve_80 rfl (lv_at hl 3 rfl) ?_
          refine va_get (D := (dC, dI)) (ci := 2) (v := .ref cf) (C := RX2) (T := TX2) (N := 6) hx hb hts inX2 hown hK hP 1 rfl rfl 2 (by decide) (hts _ (gw kw_209 rfl)) (fun _ h9 => h9) rfl dX2_solve_81 ?_
          refine lv_iconst (v := 0) hx hb dX2_solve_84 (by decide) ?_
          refine lv_aload_n hx hb dX2_solve_85 rfl (lv_at hl 3 rfl) ?_
          refine va_get (D := (dC, dI)) (ci := 2) (v := .ref cs) (C := RX2) (T := TX2) (N := 6) hx hb hts inX2 hown hK hP 1 rfl rfl 0 (by decide) (hts _ (gw kw_206 rfl)) (fun _ h9 => h9) rfl dX2_solve_86 ?_
          refine lv_iconst (v := 0) hx hb dX2_solve_89 (by decide) ?_
          refine lv_bipush (v := 60) hx hb dX2_solve_90 (by decide) ?_
          refine va_copyi (ty := .int) hx hb (by rw [hml]; exact hl.1.symm) hown (hts _ (gw kw_590 rfl)) (hts _ (gw kw_486 rfl)) (hts _ (gw kw_485 rfl)) (hts _ (gw kw_16 rfl)) hK hP hD hS 4 2 0 0 rfl rfl rfl rfl rfl (by decide) (by decide) (by decide) (by decide) (by decide) (fun _ _ => rfl) (Nat.le_of_ble_eq_true rfl) (Nat.le_of_ble_eq_true rfl) dX2_solve_92 (fun H locs hP hD hS => ?_)
          obtain ⟨f_21, e_f_21⟩ : ∃ y : Nat → Int32, y = va_cpy u_16 sc (0 : Int32).toNatClampNeg (0 : Int32).toNatClampNeg (60 : Int32).toNatClampNeg := ⟨_, rfl⟩
          have hP : va_P (dC, dI) classes [(es, .inl (aC 0, 5, .inl stf)), (xc, .inr (2, [.ref cs, .ref ca, .ref cf, .ref k0, .int (nI n), .int c0])), (cs, .inl (aC 0, 60, .inl f_21)), (ca, .inl (aC 0, 60, .inl u_7)), (cf, .inl (aC 0, 60, .inl u_16)), (k0, .inr (0, []))] H := by rw [e_f_21]; exact hP
          have hD : va_D A [(es, .inl (aC 0, 5, .inl stf)), (xc, .inr (2, [.ref cs, .ref ca, .ref cf, .ref k0, .int (nI n), .int c0])), (cs, .inl (aC 0, 60, .inl f_21)), (ca, .inl (aC 0, 60, .inl u_7)), (cf, .inl (aC 0, 60, .inl u_16)), (k0, .inr (0, []))] := by rw [e_f_21]; exact hD
          refine lv_aload_n hx hb dX2_solve_95 rfl (lv_at hl 3 rfl) ?_
          refine va_get (D := (dC, dI)) (ci := 2) (v := .ref cs) (C := RX2) (T := TX2) (N := 6) hx hb hts inX2 hown hK hP 1 rfl rfl 0 (by decide) (hts _ (gw kw_206 rfl)) (fun _ h9 => h9) rfl dX2_solve_96 ?_
          refine lv_iload hx hb dX2_solve_99 (lv_at hl 7 rfl) ?_
          refine lv_aload_n hx hb dX2_solve_101 rfl (lv_at hl 3 rfl) ?_
          refine va_get (D := (dC, dI)) (ci := 2) (v := .int c0) (C := RX2) (T := TX2) (N := 6) hx hb hts inX2 hown hK hP 1 rfl rfl 5 (by decide) (hts _ (gw kw_212 rfl)) (fun _ h9 => h9) rfl dX2_solve_102 ?_
          refine lv_iload hx hb dX2_solve_105 (lv_at hl 0 rfl) ?_
          refine lv_isub hx hb dX2_solve_107 ?_
          refine lv_topi (fun x_22 e_22 => ?_)
          have h_23 : vp_in (nI i) 60 := vp_in_nI (by omega) (by omega)
          refine va_iast hx hb hK hP hD hS 2 0 rfl rfl h_23 dX2_solve_108 (fun H locs hP hD hS => ?_)
          obtain ⟨f_24, e_f_24⟩ : ∃ y : Nat → Int32, y = upd f_21 (nI i : Int32).toNatClampNeg x_22 := ⟨_, rfl⟩
          have hP : va_P (dC, dI) classes [(es, .inl (aC 0, 5, .inl stf)), (xc, .inr (2, [.ref cs, .ref ca, .ref cf, .ref k0, .int (nI n), .int c0])), (cs, .inl (aC 0, 60, .inl f_24)), (ca, .inl (aC 0, 60, .inl u_7)), (cf, .inl (aC 0, 60, .inl u_16)), (k0, .inr (0, []))] H := by rw [e_f_24]; exact hP
          have hD : va_D A [(es, .inl (aC 0, 5, .inl stf)), (xc, .inr (2, [.ref cs, .ref ca, .ref cf, .ref k0, .int (nI n), .int c0])), (cs, .inl (aC 0, 60, .inl f_24)), (ca, .inl (aC 0, 60, .inl u_7)), (cf, .inl (aC 0, 60, .inl u_16)), (k0, .inr (0, []))] := by rw [e_f_24]; exact hD
          refine lv_goto (tgt := 120) hx hb dX2_solve_109 (by decide) ?_
          obtain ⟨x_25, e_25⟩ : ∃ y : Int32, y = (nI i) + (-1) := ⟨_, rfl⟩
          refine lv_iinc (v := x_25) (lv' := [(4, .int x_25), (7, .int x_15), (6, .int x_12), (5, .int (nI fr)), (0, .ref xc), (1, .int (nI n)), (2, .int c0), (3, .ref es)]) hx hb dX2_solve_120 hl (k := 7) rfl (by rw [e_25]; rfl) (by decide) rfl (fun ls hl => ?_)
          refine lv_goto (tgt := 23) hx hb dX2_solve_123 (by decide) ?_
          exact ih_23 i x_25 f_24 u_7 u_16 (by omega) (by omega) (by rw [e_25, nI_iI, show (-1 : Int32) = iI (-1) from rfl, iI_add]; rfl) _ _ _ (hP.sub [1, 2, 3, 4, 5, 0] rfl) (hD.sub [1, 2, 3, 4, 5, 0] (by decide) rfl) hS (lv_sub hl [4, 5, 6, 7, 0] rfl)
  exact lp_23 (n + 1) n x_2 sf af of (Nat.lt_succ_self _) (Nat.le_refl _) (by rw [e_2, nI_iI, ← iI_1, iI_sub]) _ _ _ (hP.sub [0, 1, 2, 3, 4, 5] rfl) (hD.sub [0, 1, 2, 3, 4, 5] (by decide) rfl) hS (lv_sub hl [1, 2, 3, 4, 0] rfl)

set_option maxHeartbeats 1000000 in
set_option maxRecDepth 100000 in
/-- X11_alike -/
theorem c_X11_alike (l : Launch) (dC : Nat → ClassId) (dI : Nat → Nat → Nat) (aC : Nat → ClassId) (sz : Nat) (h0 : Nat) (xp : Nat) (xtp : Nat) (xn : Nat) (xt : Nat) (xk : Nat) (xl : Nat) (xc : Nat) (xo : Nat) (xto : Nat) (xr : Nat) (xch : Nat) (ts : Int32) (ik : Int32) (st : Int32) (ek : Nat) (ef : Nat) (ew : Nat) (ep : Nat) (es : Nat) (n : Nat) (sn : Nat) (dn : Int32) (stf : Nat → Int32) (rf : Nat → Int32) (cs : Nat) (ca : Nat) (cf : Nat) (k0 : Nat) (co : Int32) (sf : Nat → Int32) (af : Nat → Int32) (of : Nat → Int32) (z1 : Int32) (a1 : Int32) (a2 : Int32) (a3 : Int32) (a4 : Int32)  : Met l yX11_alike (wW yX11_alike cX11_alike 5 (some .int)) ({ frames := 4, cells := 0, slots := 0, locals := 92 } : Room) (va_Pc [.ref h0, .int a1, .int a2, .int a3, .int a4] (fun U => U.heap.size = sz ∧ va_P (dC, dI) classes [(h0, .inr (11, [.ref xp, .ref xtp, .ref xn, .ref xt, .ref xk, .ref xl, .ref xc, .ref xo, .ref xto, .ref xr, .ref xch, .int ts, .int ik, .int st])), (xn, .inr (4, [.ref ek, .ref ef, .ref ew, .ref ep, .ref es, .int (nI n), .int (nI sn), .int dn])), (es, .inl (aC 0, 5, .inl stf)), (xc, .inr (2, [.ref cs, .ref ca, .ref cf, .ref k0, .int z1, .int co])), (cs, .inl (aC 0, 60, .inl sf)), (ca, .inl (aC 0, 60, .inl af)), (cf, .inl (aC 0, 60, .inl of)), (k0, .inr (0, [])), (xr, .inl (aC 0, 7, .inl rf))] U.heap ∧ va_K (dC, dI) classes (TY aC) U ∧ va_D (fun _ => True) [(h0, .inr (11, [.ref xp, .ref xtp, .ref xn, .ref xt, .ref xk, .ref xl, .ref xc, .ref xo, .ref xto, .ref xr, .ref xch, .int ts, .int ik, .int st])), (xn, .inr (4, [.ref ek, .ref ef, .ref ew, .ref ep, .ref es, .int (nI n), .int (nI sn), .int dn])), (es, .inl (aC 0, 5, .inl stf)), (xc, .inr (2, [.ref cs, .ref ca, .ref cf, .ref k0, .int z1, .int co])), (cs, .inl (aC 0, 60, .inl sf)), (ca, .inl (aC 0, 60, .inl af)), (cf, .inl (aC 0, 60, .inl of)), (k0, .inr (0, [])), (xr, .inl (aC 0, 7, .inl rf))] ∧ NX U)) (va_Qi (fun (r : Int32) (u : Int32 × Int32 × (Nat → Int32) × (Nat → Int32) × (Nat → Int32) × (Nat → Int32)) => match u with | (z2, co2, sg, ag, og, rf2) => True) (fun (u : Int32 × Int32 × (Nat → Int32) × (Nat → Int32) × (Nat → Int32) × (Nat → Int32)) (t : State) => match u with | (z2, co2, sg, ag, og, rf2) => va_P (dC, dI) classes [(h0, .inr (11, [.ref xp, .ref xtp, .ref xn, .ref xt, .ref xk, .ref xl, .ref xc, .ref xo, .ref xto, .ref xr, .ref xch, .int ts, .int ik, .int st])), (xn, .inr (4, [.ref ek, .ref ef, .ref ew, .ref ep, .ref es, .int (nI n), .int (nI sn), .int dn])), (es, .inl (aC 0, 5, .inl stf)), (xc, .inr (2, [.ref cs, .ref ca, .ref cf, .ref k0, .int z2, .int co2])), (cs, .inl (aC 0, 60, .inl sg)), (ca, .inl (aC 0, 60, .inl ag)), (cf, .inl (aC 0, 60, .inl og)), (k0, .inr (0, [])), (xr, .inl (aC 0, 7, .inl rf2))] t.heap ∧ va_K (dC, dI) classes (TY aC) t ∧ va_D (va_A [(h0, .inr (11, [.ref xp, .ref xtp, .ref xn, .ref xt, .ref xk, .ref xl, .ref xc, .ref xo, .ref xto, .ref xr, .ref xch, .int ts, .int ik, .int st])), (xn, .inr (4, [.ref ek, .ref ef, .ref ew, .ref ep, .ref es, .int (nI n), .int (nI sn), .int dn])), (es, .inl (aC 0, 5, .inl stf)), (xc, .inr (2, [.ref cs, .ref ca, .ref cf, .ref k0, .int z1, .int co])), (cs, .inl (aC 0, 60, .inl sf)), (ca, .inl (aC 0, 60, .inl af)), (cf, .inl (aC 0, 60, .inl of)), (k0, .inr (0, [])), (xr, .inl (aC 0, 7, .inl rf))] sz) [(h0, .inr (11, [.ref xp, .ref xtp, .ref xn, .ref xt, .ref xk, .ref xl, .ref xc, .ref xo, .ref xto, .ref xr, .ref xch, .int ts, .int ik, .int st])), (xn, .inr (4, [.ref ek, .ref ef, .ref ew, .ref ep, .ref es, .int (nI n), .int (nI sn), .int dn])), (es, .inl (aC 0, 5, .inl stf)), (xc, .inr (2, [.ref cs, .ref ca, .ref cf, .ref k0, .int z2, .int co2])), (cs, .inl (aC 0, 60, .inl sg)), (ca, .inl (aC 0, 60, .inl ag)), (cf, .inl (aC 0, 60, .inl og)), (k0, .inr (0, [])), (xr, .inl (aC 0, 7, .inl rf2))]) (va_A [(h0, .inr (11, [.ref xp, .ref xtp, .ref xn, .ref xt, .ref xk, .ref xl, .ref xc, .ref xo, .ref xto, .ref xr, .ref xch, .int ts, .int ik, .int st])), (xn, .inr (4, [.ref ek, .ref ef, .ref ew, .ref ep, .ref es, .int (nI n), .int (nI sn), .int dn])), (es, .inl (aC 0, 5, .inl stf)), (xc, .inr (2, [.ref cs, .ref ca, .ref cf, .ref k0, .int z1, .int co])), (cs, .inl (aC 0, 60, .inl sf)), (ca, .inl (aC 0, 60, .inl af)), (cf, .inl (aC 0, 60, .inl of)), (k0, .inr (0, [])), (xr, .inl (aC 0, 7, .inl rf))] sz)) 0 0 (va_A [(h0, .inr (11, [.ref xp, .ref xtp, .ref xn, .ref xt, .ref xk, .ref xl, .ref xc, .ref xo, .ref xto, .ref xr, .ref xch, .int ts, .int ik, .int st])), (xn, .inr (4, [.ref ek, .ref ef, .ref ew, .ref ep, .ref es, .int (nI n), .int (nI sn), .int dn])), (es, .inl (aC 0, 5, .inl stf)), (xc, .inr (2, [.ref cs, .ref ca, .ref cf, .ref k0, .int z1, .int co])), (cs, .inl (aC 0, 60, .inl sf)), (ca, .inl (aC 0, 60, .inl af)), (cf, .inl (aC 0, 60, .inl of)), (k0, .inr (0, [])), (xr, .inl (aC 0, 7, .inl rf))] sz) := by
  refine Met.ofW (cc := cX11_alike) (maxL := 5) (ret := (some .int)) (by decide) rfl ?_
  intro p e s m args below meth c s₁ B hml hv
  obtain ⟨rfl, hsz, hP, hK, hD0, hN⟩ := hv
  have hx := B.exec
  have hb := B.bytes
  have hr := B.returns
  have hts0 := atoms_spec (ws := (wW yX11_alike cX11_alike 5 (some .int))) B.pre
  have hts : ∀ w9 ∈ lw_G, w9.before ([.ref h0, .int a1, .int a2, .int a3, .int a4] : List Value).toArray s = true := fun w9 h9 => hts0 w9 (List.mem_cons_of_mem _ h9)
  have hown : s.vm.findClass RX11 = some m.cls := findClass_of_methodNamed B.named
  have hlocks := B.notSynchronized
  subst hsz
  have hD := hD0.self (sz := s.heap.size)
  generalize hAe : va_A [(h0, .inr (11, [.ref xp, .ref xtp, .ref xn, .ref xt, .ref xk, .ref xl, .ref xc, .ref xo, .ref xto, .ref xr, .ref xch, .int ts, .int ik, .int st])), (xn, .inr (4, [.ref ek, .ref ef, .ref ew, .ref ep, .ref es, .int (nI n), .int (nI sn), .int dn])), (es, .inl (aC 0, 5, .inl stf)), (xc, .inr (2, [.ref cs, .ref ca, .ref cf, .ref k0, .int z1, .int co])), (cs, .inl (aC 0, 60, .inl sf)), (ca, .inl (aC 0, 60, .inl af)), (cf, .inl (aC 0, 60, .inl of)), (k0, .inr (0, [])), (xr, .inl (aC 0, 7, .inl rf))] s.heap.size = A at hD ⊢
  have hA : ∀ q : Nat, s.heap.size ≤ q → A q := fun q h => by rw [← hAe]; exact Or.inr h
  obtain ⟨H, hHe⟩ : ∃ H : Heap, H = s.heap := ⟨_, rfl⟩
  have hS : va_S A s.heap H [] := by rw [hHe]; exact va_S.rf
  have hP : va_P (dC, dI) classes [(h0, .inr (11, [.ref xp, .ref xtp, .ref xn, .ref xt, .ref xk, .ref xl, .ref xc, .ref xo, .ref xto, .ref xr, .ref xch, .int ts, .int ik, .int st])), (xn, .inr (4, [.ref ek, .ref ef, .ref ew, .ref ep, .ref es, .int (nI n), .int (nI sn), .int dn])), (es, .inl (aC 0, 5, .inl stf)), (xc, .inr (2, [.ref cs, .ref ca, .ref cf, .ref k0, .int z1, .int co])), (cs, .inl (aC 0, 60, .inl sf)), (ca, .inl (aC 0, 60, .inl af)), (cf, .inl (aC 0, 60, .inl of)), (k0, .inr (0, [])), (xr, .inl (aC 0, 7, .inl rf))] H := by rw [hHe]; exact hP
  have hl := lv_entry ([.ref h0, .int a1, .int a2, .int a3, .int a4]) (n := 5) (Nat.le_of_ble_eq_true rfl)
  rw [lg_entry_eq]
  generalize (lg_sl ([.ref h0, .int a1, .int a2, .int a3, .int a4]) ++ List.replicate (5 - (lg_sl ([.ref h0, .int a1, .int a2, .int a3, .int a4])).length) Slot.unset).toArray = ls at hl ⊢
  have hl : lv_has ls 5 [(0, .ref h0), (1, .int a1), (2, .int a2), (3, .int a3), (4, .int a4)] := hl
  rw [← hHe]
  refine lv_iload_n hx hb dX11_alike_0 rfl (lv_at hl 1 rfl) ?_
  refine lv_iconst (v := 1) hx hb dX11_alike_1 (by decide) ?_
  refine lv_icmp_lt (tgt := 13) hx hb dX11_alike_2 (by decide) (fun c_1 => ?_) (fun c_1 => ?_)
  · refine lv_ldc hx hb hown (hts _ (gw kw_507 rfl)) dX11_alike_13 ?_
    refine lv_aload_n hx hb dX11_alike_15 rfl (lv_at hl 0 rfl) ?_
    refine lv_bipush (v := -4) hx hb dX11_alike_16 (by decide) ?_
    have hPc := hP.sub (ws' := [(h0, .inr (11, [.ref xp, .ref xtp, .ref xn, .ref xt, .ref xk, .ref xl, .ref xc, .ref xo, .ref xto, .ref xr, .ref xch, .int ts, .int ik, .int st])), (xr, .inl (aC 0, 7, .inl rf))]) [0, 8] rfl
    have hDc := hD.sub (ws' := [(h0, .inr (11, [.ref xp, .ref xtp, .ref xn, .ref xt, .ref xk, .ref xl, .ref xc, .ref xo, .ref xto, .ref xr, .ref xch, .int ts, .int ik, .int st])), (xr, .inl (aC 0, 7, .inl rf))]) [0, 8] (by decide) rfl
    have hFc := va_free (wc := [(h0, .inr (11, [.ref xp, .ref xtp, .ref xn, .ref xt, .ref xk, .ref xl, .ref xc, .ref xo, .ref xto, .ref xr, .ref xch, .int ts, .int ik, .int st])), (xr, .inl (aC 0, 7, .inl rf))]) hD hS hA [0, 8] rfl
    refine va_calli (va_runV (As := [.int (-4)]) (rest := [.int 1000000000]) ⟨hx, hb, hml, hown, hts⟩ (c_X11_refuse l dC dI aC H.size h0 xp xtp xn xt xk xl xc xo xto xr xch ts ik st (-4) 4 rf (by decide) (by decide) (by decide) (by unfold vp_in; decide)) ⟨(callB_of 1 hts (gG kw_276) rfl rfl rfl (hts _ (gw kw_1 rfl)) (hts _ (gw kw_273 rfl)) (by decide +kernel) ⟨Nat.le_of_ble_eq_true rfl, Nat.le_of_ble_eq_true rfl⟩), (hts _ (gw kw_275 rfl)), (hts _ (gw ks_0 rfl))⟩ ⟨fun a U g mk q => by obtain ⟨q0, q1, qP, qK, qD, qN⟩ := q; exact ⟨q0, q1, qP, va_K.moved (u := U) (U := U.calling g mk a) (Vm.Alike.refl U.vm) qK, qD, NX.same (u := U) (U := U.calling g mk a) rfl qN⟩, va_recv hK hPc (ci := 11) (q0 := 0) rfl rfl, fun U hU hW => ⟨rfl, by rw [hU], by rw [hU]; exact hPc, va_K.moved hW.alike hK, hDc.weaken (fun _ _ _ _ => trivial), NX.warm hW hN⟩⟩ rfl rfl hl.1 rfl (lv_room (Nat.le_of_ble_eq_true rfl)) dX11_alike_18 ⟨Nat.le_of_ble_eq_true rfl, Nat.le_of_ble_eq_true rfl⟩) hS (fun q _ h => hFc q h) hFc (fun x_2 u9 t9 H1 locs ht hvm hw_2 hB hz1 hk1 hS => ?_)
    obtain ⟨u_3, rfl⟩ : ∃ z, z = u9 := ⟨_, rfl⟩
    obtain ⟨hP1, hK1, hD1⟩ := hB
    rw [ht] at hP1
    clear hK1
    try dsimp only at hw_2
    obtain ⟨hP, hD⟩ := va_join (wr := [(xn, .inr (4, [.ref ek, .ref ef, .ref ew, .ref ep, .ref es, .int (nI n), .int (nI sn), .int dn])), (es, .inl (aC 0, 5, .inl stf)), (xc, .inr (2, [.ref cs, .ref ca, .ref cf, .ref k0, .int z1, .int co])), (cs, .inl (aC 0, 60, .inl sf)), (ca, .inl (aC 0, 60, .inl af)), (cf, .inl (aC 0, 60, .inl of)), (k0, .inr (0, []))]) (w1 := [(h0, .inr (11, [.ref xp, .ref xtp, .ref xn, .ref xt, .ref xk, .ref xl, .ref xc, .ref xo, .ref xto, .ref xr, .ref xch, .int ts, .int ik, .int st])), (xr, .inl (aC 0, 7, .inl u_3))]) hP hD [0, 8] [1, 2, 3, 4, 5, 6, 7] rfl rfl (by decide) (by decide) hk1 hFc hP1 hD1
    generalize H1 = H at hP hS ⊢
    have hP : va_P (dC, dI) classes [(xn, .inr (4, [.ref ek, .ref ef, .ref ew, .ref ep, .ref es, .int (nI n), .int (nI sn), .int dn])), (es, .inl (aC 0, 5, .inl stf)), (xc, .inr (2, [.ref cs, .ref ca, .ref cf, .ref k0, .int z1, .int co])), (cs, .inl (aC 0, 60, .inl sf)), (ca, .inl (aC 0, 60, .inl af)), (cf, .inl (aC 0, 60, .inl of)), (k0, .inr (0, [])), (h0, .inr (11, [.ref xp, .ref xtp, .ref xn, .ref xt, .ref xk, .ref xl, .ref xc, .ref xo, .ref xto, .ref xr, .ref xch, .int ts, .int ik, .int st])), (xr, .inl (aC 0, 7, .inl u_3))] H := hP
    have hD : va_D A [(xn, .inr (4, [.ref ek, .ref ef, .ref ew, .ref ep, .ref es, .int (nI n), .int (nI sn), .int dn])), (es, .inl (aC 0, 5, .inl stf)), (xc, .inr (2, [.ref cs, .ref ca, .ref cf, .ref k0, .int z1, .int co])), (cs, .inl (aC 0, 60, .inl sf)), (ca, .inl (aC 0, 60, .inl af)), (cf, .inl (aC 0, 60, .inl of)), (k0, .inr (0, [])), (h0, .inr (11, [.ref xp, .ref xtp, .ref xn, .ref xt, .ref xk, .ref xl, .ref xc, .ref xo, .ref xto, .ref xr, .ref xch, .int ts, .int ik, .int st])), (xr, .inl (aC 0, 7, .inl u_3))] := hD
    clear hPc hDc hFc hz1 hk1 hP1 hD1 ht hvm
    obtain ⟨hv9, -⟩ := hw_2
    refine lv_isub hx hb dX11_alike_21 ?_
    refine lv_topi (fun x_4 e_4 => ?_)
    have hP9 := hP.sub (ws' := [(h0, .inr (11, [.ref xp, .ref xtp, .ref xn, .ref xt, .ref xk, .ref xl, .ref xc, .ref xo, .ref xto, .ref xr, .ref xch, .int ts, .int ik, .int st])), (xn, .inr (4, [.ref ek, .ref ef, .ref ew, .ref ep, .ref es, .int (nI n), .int (nI sn), .int dn])), (es, .inl (aC 0, 5, .inl stf)), (xc, .inr (2, [.ref cs, .ref ca, .ref cf, .ref k0, .int z1, .int co])), (cs, .inl (aC 0, 60, .inl sf)), (ca, .inl (aC 0, 60, .inl af)), (cf, .inl (aC 0, 60, .inl of)), (k0, .inr (0, [])), (xr, .inl (aC 0, 7, .inl u_3))]) [7, 0, 1, 2, 3, 4, 5, 6, 8] rfl
    have hD9 := hD.sub (ws' := [(h0, .inr (11, [.ref xp, .ref xtp, .ref xn, .ref xt, .ref xk, .ref xl, .ref xc, .ref xo, .ref xto, .ref xr, .ref xch, .int ts, .int ik, .int st])), (xn, .inr (4, [.ref ek, .ref ef, .ref ew, .ref ep, .ref es, .int (nI n), .int (nI sn), .int dn])), (es, .inl (aC 0, 5, .inl stf)), (xc, .inr (2, [.ref cs, .ref ca, .ref cf, .ref k0, .int z1, .int co])), (cs, .inl (aC 0, 60, .inl sf)), (ca, .inl (aC 0, 60, .inl af)), (cf, .inl (aC 0, 60, .inl of)), (k0, .inr (0, [])), (xr, .inl (aC 0, 7, .inl u_3))]) [7, 0, 1, 2, 3, 4, 5, 6, 8] (by decide) rfl
    refine W.widen (k := 0) (n := 0) (by omega) (by omega) ?_
    exact W.iret (v := x_4) hx hb hr (fun t ht hW => ⟨⟨x_4, (z1, co, sf, af, of, u_3), rfl, trivial, by rw [ht]; exact hP9, va_K.moved hW.alike hK, hD9⟩, hS.F ht⟩) hS.2.2 dX11_alike_22
  · refine lv_iload_n hx hb dX11_alike_5 rfl (lv_at hl 2 rfl) ?_
    refine lv_if_lt (tgt := 13) hx hb dX11_alike_6 (by decide) (fun c_5 => ?_) (fun c_5 => ?_)
    · refine lv_ldc hx hb hown (hts _ (gw kw_507 rfl)) dX11_alike_13 ?_
      refine lv_aload_n hx hb dX11_alike_15 rfl (lv_at hl 0 rfl) ?_
      refine lv_bipush (v := -4) hx hb dX11_alike_16 (by decide) ?_
      have hPc := hP.sub (ws' := [(h0, .inr (11, [.ref xp, .ref xtp, .ref xn, .ref xt, .ref xk, .ref xl, .ref xc, .ref xo, .ref xto, .ref xr, .ref xch, .int ts, .int ik, .int st])), (xr, .inl (aC 0, 7, .inl rf))]) [0, 8] rfl
      have hDc := hD.sub (ws' := [(h0, .inr (11, [.ref xp, .ref xtp, .ref xn, .ref xt, .ref xk, .ref xl, .ref xc, .ref xo, .ref xto, .ref xr, .ref xch, .int ts, .int ik, .int st])), (xr, .inl (aC 0, 7, .inl rf))]) [0, 8] (by decide) rfl
      have hFc := va_free (wc := [(h0, .inr (11, [.ref xp, .ref xtp, .ref xn, .ref xt, .ref xk, .ref xl, .ref xc, .ref xo, .ref xto, .ref xr, .ref xch, .int ts, .int ik, .int st])), (xr, .inl (aC 0, 7, .inl rf))]) hD hS hA [0, 8] rfl
      refine va_calli (va_runV (As := [.int (-4)]) (rest := [.int 1000000000]) ⟨hx, hb, hml, hown, hts⟩ (c_X11_refuse l dC dI aC H.size h0 xp xtp xn xt xk xl xc xo xto xr xch ts ik st (-4) 4 rf (by decide) (by decide) (by decide) (by unfold vp_in; decide)) ⟨(callB_of 1 hts (gG kw_276) rfl rfl rfl (hts _ (gw kw_1 rfl)) (hts _ (gw kw_273 rfl)) (by decide +kernel) ⟨Nat.le_of_ble_eq_true rfl, Nat.le_of_ble_eq_true rfl⟩), (hts _ (gw kw_275 rfl)), (hts _ (gw ks_0 rfl))⟩ ⟨fun a U g mk q => by obtain ⟨q0, q1, qP, qK, qD, qN⟩ := q; exact ⟨q0, q1, qP, va_K.moved (u := U) (U := U.calling g mk a) (Vm.Alike.refl U.vm) qK, qD, NX.same (u := U) (U := U.calling g mk a) rfl qN⟩, va_recv hK hPc (ci := 11) (q0 := 0) rfl rfl, fun U hU hW => ⟨rfl, by rw [hU], by rw [hU]; exact hPc, va_K.moved hW.alike hK, hDc.weaken (fun _ _ _ _ => trivial), NX.warm hW hN⟩⟩ rfl rfl hl.1 rfl (lv_room (Nat.le_of_ble_eq_true rfl)) dX11_alike_18 ⟨Nat.le_of_ble_eq_true rfl, Nat.le_of_ble_eq_true rfl⟩) hS (fun q _ h => hFc q h) hFc (fun x_6 u9 t9 H1 locs ht hvm hw_6 hB hz1 hk1 hS => ?_)
      obtain ⟨u_7, rfl⟩ : ∃ z, z = u9 := ⟨_, rfl⟩
      obtain ⟨hP1, hK1, hD1⟩ := hB
      rw [ht] at hP1
      clear hK1
      try dsimp only at hw_6
      obtain ⟨hP, hD⟩ := va_join (wr := [(xn, .inr (4, [.ref ek, .ref ef, .ref ew, .ref ep, .ref es, .int (nI n), .int (nI sn), .int dn])), (es, .inl (aC 0, 5, .inl stf)), (xc, .inr (2, [.ref cs, .ref ca, .ref cf, .ref k0, .int z1, .int co])), (cs, .inl (aC 0, 60, .inl sf)), (ca, .inl (aC 0, 60, .inl af)), (cf, .inl (aC 0, 60, .inl of)), (k0, .inr (0, []))]) (w1 := [(h0, .inr (11, [.ref xp, .ref xtp, .ref xn, .ref xt, .ref xk, .ref xl, .ref xc, .ref xo, .ref xto, .ref xr, .ref xch, .int ts, .int ik, .int st])), (xr, .inl (aC 0, 7, .inl u_7))]) hP hD [0, 8] [1, 2, 3, 4, 5, 6, 7] rfl rfl (by decide) (by decide) hk1 hFc hP1 hD1
      generalize H1 = H at hP hS ⊢
      have hP : va_P (dC, dI) classes [(xn, .inr (4, [.ref ek, .ref ef, .ref ew, .ref ep, .ref es, .int (nI n), .int (nI sn), .int dn])), (es, .inl (aC 0, 5, .inl stf)), (xc, .inr (2, [.ref cs, .ref ca, .ref cf, .ref k0, .int z1, .int co])), (cs, .inl (aC 0, 60, .inl sf)), (ca, .inl (aC 0, 60, .inl af)), (cf, .inl (aC 0, 60, .inl of)), (k0, .inr (0, [])), (h0, .inr (11, [.ref xp, .ref xtp, .ref xn, .ref xt, .ref xk, .ref xl, .ref xc, .ref xo, .ref xto, .ref xr, .ref xch, .int ts, .int ik, .int st])), (xr, .inl (aC 0, 7, .inl u_7))] H := hP
      have hD : va_D A [(xn, .inr (4, [.ref ek, .ref ef, .ref ew, .ref ep, .ref es, .int (nI n), .int (nI sn), .int dn])), (es, .inl (aC 0, 5, .inl stf)), (xc, .inr (2, [.ref cs, .ref ca, .ref cf, .ref k0, .int z1, .int co])), (cs, .inl (aC 0, 60, .inl sf)), (ca, .inl (aC 0, 60, .inl af)), (cf, .inl (aC 0, 60, .inl of)), (k0, .inr (0, [])), (h0, .inr (11, [.ref xp, .ref xtp, .ref xn, .ref xt, .ref xk, .ref xl, .ref xc, .ref xo, .ref xto, .ref xr, .ref xch, .int ts, .int ik, .int st])), (xr, .inl (aC 0, 7, .inl u_7))] := hD
      clear hPc hDc hFc hz1 hk1 hP1 hD1 ht hvm
      obtain ⟨hv9, -⟩ := hw_6
      refine lv_isub hx hb dX11_alike_21 ?_
      refine lv_topi (fun x_8 e_8 => ?_)
      have hP9 := hP.sub (ws' := [(h0, .inr (11, [.ref xp, .ref xtp, .ref xn, .ref xt, .ref xk, .ref xl, .ref xc, .ref xo, .ref xto, .ref xr, .ref xch, .int ts, .int ik, .int st])), (xn, .inr (4, [.ref ek, .ref ef, .ref ew, .ref ep, .ref es, .int (nI n), .int (nI sn), .int dn])), (es, .inl (aC 0, 5, .inl stf)), (xc, .inr (2, [.ref cs, .ref ca, .ref cf, .ref k0, .int z1, .int co])), (cs, .inl (aC 0, 60, .inl sf)), (ca, .inl (aC 0, 60, .inl af)), (cf, .inl (aC 0, 60, .inl of)), (k0, .inr (0, [])), (xr, .inl (aC 0, 7, .inl u_7))]) [7, 0, 1, 2, 3, 4, 5, 6, 8] rfl
      have hD9 := hD.sub (ws' := [(h0, .inr (11, [.ref xp, .ref xtp, .ref xn, .ref xt, .ref xk, .ref xl, .ref xc, .ref xo, .ref xto, .ref xr, .ref xch, .int ts, .int ik, .int st])), (xn, .inr (4, [.ref ek, .ref ef, .ref ew, .ref ep, .ref es, .int (nI n), .int (nI sn), .int dn])), (es, .inl (aC 0, 5, .inl stf)), (xc, .inr (2, [.ref cs, .ref ca, .ref cf, .ref k0, .int z1, .int co])), (cs, .inl (aC 0, 60, .inl sf)), (ca, .inl (aC 0, 60, .inl af)), (cf, .inl (aC 0, 60, .inl of)), (k0, .inr (0, [])), (xr, .inl (aC 0, 7, .inl u_7))]) [7, 0, 1, 2, 3, 4, 5, 6, 8] (by decide) rfl
      refine W.widen (k := 0) (n := 0) (by omega) (by omega) ?_
      exact W.iret (v := x_8) hx hb hr (fun t ht hW => ⟨⟨x_8, (z1, co, sf, af, of, u_7), rfl, trivial, by rw [ht]; exact hP9, va_K.moved hW.alike hK, hD9⟩, hS.F ht⟩) hS.2.2 dX11_alike_22
    · refine lv_iload_n hx hb dX11_alike_9 rfl (lv_at hl 3 rfl) ?_
      refine lv_if_ge (tgt := 23) hx hb dX11_alike_10 (by decide) (fun c_9 => ?_) (fun c_9 => ?_)
      · refine lv_iload_n hx hb dX11_alike_23 rfl (lv_at hl 1 rfl) ?_
        refine lv_bipush (v := 60) hx hb dX11_alike_24 (by decide) ?_
        refine lv_icmp_gt (tgt := 40) hx hb dX11_alike_26 (by decide) (fun c_10 => ?_) (fun c_10 => ?_)
        · refine lv_ldc hx hb hown (hts _ (gw kw_507 rfl)) dX11_alike_40 ?_
          refine lv_aload_n hx hb dX11_alike_42 rfl (lv_at hl 0 rfl) ?_
          refine lv_bipush (v := -6) hx hb dX11_alike_43 (by decide) ?_
          have hPc := hP.sub (ws' := [(h0, .inr (11, [.ref xp, .ref xtp, .ref xn, .ref xt, .ref xk, .ref xl, .ref xc, .ref xo, .ref xto, .ref xr, .ref xch, .int ts, .int ik, .int st])), (xr, .inl (aC 0, 7, .inl rf))]) [0, 8] rfl
          have hDc := hD.sub (ws' := [(h0, .inr (11, [.ref xp, .ref xtp, .ref xn, .ref xt, .ref xk, .ref xl, .ref xc, .ref xo, .ref xto, .ref xr, .ref xch, .int ts, .int ik, .int st])), (xr, .inl (aC 0, 7, .inl rf))]) [0, 8] (by decide) rfl
          have hFc := va_free (wc := [(h0, .inr (11, [.ref xp, .ref xtp, .ref xn, .ref xt, .ref xk, .ref xl, .ref xc, .ref xo, .ref xto, .ref xr, .ref xch, .int ts, .int ik, .int st])), (xr, .inl (aC 0, 7, .inl rf))]) hD hS hA [0, 8] rfl
          refine va_calli (va_runV (As := [.int (-6)]) (rest := [.int 1000000000]) ⟨hx, hb, hml, hown, hts⟩ (c_X11_refuse l dC dI aC H.size h0 xp xtp xn xt xk xl xc xo xto xr xch ts ik st (-6) 6 rf (by decide) (by decide) (by decide) (by unfold vp_in; decide)) ⟨(callB_of 1 hts (gG kw_276) rfl rfl rfl (hts _ (gw kw_1 rfl)) (hts _ (gw kw_273 rfl)) (by decide +kernel) ⟨Nat.le_of_ble_eq_true rfl, Nat.le_of_ble_eq_true rfl⟩), (hts _ (gw kw_275 rfl)), (hts _ (gw ks_0 rfl))⟩ ⟨fun a U g mk q => by obtain ⟨q0, q1, qP, qK, qD, qN⟩ := q; exact ⟨q0, q1, qP, va_K.moved (u := U) (U := U.calling g mk a) (Vm.Alike.refl U.vm) qK, qD, NX.same (u := U) (U := U.calling g mk a) rfl qN⟩, va_recv hK hPc (ci := 11) (q0 := 0) rfl rfl, fun U hU hW => ⟨rfl, by rw [hU], by rw [hU]; exact hPc, va_K.moved hW.alike hK, hDc.weaken (fun _ _ _ _ => trivial), NX.warm hW hN⟩⟩ rfl rfl hl.1 rfl (lv_room (Nat.le_of_ble_eq_true rfl)) dX11_alike_45 ⟨Nat.le_of_ble_eq_true rfl, Nat.le_of_ble_eq_true rfl⟩) hS (fun q _ h => hFc q h) hFc (fun x_11 u9 t9 H1 locs ht hvm hw_11 hB hz1 hk1 hS => ?_)
          obtain ⟨u_12, rfl⟩ : ∃ z, z = u9 := ⟨_, rfl⟩
          obtain ⟨hP1, hK1, hD1⟩ := hB
          rw [ht] at hP1
          clear hK1
          try dsimp only at hw_11
          obtain ⟨hP, hD⟩ := va_join (wr := [(xn, .inr (4, [.ref ek, .ref ef, .ref ew, .ref ep, .ref es, .int (nI n), .int (nI sn), .int dn])), (es, .inl (aC 0, 5, .inl stf)), (xc, .inr (2, [.ref cs, .ref ca, .ref cf, .ref k0, .int z1, .int co])), (cs, .inl (aC 0, 60, .inl sf)), (ca, .inl (aC 0, 60, .inl af)), (cf, .inl (aC 0, 60, .inl of)), (k0, .inr (0, []))]) (w1 := [(h0, .inr (11, [.ref xp, .ref xtp, .ref xn, .ref xt, .ref xk, .ref xl, .ref xc, .ref xo, .ref xto, .ref xr, .ref xch, .int ts, .int ik, .int st])), (xr, .inl (aC 0, 7, .inl u_12))]) hP hD [0, 8] [1, 2, 3, 4, 5, 6, 7] rfl rfl (by decide) (by decide) hk1 hFc hP1 hD1
          generalize H1 = H at hP hS ⊢
          have hP : va_P (dC, dI) classes [(xn, .inr (4, [.ref ek, .ref ef, .ref ew, .ref ep, .ref es, .int (nI n), .int (nI sn), .int dn])), (es, .inl (aC 0, 5, .inl stf)), (xc, .inr (2, [.ref cs, .ref ca, .ref cf, .ref k0, .int z1, .int co])), (cs, .inl (aC 0, 60, .inl sf)), (ca, .inl (aC 0, 60, .inl af)), (cf, .inl (aC 0, 60, .inl of)), (k0, .inr (0, [])), (h0, .inr (11, [.ref xp, .ref xtp, .ref xn, .ref xt, .ref xk, .ref xl, .ref xc, .ref xo, .ref xto, .ref xr, .ref xch, .int ts, .int ik, .int st])), (xr, .inl (aC 0, 7, .inl u_12))] H := hP
          have hD : va_D A [(xn, .inr (4, [.ref ek, .ref ef, .ref ew, .ref ep, .ref es, .int (nI n), .int (nI sn), .int dn])), (es, .inl (aC 0, 5, .inl stf)), (xc, .inr (2, [.ref cs, .ref ca, .ref cf, .ref k0, .int z1, .int co])), (cs, .inl (aC 0, 60, .inl sf)), (ca, .inl (aC 0, 60, .inl af)), (cf, .inl (aC 0, 60, .inl of)), (k0, .inr (0, [])), (h0, .inr (11, [.ref xp, .ref xtp, .ref xn, .ref xt, .ref xk, .ref xl, .ref xc, .ref xo, .ref xto, .ref xr, .ref xch, .int ts, .int ik, .int st])), (xr, .inl (aC 0, 7, .inl u_12))] := hD
          clear hPc hDc hFc hz1 hk1 hP1 hD1 ht hvm
          obtain ⟨hv9, -⟩ := hw_11
          refine lv_isub hx hb dX11_alike_48 ?_
          refine lv_topi (fun x_13 e_13 => ?_)
          have hP9 := hP.sub (ws' := [(h0, .inr (11, [.ref xp, .ref xtp, .ref xn, .ref xt, .ref xk, .ref xl, .ref xc, .ref xo, .ref xto, .ref xr, .ref xch, .int ts, .int ik, .int st])), (xn, .inr (4, [.ref ek, .ref ef, .ref ew, .ref ep, .ref es, .int (nI n), .int (nI sn), .int dn])), (es, .inl (aC 0, 5, .inl stf)), (xc, .inr (2, [.ref cs, .ref ca, .ref cf, .ref k0, .int z1, .int co])), (cs, .inl (aC 0, 60, .inl sf)), (ca, .inl (aC 0, 60, .inl af)), (cf, .inl (aC 0, 60, .inl of)), (k0, .inr (0, [])), (xr, .inl (aC 0, 7, .inl u_12))]) [7, 0, 1, 2, 3, 4, 5, 6, 8] rfl
          have hD9 := hD.sub (ws' := [(h0, .inr (11, [.ref xp, .ref xtp, .ref xn, .ref xt, .ref xk, .ref xl, .ref xc, .ref xo, .ref xto, .ref xr, .ref xch, .int ts, .int ik, .int st])), (xn, .inr (4, [.ref ek, .ref ef, .ref ew, .ref ep, .ref es, .int (nI n), .int (nI sn), .int dn])), (es, .inl (aC 0, 5, .inl stf)), (xc, .inr (2, [.ref cs, .ref ca, .ref cf, .ref k0, .int z1, .int co])), (cs, .inl (aC 0, 60, .inl sf)), (ca, .inl (aC 0, 60, .inl af)), (cf, .inl (aC 0, 60, .inl of)), (k0, .inr (0, [])), (xr, .inl (aC 0, 7, .inl u_12))]) [7, 0, 1, 2, 3, 4, 5, 6, 8] (by decide) rfl
          refine W.widen (k := 0) (n := 0) (by omega) (by omega) ?_
          exact W.iret (v := x_13) hx hb hr (fun t ht hW => ⟨⟨x_13, (z1, co, sf, af, of, u_12), rfl, trivial, by rw [ht]; exact hP9, va_K.moved hW.alike hK, hD9⟩, hS.F ht⟩) hS.2.2 dX11_alike_49
        · refine lv_iload_n hx hb dX11_alike_29 rfl (lv_at hl 2 rfl) ?_
          refine lv_bipush (v := 99) hx hb dX11_alike_30 (by decide) ?_
          refine lv_icmp_gt (tgt := 40) hx hb dX11_alike_32 (by decide) (fun c_14 => ?_) (fun c_14 => ?_)
          · refine lv_ldc hx hb hown (hts _ (gw kw_507 rfl)) dX11_alike_40 ?_
            refine lv_aload_n hx hb dX11_alike_42 rfl (lv_at hl 0 rfl) ?_
            refine lv_bipush (v := -6) hx hb dX11_alike_43 (by decide) ?_
            have hPc := hP.sub (ws' := [(h0, .inr (11, [.ref xp, .ref xtp, .ref xn, .ref xt, .ref xk, .ref xl, .ref xc, .ref xo, .ref xto, .ref xr, .ref xch, .int ts, .int ik, .int st])), (xr, .inl (aC 0, 7, .inl rf))]) [0, 8] rfl
            have hDc := hD.sub (ws' := [(h0, .inr (11, [.ref xp, .ref xtp, .ref xn, .ref xt, .ref xk, .ref xl, .ref xc, .ref xo, .ref xto, .ref xr, .ref xch, .int ts, .int ik, .int st])), (xr, .inl (aC 0, 7, .inl rf))]) [0, 8] (by decide) rfl
            have hFc := va_free (wc := [(h0, .inr (11, [.ref xp, .ref xtp, .ref xn, .ref xt, .ref xk, .ref xl, .ref xc, .ref xo, .ref xto, .ref xr, .ref xch, .int ts, .int ik, .int st])), (xr, .inl (aC 0, 7, .inl rf))]) hD hS hA [0, 8] rfl
            refine va_calli (va_runV (As := [.int (-6)]) (rest := [.int 1000000000]) ⟨hx, hb, hml, hown, hts⟩ (c_X11_refuse l dC dI aC H.size h0 xp xtp xn xt xk xl xc xo xto xr xch ts ik st (-6) 6 rf (by decide) (by decide) (by decide) (by unfold vp_in; decide)) ⟨(callB_of 1 hts (gG kw_276) rfl rfl rfl (hts _ (gw kw_1 rfl)) (hts _ (gw kw_273 rfl)) (by decide +kernel) ⟨Nat.le_of_ble_eq_true rfl, Nat.le_of_ble_eq_true rfl⟩), (hts _ (gw kw_275 rfl)), (hts _ (gw ks_0 rfl))⟩ ⟨fun a U g mk q => by obtain ⟨q0, q1, qP, qK, qD, qN⟩ := q; exact ⟨q0, q1, qP, va_K.moved (u := U) (U := U.calling g mk a) (Vm.Alike.refl U.vm) qK, qD, NX.same (u := U) (U := U.calling g mk a) rfl qN⟩, va_recv hK hPc (ci := 11) (q0 := 0) rfl rfl, fun U hU hW => ⟨rfl, by rw [hU], by rw [hU]; exact hPc, va_K.moved hW.alike hK, hDc.weaken (fun _ _ _ _ => trivial), NX.warm hW hN⟩⟩ rfl rfl hl.1 rfl (lv_room (Nat.le_of_ble_eq_true rfl)) dX11_alike_45 ⟨Nat.le_of_ble_eq_true rfl, Nat.le_of_ble_eq_true rfl⟩) hS (fun q _ h => hFc q h) hFc (fun x_15 u9 t9 H1 locs ht hvm hw_15 hB hz1 hk1 hS => ?_)
            obtain ⟨u_16, rfl⟩ : ∃ z, z = u9 := ⟨_, rfl⟩
            obtain ⟨hP1, hK1, hD1⟩ := hB
            rw [ht] at hP1
            clear hK1
            try dsimp only at hw_15
            obtain ⟨hP, hD⟩ := va_join (wr := [(xn, .inr (4, [.ref ek, .ref ef, .ref ew, .ref ep, .ref es, .int (nI n), .int (nI sn), .int dn])), (es, .inl (aC 0, 5, .inl stf)), (xc, .inr (2, [.ref cs, .ref ca, .ref cf, .ref k0, .int z1, .int co])), (cs, .inl (aC 0, 60, .inl sf)), (ca, .inl (aC 0, 60, .inl af)), (cf, .inl (aC 0, 60, .inl of)), (k0, .inr (0, []))]) (w1 := [(h0, .inr (11, [.ref xp, .ref xtp, .ref xn, .ref xt, .ref xk, .ref xl, .ref xc, .ref xo, .ref xto, .ref xr, .ref xch, .int ts, .int ik, .int st])), (xr, .inl (aC 0, 7, .inl u_16))]) hP hD [0, 8] [1, 2, 3, 4, 5, 6, 7] rfl rfl (by decide) (by decide) hk1 hFc hP1 hD1
            generalize H1 = H at hP hS ⊢
            have hP : va_P (dC, dI) classes [(xn, .inr (4, [.ref ek, .ref ef, .ref ew, .ref ep, .ref es, .int (nI n), .int (nI sn), .int dn])), (es, .inl (aC 0, 5, .inl stf)), (xc, .inr (2, [.ref cs, .ref ca, .ref cf, .ref k0, .int z1, .int co])), (cs, .inl (aC 0, 60, .inl sf)), (ca, .inl (aC 0, 60, .inl af)), (cf, .inl (aC 0, 60, .inl of)), (k0, .inr (0, [])), (h0, .inr (11, [.ref xp, .ref xtp, .ref xn, .ref xt, .ref xk, .ref xl, .ref xc, .ref xo, .ref xto, .ref xr, .ref xch, .int ts, .int ik, .int st])), (xr, .inl (aC 0, 7, .inl u_16))] H := hP
            have hD : va_D A [(xn, .inr (4, [.ref ek, .ref ef, .ref ew, .ref ep, .ref es, .int (nI n), .int (nI sn), .int dn])), (es, .inl (aC 0, 5, .inl stf)), (xc, .inr (2, [.ref cs, .ref ca, .ref cf, .ref k0, .int z1, .int co])), (cs, .inl (aC 0, 60, .inl sf)), (ca, .inl (aC 0, 60, .inl af)), (cf, .inl (aC 0, 60, .inl of)), (k0, .inr (0, [])), (h0, .inr (11, [.ref xp, .ref xtp, .ref xn, .ref xt, .ref xk, .ref xl, .ref xc, .ref xo, .ref xto, .ref xr, .ref xch, .int ts, .int ik, .int st])), (xr, .inl (aC 0, 7, .inl u_16))] := hD
            clear hPc hDc hFc hz1 hk1 hP1 hD1 ht hvm
            obtain ⟨hv9, -⟩ := hw_15
            refine lv_isub hx hb dX11_alike_48 ?_
            refine lv_topi (fun x_17 e_17 => ?_)
            have hP9 := hP.sub (ws' := [(h0, .inr (11, [.ref xp, .ref xtp, .ref xn, .ref xt, .ref xk, .ref xl, .ref xc, .ref xo, .ref xto, .ref xr, .ref xch, .int ts, .int ik, .int st])), (xn, .inr (4, [.ref ek, .ref ef, .ref ew, .ref ep, .ref es, .int (nI n), .int (nI sn), .int dn])), (es, .inl (aC 0, 5, .inl stf)), (xc, .inr (2, [.ref cs, .ref ca, .ref cf, .ref k0, .int z1, .int co])), (cs, .inl (aC 0, 60, .inl sf)), (ca, .inl (aC 0, 60, .inl af)), (cf, .inl (aC 0, 60, .inl of)), (k0, .inr (0, [])), (xr, .inl (aC 0, 7, .inl u_16))]) [7, 0, 1, 2, 3, 4, 5, 6, 8] rfl
            have hD9 := hD.sub (ws' := [(h0, .inr (11, [.ref xp, .ref xtp, .ref xn, .ref xt, .ref xk, .ref xl, .ref xc, .ref xo, .ref xto, .ref xr, .ref xch, .int ts, .int ik, .int st])), (xn, .inr (4, [.ref ek, .ref ef, .ref ew, .ref ep, .ref es, .int (nI n), .int (nI sn), .int dn])), (es, .inl (aC 0, 5, .inl stf)), (xc, .inr (2, [.ref cs, .ref ca, .ref cf, .ref k0, .int z1, .int co])), (cs, .inl (aC 0, 60, .inl sf)), (ca, .inl (aC 0, 60, .inl af)), (cf, .inl (aC 0, 60, .inl of)), (k0, .inr (0, [])), (xr, .inl (aC 0, 7, .inl u_16))]) [7, 0, 1, 2, 3, 4, 5, 6, 8] (by decide) rfl
            refine W.widen (k := 0) (n := 0) (by omega) (by omega) ?_
            exact W.iret (v := x_17) hx hb hr (fun t ht hW => ⟨⟨x_17, (z1, co, sf, af, of, u_16), rfl, trivial, by rw [ht]; exact hP9, va_K.moved hW.alike hK, hD9⟩, hS.F ht⟩) hS.2.2 dX11_alike_49
          · refine lv_iload_n hx hb dX11_alike_35 rfl (lv_at hl 3 rfl) ?_
            refine lv_iload_n hx hb dX11_alike_36 rfl (lv_at hl 1 rfl) ?_
            refine lv_icmp_lt (tgt := 50) hx hb dX11_alike_37 (by decide) (fun c_18 => ?_) (fun c_18 => ?_)
            · obtain ⟨n9, hn1, hne⟩ : ∃ n9, (1 ≤ n9 ∧ n9 ≤ 60) ∧ a1 = nI n9 := by
                obtain ⟨q, q1, q2⟩ := ix_of (n := 61) (by omega) (x := a1) (fun z => c_1 (Int32.lt_trans z (by decide))) (fun z => c_10 (Int32.lt_of_lt_of_le (by decide) z))
                refine ⟨q, ⟨?_, by omega⟩, q2⟩
                exact Nat.le_of_not_lt fun z => c_1 (by rw [q2]; exact nI_lt (b := 1) z (by omega))
              have h9 : a1 = nI n9 := hne
              subst h9
              obtain ⟨k, hk1, hke⟩ : ∃ k, k < n9 ∧ a3 = nI k := ix_of (by omega) (fun z => absurd z (Int32.not_lt.mpr c_9)) (Int32.not_le.mpr c_18)
              have h9 : a3 = nI k := hke
              subst h9
              refine lv_aload_n hx hb dX11_alike_50 rfl (lv_at hl 0 rfl) ?_
              refine va_get (D := (dC, dI)) (ci := 11) (v := .ref xc) (C := RX11) (T := TX11) (N := 14) hx hb hts inX11 hown hK hP 0 rfl rfl 6 (by decide) (hts _ (gw kw_232 rfl)) (fun _ h9 => h9) rfl dX11_alike_51 ?_
              refine lv_iload_n hx hb dX11_alike_54 rfl (lv_at hl 1 rfl) ?_
              refine lv_iload_n hx hb dX11_alike_55 rfl (lv_at hl 2 rfl) ?_
              refine lv_aload_n hx hb dX11_alike_56 rfl (lv_at hl 0 rfl) ?_
              refine va_get (D := (dC, dI)) (ci := 11) (v := .ref xn) (C := RX11) (T := TX11) (N := 14) hx hb hts inX11 hown hK hP 0 rfl rfl 2 (by decide) (hts _ (gw kw_228 rfl)) (fun _ h9 => h9) rfl dX11_alike_57 ?_
              refine va_get (D := (dC, dI)) (ci := 4) (v := .ref es) (C := RX4) (T := TX4) (N := 8) hx hb hts inX4 hown hK hP 1 rfl rfl 4 (by decide) (hts _ (gw kw_45 rfl)) (fun _ h9 => h9) rfl dX11_alike_60 ?_
              have hPc := hP.sub (ws' := [(xc, .inr (2, [.ref cs, .ref ca, .ref cf, .ref k0, .int z1, .int co])), (cs, .inl (aC 0, 60, .inl sf)), (ca, .inl (aC 0, 60, .inl af)), (cf, .inl (aC 0, 60, .inl of)), (k0, .inr (0, [])), (es, .inl (aC 0, 5, .inl stf))]) [3, 4, 5, 6, 7, 2] rfl
              have hDc := hD.sub (ws' := [(xc, .inr (2, [.ref cs, .ref ca, .ref cf, .ref k0, .int z1, .int co])), (cs, .inl (aC 0, 60, .inl sf)), (ca, .inl (aC 0, 60, .inl af)), (cf, .inl (aC 0, 60, .inl of)), (k0, .inr (0, [])), (es, .inl (aC 0, 5, .inl stf))]) [3, 4, 5, 6, 7, 2] (by decide) rfl
              have hFc := va_free (wc := [(xc, .inr (2, [.ref cs, .ref ca, .ref cf, .ref k0, .int z1, .int co])), (cs, .inl (aC 0, 60, .inl sf)), (ca, .inl (aC 0, 60, .inl af)), (cf, .inl (aC 0, 60, .inl of)), (k0, .inr (0, [])), (es, .inl (aC 0, 5, .inl stf))]) hD hS hA [3, 4, 5, 6, 7, 2] rfl
              refine va_callv (va_runV (As := [.int (nI n9), .int a2, .ref es]) (rest := []) ⟨hx, hb, hml, hown, hts⟩ (c_X2_solve l dC dI aC H.size xc cs ca cf k0 co sf af of z1 n9 a2 es stf (hn1)) ⟨(callB_of 3 hts (gG kw_564) rfl rfl rfl (hts _ (gw kw_12 rfl)) (hts _ (gw kw_561 rfl)) (by decide +kernel) ⟨Nat.le_of_ble_eq_true rfl, Nat.le_of_ble_eq_true rfl⟩), (hts _ (gw kw_562 rfl)), (hts _ (gw kw_563 rfl))⟩ ⟨fun a U g mk q => by obtain ⟨q0, q1, qP, qK, qD, qN⟩ := q; exact ⟨q0, q1, qP, va_K.moved (u := U) (U := U.calling g mk a) (Vm.Alike.refl U.vm) qK, qD, NX.same (u := U) (U := U.calling g mk a) rfl qN⟩, va_recv hK hPc (ci := 2) (q0 := 0) rfl rfl, fun U hU hW => ⟨rfl, by rw [hU], by rw [hU]; exact hPc, va_K.moved hW.alike hK, hDc.weaken (fun _ _ _ _ => trivial), NX.warm hW hN⟩⟩ rfl rfl hl.1 rfl (lv_room (Nat.le_of_ble_eq_true rfl)) dX11_alike_63 ⟨Nat.le_of_ble_eq_true rfl, Nat.le_of_ble_eq_true rfl⟩) hS (fun q _ h => hFc q h) hFc (fun u9 t9 H1 locs ht hvm hw_19 hB hz1 hk1 hS => ?_)
              obtain ⟨u_20, u_21, u_22⟩ := u9
              obtain ⟨hP1, hK1, hD1⟩ := hB
              rw [ht] at hP1
              clear hK1
              try dsimp only at hw_19
              obtain ⟨hP, hD⟩ := va_join (wr := [(h0, .inr (11, [.ref xp, .ref xtp, .ref xn, .ref xt, .ref xk, .ref xl, .ref xc, .ref xo, .ref xto, .ref xr, .ref xch, .int ts, .int ik, .int st])), (xn, .inr (4, [.ref ek, .ref ef, .ref ew, .ref ep, .ref es, .int (nI n), .int (nI sn), .int dn])), (xr, .inl (aC 0, 7, .inl rf))]) (w1 := [(xc, .inr (2, [.ref cs, .ref ca, .ref cf, .ref k0, .int (nI n9), .int a2])), (cs, .inl (aC 0, 60, .inl u_20)), (ca, .inl (aC 0, 60, .inl u_21)), (cf, .inl (aC 0, 60, .inl u_22)), (k0, .inr (0, [])), (es, .inl (aC 0, 5, .inl stf))]) hP hD [3, 4, 5, 6, 7, 2] [0, 1, 8] rfl rfl (by decide) (by decide) hk1 hFc hP1 hD1
              generalize H1 = H at hP hS ⊢
              have hP : va_P (dC, dI) classes [(h0, .inr (11, [.ref xp, .ref xtp, .ref xn, .ref xt, .ref xk, .ref xl, .ref xc, .ref xo, .ref xto, .ref xr, .ref xch, .int ts, .int ik, .int st])), (xn, .inr (4, [.ref ek, .ref ef, .ref ew, .ref ep, .ref es, .int (nI n), .int (nI sn), .int dn])), (xr, .inl (aC 0, 7, .inl rf)), (xc, .inr (2, [.ref cs, .ref ca, .ref cf, .ref k0, .int (nI n9), .int a2])), (cs, .inl (aC 0, 60, .inl u_20)), (ca, .inl (aC 0, 60, .inl u_21)), (cf, .inl (aC 0, 60, .inl u_22)), (k0, .inr (0, [])), (es, .inl (aC 0, 5, .inl stf))] H := hP
              have hD : va_D A [(h0, .inr (11, [.ref xp, .ref xtp, .ref xn, .ref xt, .ref xk, .ref xl, .ref xc, .ref xo, .ref xto, .ref xr, .ref xch, .int ts, .int ik, .int st])), (xn, .inr (4, [.ref ek, .ref ef, .ref ew, .ref ep, .ref es, .int (nI n), .int (nI sn), .int dn])), (xr, .inl (aC 0, 7, .inl rf)), (xc, .inr (2, [.ref cs, .ref ca, .ref cf, .ref k0, .int (nI n9), .int a2])), (cs, .inl (aC 0, 60, .inl u_20)), (ca, .inl (aC 0, 60, .inl u_21)), (cf, .inl (aC 0, 60, .inl u_22)), (k0, .inr (0, [])), (es, .inl (aC 0, 5, .inl stf))] := hD
              clear hPc hDc hFc hz1 hk1 hP1 hD1 ht hvm
              refine lv_iload hx hb dX11_alike_66 (lv_at hl 4 rfl) ?_
              refine lv_if_eq (tgt := 90) hx hb dX11_alike_68 (by decide) (fun c_23 => ?_) (fun c_23 => ?_)
              · refine lv_aload_n hx hb dX11_alike_90 rfl (lv_at hl 0 rfl) ?_
                refine va_get (D := (dC, dI)) (ci := 11) (v := .ref xc) (C := RX11) (T := TX11) (N := 14) hx hb hts inX11 hown hK hP 0 rfl rfl 6 (by decide) (hts _ (gw kw_232 rfl)) (fun _ h9 => h9) rfl dX11_alike_91 ?_
                refine va_get (D := (dC, dI)) (ci := 2) (v := .ref cs) (C := RX2) (T := TX2) (N := 6) hx hb hts inX2 hown hK hP 3 rfl rfl 0 (by decide) (hts _ (gw kw_207 rfl)) (fun _ h9 => h9) rfl dX11_alike_94 ?_
                refine lv_iload_n hx hb dX11_alike_97 rfl (lv_at hl 3 rfl) ?_
                have h_24 : vp_in (nI k) 60 := vp_in_nI (by omega) (by omega)
                refine va_iald hx hb hK hP 4 0 rfl rfl h_24 dX11_alike_98 ?_
                refine lv_topi (fun x_25 e_25 => ?_)
                have hP9 := hP.sub (ws' := [(h0, .inr (11, [.ref xp, .ref xtp, .ref xn, .ref xt, .ref xk, .ref xl, .ref xc, .ref xo, .ref xto, .ref xr, .ref xch, .int ts, .int ik, .int st])), (xn, .inr (4, [.ref ek, .ref ef, .ref ew, .ref ep, .ref es, .int (nI n), .int (nI sn), .int dn])), (es, .inl (aC 0, 5, .inl stf)), (xc, .inr (2, [.ref cs, .ref ca, .ref cf, .ref k0, .int (nI n9), .int a2])), (cs, .inl (aC 0, 60, .inl u_20)), (ca, .inl (aC 0, 60, .inl u_21)), (cf, .inl (aC 0, 60, .inl u_22)), (k0, .inr (0, [])), (xr, .inl (aC 0, 7, .inl rf))]) [0, 1, 8, 3, 4, 5, 6, 7, 2] rfl
                have hD9 := hD.sub (ws' := [(h0, .inr (11, [.ref xp, .ref xtp, .ref xn, .ref xt, .ref xk, .ref xl, .ref xc, .ref xo, .ref xto, .ref xr, .ref xch, .int ts, .int ik, .int st])), (xn, .inr (4, [.ref ek, .ref ef, .ref ew, .ref ep, .ref es, .int (nI n), .int (nI sn), .int dn])), (es, .inl (aC 0, 5, .inl stf)), (xc, .inr (2, [.ref cs, .ref ca, .ref cf, .ref k0, .int (nI n9), .int a2])), (cs, .inl (aC 0, 60, .inl u_20)), (ca, .inl (aC 0, 60, .inl u_21)), (cf, .inl (aC 0, 60, .inl u_22)), (k0, .inr (0, [])), (xr, .inl (aC 0, 7, .inl rf))]) [0, 1, 8, 3, 4, 5, 6, 7, 2] (by decide) rfl
                refine W.widen (k := 0) (n := 0) (by omega) (by omega) ?_
                exact W.iret (v := x_25) hx hb hr (fun t ht hW => ⟨⟨x_25, ((nI n9), a2, u_20, u_21, u_22, rf), rfl, trivial, by rw [ht]; exact hP9, va_K.moved hW.alike hK, hD9⟩, hS.F ht⟩) hS.2.2 dX11_alike_99
              · refine lv_aload_n hx hb dX11_alike_71 rfl (lv_at hl 0 rfl) ?_
                refine va_get (D := (dC, dI)) (ci := 11) (v := .ref xc) (C := RX11) (T := TX11) (N := 14) hx hb hts inX11 hown hK hP 0 rfl rfl 6 (by decide) (hts _ (gw kw_232 rfl)) (fun _ h9 => h9) rfl dX11_alike_72 ?_
                refine va_get (D := (dC, dI)) (ci := 2) (v := .ref cs) (C := RX2) (T := TX2) (N := 6) hx hb hts inX2 hown hK hP 3 rfl rfl 0 (by decide) (hts _ (gw kw_207 rfl)) (fun _ h9 => h9) rfl dX11_alike_75 ?_
                refine lv_iconst (v := 0) hx hb dX11_alike_78 (by decide) ?_
                have h_26 : vp_in 0 60 := by unfold vp_in; decide
                refine va_iald hx hb hK hP 4 0 rfl rfl h_26 dX11_alike_79 ?_
                refine lv_topi (fun x_27 e_27 => ?_)
                refine lv_iconst (v := -1) hx hb dX11_alike_80 (by decide) ?_
                refine lv_icmp_ne (tgt := 88) hx hb dX11_alike_81 (by decide) (fun c_28 => ?_) (fun c_28 => ?_)
                · refine lv_iconst (v := 1) hx hb dX11_alike_88 (by decide) ?_
                  have hP9 := hP.sub (ws' := [(h0, .inr (11, [.ref xp, .ref xtp, .ref xn, .ref xt, .ref xk, .ref xl, .ref xc, .ref xo, .ref xto, .ref xr, .ref xch, .int ts, .int ik, .int st])), (xn, .inr (4, [.ref ek, .ref ef, .ref ew, .ref ep, .ref es, .int (nI n), .int (nI sn), .int dn])), (es, .inl (aC 0, 5, .inl stf)), (xc, .inr (2, [.ref cs, .ref ca, .ref cf, .ref k0, .int (nI n9), .int a2])), (cs, .inl (aC 0, 60, .inl u_20)), (ca, .inl (aC 0, 60, .inl u_21)), (cf, .inl (aC 0, 60, .inl u_22)), (k0, .inr (0, [])), (xr, .inl (aC 0, 7, .inl rf))]) [0, 1, 8, 3, 4, 5, 6, 7, 2] rfl
                  have hD9 := hD.sub (ws' := [(h0, .inr (11, [.ref xp, .ref xtp, .ref xn, .ref xt, .ref xk, .ref xl, .ref xc, .ref xo, .ref xto, .ref xr, .ref xch, .int ts, .int ik, .int st])), (xn, .inr (4, [.ref ek, .ref ef, .ref ew, .ref ep, .ref es, .int (nI n), .int (nI sn), .int dn])), (es, .inl (aC 0, 5, .inl stf)), (xc, .inr (2, [.ref cs, .ref ca, .ref cf, .ref k0, .int (nI n9), .int a2])), (cs, .inl (aC 0, 60, .inl u_20)), (ca, .inl (aC 0, 60, .inl u_21)), (cf, .inl (aC 0, 60, .inl u_22)), (k0, .inr (0, [])), (xr, .inl (aC 0, 7, .inl rf))]) [0, 1, 8, 3, 4, 5, 6, 7, 2] (by decide) rfl
                  refine W.widen (k := 0) (n := 0) (by omega) (by omega) ?_
                  exact W.iret (v := 1) hx hb hr (fun t ht hW => ⟨⟨1, ((nI n9), a2, u_20, u_21, u_22, rf), rfl, trivial, by rw [ht]; exact hP9, va_K.moved hW.alike hK, hD9⟩, hS.F ht⟩) hS.2.2 dX11_alike_89
                · refine lv_iconst (v := 0) hx hb dX11_alike_84 (by decide) ?_
                  refine lv_goto (tgt := 89) hx hb dX11_alike_85 (by decide) ?_
                  have hP9 := hP.sub (ws' := [(h0, .inr (11, [.ref xp, .ref xtp, .ref xn, .ref xt, .ref xk, .ref xl, .ref xc, .ref xo, .ref xto, .ref xr, .ref xch, .int ts, .int ik, .int st])), (xn, .inr (4, [.ref ek, .ref ef, .ref ew, .ref ep, .ref es, .int (nI n), .int (nI sn), .int dn])), (es, .inl (aC 0, 5, .inl stf)), (xc, .inr (2, [.ref cs, .ref ca, .ref cf, .ref k0, .int (nI n9), .int a2])), (cs, .inl (aC 0, 60, .inl u_20)), (ca, .inl (aC 0, 60, .inl u_21)), (cf, .inl (aC 0, 60, .inl u_22)), (k0, .inr (0, [])), (xr, .inl (aC 0, 7, .inl rf))]) [0, 1, 8, 3, 4, 5, 6, 7, 2] rfl
                  have hD9 := hD.sub (ws' := [(h0, .inr (11, [.ref xp, .ref xtp, .ref xn, .ref xt, .ref xk, .ref xl, .ref xc, .ref xo, .ref xto, .ref xr, .ref xch, .int ts, .int ik, .int st])), (xn, .inr (4, [.ref ek, .ref ef, .ref ew, .ref ep, .ref es, .int (nI n), .int (nI sn), .int dn])), (es, .inl (aC 0, 5, .inl stf)), (xc, .inr (2, [.ref cs, .ref ca, .ref cf, .ref k0, .int (nI n9), .int a2])), (cs, .inl (aC 0, 60, .inl u_20)), (ca, .inl (aC 0, 60, .inl u_21)), (cf, .inl (aC 0, 60, .inl u_22)), (k0, .inr (0, [])), (xr, .inl (aC 0, 7, .inl rf))]) [0, 1, 8, 3, 4, 5, 6, 7, 2] (by decide) rfl
                  refine W.widen (k := 0) (n := 0) (by omega) (by omega) ?_
                  exact W.iret (v := 0) hx hb hr (fun t ht hW => ⟨⟨0, ((nI n9), a2, u_20, u_21, u_22, rf), rfl, trivial, by rw [ht]; exact hP9, va_K.moved hW.alike hK, hD9⟩, hS.F ht⟩) hS.2.2 dX11_alike_89
            · refine lv_ldc hx hb hown (hts _ (gw kw_507 rfl)) dX11_alike_40 ?_
              refine lv_aload_n hx hb dX11_alike_42 rfl (lv_at hl 0 rfl) ?_
              refine lv_bipush (v := -6) hx hb dX11_alike_43 (by decide) ?_
              have hPc := hP.sub (ws' := [(h0, .inr (11, [.ref xp, .ref xtp, .ref xn, .ref xt, .ref xk, .ref xl, .ref xc, .ref xo, .ref xto, .ref xr, .ref xch, .int ts, .int ik, .int st])), (xr, .inl (aC 0, 7, .inl rf))]) [0, 8] rfl
              have hDc := hD.sub (ws' := [(h0, .inr (11, [.ref xp, .ref xtp, .ref xn, .ref xt, .ref xk, .ref xl, .ref xc, .ref xo, .ref xto, .ref xr, .ref xch, .int ts, .int ik, .int st])), (xr, .inl (aC 0, 7, .inl rf))]) [0, 8] (by decide) rfl
              have hFc := va_free (wc := [(h0, .inr (11, [.ref xp, .ref xtp, .ref xn, .ref xt, .ref xk, .ref xl, .ref xc, .ref xo, .ref xto, .ref xr, .ref xch, .int ts, .int ik, .int st])), (xr, .inl (aC 0, 7, .inl rf))]) hD hS hA [0, 8] rfl
              refine va_calli (va_runV (As := [.int (-6)]) (rest := [.int 1000000000]) ⟨hx, hb, hml, hown, hts⟩ (c_X11_refuse l dC dI aC H.size h0 xp xtp xn xt xk xl xc xo xto xr xch ts ik st (-6) 6 rf (by decide) (by decide) (by decide) (by unfold vp_in; decide)) ⟨(callB_of 1 hts (gG kw_276) rfl rfl rfl (hts _ (gw kw_1 rfl)) (hts _ (gw kw_273 rfl)) (by decide +kernel) ⟨Nat.le_of_ble_eq_true rfl, Nat.le_of_ble_eq_true rfl⟩), (hts _ (gw kw_275 rfl)), (hts _ (gw ks_0 rfl))⟩ ⟨fun a U g mk q => by obtain ⟨q0, q1, qP, qK, qD, qN⟩ := q; exact ⟨q0, q1, qP, va_K.moved (u := U) (U := U.calling g mk a) (Vm.Alike.refl U.vm) qK, qD, NX.same (u := U) (U := U.calling g mk a) rfl qN⟩, va_recv hK hPc (ci := 11) (q0 := 0) rfl rfl, fun U hU hW => ⟨rfl, by rw [hU], by rw [hU]; exact hPc, va_K.moved hW.alike hK, hDc.weaken (fun _ _ _ _ => trivial), NX.warm hW hN⟩⟩ rfl rfl hl.1 rfl (lv_room (Nat.le_of_ble_eq_true rfl)) dX11_alike_45 ⟨Nat.le_of_ble_eq_true rfl, Nat.le_of_ble_eq_true rfl⟩) hS (fun q _ h => hFc q h) hFc (fun x_29 u9 t9 H1 locs ht hvm hw_29 hB hz1 hk1 hS => ?_)
              obtain ⟨u_30, rfl⟩ : ∃ z, z = u9 := ⟨_, rfl⟩
              obtain ⟨hP1, hK1, hD1⟩ := hB
              rw [ht] at hP1
              clear hK1
              try dsimp only at hw_29
              obtain ⟨hP, hD⟩ := va_join (wr := [(xn, .inr (4, [.ref ek, .ref ef, .ref ew, .ref ep, .ref es, .int (nI n), .int (nI sn), .int dn])), (es, .inl (aC 0, 5, .inl stf)), (xc, .inr (2, [.ref cs, .ref ca, .ref cf, .ref k0, .int z1, .int co])), (cs, .inl (aC 0, 60, .inl sf)), (ca, .inl (aC 0, 60, .inl af)), (cf, .inl (aC 0, 60, .inl of)), (k0, .inr (0, []))]) (w1 := [(h0, .inr (11, [.ref xp, .ref xtp, .ref xn, .ref xt, .ref xk, .ref xl, .ref xc, .ref xo, .ref xto, .ref xr, .ref xch, .int ts, .int ik, .int st])), (xr, .inl (aC 0, 7, .inl u_30))]) hP hD [0, 8] [1, 2, 3, 4, 5, 6, 7] rfl rfl (by decide) (by decide) hk1 hFc hP1 hD1
              generalize H1 = H at hP hS ⊢
              have hP : va_P (dC, dI) classes [(xn, .inr (4, [.ref ek, .ref ef, .ref ew, .ref ep, .ref es, .int (nI n), .int (nI sn), .int dn])), (es, .inl (aC 0, 5, .inl stf)), (xc, .inr (2, [.ref cs, .ref ca, .ref cf, .ref k0, .int z1, .int co])), (cs, .inl (aC 0, 60, .inl sf)), (ca, .inl (aC 0, 60, .inl af)), (cf, .inl (aC 0, 60, .inl of)), (k0, .inr (0, [])), (h0, .inr (11, [.ref xp, .ref xtp, .ref xn, .ref xt, .ref xk, .ref xl, .ref xc, .ref xo, .ref xto, .ref xr, .ref xch, .int ts, .int ik, .int st])), (xr, .inl (aC 0, 7, .inl u_30))] H := hP
              have hD : va_D A [(xn, .inr (4, [.ref ek, .ref ef, .ref ew, .ref ep, .ref es, .int (nI n), .int (nI sn), .int dn])), (es, .inl (aC 0, 5, .inl stf)), (xc, .inr (2, [.ref cs, .ref ca, .ref cf, .ref k0, .int z1, .int co])), (cs, .inl (aC 0, 60, .inl sf)), (ca, .inl (aC 0, 60, .inl af)), (cf, .inl (aC 0, 60, .inl of)), (k0, .inr (0, [])), (h0, .inr (11, [.ref xp, .ref xtp, .ref xn, .ref xt, .ref xk, .ref xl, .ref xc, .ref xo, .ref xto, .ref xr, .ref xch, .int ts, .int ik, .int st])), (xr, .inl (aC 0, 7, .inl u_30))] := hD
              clear hPc hDc hFc hz1 hk1 hP1 hD1 ht hvm
              obtain ⟨hv9, -⟩ := hw_29
              refine lv_isub hx hb dX11_alike_48 ?_
              refine lv_topi (fun x_31 e_31 => ?_)
              have hP9 := hP.sub (ws' := [(h0, .inr (11, [.ref xp, .ref xtp, .ref xn, .ref xt, .ref xk, .ref xl, .ref xc, .ref xo, .ref xto, .ref xr, .ref xch, .int ts, .int ik, .int st])), (xn, .inr (4, [.ref ek, .ref ef, .ref ew, .ref ep, .ref es, .int (nI n), .int (nI sn), .int dn])), (es, .inl (aC 0, 5, .inl stf)), (xc, .inr (2, [.ref cs, .ref ca, .ref cf, .ref k0, .int z1, .int co])), (cs, .inl (aC 0, 60, .inl sf)), (ca, .inl (aC 0, 60, .inl af)), (cf, .inl (aC 0, 60, .inl of)), (k0, .inr (0, [])), (xr, .inl (aC 0, 7, .inl u_30))]) [7, 0, 1, 2, 3, 4, 5, 6, 8] rfl
              have hD9 := hD.sub (ws' := [(h0, .inr (11, [.ref xp, .ref xtp, .ref xn, .ref xt, .ref xk, .ref xl, .ref xc, .ref xo, .ref xto, .ref xr, .ref xch, .int ts, .int ik, .int st])), (xn, .inr (4, [.ref ek, .ref ef, .ref ew, .ref ep, .ref es, .int (nI n), .int (nI sn), .int dn])), (es, .inl (aC 0, 5, .inl stf)), (xc, .inr (2, [.ref cs, .ref ca, .ref cf, .ref k0, .int z1, .int co])), (cs, .inl (aC 0, 60, .inl sf)), (ca, .inl (aC 0, 60, .inl af)), (cf, .inl (aC 0, 60, .inl of)), (k0, .inr (0, [])), (xr, .inl (aC 0, 7, .inl u_30))]) [7, 0, 1, 2, 3, 4, 5, 6, 8] (by decide) rfl
              refine W.widen (k := 0) (n := 0) (by omega) (by omega) ?_
              exact W.iret (v := x_31) hx hb hr (fun t ht hW => ⟨⟨x_31, (z1, co, sf, af, of, u_30), rfl, trivial, by rw [ht]; exact hP9, va_K.moved hW.alike hK, hD9⟩, hS.F ht⟩) hS.2.2 dX11_alike_49
      · refine lv_ldc hx hb hown (hts _ (gw kw_507 rfl)) dX11_alike_13 ?_
        refine lv_aload_n hx hb dX11_alike_15 rfl (lv_at hl 0 rfl) ?_
        refine lv_bipush (v := -4) hx hb dX11_alike_16 (by decide) ?_
        have hPc := hP.sub (ws' := [(h0, .inr (11, [.ref xp, .ref xtp, .ref xn, .ref xt, .ref xk, .ref xl, .ref xc, .ref xo, .ref xto, .ref xr, .ref xch, .int ts, .int ik, .int st])), (xr, .inl (aC 0, 7, .inl rf))]) [0, 8] rfl
        have hDc := hD.sub (ws' := [(h0, .inr (11, [.ref xp, .ref xtp, .ref xn, .ref xt, .ref xk, .ref xl, .ref xc, .ref xo, .ref xto, .ref xr, .ref xch, .int ts, .int ik, .int st])), (xr, .inl (aC 0, 7, .inl rf))]) [0, 8] (by decide) rfl
        have hFc := va_free (wc := [(h0, .inr (11, [.ref xp, .ref xtp, .ref xn, .ref xt, .ref xk, .ref xl, .ref xc, .ref xo, .ref xto, .ref xr, .ref xch, .int ts, .int ik, .int st])), (xr, .inl (aC 0, 7, .inl rf))]) hD hS hA [0, 8] rfl
        refine va_calli (va_runV (As := [.int (-4)]) (rest := [.int 1000000000]) ⟨hx, hb, hml, hown, hts⟩ (c_X11_refuse l dC dI aC H.size h0 xp xtp xn xt xk xl xc xo xto xr xch ts ik st (-4) 4 rf (by decide) (by decide) (by decide) (by unfold vp_in; decide)) ⟨(callB_of 1 hts (gG kw_276) rfl rfl rfl (hts _ (gw kw_1 rfl)) (hts _ (gw kw_273 rfl)) (by decide +kernel) ⟨Nat.le_of_ble_eq_true rfl, Nat.le_of_ble_eq_true rfl⟩), (hts _ (gw kw_275 rfl)), (hts _ (gw ks_0 rfl))⟩ ⟨fun a U g mk q => by obtain ⟨q0, q1, qP, qK, qD, qN⟩ := q; exact ⟨q0, q1, qP, va_K.moved (u := U) (U := U.calling g mk a) (Vm.Alike.refl U.vm) qK, qD, NX.same (u := U) (U := U.calling g mk a) rfl qN⟩, va_recv hK hPc (ci := 11) (q0 := 0) rfl rfl, fun U hU hW => ⟨rfl, by rw [hU], by rw [hU]; exact hPc, va_K.moved hW.alike hK, hDc.weaken (fun _ _ _ _ => trivial), NX.warm hW hN⟩⟩ rfl rfl hl.1 rfl (lv_room (Nat.le_of_ble_eq_true rfl)) dX11_alike_18 ⟨Nat.le_of_ble_eq_true rfl, Nat.le_of_ble_eq_true rfl⟩) hS (fun q _ h => hFc q h) hFc (fun x_32 u9 t9 H1 locs ht hvm hw_32 hB hz1 hk1 hS => ?_)
        obtain ⟨u_33, rfl⟩ : ∃ z, z = u9 := ⟨_, rfl⟩
        obtain ⟨hP1, hK1, hD1⟩ := hB
        rw [ht] at hP1
        clear hK1
        try dsimp only at hw_32
        obtain ⟨hP, hD⟩ := va_join (wr := [(xn, .inr (4, [.ref ek, .ref ef, .ref ew, .ref ep, .ref es, .int (nI n), .int (nI sn), .int dn])), (es, .inl (aC 0, 5, .inl stf)), (xc, .inr (2, [.ref cs, .ref ca, .ref cf, .ref k0, .int z1, .int co])), (cs, .inl (aC 0, 60, .inl sf)), (ca, .inl (aC 0, 60, .inl af)), (cf, .inl (aC 0, 60, .inl of)), (k0, .inr (0, []))]) (w1 := [(h0, .inr (11, [.ref xp, .ref xtp, .ref xn, .ref xt, .ref xk, .ref xl, .ref xc, .ref xo, .ref xto, .ref xr, .ref xch, .int ts, .int ik, .int st])), (xr, .inl (aC 0, 7, .inl u_33))]) hP hD [0, 8] [1, 2, 3, 4, 5, 6, 7] rfl rfl (by decide) (by decide) hk1 hFc hP1 hD1
        generalize H1 = H at hP hS ⊢
        have hP : va_P (dC, dI) classes [(xn, .inr (4, [.ref ek, .ref ef, .ref ew, .ref ep, .ref es, .int (nI n), .int (nI sn), .int dn])), (es, .inl (aC 0, 5, .inl stf)), (xc, .inr (2, [.ref cs, .ref ca, .ref cf, .ref k0, .int z1, .int co])), (cs, .inl (aC 0, 60, .inl sf)), (ca, .inl (aC 0, 60, .inl af)), (cf, .inl (aC 0, 60, .inl of)), (k0, .inr (0, [])), (h0, .inr (11, [.ref xp, .ref xtp, .ref xn, .ref xt, .ref xk, .ref xl, .ref xc, .ref xo, .ref xto, .ref xr, .ref xch, .int ts, .int ik, .int st])), (xr, .inl (aC 0, 7, .inl u_33))] H := hP
        have hD : va_D A [(xn, .inr (4, [.ref ek, .ref ef, .ref ew, .ref ep, .ref es, .int (nI n), .int (nI sn), .int dn])), (es, .inl (aC 0, 5, .inl stf)), (xc, .inr (2, [.ref cs, .ref ca, .ref cf, .ref k0, .int z1, .int co])), (cs, .inl (aC 0, 60, .inl sf)), (ca, .inl (aC 0, 60, .inl af)), (cf, .inl (aC 0, 60, .inl of)), (k0, .inr (0, [])), (h0, .inr (11, [.ref xp, .ref xtp, .ref xn, .ref xt, .ref xk, .ref xl, .ref xc, .ref xo, .ref xto, .ref xr, .ref xch, .int ts, .int ik, .int st])), (xr, .inl (aC 0, 7, .inl u_33))] := hD
        clear hPc hDc hFc hz1 hk1 hP1 hD1 ht hvm
        obtain ⟨hv9, -⟩ := hw_32
        refine lv_isub hx hb dX11_alike_21 ?_
        refine lv_topi (fun x_34 e_34 => ?_)
        have hP9 := hP.sub (ws' := [(h0, .inr (11, [.ref xp, .ref xtp, .ref xn, .ref xt, .ref xk, .ref xl, .ref xc, .ref xo, .ref xto, .ref xr, .ref xch, .int ts, .int ik, .int st])), (xn, .inr (4, [.ref ek, .ref ef, .ref ew, .ref ep, .ref es, .int (nI n), .int (nI sn), .int dn])), (es, .inl (aC 0, 5, .inl stf)), (xc, .inr (2, [.ref cs, .ref ca, .ref cf, .ref k0, .int z1, .int co])), (cs, .inl (aC 0, 60, .inl sf)), (ca, .inl (aC 0, 60, .inl af)), (cf, .inl (aC 0, 60, .inl of)), (k0, .inr (0, [])), (xr, .inl (aC 0, 7, .inl u_33))]) [7, 0, 1, 2, 3, 4, 5, 6, 8] rfl
        have hD9 := hD.sub (ws' := [(h0, .inr (11, [.ref xp, .ref xtp, .ref xn, .ref xt, .ref xk, .ref xl, .ref xc, .ref xo, .ref xto, .ref xr, .ref xch, .int ts, .int ik, .int st])), (xn, .inr (4, [.ref ek, .ref ef, .ref ew, .ref ep, .ref es, .int (nI n), .int (nI sn), .int dn])), (es, .inl (aC 0, 5, .inl stf)), (xc, .inr (2, [.ref cs, .ref ca, .ref cf, .ref k0, .int z1, .int co])), (cs, .inl (aC 0, 60, .inl sf)), (ca, .inl (aC 0, 60, .inl af)), (cf, .inl (aC 0, 60, .inl of)), (k0, .inr (0, [])), (xr, .inl (aC 0, 7, .inl u_33))]) [7, 0, 1, 2, 3, 4, 5, 6, 8] (by decide) rfl
        refine W.widen (k := 0) (n := 0) (by omega) (by omega) ?_
        exact W.iret (v := x_34) hx hb hr (fun t ht hW => ⟨⟨x_34, (z1, co, sf, af, of, u_33), rfl, trivial, by rw [ht]; exact hP9, va_K.moved hW.alike hK, hD9⟩, hS.F ht⟩) hS.2.2 dX11_alike_22
