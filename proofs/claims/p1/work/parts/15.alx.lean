set_option maxHeartbeats 4000000 in
set_option maxRecDepth 100000 in
/-- X0_ask -/
theorem c_X0_ask (l : Launch) (dC : Nat → ClassId) (dI : Nat → Nat → Nat) (aC : Nat → ClassId) (sz : Nat) (h1 : Nat) (s0 : Int) (fg : Int32) (tie : Int32) (hs : -1 ≤ s0 ∧ s0 ≤ 99) : Met l yX0_ask (wW yX0_ask cX0_ask 5 (some .int)) ({ frames := 0, cells := 0, slots := 0, locals := 0 } : Room) (va_Pc [.ref h1, .int (iI s0), .int fg, .int tie] (fun U => U.heap.size = sz ∧ va_P (dC, dI) classes [(h1, .inr (0, []))] U.heap ∧ va_K (dC, dI) classes (TY aC) U ∧ va_D (fun _ => True) [(h1, .inr (0, []))] ∧ NX U)) (va_Qi (fun (r : Int32) (_ : Unit) => r = nI (ask tie s0)) (fun (_ : Unit) (t : State) => va_P (dC, dI) classes [(h1, .inr (0, []))] t.heap ∧ va_K (dC, dI) classes (TY aC) t ∧ va_D (va_A [(h1, .inr (0, []))] sz) [(h1, .inr (0, []))]) (va_A [(h1, .inr (0, []))] sz)) 0 0 (va_A [(h1, .inr (0, []))] sz) := by
  refine Met.ofW (cc := cX0_ask) (maxL := 5) (ret := (some .int)) (by decide) rfl ?_
  intro p e s m args below meth c s₁ B hml hv
  obtain ⟨rfl, hsz, hP, hK, hD0, hN⟩ := hv
  have hx := B.exec
  have hb := B.bytes
  have hr := B.returns
  have hts0 := atoms_spec (ws := (wW yX0_ask cX0_ask 5 (some .int))) B.pre
  have hts : ∀ w9 ∈ lw_G, w9.before ([.ref h1, .int (iI s0), .int fg, .int tie] : List Value).toArray s = true := fun w9 h9 => hts0 w9 (List.mem_cons_of_mem _ h9)
  have hown : s.vm.findClass RX0 = some m.cls := findClass_of_methodNamed B.named
  have hlocks := B.notSynchronized
  subst hsz
  have hD := hD0.self (sz := s.heap.size)
  generalize hAe : va_A [(h1, .inr (0, []))] s.heap.size = A at hD ⊢
  have hA : ∀ q : Nat, s.heap.size ≤ q → A q := fun q h => by rw [← hAe]; exact Or.inr h
  obtain ⟨H, hHe⟩ : ∃ H : Heap, H = s.heap := ⟨_, rfl⟩
  have hS : va_S A s.heap H [] := by rw [hHe]; exact va_S.rf
  have hP : va_P (dC, dI) classes [(h1, .inr (0, []))] H := by rw [hHe]; exact hP
  have hl := lv_entry ([.ref h1, .int (iI s0), .int fg, .int tie]) (n := 5) (Nat.le_of_ble_eq_true rfl)
  rw [lg_entry_eq]
  generalize (lg_sl ([.ref h1, .int (iI s0), .int fg, .int tie]) ++ List.replicate (5 - (lg_sl ([.ref h1, .int (iI s0), .int fg, .int tie])).length) Slot.unset).toArray = ls at hl ⊢
  have hl : lv_has ls 5 [(0, .ref h1), (1, .int (iI s0)), (2, .int fg), (3, .int tie)] := hl
  rw [← hHe]
  refine lv_iload_n hx hb dX0_ask_0 rfl (lv_at hl 3 rfl) ?_
  refine lv_iconst (v := 1) hx hb dX0_ask_1 (by decide) ?_
  refine lv_icmp_ne (tgt := 9) hx hb dX0_ask_2 (by decide) (fun c_1 => ?_) (fun c_1 => ?_)
  · refine lv_iload_n hx hb dX0_ask_9 rfl (lv_at hl 1 rfl) ?_
    refine lv_iconst (v := 1) hx hb dX0_ask_10 (by decide) ?_
    refine lv_iadd hx hb dX0_ask_11 ?_
    refine lv_topi (fun x_2 e_2 => ?_)
    refine lv_istore (lv' := [(4, .int x_2), (0, .ref h1), (1, .int (iI s0)), (2, .int fg), (3, .int tie)]) hx hb dX0_ask_12 hl (by decide) rfl (fun ls hl => ?_)
    refine lv_iload hx hb dX0_ask_14 (lv_at hl 0 rfl) ?_
    refine lv_if_le (tgt := 24) hx hb dX0_ask_16 (by decide) (fun c_3 => ?_) (fun c_3 => ?_)
    · refine lv_iconst (v := 0) hx hb dX0_ask_24 (by decide) ?_
      have hP9 := hP.sub (ws' := [(h1, .inr (0, []))]) [0] rfl
      have hD9 := hD.sub (ws' := [(h1, .inr (0, []))]) [0] (by decide) rfl
      refine W.widen (k := 0) (n := 0) (by omega) (by omega) ?_
      exact W.iret (v := 0) hx hb hr (fun t ht hW => ⟨⟨0, (), rfl, by unfold ask; rw [if_neg c_1]; have h8 : x_2 = iI (s0 + 1) := (by rw [e_2, ← iI_1, iI_add]); exact askN (by unfold sm; omega) (h8 ▸ c_3), by rw [ht]; exact hP9, va_K.moved hW.alike hK, hD9⟩, hS.F ht⟩) hS.2.2 dX0_ask_25
    · refine lv_iload hx hb dX0_ask_19 (lv_at hl 0 rfl) ?_
      refine lv_goto (tgt := 25) hx hb dX0_ask_21 (by decide) ?_
      have hP9 := hP.sub (ws' := [(h1, .inr (0, []))]) [0] rfl
      have hD9 := hD.sub (ws' := [(h1, .inr (0, []))]) [0] (by decide) rfl
      refine W.widen (k := 0) (n := 0) (by omega) (by omega) ?_
      exact W.iret (v := x_2) hx hb hr (fun t ht hW => ⟨⟨x_2, (), rfl, by unfold ask; rw [if_neg c_1]; have h8 : x_2 = iI (s0 + 1) := (by rw [e_2, ← iI_1, iI_add]); exact h8.trans (askP (by unfold sm; omega) (h8 ▸ c_3)), by rw [ht]; exact hP9, va_K.moved hW.alike hK, hD9⟩, hS.F ht⟩) hS.2.2 dX0_ask_25
  · refine lv_iload_n hx hb dX0_ask_5 rfl (lv_at hl 1 rfl) ?_
    refine lv_goto (tgt := 12) hx hb dX0_ask_6 (by decide) ?_
    refine lv_istore (lv' := [(4, .int (iI s0)), (0, .ref h1), (1, .int (iI s0)), (2, .int fg), (3, .int tie)]) hx hb dX0_ask_12 hl (by decide) rfl (fun ls hl => ?_)
    refine lv_iload hx hb dX0_ask_14 (lv_at hl 0 rfl) ?_
    refine lv_if_le (tgt := 24) hx hb dX0_ask_16 (by decide) (fun c_4 => ?_) (fun c_4 => ?_)
    · refine lv_iconst (v := 0) hx hb dX0_ask_24 (by decide) ?_
      have hP9 := hP.sub (ws' := [(h1, .inr (0, []))]) [0] rfl
      have hD9 := hD.sub (ws' := [(h1, .inr (0, []))]) [0] (by decide) rfl
      refine W.widen (k := 0) (n := 0) (by omega) (by omega) ?_
      exact W.iret (v := 0) hx hb hr (fun t ht hW => ⟨⟨0, (), rfl, by unfold ask; rw [if_pos c_1]; exact askN (by unfold sm; omega) c_4, by rw [ht]; exact hP9, va_K.moved hW.alike hK, hD9⟩, hS.F ht⟩) hS.2.2 dX0_ask_25
    · refine lv_iload hx hb dX0_ask_19 (lv_at hl 0 rfl) ?_
      refine lv_goto (tgt := 25) hx hb dX0_ask_21 (by decide) ?_
      have hP9 := hP.sub (ws' := [(h1, .inr (0, []))]) [0] rfl
      have hD9 := hD.sub (ws' := [(h1, .inr (0, []))]) [0] (by decide) rfl
      refine W.widen (k := 0) (n := 0) (by omega) (by omega) ?_
      exact W.iret (v := iI s0) hx hb hr (fun t ht hW => ⟨⟨(iI s0), (), rfl, by unfold ask; rw [if_pos c_1]; exact askP (by unfold sm; omega) c_4, by rw [ht]; exact hP9, va_K.moved hW.alike hK, hD9⟩, hS.F ht⟩) hS.2.2 dX0_ask_25

set_option maxHeartbeats 4000000 in
set_option maxRecDepth 100000 in
/-- X11_isEnough -/
theorem c_X11_isEnough (l : Launch) (dC : Nat → ClassId) (dI : Nat → Nat → Nat) (aC : Nat → ClassId) (sz : Nat) (law : Int32) (y : Nat) (a : Nat) (hy : y ≤ 1000) (ha : a ≤ 1000) : Met l yX11_isEnough (wW yX11_isEnough cX11_isEnough 3 (some .boolean)) ({ frames := 0, cells := 0, slots := 0, locals := 0 } : Room) (va_Pc [.int law, .int (nI y), .int (nI a)] (fun U => U.heap.size = sz ∧ va_P (dC, dI) classes [] U.heap ∧ va_K (dC, dI) classes (TY aC) U ∧ va_D (fun _ => True) [] ∧ NX U)) (va_Qi (fun (r : Int32) (_ : Unit) => r = if nd law a ≤ y then 1 else 0) (fun (_ : Unit) (t : State) => va_P (dC, dI) classes [] t.heap ∧ va_K (dC, dI) classes (TY aC) t ∧ va_D (va_A [] sz) []) (va_A [] sz)) 0 0 (va_A [] sz) := by
  refine Met.ofW (cc := cX11_isEnough) (maxL := 3) (ret := (some .boolean)) (by decide) rfl ?_
  intro p e s m args below meth c s₁ B hml hv
  obtain ⟨rfl, hsz, hP, hK, hD0, hN⟩ := hv
  have hx := B.exec
  have hb := B.bytes
  have hr := B.returns
  have hts0 := atoms_spec (ws := (wW yX11_isEnough cX11_isEnough 3 (some .boolean))) B.pre
  have hts : ∀ w9 ∈ lw_G, w9.before ([.int law, .int (nI y), .int (nI a)] : List Value).toArray s = true := fun w9 h9 => hts0 w9 (List.mem_cons_of_mem _ h9)
  have hown : s.vm.findClass RX11 = some m.cls := findClass_of_methodNamed B.named
  have hlocks := B.notSynchronized
  subst hsz
  have hD := hD0.self (sz := s.heap.size)
  generalize hAe : va_A [] s.heap.size = A at hD ⊢
  have hA : ∀ q : Nat, s.heap.size ≤ q → A q := fun q h => by rw [← hAe]; exact Or.inr h
  obtain ⟨H, hHe⟩ : ∃ H : Heap, H = s.heap := ⟨_, rfl⟩
  have hS : va_S A s.heap H [] := by rw [hHe]; exact va_S.rf
  have hP : va_P (dC, dI) classes [] H := by rw [hHe]; exact hP
  have hl := lv_entry ([.int law, .int (nI y), .int (nI a)]) (n := 3) (Nat.le_of_ble_eq_true rfl)
  rw [lg_entry_eq]
  generalize (lg_sl ([.int law, .int (nI y), .int (nI a)]) ++ List.replicate (3 - (lg_sl ([.int law, .int (nI y), .int (nI a)])).length) Slot.unset).toArray = ls at hl ⊢
  have hl : lv_has ls 3 [(0, .int law), (1, .int (nI y)), (2, .int (nI a))] := hl
  rw [← hHe]
  refine lv_iload_n hx hb dX11_isEnough_0 rfl (lv_at hl 0 rfl) ?_
  by_cases c_1 : law = 0
  · refine lv_lookup (off := 27) (tgt := 28) hx hb dX11_isEnough_1 (by decide) (by rw [c_1]; decide) (by decide) ?_
    refine lv_iconst (v := 2) hx hb dX11_isEnough_28 (by decide) ?_
    refine lv_iload_n hx hb dX11_isEnough_29 rfl (lv_at hl 1 rfl) ?_
    refine lv_imul hx hb dX11_isEnough_30 ?_
    refine lv_topi (fun x_2 e_2 => ?_)
    refine lv_iload_n hx hb dX11_isEnough_31 rfl (lv_at hl 2 rfl) ?_
    refine lv_icmp_lt (tgt := 39) hx hb dX11_isEnough_32 (by decide) (fun c_3 => ?_) (fun c_3 => ?_)
    · refine lv_iconst (v := 0) hx hb dX11_isEnough_39 (by decide) ?_
      have hP9 := hP.sub (ws' := []) [] rfl
      have hD9 := hD.sub (ws' := []) [] (by decide) rfl
      refine W.widen (k := 0) (n := 0) (by omega) (by omega) ?_
      exact W.zret (v := 0) hx hb hr rfl (fun t ht hW => ⟨⟨0, (), rfl, by have h8 := c_3; rw [e_2, en_0 ha hy] at h8; unfold nd; rw [if_pos c_1]; simp [h8], by rw [ht]; exact hP9, va_K.moved hW.alike hK, hD9⟩, hS.F ht⟩) hS.2.2 dX11_isEnough_40
    · refine lv_iconst (v := 1) hx hb dX11_isEnough_35 (by decide) ?_
      refine lv_goto (tgt := 40) hx hb dX11_isEnough_36 (by decide) ?_
      have hP9 := hP.sub (ws' := []) [] rfl
      have hD9 := hD.sub (ws' := []) [] (by decide) rfl
      refine W.widen (k := 0) (n := 0) (by omega) (by omega) ?_
      exact W.zret (v := 1) hx hb hr rfl (fun t ht hW => ⟨⟨1, (), rfl, by have h8 := c_3; rw [e_2, en_0 ha hy] at h8; unfold nd; rw [if_pos c_1]; simp [h8], by rw [ht]; exact hP9, va_K.moved hW.alike hK, hD9⟩, hS.F ht⟩) hS.2.2 dX11_isEnough_40
  by_cases c_4 : law = 1
  · refine lv_lookup (off := 40) (tgt := 41) hx hb dX11_isEnough_1 (by decide) (by rw [c_4]; decide) (by decide) ?_
    refine lv_iconst (v := 2) hx hb dX11_isEnough_41 (by decide) ?_
    refine lv_iload_n hx hb dX11_isEnough_42 rfl (lv_at hl 1 rfl) ?_
    refine lv_imul hx hb dX11_isEnough_43 ?_
    refine lv_topi (fun x_5 e_5 => ?_)
    refine lv_iload_n hx hb dX11_isEnough_44 rfl (lv_at hl 2 rfl) ?_
    refine lv_icmp_le (tgt := 52) hx hb dX11_isEnough_45 (by decide) (fun c_6 => ?_) (fun c_6 => ?_)
    · refine lv_iconst (v := 0) hx hb dX11_isEnough_52 (by decide) ?_
      have hP9 := hP.sub (ws' := []) [] rfl
      have hD9 := hD.sub (ws' := []) [] (by decide) rfl
      refine W.widen (k := 0) (n := 0) (by omega) (by omega) ?_
      exact W.zret (v := 0) hx hb hr rfl (fun t ht hW => ⟨⟨0, (), rfl, by have h8 := c_6; rw [e_5, en_1 ha hy] at h8; unfold nd; rw [if_neg c_1, if_pos c_4]; simp [h8], by rw [ht]; exact hP9, va_K.moved hW.alike hK, hD9⟩, hS.F ht⟩) hS.2.2 dX11_isEnough_53
    · refine lv_iconst (v := 1) hx hb dX11_isEnough_48 (by decide) ?_
      refine lv_goto (tgt := 53) hx hb dX11_isEnough_49 (by decide) ?_
      have hP9 := hP.sub (ws' := []) [] rfl
      have hD9 := hD.sub (ws' := []) [] (by decide) rfl
      refine W.widen (k := 0) (n := 0) (by omega) (by omega) ?_
      exact W.zret (v := 1) hx hb hr rfl (fun t ht hW => ⟨⟨1, (), rfl, by have h8 := c_6; rw [e_5, en_1 ha hy] at h8; unfold nd; rw [if_neg c_1, if_pos c_4]; simp [h8], by rw [ht]; exact hP9, va_K.moved hW.alike hK, hD9⟩, hS.F ht⟩) hS.2.2 dX11_isEnough_53
  refine lv_lookup (off := 53) (tgt := 54) hx hb dX11_isEnough_1 (by decide) (by rw [lv_osw c_1 (by decide)]; rw [lv_osw c_4 (by decide)]; rfl) (by decide) ?_
  refine lv_iconst (v := 3) hx hb dX11_isEnough_54 (by decide) ?_
  refine lv_iload_n hx hb dX11_isEnough_55 rfl (lv_at hl 1 rfl) ?_
  refine lv_imul hx hb dX11_isEnough_56 ?_
  refine lv_topi (fun x_7 e_7 => ?_)
  refine lv_iconst (v := 2) hx hb dX11_isEnough_57 (by decide) ?_
  refine lv_iload_n hx hb dX11_isEnough_58 rfl (lv_at hl 2 rfl) ?_
  refine lv_imul hx hb dX11_isEnough_59 ?_
  refine lv_topi (fun x_8 e_8 => ?_)
  refine lv_icmp_lt (tgt := 67) hx hb dX11_isEnough_60 (by decide) (fun c_9 => ?_) (fun c_9 => ?_)
  · refine lv_iconst (v := 0) hx hb dX11_isEnough_67 (by decide) ?_
    have hP9 := hP.sub (ws' := []) [] rfl
    have hD9 := hD.sub (ws' := []) [] (by decide) rfl
    refine W.widen (k := 0) (n := 0) (by omega) (by omega) ?_
    exact W.zret (v := 0) hx hb hr rfl (fun t ht hW => ⟨⟨0, (), rfl, by have h8 := c_9; rw [e_7, e_8, en_2 ha hy] at h8; unfold nd; rw [if_neg c_1, if_neg c_4]; simp [h8], by rw [ht]; exact hP9, va_K.moved hW.alike hK, hD9⟩, hS.F ht⟩) hS.2.2 dX11_isEnough_68
  · refine lv_iconst (v := 1) hx hb dX11_isEnough_63 (by decide) ?_
    refine lv_goto (tgt := 68) hx hb dX11_isEnough_64 (by decide) ?_
    have hP9 := hP.sub (ws' := []) [] rfl
    have hD9 := hD.sub (ws' := []) [] (by decide) rfl
    refine W.widen (k := 0) (n := 0) (by omega) (by omega) ?_
    exact W.zret (v := 1) hx hb hr rfl (fun t ht hW => ⟨⟨1, (), rfl, by have h8 := c_9; rw [e_7, e_8, en_2 ha hy] at h8; unfold nd; rw [if_neg c_1, if_neg c_4]; simp [h8], by rw [ht]; exact hP9, va_K.moved hW.alike hK, hD9⟩, hS.F ht⟩) hS.2.2 dX11_isEnough_68

set_option maxHeartbeats 4000000 in
set_option maxRecDepth 100000 in
/-- X12_isCarried -/
theorem c_X12_isCarried (l : Launch) (dC : Nat → ClassId) (dI : Nat → Nat → Nat) (aC : Nat → ClassId) (sz : Nat) (law : Int32) (y : Nat) (a : Nat) (hy : y ≤ 1000) (ha : a ≤ 1000) : Met l yX12_isCarried (wW yX12_isCarried cX12_isCarried 3 (some .boolean)) ({ frames := 0, cells := 0, slots := 0, locals := 0 } : Room) (va_Pc [.int law, .int (nI y), .int (nI a)] (fun U => U.heap.size = sz ∧ va_P (dC, dI) classes [] U.heap ∧ va_K (dC, dI) classes (TY aC) U ∧ va_D (fun _ => True) [] ∧ NX U)) (va_Qi (fun (r : Int32) (_ : Unit) => r = if nd law a ≤ y then 1 else 0) (fun (_ : Unit) (t : State) => va_P (dC, dI) classes [] t.heap ∧ va_K (dC, dI) classes (TY aC) t ∧ va_D (va_A [] sz) []) (va_A [] sz)) 0 0 (va_A [] sz) := by
  refine Met.ofW (cc := cX12_isCarried) (maxL := 3) (ret := (some .boolean)) (by decide) rfl ?_
  intro p e s m args below meth c s₁ B hml hv
  obtain ⟨rfl, hsz, hP, hK, hD0, hN⟩ := hv
  have hx := B.exec
  have hb := B.bytes
  have hr := B.returns
  have hts0 := atoms_spec (ws := (wW yX12_isCarried cX12_isCarried 3 (some .boolean))) B.pre
  have hts : ∀ w9 ∈ lw_G, w9.before ([.int law, .int (nI y), .int (nI a)] : List Value).toArray s = true := fun w9 h9 => hts0 w9 (List.mem_cons_of_mem _ h9)
  have hown : s.vm.findClass RX12 = some m.cls := findClass_of_methodNamed B.named
  have hlocks := B.notSynchronized
  subst hsz
  have hD := hD0.self (sz := s.heap.size)
  generalize hAe : va_A [] s.heap.size = A at hD ⊢
  have hA : ∀ q : Nat, s.heap.size ≤ q → A q := fun q h => by rw [← hAe]; exact Or.inr h
  obtain ⟨H, hHe⟩ : ∃ H : Heap, H = s.heap := ⟨_, rfl⟩
  have hS : va_S A s.heap H [] := by rw [hHe]; exact va_S.rf
  have hP : va_P (dC, dI) classes [] H := by rw [hHe]; exact hP
  have hl := lv_entry ([.int law, .int (nI y), .int (nI a)]) (n := 3) (Nat.le_of_ble_eq_true rfl)
  rw [lg_entry_eq]
  generalize (lg_sl ([.int law, .int (nI y), .int (nI a)]) ++ List.replicate (3 - (lg_sl ([.int law, .int (nI y), .int (nI a)])).length) Slot.unset).toArray = ls at hl ⊢
  have hl : lv_has ls 3 [(0, .int law), (1, .int (nI y)), (2, .int (nI a))] := hl
  rw [← hHe]
  refine lv_iload_n hx hb dX12_isCarried_0 rfl (lv_at hl 0 rfl) ?_
  refine lv_if_ne (tgt := 19) hx hb dX12_isCarried_1 (by decide) (fun c_1 => ?_) (fun c_1 => ?_)
  · refine lv_iload_n hx hb dX12_isCarried_19 rfl (lv_at hl 0 rfl) ?_
    refine lv_iconst (v := 1) hx hb dX12_isCarried_20 (by decide) ?_
    refine lv_icmp_ne (tgt := 39) hx hb dX12_isCarried_21 (by decide) (fun c_2 => ?_) (fun c_2 => ?_)
    · refine lv_iconst (v := 3) hx hb dX12_isCarried_39 (by decide) ?_
      refine lv_iload_n hx hb dX12_isCarried_40 rfl (lv_at hl 1 rfl) ?_
      refine lv_imul hx hb dX12_isCarried_41 ?_
      refine lv_topi (fun x_3 e_3 => ?_)
      refine lv_iconst (v := 2) hx hb dX12_isCarried_42 (by decide) ?_
      refine lv_iload_n hx hb dX12_isCarried_43 rfl (lv_at hl 2 rfl) ?_
      refine lv_imul hx hb dX12_isCarried_44 ?_
      refine lv_topi (fun x_4 e_4 => ?_)
      refine lv_icmp_lt (tgt := 52) hx hb dX12_isCarried_45 (by decide) (fun c_5 => ?_) (fun c_5 => ?_)
      · refine lv_iconst (v := 0) hx hb dX12_isCarried_52 (by decide) ?_
        have hP9 := hP.sub (ws' := []) [] rfl
        have hD9 := hD.sub (ws' := []) [] (by decide) rfl
        refine W.widen (k := 0) (n := 0) (by omega) (by omega) ?_
        exact W.zret (v := 0) hx hb hr rfl (fun t ht hW => ⟨⟨0, (), rfl, by have h8 := c_5; rw [e_3, e_4, en_2 ha hy] at h8; unfold nd; rw [if_neg c_1, if_neg c_2]; simp [h8], by rw [ht]; exact hP9, va_K.moved hW.alike hK, hD9⟩, hS.F ht⟩) hS.2.2 dX12_isCarried_53
      · refine lv_iconst (v := 1) hx hb dX12_isCarried_48 (by decide) ?_
        refine lv_goto (tgt := 53) hx hb dX12_isCarried_49 (by decide) ?_
        have hP9 := hP.sub (ws' := []) [] rfl
        have hD9 := hD.sub (ws' := []) [] (by decide) rfl
        refine W.widen (k := 0) (n := 0) (by omega) (by omega) ?_
        exact W.zret (v := 1) hx hb hr rfl (fun t ht hW => ⟨⟨1, (), rfl, by have h8 := c_5; rw [e_3, e_4, en_2 ha hy] at h8; unfold nd; rw [if_neg c_1, if_neg c_2]; simp [h8], by rw [ht]; exact hP9, va_K.moved hW.alike hK, hD9⟩, hS.F ht⟩) hS.2.2 dX12_isCarried_53
    · refine lv_iconst (v := 2) hx hb dX12_isCarried_24 (by decide) ?_
      refine lv_iload_n hx hb dX12_isCarried_25 rfl (lv_at hl 1 rfl) ?_
      refine lv_imul hx hb dX12_isCarried_26 ?_
      refine lv_topi (fun x_6 e_6 => ?_)
      refine lv_iload_n hx hb dX12_isCarried_27 rfl (lv_at hl 2 rfl) ?_
      refine lv_icmp_le (tgt := 35) hx hb dX12_isCarried_28 (by decide) (fun c_7 => ?_) (fun c_7 => ?_)
      · refine lv_iconst (v := 0) hx hb dX12_isCarried_35 (by decide) ?_
        refine lv_goto (tgt := 53) hx hb dX12_isCarried_36 (by decide) ?_
        have hP9 := hP.sub (ws' := []) [] rfl
        have hD9 := hD.sub (ws' := []) [] (by decide) rfl
        refine W.widen (k := 0) (n := 0) (by omega) (by omega) ?_
        exact W.zret (v := 0) hx hb hr rfl (fun t ht hW => ⟨⟨0, (), rfl, by have h8 := c_7; rw [e_6, en_1 ha hy] at h8; unfold nd; rw [if_neg c_1, if_pos c_2]; simp [h8], by rw [ht]; exact hP9, va_K.moved hW.alike hK, hD9⟩, hS.F ht⟩) hS.2.2 dX12_isCarried_53
      · refine lv_iconst (v := 1) hx hb dX12_isCarried_31 (by decide) ?_
        refine lv_goto (tgt := 53) hx hb dX12_isCarried_32 (by decide) ?_
        have hP9 := hP.sub (ws' := []) [] rfl
        have hD9 := hD.sub (ws' := []) [] (by decide) rfl
        refine W.widen (k := 0) (n := 0) (by omega) (by omega) ?_
        exact W.zret (v := 1) hx hb hr rfl (fun t ht hW => ⟨⟨1, (), rfl, by have h8 := c_7; rw [e_6, en_1 ha hy] at h8; unfold nd; rw [if_neg c_1, if_pos c_2]; simp [h8], by rw [ht]; exact hP9, va_K.moved hW.alike hK, hD9⟩, hS.F ht⟩) hS.2.2 dX12_isCarried_53
  · refine lv_iconst (v := 2) hx hb dX12_isCarried_4 (by decide) ?_
    refine lv_iload_n hx hb dX12_isCarried_5 rfl (lv_at hl 1 rfl) ?_
    refine lv_imul hx hb dX12_isCarried_6 ?_
    refine lv_topi (fun x_8 e_8 => ?_)
    refine lv_iload_n hx hb dX12_isCarried_7 rfl (lv_at hl 2 rfl) ?_
    refine lv_icmp_lt (tgt := 15) hx hb dX12_isCarried_8 (by decide) (fun c_9 => ?_) (fun c_9 => ?_)
    · refine lv_iconst (v := 0) hx hb dX12_isCarried_15 (by decide) ?_
      refine lv_goto (tgt := 53) hx hb dX12_isCarried_16 (by decide) ?_
      have hP9 := hP.sub (ws' := []) [] rfl
      have hD9 := hD.sub (ws' := []) [] (by decide) rfl
      refine W.widen (k := 0) (n := 0) (by omega) (by omega) ?_
      exact W.zret (v := 0) hx hb hr rfl (fun t ht hW => ⟨⟨0, (), rfl, by have h8 := c_9; rw [e_8, en_0 ha hy] at h8; unfold nd; rw [if_pos c_1]; simp [h8], by rw [ht]; exact hP9, va_K.moved hW.alike hK, hD9⟩, hS.F ht⟩) hS.2.2 dX12_isCarried_53
    · refine lv_iconst (v := 1) hx hb dX12_isCarried_11 (by decide) ?_
      refine lv_goto (tgt := 53) hx hb dX12_isCarried_12 (by decide) ?_
      have hP9 := hP.sub (ws' := []) [] rfl
      have hD9 := hD.sub (ws' := []) [] (by decide) rfl
      refine W.widen (k := 0) (n := 0) (by omega) (by omega) ?_
      exact W.zret (v := 1) hx hb hr rfl (fun t ht hW => ⟨⟨1, (), rfl, by have h8 := c_9; rw [e_8, en_0 ha hy] at h8; unfold nd; rw [if_pos c_1]; simp [h8], by rw [ht]; exact hP9, va_K.moved hW.alike hK, hD9⟩, hS.F ht⟩) hS.2.2 dX12_isCarried_53

set_option maxHeartbeats 4000000 in
set_option maxRecDepth 100000 in
/-- J7_fill_53178 -/
theorem c_J7_fill_53178 (l : Launch) (dC : Nat → ClassId) (dI : Nat → Nat → Nat) (aC : Nat → ClassId) (sz : Nat) (oa : Nat) (n : Nat) (f : Nat → Int32) (v : Int32) (hn : n < 2 ^ 31) : Met l yJ7_fill_53178 (wW yJ7_fill_53178 cJ7_fill_53178 4 (none : Option FieldType)) ({ frames := 0, cells := 0, slots := 0, locals := 0 } : Room) (va_Pc [.ref oa, .int v] (fun U => U.heap.size = sz ∧ va_P (dC, dI) classes [(oa, .inl (aC 0, n, .inl f))] U.heap ∧ va_K (dC, dI) classes (TY aC) U ∧ va_D (fun _ => True) [(oa, .inl (aC 0, n, .inl f))] ∧ NX U)) (va_Qv (fun (f2 : Nat → Int32) => ∀ j, j < n → f2 j = v) (fun (f2 : Nat → Int32) (t : State) => va_P (dC, dI) classes [(oa, .inl (aC 0, n, .inl f2))] t.heap ∧ va_K (dC, dI) classes (TY aC) t ∧ va_D (va_A [(oa, .inl (aC 0, n, .inl f))] sz) [(oa, .inl (aC 0, n, .inl f2))]) (va_A [(oa, .inl (aC 0, n, .inl f))] sz)) 0 0 (va_A [(oa, .inl (aC 0, n, .inl f))] sz) := by
  refine Met.ofW (cc := cJ7_fill_53178) (maxL := 4) (ret := (none : Option FieldType)) (by decide) rfl ?_
  intro p e s m args below meth c s₁ B hml hv
  obtain ⟨rfl, hsz, hP, hK, hD0, hN⟩ := hv
  have hx := B.exec
  have hb := B.bytes
  have hr := B.returns
  have hts0 := atoms_spec (ws := (wW yJ7_fill_53178 cJ7_fill_53178 4 (none : Option FieldType))) B.pre
  have hts : ∀ w9 ∈ lw_G, w9.before ([.ref oa, .int v] : List Value).toArray s = true := fun w9 h9 => hts0 w9 (List.mem_cons_of_mem _ h9)
  have hown : s.vm.findClass RJ7 = some m.cls := findClass_of_methodNamed B.named
  have hlocks := B.notSynchronized
  subst hsz
  have hD := hD0.self (sz := s.heap.size)
  generalize hAe : va_A [(oa, .inl (aC 0, n, .inl f))] s.heap.size = A at hD ⊢
  have hA : ∀ q : Nat, s.heap.size ≤ q → A q := fun q h => by rw [← hAe]; exact Or.inr h
  obtain ⟨H, hHe⟩ : ∃ H : Heap, H = s.heap := ⟨_, rfl⟩
  have hS : va_S A s.heap H [] := by rw [hHe]; exact va_S.rf
  have hP : va_P (dC, dI) classes [(oa, .inl (aC 0, n, .inl f))] H := by rw [hHe]; exact hP
  have hl := lv_entry ([.ref oa, .int v]) (n := 4) (Nat.le_of_ble_eq_true rfl)
  rw [lg_entry_eq]
  generalize (lg_sl ([.ref oa, .int v]) ++ List.replicate (4 - (lg_sl ([.ref oa, .int v])).length) Slot.unset).toArray = ls at hl ⊢
  have hl : lv_has ls 4 [(0, .ref oa), (1, .int v)] := hl
  rw [← hHe]
  refine lv_iconst (v := 0) hx hb dJ7_fill_53178_0 (by decide) ?_
  refine lv_istore_n (lv' := [(2, .int 0), (0, .ref oa), (1, .int v)]) hx hb dJ7_fill_53178_1 rfl hl (by decide) rfl (fun ls hl => ?_)
  refine lv_aload_n hx hb dJ7_fill_53178_2 rfl (lv_at hl 1 rfl) ?_
  refine va_alen (v := Int32.ofNat n) hx hb hK hP 0 0 rfl rfl rfl dJ7_fill_53178_3 ?_
  refine lv_topi (fun x_1 e_1 => ?_)
  refine lv_istore_n (lv' := [(3, .int x_1), (2, .int 0), (0, .ref oa), (1, .int v)]) hx hb dJ7_fill_53178_4 rfl hl (by decide) rfl (fun ls hl => ?_)
  have lp_5 : ∀ (fu : Nat) (k : Nat) (x2 : Int32) (fc : Nat → Int32) (hfu : n - k < fu) (hk : k ≤ n) (hx2 : x2 = nI k) (hfc : ∀ j, j < k → fc j = v) (H : Heap) (locs : List Loc) (ls : Array Slot), va_P (dC, dI) classes [(oa, .inl (aC 0, n, .inl fc))] H → va_D A [(oa, .inl (aC 0, n, .inl fc))] → va_S A s.heap H locs → lv_has ls 4 [(0, .ref oa), (1, .int v), (2, .int x2), (3, .int x_1)] → W p l e (headSpec (wW yJ7_fill_53178 cJ7_fill_53178 4 (none : Option FieldType)) ({ frames := 0, cells := 0, slots := 0, locals := 0 } : Room)).room s m ([.ref oa, .int v] : List Value).toArray below meth c H locs 0 0 (MQ below (va_Qv (fun (f2 : Nat → Int32) => ∀ j, j < n → f2 j = v) (fun (f2 : Nat → Int32) (t : State) => va_P (dC, dI) classes [(oa, .inl (aC 0, n, .inl f2))] t.heap ∧ va_K (dC, dI) classes (TY aC) t ∧ va_D A [(oa, .inl (aC 0, n, .inl f2))]) A) ([.ref oa, .int v] : List Value).toArray s 0 0 A) (F0 m 5 ls []) := by
    intro fu
    induction fu with
    | zero => intro k x2 fc hfu; exact absurd hfu (Nat.not_lt_zero _)
    | succ fu ih_5 =>
      intro k x2 fc hfu hk hx2 hfc H locs ls hP hD hS hl
      refine lv_iload_n hx hb dJ7_fill_53178_5 rfl (lv_at hl 2 rfl) ?_
      refine lv_iload_n hx hb dJ7_fill_53178_6 rfl (lv_at hl 3 rfl) ?_
      refine lv_icmp_ge (tgt := 20) hx hb dJ7_fill_53178_7 (by decide) (fun c_2 => ?_) (fun c_2 => ?_)
      · have hkn : n ≤ k := by
          rcases Nat.lt_or_ge k n with q | q
          · exact absurd (by rw [e_1, hx2] at c_2; exact c_2) (nI_ge q (by omega))
          · omega
        have hP9 := hP.sub (ws' := [(oa, .inl (aC 0, n, .inl fc))]) [0] rfl
        have hD9 := hD.sub (ws' := [(oa, .inl (aC 0, n, .inl fc))]) [0] (by decide) rfl
        refine W.widen (k := 0) (n := 0) (by omega) (by omega) ?_
        exact W.vret hx hb hr (fun t ht hW => ⟨⟨(fc), rfl, fun j h => hfc j (by omega), by rw [ht]; exact hP9, va_K.moved hW.alike hK, hD9⟩, hS.F ht⟩) hS.2.2 dJ7_fill_53178_20
      · have hlt : k < n := by
          rcases Nat.lt_or_ge k n with q | q
          · exact q
          · exact absurd (by rw [e_1, hx2]; exact nI_le q (by omega)) c_2
        refine lv_aload_n hx hb dJ7_fill_53178_10 rfl (lv_at hl 0 rfl) ?_
        refine lv_iload_n hx hb dJ7_fill_53178_11 rfl (lv_at hl 2 rfl) ?_
        refine lv_iload_n hx hb dJ7_fill_53178_12 rfl (lv_at hl 1 rfl) ?_
        have h_3 : vp_in x2 n := by rw [hx2]; exact vp_in_nI hlt (by omega)
        refine va_iast hx hb hK hP hD hS 0 0 rfl rfl h_3 dJ7_fill_53178_13 (fun H locs hP hD hS => ?_)
        obtain ⟨f_4, e_f_4⟩ : ∃ y : Nat → Int32, y = upd fc (x2 : Int32).toNatClampNeg v := ⟨_, rfl⟩
        have hP : va_P (dC, dI) classes [(oa, .inl (aC 0, n, .inl f_4))] H := by rw [e_f_4]; exact hP
        have hD : va_D A [(oa, .inl (aC 0, n, .inl f_4))] := by rw [e_f_4]; exact hD
        obtain ⟨x_5, e_5⟩ : ∃ y : Int32, y = x2 + 1 := ⟨_, rfl⟩
        refine lv_iinc (v := x_5) (lv' := [(2, .int x_5), (0, .ref oa), (1, .int v), (3, .int x_1)]) hx hb dJ7_fill_53178_14 hl (k := 2) rfl (by rw [e_5]; rfl) (by decide) rfl (fun ls hl => ?_)
        refine lv_goto (tgt := 5) hx hb dJ7_fill_53178_17 (by decide) ?_
        exact ih_5 (k + 1) x_5 f_4 (by omega) (by omega) (by rw [e_5, hx2, nI_1]) (fun j h => by rw [e_f_4, hx2, nI_clamp (by omega)]; by_cases e : j = k <;> first | (rw [e]; exact pk_us) | (rw [pk_un e]; exact hfc j (by omega))) _ _ _ (hP.sub [0] rfl) (hD.sub [0] (by decide) rfl) hS (lv_sub hl [1, 2, 0, 3] rfl)
  exact lp_5 ((n - 0) + 1) 0 0 f (Nat.lt_succ_self _) (Nat.zero_le n) (rfl) (fun j h => absurd h (Nat.not_lt_zero j)) _ _ _ (hP.sub [0] rfl) (hD.sub [0] (by decide) rfl) hS (lv_sub hl [2, 3, 1, 0] rfl)

set_option maxHeartbeats 4000000 in
set_option maxRecDepth 100000 in
/-- X2_votesLacking -/
theorem c_X2_votesLacking (l : Launch) (dC : Nat → ClassId) (dI : Nat → Nat → Nat) (aC : Nat → ClassId) (sz : Nat) (y : Nat) (a : Nat) (law : Int32) (hy : y ≤ 100) (ha : 1 ≤ a ∧ a ≤ 100) : Met l yX2_votesLacking (wW yX2_votesLacking cX2_votesLacking 4 (some .int)) ({ frames := 1, cells := 0, slots := 0, locals := 22 } : Room) (va_Pc [.int (nI y), .int (nI a), .int law] (fun U => U.heap.size = sz ∧ va_P (dC, dI) classes [] U.heap ∧ va_K (dC, dI) classes (TY aC) U ∧ va_D (fun _ => True) [] ∧ NX U)) (va_Qi (fun (r : Int32) (_ : Unit) => r = nI (nd law a - y)) (fun (_ : Unit) (t : State) => va_P (dC, dI) classes [] t.heap ∧ va_K (dC, dI) classes (TY aC) t ∧ va_D (va_A [] sz) []) (va_A [] sz)) 0 0 (va_A [] sz) := by
  refine Met.ofW (cc := cX2_votesLacking) (maxL := 4) (ret := (some .int)) (by decide) rfl ?_
  intro p e s m args below meth c s₁ B hml hv
  obtain ⟨rfl, hsz, hP, hK, hD0, hN⟩ := hv
  have hx := B.exec
  have hb := B.bytes
  have hr := B.returns
  have hts0 := atoms_spec (ws := (wW yX2_votesLacking cX2_votesLacking 4 (some .int))) B.pre
  have hts : ∀ w9 ∈ lw_G, w9.before ([.int (nI y), .int (nI a), .int law] : List Value).toArray s = true := fun w9 h9 => hts0 w9 (List.mem_cons_of_mem _ h9)
  have hown : s.vm.findClass RX2 = some m.cls := findClass_of_methodNamed B.named
  have hlocks := B.notSynchronized
  subst hsz
  have hD := hD0.self (sz := s.heap.size)
  generalize hAe : va_A [] s.heap.size = A at hD ⊢
  have hA : ∀ q : Nat, s.heap.size ≤ q → A q := fun q h => by rw [← hAe]; exact Or.inr h
  obtain ⟨H, hHe⟩ : ∃ H : Heap, H = s.heap := ⟨_, rfl⟩
  have hS : va_S A s.heap H [] := by rw [hHe]; exact va_S.rf
  have hP : va_P (dC, dI) classes [] H := by rw [hHe]; exact hP
  have hl := lv_entry ([.int (nI y), .int (nI a), .int law]) (n := 4) (Nat.le_of_ble_eq_true rfl)
  rw [lg_entry_eq]
  generalize (lg_sl ([.int (nI y), .int (nI a), .int law]) ++ List.replicate (4 - (lg_sl ([.int (nI y), .int (nI a), .int law])).length) Slot.unset).toArray = ls at hl ⊢
  have hl : lv_has ls 4 [(0, .int (nI y)), (1, .int (nI a)), (2, .int law)] := hl
  rw [← hHe]
  refine lv_iconst (v := 0) hx hb dX2_votesLacking_0 (by decide) ?_
  refine lv_istore_n (lv' := [(3, .int 0), (0, .int (nI y)), (1, .int (nI a)), (2, .int law)]) hx hb dX2_votesLacking_1 rfl hl (by decide) rfl (fun ls hl => ?_)
  have lp_2 : ∀ (fu : Nat) (k : Nat) (hfu : 200 - k < fu) (hk : k ≤ nd law a - y) (H : Heap) (locs : List Loc) (ls : Array Slot), va_P (dC, dI) classes [] H → va_D A [] → va_S A s.heap H locs → lv_has ls 4 [(0, .int (nI y)), (1, .int (nI a)), (2, .int law), (3, .int (nI k))] → W p l e (headSpec (wW yX2_votesLacking cX2_votesLacking 4 (some .int)) ({ frames := 1, cells := 0, slots := 0, locals := 22 } : Room)).room s m ([.int (nI y), .int (nI a), .int law] : List Value).toArray below meth c H locs 0 0 (MQ below (va_Qi (fun (r : Int32) (_ : Unit) => r = nI (nd law a - y)) (fun (_ : Unit) (t : State) => va_P (dC, dI) classes [] t.heap ∧ va_K (dC, dI) classes (TY aC) t ∧ va_D A []) A) ([.int (nI y), .int (nI a), .int law] : List Value).toArray s 0 0 A) (F0 m 2 ls []) := by
    intro fu
    induction fu with
    | zero => intro k hfu; exact absurd hfu (Nat.not_lt_zero _)
    | succ fu ih_2 =>
      intro k hfu hk H locs ls hP hD hS hl
      refine lv_iload_n hx hb dX2_votesLacking_2 rfl (lv_at hl 0 rfl) ?_
      refine lv_iload_n hx hb dX2_votesLacking_3 rfl (lv_at hl 3 rfl) ?_
      refine lv_iadd hx hb dX2_votesLacking_4 ?_
      refine lv_topi (fun x_1 e_1 => ?_)
      have h9 : x_1 = nI (y + k) := by rw [e_1, nI_add]
      subst h9
      refine lv_iload_n hx hb dX2_votesLacking_5 rfl (lv_at hl 1 rfl) ?_
      refine lv_icmp_ge (tgt := 26) hx hb dX2_votesLacking_6 (by decide) (fun c_2 => ?_) (fun c_2 => ?_)
      · have hge : nd law a ≤ y + k := by
          have h8 := nd_le (law := law) ha.1
          rw [nI_leI (by omega) (by omega)] at c_2
          omega
        refine lv_iload_n hx hb dX2_votesLacking_26 rfl (lv_at hl 3 rfl) ?_
        have hP9 := hP.sub (ws' := []) [] rfl
        have hD9 := hD.sub (ws' := []) [] (by decide) rfl
        refine W.widen (k := 0) (n := 0) (by omega) (by omega) ?_
        exact W.iret (v := nI k) hx hb hr (fun t ht hW => ⟨⟨(nI k), (), rfl, by rw [show k = nd law a - y by omega], by rw [ht]; exact hP9, va_K.moved hW.alike hK, hD9⟩, hS.F ht⟩) hS.2.2 dX2_votesLacking_27
      · refine lv_iload_n hx hb dX2_votesLacking_9 rfl (lv_at hl 2 rfl) ?_
        refine lv_iload_n hx hb dX2_votesLacking_10 rfl (lv_at hl 0 rfl) ?_
        refine lv_iload_n hx hb dX2_votesLacking_11 rfl (lv_at hl 3 rfl) ?_
        refine lv_iadd hx hb dX2_votesLacking_12 ?_
        refine lv_topi (fun x_3 e_3 => ?_)
        have h9 : x_3 = nI (y + k) := by rw [e_3, nI_add]
        subst h9
        refine lv_iload_n hx hb dX2_votesLacking_13 rfl (lv_at hl 1 rfl) ?_
        have hPc := hP.sub (ws' := []) [] rfl
        have hDc := hD.sub (ws' := []) [] (by decide) rfl
        have hFc := va_free (wc := []) hD hS hA [] rfl
        refine va_calli (va_runSN (As := [.int law, .int (nI (y + k)), .int (nI a)]) (rest := []) ⟨hx, hb, hml, hown, hts⟩ (c_X11_isEnough l dC dI aC H.size law (y + k) a (by have := nd_le (law := law) ha.1; omega) (by omega)) ⟨(va_cnB 3 hts (gG kw_469) rfl rfl rfl (hN.1 _ kw_576 rfl) (hts _ (gw kw_1 rfl)) (by decide +kernel) ⟨Nat.le_of_ble_eq_true rfl, Nat.le_of_ble_eq_true rfl⟩), (hts _ (gw kw_468 rfl)), trivial⟩ ⟨fun a U g mk q => by obtain ⟨q0, q1, qP, qK, qD, qN⟩ := q; exact ⟨q0, q1, qP, va_K.moved (u := U) (U := U.calling g mk a) (Vm.Alike.refl U.vm) qK, qD, NX.same (u := U) (U := U.calling g mk a) rfl qN⟩, fun U hU hW => ⟨rfl, by rw [hU], by rw [hU]; exact hPc, va_K.moved hW.alike hK, hDc.weaken (fun _ _ _ _ => trivial), NX.warm hW hN⟩⟩ rfl rfl hl.1 rfl (lv_room (Nat.le_of_ble_eq_true rfl)) dX2_votesLacking_14 ⟨Nat.le_of_ble_eq_true rfl, Nat.le_of_ble_eq_true rfl⟩) hS (fun q _ h => hFc q h) hFc (fun x_4 u t H1 locs ht hvm hw_4 hB hz1 hk1 hS => ?_)
        obtain ⟨hP1, hK1, hD1⟩ := hB
        rw [ht] at hP1
        clear hK1
        try dsimp only at hw_4
        obtain ⟨hP, hD⟩ := va_join (wr := []) (w1 := []) hP hD [] [] rfl rfl (by decide) (by decide) hk1 hFc hP1 hD1
        generalize H1 = H at hP hS ⊢
        have hP : va_P (dC, dI) classes [] H := hP
        have hD : va_D A [] := hD
        clear hPc hDc hFc hz1 hk1 hP1 hD1 ht hvm
        have hz_14 := hw_4
        refine lv_if_ne (tgt := 26) hx hb dX2_votesLacking_17 (by decide) (fun c_5 => ?_) (fun c_5 => ?_)
        · have hge : nd law a ≤ y + k := by
            rcases Nat.lt_or_ge (y + k) (nd law a) with q | q
            · exact absurd (by rw [hz_14, if_neg (by omega)]) c_5
            · exact q
          refine lv_iload_n hx hb dX2_votesLacking_26 rfl (lv_at hl 3 rfl) ?_
          have hP9 := hP.sub (ws' := []) [] rfl
          have hD9 := hD.sub (ws' := []) [] (by decide) rfl
          refine W.widen (k := 0) (n := 0) (by omega) (by omega) ?_
          exact W.iret (v := nI k) hx hb hr (fun t ht hW => ⟨⟨(nI k), (), rfl, by rw [show k = nd law a - y by omega], by rw [ht]; exact hP9, va_K.moved hW.alike hK, hD9⟩, hS.F ht⟩) hS.2.2 dX2_votesLacking_27
        · have hlt : ¬ nd law a ≤ y + k := fun q => by rw [hz_14, if_pos q] at c_5; exact absurd c_5 (by decide)
          obtain ⟨x_6, e_6⟩ : ∃ y : Int32, y = (nI k) + 1 := ⟨_, rfl⟩
          refine lv_iinc (v := x_6) (lv' := [(3, .int x_6), (0, .int (nI y)), (1, .int (nI a)), (2, .int law)]) hx hb dX2_votesLacking_20 hl (k := 3) rfl (by rw [e_6]; rfl) (by decide) rfl (fun ls hl => ?_)
          have h9 : x_6 = nI (k + 1) := by rw [e_6, nI_1]
          subst h9
          refine lv_goto (tgt := 2) hx hb dX2_votesLacking_23 (by decide) ?_
          exact ih_2 (k + 1) (by have := nd_le (law := law) ha.1; omega) (by omega) _ _ _ (hP.sub [] rfl) (hD.sub [] (by decide) rfl) hS (lv_sub hl [1, 2, 3, 0] rfl)
  exact lp_2 ((200 - 0) + 1) 0 (Nat.lt_succ_self _) (Nat.zero_le _) _ _ _ (hP.sub [] rfl) (hD.sub [] (by decide) rfl) hS (lv_sub hl [1, 2, 3, 0] rfl)
