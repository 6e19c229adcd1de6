set_option maxHeartbeats 1000000 in
set_option maxRecDepth 100000 in
/-- X12_isCarried -/
theorem c_X12_isCarried (l : Launch) (dC : Nat → ClassId) (dI : Nat → Nat → Nat) (aC : Nat → ClassId) (sz : Nat) (law : Int32) (y : Nat) (a : Nat) (hy : y ≤ 1000) (ha : a ≤ 1000) : Met l yX12_isCarried (wW yX12_isCarried cX12_isCarried 3 (some .boolean)) ({ frames := 0, cells := 0, slots := 0, locals := 0 } : Room) (va_Pc [Value.int law, Value.int (nI y), Value.int (nI a)] (fun U => U.heap.size = sz ∧ va_P (dC, dI) classes [] U.heap ∧ va_K (dC, dI) classes (TY aC) U ∧ va_D (fun _ => True) [] ∧ NX U)) (va_Qi (fun (r : Int32) (_ : Unit) => r = if nd law a ≤ y then 1 else 0) (fun (_ : Unit) (t : State) => va_P (dC, dI) classes [] t.heap ∧ va_K (dC, dI) classes (TY aC) t ∧ va_D (va_A [] sz) []) (va_A [] sz)) 0 0 (va_A [] sz) := by
  refine Met.ofW (cc := cX12_isCarried) (maxL := 3) (ret := (some .boolean)) (by decide) rfl ?_
  intro p e s m args below meth c s₁ B hml hv
  obtain ⟨rfl, hsz, hP, hK, hD0, hN⟩ := hv
  have hx := B.exec
  have hb := B.bytes
  have hr := B.returns
  have hts0 := atoms_spec (ws := (wW yX12_isCarried cX12_isCarried 3 (some .boolean))) B.pre
  have hts : ∀ w9 ∈ lw_G, w9.before ([Value.int law, Value.int (nI y), Value.int (nI a)] : List Value).toArray s = true := fun w9 h9 => hts0 w9 (List.mem_cons_of_mem _ h9)
  have hown : s.vm.findClass RX12 = some m.cls := findClass_of_methodNamed (x := yX12_isCarried) B.named
  have hlocks := B.notSynchronized
  subst hsz
  have hD := hD0.self (sz := s.heap.size)
  generalize hAe : va_A [] s.heap.size = A at hD ⊢
  have hA : ∀ q : Nat, s.heap.size ≤ q → A q := fun q h => by rw [← hAe]; exact Or.inr h
  obtain ⟨H, hHe⟩ : ∃ H : Heap, H = s.heap := ⟨_, rfl⟩
  have hS : va_S A s.heap H [] := by rw [hHe]; exact va_S.rf
  have hP : va_P (dC, dI) classes [] H := by rw [hHe]; exact hP
  have hl := lv_entry ([Value.int law, Value.int (nI y), Value.int (nI a)]) (n := 3) (Nat.le_of_ble_eq_true rfl)
  rw [lg_entry_eq]
  generalize (lg_sl ([Value.int law, Value.int (nI y), Value.int (nI a)]) ++ List.replicate (3 - (lg_sl ([Value.int law, Value.int (nI y), Value.int (nI a)])).length) Slot.unset).toArray = ls at hl ⊢
  have hl : lv_has ls 3 [(0, Value.int law), (1, Value.int (nI y)), (2, Value.int (nI a))] := hl
  rw [← hHe]
  refine lv_iload_n hx hb dX12_isCarried_0 rfl (lv_at hl 0 rfl) ?_
  refine lv_if_ne (tgt := 19) hx hb dX12_isCarried_1 (by decide) (fun c_1 => ?_) (fun c_1 => ?_)
  · refine lv_iload_n hx hb dX12_isCarried_19 rfl (lv_at hl 0 rfl) ?_
    refine lv_iconst (v := 1) hx hb dX12_isCarried_20 (by decide) ?_
    refine lv_icmp_ne (tgt := 39) hx hb dX12_isCarried_21 (by decide) (fun c_2 => ?_) (fun c_2 => ?_)
    · refine lv_iconst (v := 3) hx hb dX12_isCarried_39 (by decide) ?_
      refine lv_iload_n hx hb dX12_isCarried_40 rfl (lv_at hl 1 rfl) ?_
      refine lv_imul hx hb dX12_isCarried_41 ?_
      refine lv_topi (fun x_3 e_3 => ?_)
      refine lv_iconst (v := 2) hx hb dX12_isCarried_42 (by decide) ?_
      refine lv_iload_n hx hb dX12_isCarried_43 rfl (lv_at hl 2 rfl) ?_
      refine lv_imul hx hb dX12_isCarried_44 ?_
      refine lv_topi (fun x_4 e_4 => ?_)
      refine lv_icmp_lt (tgt := 52) hx hb dX12_isCarried_45 (by decide) (fun c_5 => ?_) (fun c_5 => ?_)
      · refine lv_iconst (v := 0) hx hb dX12_isCarried_52 (by decide) ?_
        have hpd9 := pd_N (cx := []) hP hD [] (by decide) rfl
        have hP9 := hpd9.1
        have hD9 := hpd9.2
        refine W.widen (k := 0) (n := 0) (by omega) (by omega) ?_
        exact W.zret (v := 0) hx hb hr rfl (fun t ht hW => ⟨⟨0, (), rfl, by have h8 := c_5; rw [e_3, e_4, en_2 ha hy] at h8; unfold nd; rw [if_neg c_1, if_neg c_2]; simp [h8], by rw [ht]; exact hP9, va_K.moved hW.alike hK, hD9⟩, hS.F ht⟩) hS.2.2 dX12_isCarried_53
      · refine lv_iconst (v := 1) hx hb dX12_isCarried_48 (by decide) ?_
        refine lv_goto (tgt := 53) hx hb dX12_isCarried_49 (by decide) ?_
        have hpd9 := pd_N (cx := []) hP hD [] (by decide) rfl
        have hP9 := hpd9.1
        have hD9 := hpd9.2
        refine W.widen (k := 0) (n := 0) (by omega) (by omega) ?_
        exact W.zret (v := 1) hx hb hr rfl (fun t ht hW => ⟨⟨1, (), rfl, by have h8 := c_5; rw [e_3, e_4, en_2 ha hy] at h8; unfold nd; rw [if_neg c_1, if_neg c_2]; simp [h8], by rw [ht]; exact hP9, va_K.moved hW.alike hK, hD9⟩, hS.F ht⟩) hS.2.2 dX12_isCarried_53
    · refine lv_iconst (v := 2) hx hb dX12_isCarried_24 (by decide) ?_
      refine lv_iload_n hx hb dX12_isCarried_25 rfl (lv_at hl 1 rfl) ?_
      refine lv_imul hx hb dX12_isCarried_26 ?_
      refine lv_topi (fun x_6 e_6 => ?_)
      refine lv_iload_n hx hb dX12_isCarried_27 rfl (lv_at hl 2 rfl) ?_
      refine lv_icmp_le (tgt := 35) hx hb dX12_isCarried_28 (by decide) (fun c_7 => ?_) (fun c_7 => ?_)
      · refine lv_iconst (v := 0) hx hb dX12_isCarried_35 (by decide) ?_
        refine lv_goto (tgt := 53) hx hb dX12_isCarried_36 (by decide) ?_
        have hpd9 := pd_N (cx := []) hP hD [] (by decide) rfl
        have hP9 := hpd9.1
        have hD9 := hpd9.2
        refine W.widen (k := 0) (n := 0) (by omega) (by omega) ?_
        exact W.zret (v := 0) hx hb hr rfl (fun t ht hW => ⟨⟨0, (), rfl, by have h8 := c_7; rw [e_6, en_1 ha hy] at h8; unfold nd; rw [if_neg c_1, if_pos c_2]; simp [h8], by rw [ht]; exact hP9, va_K.moved hW.alike hK, hD9⟩, hS.F ht⟩) hS.2.2 dX12_isCarried_53
      · refine lv_iconst (v := 1) hx hb dX12_isCarried_31 (by decide) ?_
        refine lv_goto (tgt := 53) hx hb dX12_isCarried_32 (by decide) ?_
        have hpd9 := pd_N (cx := []) hP hD [] (by decide) rfl
        have hP9 := hpd9.1
        have hD9 := hpd9.2
        refine W.widen (k := 0) (n := 0) (by omega) (by omega) ?_
        exact W.zret (v := 1) hx hb hr rfl (fun t ht hW => ⟨⟨1, (), rfl, by have h8 := c_7; rw [e_6, en_1 ha hy] at h8; unfold nd; rw [if_neg c_1, if_pos c_2]; simp [h8], by rw [ht]; exact hP9, va_K.moved hW.alike hK, hD9⟩, hS.F ht⟩) hS.2.2 dX12_isCarried_53
  · refine lv_iconst (v := 2) hx hb dX12_isCarried_4 (by decide) ?_
    refine lv_iload_n hx hb dX12_isCarried_5 rfl (lv_at hl 1 rfl) ?_
    refine lv_imul hx hb dX12_isCarried_6 ?_
    refine lv_topi (fun x_8 e_8 => ?_)
    refine lv_iload_n hx hb dX12_isCarried_7 rfl (lv_at hl 2 rfl) ?_
    refine lv_icmp_lt (tgt := 15) hx hb dX12_isCarried_8 (by decide) (fun c_9 => ?_) (fun c_9 => ?_)
    · refine lv_iconst (v := 0) hx hb dX12_isCarried_15 (by decide) ?_
      refine lv_goto (tgt := 53) hx hb dX12_isCarried_16 (by decide) ?_
      have hpd9 := pd_N (cx := []) hP hD [] (by decide) rfl
      have hP9 := hpd9.1
      have hD9 := hpd9.2
      refine W.widen (k := 0) (n := 0) (by omega) (by omega) ?_
      exact W.zret (v := 0) hx hb hr rfl (fun t ht hW => ⟨⟨0, (), rfl, by have h8 := c_9; rw [e_8, en_0 ha hy] at h8; unfold nd; rw [if_pos c_1]; simp [h8], by rw [ht]; exact hP9, va_K.moved hW.alike hK, hD9⟩, hS.F ht⟩) hS.2.2 dX12_isCarried_53
    · refine lv_iconst (v := 1) hx hb dX12_isCarried_11 (by decide) ?_
      refine lv_goto (tgt := 53) hx hb dX12_isCarried_12 (by decide) ?_
      have hpd9 := pd_N (cx := []) hP hD [] (by decide) rfl
      have hP9 := hpd9.1
      have hD9 := hpd9.2
      refine W.widen (k := 0) (n := 0) (by omega) (by omega) ?_
      exact W.zret (v := 1) hx hb hr rfl (fun t ht hW => ⟨⟨1, (), rfl, by have h8 := c_9; rw [e_8, en_0 ha hy] at h8; unfold nd; rw [if_pos c_1]; simp [h8], by rw [ht]; exact hP9, va_K.moved hW.alike hK, hD9⟩, hS.F ht⟩) hS.2.2 dX12_isCarried_53

set_option maxHeartbeats 1000000 in
set_option maxRecDepth 100000 in
/-- X12_above_z -/
theorem c_X12_above_z (l : Launch) (dC : Nat → ClassId) (dI : Nat → Nat → Nat) (aC : Nat → ClassId) (sz : Nat) (z : Int) (hz : sm z) : Met l yX12_above (wW yX12_above cX12_above 1 (some .int)) ({ frames := 0, cells := 0, slots := 0, locals := 0 } : Room) (va_Pc [Value.int (iI z)] (fun U => U.heap.size = sz ∧ va_P (dC, dI) classes [] U.heap ∧ va_K (dC, dI) classes (TY aC) U ∧ va_D (fun _ => True) [] ∧ NX U)) (va_Qi (fun (r : Int32) (_ : Unit) => r = nI z.toNat) (fun (_ : Unit) (t : State) => va_P (dC, dI) classes [] t.heap ∧ va_K (dC, dI) classes (TY aC) t ∧ va_D (va_A [] sz) []) (va_A [] sz)) 0 0 (va_A [] sz) := by
  refine Met.ofW (cc := cX12_above) (maxL := 1) (ret := (some .int)) (by decide) rfl ?_
  intro p e s m args below meth c s₁ B hml hv
  obtain ⟨rfl, hsz, hP, hK, hD0, hN⟩ := hv
  have hx := B.exec
  have hb := B.bytes
  have hr := B.returns
  have hts0 := atoms_spec (ws := (wW yX12_above cX12_above 1 (some .int))) B.pre
  have hts : ∀ w9 ∈ lw_G, w9.before ([Value.int (iI z)] : List Value).toArray s = true := fun w9 h9 => hts0 w9 (List.mem_cons_of_mem _ h9)
  have hown : s.vm.findClass RX12 = some m.cls := findClass_of_methodNamed (x := yX12_above) B.named
  have hlocks := B.notSynchronized
  subst hsz
  have hD := hD0.self (sz := s.heap.size)
  generalize hAe : va_A [] s.heap.size = A at hD ⊢
  have hA : ∀ q : Nat, s.heap.size ≤ q → A q := fun q h => by rw [← hAe]; exact Or.inr h
  obtain ⟨H, hHe⟩ : ∃ H : Heap, H = s.heap := ⟨_, rfl⟩
  have hS : va_S A s.heap H [] := by rw [hHe]; exact va_S.rf
  have hP : va_P (dC, dI) classes [] H := by rw [hHe]; exact hP
  have hl := lv_entry ([Value.int (iI z)]) (n := 1) (Nat.le_of_ble_eq_true rfl)
  rw [lg_entry_eq]
  generalize (lg_sl ([Value.int (iI z)]) ++ List.replicate (1 - (lg_sl ([Value.int (iI z)])).length) Slot.unset).toArray = ls at hl ⊢
  have hl : lv_has ls 1 [(0, Value.int (iI z))] := hl
  rw [← hHe]
  refine lv_iload_n hx hb dX12_above_0 rfl (lv_at hl 0 rfl) ?_
  refine lv_if_ge (tgt := 8) hx hb dX12_above_1 (by decide) (fun c_1 => ?_) (fun c_1 => ?_)
  · refine lv_iload_n hx hb dX12_above_8 rfl (lv_at hl 0 rfl) ?_
    have hpd9 := pd_N (cx := []) hP hD [] (by decide) rfl
    have hP9 := hpd9.1
    have hD9 := hpd9.2
    refine W.widen (k := 0) (n := 0) (by omega) (by omega) ?_
    exact W.iret (v := iI z) hx hb hr (fun t ht hW => ⟨⟨(iI z), (), rfl, ab_p hz c_1, by rw [ht]; exact hP9, va_K.moved hW.alike hK, hD9⟩, hS.F ht⟩) hS.2.2 dX12_above_9
  · refine lv_iconst (v := 0) hx hb dX12_above_4 (by decide) ?_
    refine lv_goto (tgt := 9) hx hb dX12_above_5 (by decide) ?_
    have hpd9 := pd_N (cx := []) hP hD [] (by decide) rfl
    have hP9 := hpd9.1
    have hD9 := hpd9.2
    refine W.widen (k := 0) (n := 0) (by omega) (by omega) ?_
    exact W.iret (v := 0) hx hb hr (fun t ht hW => ⟨⟨0, (), rfl, ab_n hz c_1, by rw [ht]; exact hP9, va_K.moved hW.alike hK, hD9⟩, hS.F ht⟩) hS.2.2 dX12_above_9

set_option maxHeartbeats 1000000 in
set_option maxRecDepth 100000 in
/-- X12_weightOf -/
theorem c_X12_weightOf (l : Launch) (dC : Nat → ClassId) (dI : Nat → Nat → Nat) (aC : Nat → ClassId) (sz : Nat) (g0 : Nat) (m_refused : Nat) (m_kind : Nat) (m_figure : Nat) (m_weight : Nat) (m_got : Nat) (m_setting : Nat) (m_tape : Nat) (m_letter : Nat) (m_letterAt : Nat) (m_told : Nat) (m_kept : Nat) (m_price : Nat) (m_offer : Nat) (m_gets : Nat) (m_yes : Nat) (m_buys : Nat) (m_ends : Nat) (m_carried : Nat) (m_row : Nat) (m_keptRow : Nat) (m_likeGets : Nat) (m_likePrice : Nat) (m_ahead : Nat) (msy : Int32) (mdn : Int32) (tp : Int32) (mat : Int32) (stm : Int32) (him : Int32) (ki : Int32) (crs : Int32) (rm : Int32) (n : Nat) (wf : Nat → Int32) (W0 : Nat → Nat) (y : Int32) (hw : n ≤ 8 ∧ ∀ j, j < n → wf j = nI (W0 j) ∧ W0 j ≤ 9) : Met l yX12_weightOf (wW yX12_weightOf cX12_weightOf 4 (some .int)) ({ frames := 0, cells := 0, slots := 0, locals := 0 } : Room) (va_Pc [Value.ref g0, Value.int y] (fun U => U.heap.size = sz ∧ va_P (dC, dI) classes [oX12 g0 m_refused m_kind m_figure m_weight m_got m_setting (nI n) msy mdn m_tape m_letter m_letterAt m_told tp mat stm m_kept him ki crs m_price m_offer m_gets m_yes m_buys m_ends m_carried m_row rm m_keptRow m_likeGets m_likePrice m_ahead, cI aC m_weight 9 wf] U.heap ∧ va_K (dC, dI) classes (TY aC) U ∧ va_D (fun _ => True) [oX12 g0 m_refused m_kind m_figure m_weight m_got m_setting (nI n) msy mdn m_tape m_letter m_letterAt m_told tp mat stm m_kept him ki crs m_price m_offer m_gets m_yes m_buys m_ends m_carried m_row rm m_keptRow m_likeGets m_likePrice m_ahead, cI aC m_weight 9 wf] ∧ NX U)) (va_Qi (fun (r : Int32) (_ : Unit) => r = nI (yw W0 y 0 n)) (fun (_ : Unit) (t : State) => va_P (dC, dI) classes [oX12 g0 m_refused m_kind m_figure m_weight m_got m_setting (nI n) msy mdn m_tape m_letter m_letterAt m_told tp mat stm m_kept him ki crs m_price m_offer m_gets m_yes m_buys m_ends m_carried m_row rm m_keptRow m_likeGets m_likePrice m_ahead, cI aC m_weight 9 wf] t.heap ∧ va_K (dC, dI) classes (TY aC) t ∧ va_D (va_A [oX12 g0 m_refused m_kind m_figure m_weight m_got m_setting (nI n) msy mdn m_tape m_letter m_letterAt m_told tp mat stm m_kept him ki crs m_price m_offer m_gets m_yes m_buys m_ends m_carried m_row rm m_keptRow m_likeGets m_likePrice m_ahead, cI aC m_weight 9 wf] sz) [oX12 g0 m_refused m_kind m_figure m_weight m_got m_setting (nI n) msy mdn m_tape m_letter m_letterAt m_told tp mat stm m_kept him ki crs m_price m_offer m_gets m_yes m_buys m_ends m_carried m_row rm m_keptRow m_likeGets m_likePrice m_ahead, cI aC m_weight 9 wf]) (va_A [oX12 g0 m_refused m_kind m_figure m_weight m_got m_setting (nI n) msy mdn m_tape m_letter m_letterAt m_told tp mat stm m_kept him ki crs m_price m_offer m_gets m_yes m_buys m_ends m_carried m_row rm m_keptRow m_likeGets m_likePrice m_ahead, cI aC m_weight 9 wf] sz)) 0 0 (va_A [oX12 g0 m_refused m_kind m_figure m_weight m_got m_setting (nI n) msy mdn m_tape m_letter m_letterAt m_told tp mat stm m_kept him ki crs m_price m_offer m_gets m_yes m_buys m_ends m_carried m_row rm m_keptRow m_likeGets m_likePrice m_ahead, cI aC m_weight 9 wf] sz) := by
  refine Met.ofW (cc := cX12_weightOf) (maxL := 4) (ret := (some .int)) (by decide) rfl ?_
  intro p e s m args below meth c s₁ B hml hv
  obtain ⟨rfl, hsz, hP, hK, hD0, hN⟩ := hv
  have hx := B.exec
  have hb := B.bytes
  have hr := B.returns
  have hts0 := atoms_spec (ws := (wW yX12_weightOf cX12_weightOf 4 (some .int))) B.pre
  have hts : ∀ w9 ∈ lw_G, w9.before ([Value.ref g0, Value.int y] : List Value).toArray s = true := fun w9 h9 => hts0 w9 (List.mem_cons_of_mem _ h9)
  have hown : s.vm.findClass RX12 = some m.cls := findClass_of_methodNamed (x := yX12_weightOf) B.named
  have hlocks := B.notSynchronized
  subst hsz
  have hD := hD0.self (sz := s.heap.size)
  generalize hAe : va_A [oX12 g0 m_refused m_kind m_figure m_weight m_got m_setting (nI n) msy mdn m_tape m_letter m_letterAt m_told tp mat stm m_kept him ki crs m_price m_offer m_gets m_yes m_buys m_ends m_carried m_row rm m_keptRow m_likeGets m_likePrice m_ahead, cI aC m_weight 9 wf] s.heap.size = A at hD ⊢
  have hA : ∀ q : Nat, s.heap.size ≤ q → A q := fun q h => by rw [← hAe]; exact Or.inr h
  obtain ⟨H, hHe⟩ : ∃ H : Heap, H = s.heap := ⟨_, rfl⟩
  have hS : va_S A s.heap H [] := by rw [hHe]; exact va_S.rf
  have hP : va_P (dC, dI) classes [oX12 g0 m_refused m_kind m_figure m_weight m_got m_setting (nI n) msy mdn m_tape m_letter m_letterAt m_told tp mat stm m_kept him ki crs m_price m_offer m_gets m_yes m_buys m_ends m_carried m_row rm m_keptRow m_likeGets m_likePrice m_ahead, cI aC m_weight 9 wf] H := by rw [hHe]; exact hP
  have hl := lv_entry ([Value.ref g0, Value.int y]) (n := 4) (Nat.le_of_ble_eq_true rfl)
  rw [lg_entry_eq]
  generalize (lg_sl ([Value.ref g0, Value.int y]) ++ List.replicate (4 - (lg_sl ([Value.ref g0, Value.int y])).length) Slot.unset).toArray = ls at hl ⊢
  have hl : lv_has ls 4 [(0, Value.ref g0), (1, Value.int y)] := hl
  rw [← hHe]
  have hn8 := hw.1
  refine lv_iconst (v := 0) hx hb dX12_weightOf_0 (by decide) ?_
  refine lv_istore_n (lv' := [(2, Value.int 0), (0, Value.ref g0), (1, Value.int y)]) hx hb dX12_weightOf_1 rfl hl (by decide) rfl (fun ls hl => ?_)
  refine lv_iconst (v := 0) hx hb dX12_weightOf_2 (by decide) ?_
  refine lv_istore_n (lv' := [(3, Value.int 0), (2, Value.int 0), (0, Value.ref g0), (1, Value.int y)]) hx hb dX12_weightOf_3 rfl hl (by decide) rfl (fun ls hl => ?_)
  have lp_4 : ∀ (fu : Nat) (j : Nat) (hfu : n - j < fu) (hj : j ≤ n) (H : Heap) (locs : List Loc) (ls : Array Slot), va_P (dC, dI) classes [oX12 g0 m_refused m_kind m_figure m_weight m_got m_setting (nI n) msy mdn m_tape m_letter m_letterAt m_told tp mat stm m_kept him ki crs m_price m_offer m_gets m_yes m_buys m_ends m_carried m_row rm m_keptRow m_likeGets m_likePrice m_ahead, cI aC m_weight 9 wf] H → va_D A [oX12 g0 m_refused m_kind m_figure m_weight m_got m_setting (nI n) msy mdn m_tape m_letter m_letterAt m_told tp mat stm m_kept him ki crs m_price m_offer m_gets m_yes m_buys m_ends m_carried m_row rm m_keptRow m_likeGets m_likePrice m_ahead, cI aC m_weight 9 wf] → va_S A s.heap H locs → lv_has ls 4 [(0, Value.ref g0), (1, Value.int y), (2, Value.int (nI (yw W0 y 0 j))), (3, Value.int (nI j))] → W p l e (headSpec (wW yX12_weightOf cX12_weightOf 4 (some .int)) ({ frames := 0, cells := 0, slots := 0, locals := 0 } : Room)).room s m ([Value.ref g0, Value.int y] : List Value).toArray below meth c H locs 0 0 (MQ below (va_Qi (fun (r : Int32) (_ : Unit) => r = nI (yw W0 y 0 n)) (fun (_ : Unit) (t : State) => va_P (dC, dI) classes [oX12 g0 m_refused m_kind m_figure m_weight m_got m_setting (nI n) msy mdn m_tape m_letter m_letterAt m_told tp mat stm m_kept him ki crs m_price m_offer m_gets m_yes m_buys m_ends m_carried m_row rm m_keptRow m_likeGets m_likePrice m_ahead, cI aC m_weight 9 wf] t.heap ∧ va_K (dC, dI) classes (TY aC) t ∧ va_D A [oX12 g0 m_refused m_kind m_figure m_weight m_got m_setting (nI n) msy mdn m_tape m_letter m_letterAt m_told tp mat stm m_kept him ki crs m_price m_offer m_gets m_yes m_buys m_ends m_carried m_row rm m_keptRow m_likeGets m_likePrice m_ahead, cI aC m_weight 9 wf]) A) ([Value.ref g0, Value.int y] : List Value).toArray s 0 0 A) (F0 m 4 ls []) := by
    intro fu
    induction fu with
    | zero => intro j hfu; exact absurd hfu (Nat.not_lt_zero _)
    | succ fu ih_4 =>
      intro j hfu hj H locs ls hP hD hS hl
      refine lv_iload_n hx hb dX12_weightOf_4 rfl (lv_at hl 3 rfl) ?_
      refine lv_aload_n hx hb dX12_weightOf_5 rfl (lv_at hl 0 rfl) ?_
      refine va_get (D := (dC, dI)) (ci := 12) (v := Value.int (nI n)) (C := RX12) (T := TX12) (N := 33) hx hb hts inX12 hown hK hP 0 rfl rfl 6 (by decide) (hts _ (gw kw_723 rfl)) (fun _ h9 => h9) rfl dX12_weightOf_6 ?_
      refine lv_icmp_ge (tgt := 33) hx hb dX12_weightOf_9 (by decide) (fun c_1 => ?_) (fun c_1 => ?_)
      · have hjn : j = n := by
          rcases Nat.lt_or_ge j n with q | q
          · exact absurd c_1 (nI_ge q (by omega))
          · omega
        refine lv_iload_n hx hb dX12_weightOf_33 rfl (lv_at hl 2 rfl) ?_
        have hpd9 := pd_N (cx := [oX12 g0 m_refused m_kind m_figure m_weight m_got m_setting (nI n) msy mdn m_tape m_letter m_letterAt m_told tp mat stm m_kept him ki crs m_price m_offer m_gets m_yes m_buys m_ends m_carried m_row rm m_keptRow m_likeGets m_likePrice m_ahead, cI aC m_weight 9 wf]) hP hD [0, 1] (by decide) rfl
        have hP9 := hpd9.1
        have hD9 := hpd9.2
        refine W.widen (k := 0) (n := 0) (by omega) (by omega) ?_
        exact W.iret (v := nI (yw W0 y 0 j)) hx hb hr (fun t ht hW => ⟨⟨(nI (yw W0 y 0 j)), (), rfl, by rw [hjn], by rw [ht]; exact hP9, va_K.moved hW.alike hK, hD9⟩, hS.F ht⟩) hS.2.2 dX12_weightOf_34
      · have hlt : j < n := by
          rcases Nat.lt_or_ge j n with q | q
          · exact q
          · exact absurd (nI_le q (by omega)) c_1
        refine lv_iload_n hx hb dX12_weightOf_12 rfl (lv_at hl 2 rfl) ?_
        refine lv_iload_n hx hb dX12_weightOf_13 rfl (lv_at hl 1 rfl) ?_
        refine lv_iload_n hx hb dX12_weightOf_14 rfl (lv_at hl 3 rfl) ?_
        refine lv_ishr hx hb dX12_weightOf_15 ?_
        refine lv_topi (fun x_2 e_2 => ?_)
        refine lv_iconst (v := 1) hx hb dX12_weightOf_16 (by decide) ?_
        refine lv_iand hx hb dX12_weightOf_17 ?_
        refine lv_topi (fun x_3 e_3 => ?_)
        refine lv_aload_n hx hb dX12_weightOf_18 rfl (lv_at hl 0 rfl) ?_
        refine va_get (D := (dC, dI)) (ci := 12) (v := Value.ref m_weight) (C := RX12) (T := TX12) (N := 33) hx hb hts inX12 hown hK hP 0 rfl rfl 3 (by decide) (hts _ (gw kw_720 rfl)) (fun _ h9 => h9) rfl dX12_weightOf_19 ?_
        refine lv_iload_n hx hb dX12_weightOf_22 rfl (lv_at hl 3 rfl) ?_
        have h_4 : vp_in (nI j) 9 := by first | exact vp_in_nI (by omega) (by omega) | (unfold vp_in; decide) | (subst_vars; first | (unfold vp_in; decide) | exact vp_in_nI (by omega) (by omega))
        refine va_iald hx hb hK hP 1 0 rfl rfl h_4 dX12_weightOf_23 ?_
        refine lv_topi (fun x_5 e_5 => ?_)
        have h9 : x_5 = nI (W0 j) := by rw [e_5, nI_clamp (by omega)]; exact (hw.2 j hlt).1
        subst h9
        refine lv_imul hx hb dX12_weightOf_24 ?_
        refine lv_topi (fun x_6 e_6 => ?_)
        have h9 : x_6 = nI (if bt y j = true then W0 j else 0) := by rw [e_6, e_3, e_2]; exact b_mul (by omega)
        subst h9
        refine lv_iadd hx hb dX12_weightOf_25 ?_
        refine lv_topi (fun x_7 e_7 => ?_)
        have h9 : x_7 = nI (yw W0 y 0 (j + 1)) := by rw [e_7, nI_add, yw_s0]
        subst h9
        refine lv_istore_n (lv' := [(2, Value.int (nI (yw W0 y 0 (j + 1)))), (0, Value.ref g0), (1, Value.int y), (3, Value.int (nI j))]) hx hb dX12_weightOf_26 rfl hl (by decide) rfl (fun ls hl => ?_)
        obtain ⟨x_8, e_8⟩ : ∃ y : Int32, y = (nI j) + 1 := ⟨_, rfl⟩
        refine lv_iinc (v := x_8) (lv' := [(3, Value.int x_8), (2, Value.int (nI (yw W0 y 0 (j + 1)))), (0, Value.ref g0), (1, Value.int y)]) hx hb dX12_weightOf_27 hl (k := 3) rfl (by rw [e_8]; rfl) (by decide) rfl (fun ls hl => ?_)
        have h9 : x_8 = nI (j + 1) := by rw [e_8, nI_1]
        subst h9
        refine lv_goto (tgt := 4) hx hb dX12_weightOf_30 (by decide) ?_
        exact ih_4 (j + 1) (ms_lt hlt hfu) (by omega) _ _ _ (hP.sub [0, 1] rfl) (hD.sub [0, 1] (by decide) rfl) hS (lv_sub hl [2, 3, 1, 0] rfl)
  exact lp_4 ((n - 0) + 1) 0 (Nat.lt_succ_self _) (Nat.zero_le _) _ _ _ (hP.sub [0, 1] rfl) (hD.sub [0, 1] (by decide) rfl) hS (lv_sub hl [2, 3, 1, 0] rfl)

set_option maxHeartbeats 1000000 in
set_option maxRecDepth 100000 in
/-- X12_leftFrom -/
theorem c_X12_leftFrom (l : Launch) (dC : Nat → ClassId) (dI : Nat → Nat → Nat) (aC : Nat → ClassId) (sz : Nat) (g0 : Nat) (m_refused : Nat) (m_kind : Nat) (m_figure : Nat) (m_weight : Nat) (m_got : Nat) (m_setting : Nat) (m_tape : Nat) (m_letter : Nat) (m_letterAt : Nat) (m_told : Nat) (m_kept : Nat) (m_price : Nat) (m_offer : Nat) (m_gets : Nat) (m_yes : Nat) (m_buys : Nat) (m_ends : Nat) (m_carried : Nat) (m_row : Nat) (m_keptRow : Nat) (m_likeGets : Nat) (m_likePrice : Nat) (m_ahead : Nat) (msy : Int32) (mdn : Int32) (tp : Int32) (mat : Int32) (stm : Int32) (him : Int32) (ki : Int32) (crs : Int32) (rm : Int32) (n : Nat) (i : Nat) (hi : i ≤ n ∧ n ≤ 8) : Met l yX12_leftFrom (wW yX12_leftFrom cX12_leftFrom 2 (some .int)) ({ frames := 0, cells := 0, slots := 0, locals := 0 } : Room) (va_Pc [Value.ref g0, Value.int (nI i)] (fun U => U.heap.size = sz ∧ va_P (dC, dI) classes [oX12 g0 m_refused m_kind m_figure m_weight m_got m_setting (nI n) msy mdn m_tape m_letter m_letterAt m_told tp mat stm m_kept him ki crs m_price m_offer m_gets m_yes m_buys m_ends m_carried m_row rm m_keptRow m_likeGets m_likePrice m_ahead] U.heap ∧ va_K (dC, dI) classes (TY aC) U ∧ va_D (fun _ => True) [oX12 g0 m_refused m_kind m_figure m_weight m_got m_setting (nI n) msy mdn m_tape m_letter m_letterAt m_told tp mat stm m_kept him ki crs m_price m_offer m_gets m_yes m_buys m_ends m_carried m_row rm m_keptRow m_likeGets m_likePrice m_ahead] ∧ NX U)) (va_Qi (fun (r : Int32) (_ : Unit) => ∀ b, b < 32 → bt r b = decide (i ≤ b ∧ b < n)) (fun (_ : Unit) (t : State) => va_P (dC, dI) classes [oX12 g0 m_refused m_kind m_figure m_weight m_got m_setting (nI n) msy mdn m_tape m_letter m_letterAt m_told tp mat stm m_kept him ki crs m_price m_offer m_gets m_yes m_buys m_ends m_carried m_row rm m_keptRow m_likeGets m_likePrice m_ahead] t.heap ∧ va_K (dC, dI) classes (TY aC) t ∧ va_D (va_A [oX12 g0 m_refused m_kind m_figure m_weight m_got m_setting (nI n) msy mdn m_tape m_letter m_letterAt m_told tp mat stm m_kept him ki crs m_price m_offer m_gets m_yes m_buys m_ends m_carried m_row rm m_keptRow m_likeGets m_likePrice m_ahead] sz) [oX12 g0 m_refused m_kind m_figure m_weight m_got m_setting (nI n) msy mdn m_tape m_letter m_letterAt m_told tp mat stm m_kept him ki crs m_price m_offer m_gets m_yes m_buys m_ends m_carried m_row rm m_keptRow m_likeGets m_likePrice m_ahead]) (va_A [oX12 g0 m_refused m_kind m_figure m_weight m_got m_setting (nI n) msy mdn m_tape m_letter m_letterAt m_told tp mat stm m_kept him ki crs m_price m_offer m_gets m_yes m_buys m_ends m_carried m_row rm m_keptRow m_likeGets m_likePrice m_ahead] sz)) 0 0 (va_A [oX12 g0 m_refused m_kind m_figure m_weight m_got m_setting (nI n) msy mdn m_tape m_letter m_letterAt m_told tp mat stm m_kept him ki crs m_price m_offer m_gets m_yes m_buys m_ends m_carried m_row rm m_keptRow m_likeGets m_likePrice m_ahead] sz) := by
  refine Met.ofW (cc := cX12_leftFrom) (maxL := 2) (ret := (some .int)) (by decide) rfl ?_
  intro p e s m args below meth c s₁ B hml hv
  obtain ⟨rfl, hsz, hP, hK, hD0, hN⟩ := hv
  have hx := B.exec
  have hb := B.bytes
  have hr := B.returns
  have hts0 := atoms_spec (ws := (wW yX12_leftFrom cX12_leftFrom 2 (some .int))) B.pre
  have hts : ∀ w9 ∈ lw_G, w9.before ([Value.ref g0, Value.int (nI i)] : List Value).toArray s = true := fun w9 h9 => hts0 w9 (List.mem_cons_of_mem _ h9)
  have hown : s.vm.findClass RX12 = some m.cls := findClass_of_methodNamed (x := yX12_leftFrom) B.named
  have hlocks := B.notSynchronized
  subst hsz
  have hD := hD0.self (sz := s.heap.size)
  generalize hAe : va_A [oX12 g0 m_refused m_kind m_figure m_weight m_got m_setting (nI n) msy mdn m_tape m_letter m_letterAt m_told tp mat stm m_kept him ki crs m_price m_offer m_gets m_yes m_buys m_ends m_carried m_row rm m_keptRow m_likeGets m_likePrice m_ahead] s.heap.size = A at hD ⊢
  have hA : ∀ q : Nat, s.heap.size ≤ q → A q := fun q h => by rw [← hAe]; exact Or.inr h
  obtain ⟨H, hHe⟩ : ∃ H : Heap, H = s.heap := ⟨_, rfl⟩
  have hS : va_S A s.heap H [] := by rw [hHe]; exact va_S.rf
  have hP : va_P (dC, dI) classes [oX12 g0 m_refused m_kind m_figure m_weight m_got m_setting (nI n) msy mdn m_tape m_letter m_letterAt m_told tp mat stm m_kept him ki crs m_price m_offer m_gets m_yes m_buys m_ends m_carried m_row rm m_keptRow m_likeGets m_likePrice m_ahead] H := by rw [hHe]; exact hP
  have hl := lv_entry ([Value.ref g0, Value.int (nI i)]) (n := 2) (Nat.le_of_ble_eq_true rfl)
  rw [lg_entry_eq]
  generalize (lg_sl ([Value.ref g0, Value.int (nI i)]) ++ List.replicate (2 - (lg_sl ([Value.ref g0, Value.int (nI i)])).length) Slot.unset).toArray = ls at hl ⊢
  have hl : lv_has ls 2 [(0, Value.ref g0), (1, Value.int (nI i))] := hl
  rw [← hHe]
  refine lv_iconst (v := 1) hx hb dX12_leftFrom_0 (by decide) ?_
  refine lv_aload_n hx hb dX12_leftFrom_1 rfl (lv_at hl 0 rfl) ?_
  refine va_get (D := (dC, dI)) (ci := 12) (v := Value.int (nI n)) (C := RX12) (T := TX12) (N := 33) hx hb hts inX12 hown hK hP 0 rfl rfl 6 (by decide) (hts _ (gw kw_723 rfl)) (fun _ h9 => h9) rfl dX12_leftFrom_2 ?_
  refine lv_ishl hx hb dX12_leftFrom_5 ?_
  refine lv_topi (fun x_1 e_1 => ?_)
  refine lv_iconst (v := 1) hx hb dX12_leftFrom_6 (by decide) ?_
  refine lv_iload_n hx hb dX12_leftFrom_7 rfl (lv_at hl 1 rfl) ?_
  refine lv_ishl hx hb dX12_leftFrom_8 ?_
  refine lv_topi (fun x_2 e_2 => ?_)
  refine lv_isub hx hb dX12_leftFrom_9 ?_
  refine lv_topi (fun x_3 e_3 => ?_)
  have hpd9 := pd_N (cx := [oX12 g0 m_refused m_kind m_figure m_weight m_got m_setting (nI n) msy mdn m_tape m_letter m_letterAt m_told tp mat stm m_kept him ki crs m_price m_offer m_gets m_yes m_buys m_ends m_carried m_row rm m_keptRow m_likeGets m_likePrice m_ahead]) hP hD [0] (by decide) rfl
  have hP9 := hpd9.1
  have hD9 := hpd9.2
  refine W.widen (k := 0) (n := 0) (by omega) (by omega) ?_
  exact W.iret (v := x_3) hx hb hr (fun t ht hW => ⟨⟨x_3, (), rfl, fun b hb => by rw [e_3, e_2, e_1]; exact left_bits n (by omega) i (by omega) b hb, by rw [ht]; exact hP9, va_K.moved hW.alike hK, hD9⟩, hS.F ht⟩) hS.2.2 dX12_leftFrom_10

set_option maxHeartbeats 1000000 in
set_option maxRecDepth 100000 in
/-- X12_priceOf -/
theorem c_X12_priceOf (l : Launch) (dC : Nat → ClassId) (dI : Nat → Nat → Nat) (aC : Nat → ClassId) (sz : Nat) (g0 : Nat) (m_refused : Nat) (m_kind : Nat) (m_figure : Nat) (m_weight : Nat) (m_got : Nat) (m_setting : Nat) (m_tape : Nat) (m_letter : Nat) (m_letterAt : Nat) (m_told : Nat) (m_kept : Nat) (m_price : Nat) (m_offer : Nat) (m_gets : Nat) (m_yes : Nat) (m_buys : Nat) (m_ends : Nat) (m_carried : Nat) (m_row : Nat) (m_keptRow : Nat) (m_likeGets : Nat) (m_likePrice : Nat) (m_ahead : Nat) (msy : Int32) (mdn : Int32) (tp : Int32) (mat : Int32) (stm : Int32) (him : Int32) (ki : Int32) (crs : Int32) (rm : Int32) (n : Nat) (kf : Nat → Int32) (ff : Nat → Int32) (stf : Nat → Int32) (j : Nat) (s0 : Int) (kk : Nat) (fg : Nat) (hs : -1 ≤ s0 ∧ s0 ≤ 99) (hj : j < 8) (hkf : kf j = nI kk) (hkk : kk ≤ 6) (hff : ff j = nI fg) (hfg : fg ≤ 9) : Met l yX12_priceOf (wW yX12_priceOf cX12_priceOf 5 (some .int)) ({ frames := 1, cells := 0, slots := 0, locals := 20 } : Room) (va_Pc [Value.ref g0, Value.int (nI j), Value.int (iI s0)] (fun U => U.heap.size = sz ∧ va_P (dC, dI) classes [oX12 g0 m_refused m_kind m_figure m_weight m_got m_setting (nI n) msy mdn m_tape m_letter m_letterAt m_told tp mat stm m_kept him ki crs m_price m_offer m_gets m_yes m_buys m_ends m_carried m_row rm m_keptRow m_likeGets m_likePrice m_ahead, cI aC m_kind 9 kf, cI aC m_figure 9 ff, cI aC m_setting 5 stf] U.heap ∧ va_K (dC, dI) classes (TY aC) U ∧ va_D (fun _ => True) [oX12 g0 m_refused m_kind m_figure m_weight m_got m_setting (nI n) msy mdn m_tape m_letter m_letterAt m_told tp mat stm m_kept him ki crs m_price m_offer m_gets m_yes m_buys m_ends m_carried m_row rm m_keptRow m_likeGets m_likePrice m_ahead, cI aC m_kind 9 kf, cI aC m_figure 9 ff, cI aC m_setting 5 stf] ∧ NX U)) (va_Qi (fun (r : Int32) (_ : Unit) => r = nI (pr kk fg (stf 2) s0)) (fun (_ : Unit) (t : State) => va_P (dC, dI) classes [oX12 g0 m_refused m_kind m_figure m_weight m_got m_setting (nI n) msy mdn m_tape m_letter m_letterAt m_told tp mat stm m_kept him ki crs m_price m_offer m_gets m_yes m_buys m_ends m_carried m_row rm m_keptRow m_likeGets m_likePrice m_ahead, cI aC m_kind 9 kf, cI aC m_figure 9 ff, cI aC m_setting 5 stf] t.heap ∧ va_K (dC, dI) classes (TY aC) t ∧ va_D (va_A [oX12 g0 m_refused m_kind m_figure m_weight m_got m_setting (nI n) msy mdn m_tape m_letter m_letterAt m_told tp mat stm m_kept him ki crs m_price m_offer m_gets m_yes m_buys m_ends m_carried m_row rm m_keptRow m_likeGets m_likePrice m_ahead, cI aC m_kind 9 kf, cI aC m_figure 9 ff, cI aC m_setting 5 stf] sz) [oX12 g0 m_refused m_kind m_figure m_weight m_got m_setting (nI n) msy mdn m_tape m_letter m_letterAt m_told tp mat stm m_kept him ki crs m_price m_offer m_gets m_yes m_buys m_ends m_carried m_row rm m_keptRow m_likeGets m_likePrice m_ahead, cI aC m_kind 9 kf, cI aC m_figure 9 ff, cI aC m_setting 5 stf]) (va_A [oX12 g0 m_refused m_kind m_figure m_weight m_got m_setting (nI n) msy mdn m_tape m_letter m_letterAt m_told tp mat stm m_kept him ki crs m_price m_offer m_gets m_yes m_buys m_ends m_carried m_row rm m_keptRow m_likeGets m_likePrice m_ahead, cI aC m_kind 9 kf, cI aC m_figure 9 ff, cI aC m_setting 5 stf] sz)) 0 0 (va_A [oX12 g0 m_refused m_kind m_figure m_weight m_got m_setting (nI n) msy mdn m_tape m_letter m_letterAt m_told tp mat stm m_kept him ki crs m_price m_offer m_gets m_yes m_buys m_ends m_carried m_row rm m_keptRow m_likeGets m_likePrice m_ahead, cI aC m_kind 9 kf, cI aC m_figure 9 ff, cI aC m_setting 5 stf] sz) := by
  refine Met.ofW (cc := cX12_priceOf) (maxL := 5) (ret := (some .int)) (by decide) rfl ?_
  intro p e s m args below meth c s₁ B hml hv
  obtain ⟨rfl, hsz, hP, hK, hD0, hN⟩ := hv
  have hx := B.exec
  have hb := B.bytes
  have hr := B.returns
  have hts0 := atoms_spec (ws := (wW yX12_priceOf cX12_priceOf 5 (some .int))) B.pre
  have hts : ∀ w9 ∈ lw_G, w9.before ([Value.ref g0, Value.int (nI j), Value.int (iI s0)] : List Value).toArray s = true := fun w9 h9 => hts0 w9 (List.mem_cons_of_mem _ h9)
  have hown : s.vm.findClass RX12 = some m.cls := findClass_of_methodNamed (x := yX12_priceOf) B.named
  have hlocks := B.notSynchronized
  subst hsz
  have hD := hD0.self (sz := s.heap.size)
  generalize hAe : va_A [oX12 g0 m_refused m_kind m_figure m_weight m_got m_setting (nI n) msy mdn m_tape m_letter m_letterAt m_told tp mat stm m_kept him ki crs m_price m_offer m_gets m_yes m_buys m_ends m_carried m_row rm m_keptRow m_likeGets m_likePrice m_ahead, cI aC m_kind 9 kf, cI aC m_figure 9 ff, cI aC m_setting 5 stf] s.heap.size = A at hD ⊢
  have hA : ∀ q : Nat, s.heap.size ≤ q → A q := fun q h => by rw [← hAe]; exact Or.inr h
  obtain ⟨H, hHe⟩ : ∃ H : Heap, H = s.heap := ⟨_, rfl⟩
  have hS : va_S A s.heap H [] := by rw [hHe]; exact va_S.rf
  have hP : va_P (dC, dI) classes [oX12 g0 m_refused m_kind m_figure m_weight m_got m_setting (nI n) msy mdn m_tape m_letter m_letterAt m_told tp mat stm m_kept him ki crs m_price m_offer m_gets m_yes m_buys m_ends m_carried m_row rm m_keptRow m_likeGets m_likePrice m_ahead, cI aC m_kind 9 kf, cI aC m_figure 9 ff, cI aC m_setting 5 stf] H := by rw [hHe]; exact hP
  have hl := lv_entry ([Value.ref g0, Value.int (nI j), Value.int (iI s0)]) (n := 5) (Nat.le_of_ble_eq_true rfl)
  rw [lg_entry_eq]
  generalize (lg_sl ([Value.ref g0, Value.int (nI j), Value.int (iI s0)]) ++ List.replicate (5 - (lg_sl ([Value.ref g0, Value.int (nI j), Value.int (iI s0)])).length) Slot.unset).toArray = ls at hl ⊢
  have hl : lv_has ls 5 [(0, Value.ref g0), (1, Value.int (nI j)), (2, Value.int (iI s0))] := hl
  rw [← hHe]
  have jp_34 : ∀   (H : Heap) (locs : List Loc) (ls : Array Slot), va_P (dC, dI) classes [oX12 g0 m_refused m_kind m_figure m_weight m_got m_setting (nI n) msy mdn m_tape m_letter m_letterAt m_told tp mat stm m_kept him ki crs m_price m_offer m_gets m_yes m_buys m_ends m_carried m_row rm m_keptRow m_likeGets m_likePrice m_ahead, cI aC m_kind 9 kf, cI aC m_figure 9 ff, cI aC m_setting 5 stf] H → va_D A [oX12 g0 m_refused m_kind m_figure m_weight m_got m_setting (nI n) msy mdn m_tape m_letter m_letterAt m_told tp mat stm m_kept him ki crs m_price m_offer m_gets m_yes m_buys m_ends m_carried m_row rm m_keptRow m_likeGets m_likePrice m_ahead, cI aC m_kind 9 kf, cI aC m_figure 9 ff, cI aC m_setting 5 stf] → va_S A s.heap H locs → lv_has ls 5 [(0, Value.ref g0), (1, Value.int (nI j)), (2, Value.int (iI s0)), (3, Value.int (nI (ask (stf 2) s0))), (4, Value.int (nI (env (stf 2) s0)))] → W p l e (headSpec (wW yX12_priceOf cX12_priceOf 5 (some .int)) ({ frames := 1, cells := 0, slots := 0, locals := 20 } : Room)).room s m ([Value.ref g0, Value.int (nI j), Value.int (iI s0)] : List Value).toArray below meth c H locs 0 0 (MQ below (va_Qi (fun (r : Int32) (_ : Unit) => r = nI (pr kk fg (stf 2) s0)) (fun (_ : Unit) (t : State) => va_P (dC, dI) classes [oX12 g0 m_refused m_kind m_figure m_weight m_got m_setting (nI n) msy mdn m_tape m_letter m_letterAt m_told tp mat stm m_kept him ki crs m_price m_offer m_gets m_yes m_buys m_ends m_carried m_row rm m_keptRow m_likeGets m_likePrice m_ahead, cI aC m_kind 9 kf, cI aC m_figure 9 ff, cI aC m_setting 5 stf] t.heap ∧ va_K (dC, dI) classes (TY aC) t ∧ va_D A [oX12 g0 m_refused m_kind m_figure m_weight m_got m_setting (nI n) msy mdn m_tape m_letter m_letterAt m_told tp mat stm m_kept him ki crs m_price m_offer m_gets m_yes m_buys m_ends m_carried m_row rm m_keptRow m_likeGets m_likePrice m_ahead, cI aC m_kind 9 kf, cI aC m_figure 9 ff, cI aC m_setting 5 stf]) A) ([Value.ref g0, Value.int (nI j), Value.int (iI s0)] : List Value).toArray s 0 0 A) (F0 m 34 ls []) := by
    intro   H locs ls hP hD hS hl
    refine lv_aload_n hx hb dX12_priceOf_34 rfl (lv_at hl 0 rfl) ?_
    refine va_get (D := (dC, dI)) (ci := 12) (v := Value.ref m_kind) (C := RX12) (T := TX12) (N := 33) hx hb hts inX12 hown hK hP 0 rfl rfl 1 (by decide) (hts _ (gw kw_718 rfl)) (fun _ h9 => h9) rfl dX12_priceOf_35 ?_
    refine lv_iload_n hx hb dX12_priceOf_38 rfl (lv_at hl 1 rfl) ?_
    have h_1 : vp_in (nI j) 9 := by first | exact vp_in_nI (by omega) (by omega) | (unfold vp_in; decide) | (subst_vars; first | (unfold vp_in; decide) | exact vp_in_nI (by omega) (by omega))
    refine va_iald hx hb hK hP 1 0 rfl rfl h_1 dX12_priceOf_39 ?_
    refine lv_topi (fun x_2 e_2 => ?_)
    have h9 : x_2 = nI kk := by rw [e_2, nI_clamp (by omega)]; exact hkf
    subst h9
    by_cases c_3 : nI kk = 0
    · refine lv_tableIn (tgt := 80) hx hb dX12_priceOf_40 (by rw [c_3]; decide) (by rw [c_3]; decide) (by rw [c_3]; rfl) (by decide) ?_
      refine lv_iload_n hx hb dX12_priceOf_80 rfl (lv_at hl 3 rfl) ?_
      have hpd9 := pd_N (cx := [oX12 g0 m_refused m_kind m_figure m_weight m_got m_setting (nI n) msy mdn m_tape m_letter m_letterAt m_told tp mat stm m_kept him ki crs m_price m_offer m_gets m_yes m_buys m_ends m_carried m_row rm m_keptRow m_likeGets m_likePrice m_ahead, cI aC m_kind 9 kf, cI aC m_figure 9 ff, cI aC m_setting 5 stf]) hP hD [0, 1, 2, 3] (by decide) rfl
      have hP9 := hpd9.1
      have hD9 := hpd9.2
      refine W.widen (k := 0) (n := 0) (by omega) (by omega) ?_
      exact W.iret (v := nI (ask (stf 2) s0)) hx hb hr (fun t ht hW => ⟨⟨(nI (ask (stf 2) s0)), (), rfl, by have h8 : kk = 0 := (nI_eq (a := kk) (b := 0) (by omega) (by omega)).mp c_3; unfold pr; rw [if_pos h8], by rw [ht]; exact hP9, va_K.moved hW.alike hK, hD9⟩, hS.F ht⟩) hS.2.2 dX12_priceOf_81
    by_cases c_4 : nI kk = 1
    · refine lv_tableIn (tgt := 82) hx hb dX12_priceOf_40 (by rw [c_4]; decide) (by rw [c_4]; decide) (by rw [c_4]; rfl) (by decide) ?_
      refine lv_iload_n hx hb dX12_priceOf_82 rfl (lv_at hl 2 rfl) ?_
      have hpd9 := pdf_N (cx := []) hP hD hS hA [] (by decide) rfl
      have hPc := hpd9.1
      have hDc := hpd9.2.1
      have hFc := hpd9.2.2
      clear hpd9
      refine va_calli (va_runS (As := [Value.int (iI s0)]) (rest := []) ⟨hx, hb, hml, hown, hts⟩ (c_X12_above_z l dC dI aC H.size s0 (by unfold sm; omega)) ⟨(callB_of 1 hts (gG kw_907) rfl rfl rfl (hts _ (gw kw_13 rfl)) (hts _ (gw kw_905 rfl)) hd_X12_above ⟨Nat.le_of_ble_eq_true rfl, Nat.le_of_ble_eq_true rfl⟩), (hts _ (gw kw_906 rfl))⟩ ⟨fb_std, pre_std hPc hK hDc hN⟩ rfl rfl hl.1 rfl (lv_room (Nat.le_of_ble_eq_true rfl)) dX12_priceOf_83 ⟨Nat.le_of_ble_eq_true rfl, Nat.le_of_ble_eq_true rfl⟩) hS (fun q _ h => hFc q h) hFc (fun x_5 u9 t9 H1 locs ht hvm hw_5 hB hz1 hk1 hS => ?_)
      obtain ⟨hP1, hK1, hD1⟩ := hB
      rw [ht] at hP1
      clear hK1
      try dsimp only at hw_5
      have hpd9 : PDx (dC, dI) classes A H1 [oX12 g0 m_refused m_kind m_figure m_weight m_got m_setting (nI n) msy mdn m_tape m_letter m_letterAt m_told tp mat stm m_kept him ki crs m_price m_offer m_gets m_yes m_buys m_ends m_carried m_row rm m_keptRow m_likeGets m_likePrice m_ahead, cI aC m_kind 9 kf, cI aC m_figure 9 ff, cI aC m_setting 5 stf] := jn_N (wr := [oX12 g0 m_refused m_kind m_figure m_weight m_got m_setting (nI n) msy mdn m_tape m_letter m_letterAt m_told tp mat stm m_kept him ki crs m_price m_offer m_gets m_yes m_buys m_ends m_carried m_row rm m_keptRow m_likeGets m_likePrice m_ahead, cI aC m_kind 9 kf, cI aC m_figure 9 ff, cI aC m_setting 5 stf]) hFc hk1 hP1 hD1 hP hD [] [0, 1, 2, 3] rfl rfl (by decide) (by decide)
      have hP := hpd9.1
      have hD := hpd9.2
      clear hpd9
      generalize H1 = H at hP hS ⊢
      clear hPc hDc hFc hz1 hk1 hP1 hD1 ht hvm
      have hz_83 := hw_5
      have hpd9 := pd_N (cx := [oX12 g0 m_refused m_kind m_figure m_weight m_got m_setting (nI n) msy mdn m_tape m_letter m_letterAt m_told tp mat stm m_kept him ki crs m_price m_offer m_gets m_yes m_buys m_ends m_carried m_row rm m_keptRow m_likeGets m_likePrice m_ahead, cI aC m_kind 9 kf, cI aC m_figure 9 ff, cI aC m_setting 5 stf]) hP hD [0, 1, 2, 3] (by decide) rfl
      have hP9 := hpd9.1
      have hD9 := hpd9.2
      refine W.widen (k := 0) (n := 0) (by omega) (by omega) ?_
      exact W.iret (v := x_5) hx hb hr (fun t ht hW => ⟨⟨x_5, (), rfl, by have h8 : kk = 1 ∨ kk = 3 := (by first | exact Or.inl ((nI_eq (a := kk) (b := 1) (by omega) (by omega)).mp c_4) | exact Or.inr ((nI_eq (a := kk) (b := 3) (by omega) (by omega)).mp c_4)); rw [hz_83]; rcases h8 with h8 | h8 <;> (rw [h8]; rfl), by rw [ht]; exact hP9, va_K.moved hW.alike hK, hD9⟩, hS.F ht⟩) hS.2.2 dX12_priceOf_86
    by_cases c_6 : nI kk = 2
    · refine lv_tableIn (tgt := 87) hx hb dX12_priceOf_40 (by rw [c_6]; decide) (by rw [c_6]; decide) (by rw [c_6]; rfl) (by decide) ?_
      refine lv_iload hx hb dX12_priceOf_87 (lv_at hl 4 rfl) ?_
      have hpd9 := pd_N (cx := [oX12 g0 m_refused m_kind m_figure m_weight m_got m_setting (nI n) msy mdn m_tape m_letter m_letterAt m_told tp mat stm m_kept him ki crs m_price m_offer m_gets m_yes m_buys m_ends m_carried m_row rm m_keptRow m_likeGets m_likePrice m_ahead, cI aC m_kind 9 kf, cI aC m_figure 9 ff, cI aC m_setting 5 stf]) hP hD [0, 1, 2, 3] (by decide) rfl
      have hP9 := hpd9.1
      have hD9 := hpd9.2
      refine W.widen (k := 0) (n := 0) (by omega) (by omega) ?_
      exact W.iret (v := nI (env (stf 2) s0)) hx hb hr (fun t ht hW => ⟨⟨(nI (env (stf 2) s0)), (), rfl, by have h8 : kk = 2 := (nI_eq (a := kk) (b := 2) (by omega) (by omega)).mp c_6; rw [h8]; rfl, by rw [ht]; exact hP9, va_K.moved hW.alike hK, hD9⟩, hS.F ht⟩) hS.2.2 dX12_priceOf_89
    by_cases c_7 : nI kk = 3
    · refine lv_tableIn (tgt := 82) hx hb dX12_priceOf_40 (by rw [c_7]; decide) (by rw [c_7]; decide) (by rw [c_7]; rfl) (by decide) ?_
      refine lv_iload_n hx hb dX12_priceOf_82 rfl (lv_at hl 2 rfl) ?_
      have hpd9 := pdf_N (cx := []) hP hD hS hA [] (by decide) rfl
      have hPc := hpd9.1
      have hDc := hpd9.2.1
      have hFc := hpd9.2.2
      clear hpd9
      refine va_calli (va_runS (As := [Value.int (iI s0)]) (rest := []) ⟨hx, hb, hml, hown, hts⟩ (c_X12_above_z l dC dI aC H.size s0 (by unfold sm; omega)) ⟨(callB_of 1 hts (gG kw_907) rfl rfl rfl (hts _ (gw kw_13 rfl)) (hts _ (gw kw_905 rfl)) hd_X12_above ⟨Nat.le_of_ble_eq_true rfl, Nat.le_of_ble_eq_true rfl⟩), (hts _ (gw kw_906 rfl))⟩ ⟨fb_std, pre_std hPc hK hDc hN⟩ rfl rfl hl.1 rfl (lv_room (Nat.le_of_ble_eq_true rfl)) dX12_priceOf_83 ⟨Nat.le_of_ble_eq_true rfl, Nat.le_of_ble_eq_true rfl⟩) hS (fun q _ h => hFc q h) hFc (fun x_8 u9 t9 H1 locs ht hvm hw_8 hB hz1 hk1 hS => ?_)
      obtain ⟨hP1, hK1, hD1⟩ := hB
      rw [ht] at hP1
      clear hK1
      try dsimp only at hw_8
      have hpd9 : PDx (dC, dI) classes A H1 [oX12 g0 m_refused m_kind m_figure m_weight m_got m_setting (nI n) msy mdn m_tape m_letter m_letterAt m_told tp mat stm m_kept him ki crs m_price m_offer m_gets m_yes m_buys m_ends m_carried m_row rm m_keptRow m_likeGets m_likePrice m_ahead, cI aC m_kind 9 kf, cI aC m_figure 9 ff, cI aC m_setting 5 stf] := jn_N (wr := [oX12 g0 m_refused m_kind m_figure m_weight m_got m_setting (nI n) msy mdn m_tape m_letter m_letterAt m_told tp mat stm m_kept him ki crs m_price m_offer m_gets m_yes m_buys m_ends m_carried m_row rm m_keptRow m_likeGets m_likePrice m_ahead, cI aC m_kind 9 kf, cI aC m_figure 9 ff, cI aC m_setting 5 stf]) hFc hk1 hP1 hD1 hP hD [] [0, 1, 2, 3] rfl rfl (by decide) (by decide)
      have hP := hpd9.1
      have hD := hpd9.2
      clear hpd9
      generalize H1 = H at hP hS ⊢
      clear hPc hDc hFc hz1 hk1 hP1 hD1 ht hvm
      have hz_83 := hw_8
      have hpd9 := pd_N (cx := [oX12 g0 m_refused m_kind m_figure m_weight m_got m_setting (nI n) msy mdn m_tape m_letter m_letterAt m_told tp mat stm m_kept him ki crs m_price m_offer m_gets m_yes m_buys m_ends m_carried m_row rm m_keptRow m_likeGets m_likePrice m_ahead, cI aC m_kind 9 kf, cI aC m_figure 9 ff, cI aC m_setting 5 stf]) hP hD [0, 1, 2, 3] (by decide) rfl
      have hP9 := hpd9.1
      have hD9 := hpd9.2
      refine W.widen (k := 0) (n := 0) (by omega) (by omega) ?_
      exact W.iret (v := x_8) hx hb hr (fun t ht hW => ⟨⟨x_8, (), rfl, by have h8 : kk = 1 ∨ kk = 3 := (by first | exact Or.inl ((nI_eq (a := kk) (b := 1) (by omega) (by omega)).mp c_7) | exact Or.inr ((nI_eq (a := kk) (b := 3) (by omega) (by omega)).mp c_7)); rw [hz_83]; rcases h8 with h8 | h8 <;> (rw [h8]; rfl), by rw [ht]; exact hP9, va_K.moved hW.alike hK, hD9⟩, hS.F ht⟩) hS.2.2 dX12_priceOf_86
    by_cases c_9 : nI kk = 4
    · refine lv_tableIn (tgt := 90) hx hb dX12_priceOf_40 (by rw [c_9]; decide) (by rw [c_9]; decide) (by rw [c_9]; rfl) (by decide) ?_
      refine lv_aload_n hx hb dX12_priceOf_90 rfl (lv_at hl 0 rfl) ?_
      refine va_get (D := (dC, dI)) (ci := 12) (v := Value.ref m_figure) (C := RX12) (T := TX12) (N := 33) hx hb hts inX12 hown hK hP 0 rfl rfl 2 (by decide) (hts _ (gw kw_719 rfl)) (fun _ h9 => h9) rfl dX12_priceOf_91 ?_
      refine lv_iload_n hx hb dX12_priceOf_94 rfl (lv_at hl 1 rfl) ?_
      have h_10 : vp_in (nI j) 9 := by first | exact vp_in_nI (by omega) (by omega) | (unfold vp_in; decide) | (subst_vars; first | (unfold vp_in; decide) | exact vp_in_nI (by omega) (by omega))
      refine va_iald hx hb hK hP 2 0 rfl rfl h_10 dX12_priceOf_95 ?_
      refine lv_topi (fun x_11 e_11 => ?_)
      have h9 : x_11 = nI fg := by rw [e_11, nI_clamp (by omega)]; exact hff
      subst h9
      have hpd9 := pd_N (cx := [oX12 g0 m_refused m_kind m_figure m_weight m_got m_setting (nI n) msy mdn m_tape m_letter m_letterAt m_told tp mat stm m_kept him ki crs m_price m_offer m_gets m_yes m_buys m_ends m_carried m_row rm m_keptRow m_likeGets m_likePrice m_ahead, cI aC m_kind 9 kf, cI aC m_figure 9 ff, cI aC m_setting 5 stf]) hP hD [0, 1, 2, 3] (by decide) rfl
      have hP9 := hpd9.1
      have hD9 := hpd9.2
      refine W.widen (k := 0) (n := 0) (by omega) (by omega) ?_
      exact W.iret (v := nI fg) hx hb hr (fun t ht hW => ⟨⟨(nI fg), (), rfl, by have h8 : kk = 4 := (nI_eq (a := kk) (b := 4) (by omega) (by omega)).mp c_9; rw [h8]; rfl, by rw [ht]; exact hP9, va_K.moved hW.alike hK, hD9⟩, hS.F ht⟩) hS.2.2 dX12_priceOf_96
    by_cases c_12 : nI kk = 5
    · refine lv_tableIn (tgt := 97) hx hb dX12_priceOf_40 (by rw [c_12]; decide) (by rw [c_12]; decide) (by rw [c_12]; rfl) (by decide) ?_
      refine lv_iload hx hb dX12_priceOf_97 (lv_at hl 4 rfl) ?_
      refine lv_aload_n hx hb dX12_priceOf_99 rfl (lv_at hl 0 rfl) ?_
      refine va_get (D := (dC, dI)) (ci := 12) (v := Value.ref m_figure) (C := RX12) (T := TX12) (N := 33) hx hb hts inX12 hown hK hP 0 rfl rfl 2 (by decide) (hts _ (gw kw_719 rfl)) (fun _ h9 => h9) rfl dX12_priceOf_100 ?_
      refine lv_iload_n hx hb dX12_priceOf_103 rfl (lv_at hl 1 rfl) ?_
      have h_13 : vp_in (nI j) 9 := by first | exact vp_in_nI (by omega) (by omega) | (unfold vp_in; decide) | (subst_vars; first | (unfold vp_in; decide) | exact vp_in_nI (by omega) (by omega))
      refine va_iald hx hb hK hP 2 0 rfl rfl h_13 dX12_priceOf_104 ?_
      refine lv_topi (fun x_14 e_14 => ?_)
      have h9 : x_14 = nI fg := by rw [e_14, nI_clamp (by omega)]; exact hff
      subst h9
      refine lv_iadd hx hb dX12_priceOf_105 ?_
      refine lv_topi (fun x_15 e_15 => ?_)
      have hpd9 := pd_N (cx := [oX12 g0 m_refused m_kind m_figure m_weight m_got m_setting (nI n) msy mdn m_tape m_letter m_letterAt m_told tp mat stm m_kept him ki crs m_price m_offer m_gets m_yes m_buys m_ends m_carried m_row rm m_keptRow m_likeGets m_likePrice m_ahead, cI aC m_kind 9 kf, cI aC m_figure 9 ff, cI aC m_setting 5 stf]) hP hD [0, 1, 2, 3] (by decide) rfl
      have hP9 := hpd9.1
      have hD9 := hpd9.2
      refine W.widen (k := 0) (n := 0) (by omega) (by omega) ?_
      exact W.iret (v := x_15) hx hb hr (fun t ht hW => ⟨⟨x_15, (), rfl, by have h8 : kk = 5 := (nI_eq (a := kk) (b := 5) (by omega) (by omega)).mp c_12; rw [e_15, nI_add, h8]; rfl, by rw [ht]; exact hP9, va_K.moved hW.alike hK, hD9⟩, hS.F ht⟩) hS.2.2 dX12_priceOf_106
    refine lv_tableOut (tgt := 107) hx hb dX12_priceOf_40 (sw_out6 c_3 c_4 c_6 c_7 c_9 c_12) (by decide) ?_
    refine lv_aload_n hx hb dX12_priceOf_107 rfl (lv_at hl 0 rfl) ?_
    refine va_get (D := (dC, dI)) (ci := 12) (v := Value.ref m_figure) (C := RX12) (T := TX12) (N := 33) hx hb hts inX12 hown hK hP 0 rfl rfl 2 (by decide) (hts _ (gw kw_719 rfl)) (fun _ h9 => h9) rfl dX12_priceOf_108 ?_
    refine lv_iload_n hx hb dX12_priceOf_111 rfl (lv_at hl 1 rfl) ?_
    have h_16 : vp_in (nI j) 9 := by first | exact vp_in_nI (by omega) (by omega) | (unfold vp_in; decide) | (subst_vars; first | (unfold vp_in; decide) | exact vp_in_nI (by omega) (by omega))
    refine va_iald hx hb hK hP 2 0 rfl rfl h_16 dX12_priceOf_112 ?_
    refine lv_topi (fun x_17 e_17 => ?_)
    have h9 : x_17 = nI fg := by rw [e_17, nI_clamp (by omega)]; exact hff
    subst h9
    refine lv_iconst (v := 2) hx hb dX12_priceOf_113 (by decide) ?_
    refine lv_idiv hx hb dX12_priceOf_114 (by decide) ?_
    refine lv_topi (fun x_18 e_18 => ?_)
    have hpd9 := pd_N (cx := [oX12 g0 m_refused m_kind m_figure m_weight m_got m_setting (nI n) msy mdn m_tape m_letter m_letterAt m_told tp mat stm m_kept him ki crs m_price m_offer m_gets m_yes m_buys m_ends m_carried m_row rm m_keptRow m_likeGets m_likePrice m_ahead, cI aC m_kind 9 kf, cI aC m_figure 9 ff, cI aC m_setting 5 stf]) hP hD [0, 1, 2, 3] (by decide) rfl
    have hP9 := hpd9.1
    have hD9 := hpd9.2
    refine W.widen (k := 0) (n := 0) (by omega) (by omega) ?_
    exact W.iret (v := x_18) hx hb hr (fun t ht hW => ⟨⟨x_18, (), rfl, by have h8 : kk = 6 := (by have a0 : ¬ kk = 0 := fun q => c_3 (by rw [q]; rfl); have a1 : ¬ kk = 1 := fun q => c_4 (by rw [q]; rfl); have a2 : ¬ kk = 2 := fun q => c_6 (by rw [q]; rfl); have a3 : ¬ kk = 3 := fun q => c_7 (by rw [q]; rfl); have a4 : ¬ kk = 4 := fun q => c_9 (by rw [q]; rfl); have a5 : ¬ kk = 5 := fun q => c_12 (by rw [q]; rfl); omega); rw [e_18, h8]; exact pk_div (d := 2) (by omega) (by omega) (by omega), by rw [ht]; exact hP9, va_K.moved hW.alike hK, hD9⟩, hS.F ht⟩) hS.2.2 dX12_priceOf_115
  refine lv_aload_n hx hb dX12_priceOf_0 rfl (lv_at hl 0 rfl) ?_
  refine va_get (D := (dC, dI)) (ci := 12) (v := Value.ref m_setting) (C := RX12) (T := TX12) (N := 33) hx hb hts inX12 hown hK hP 0 rfl rfl 5 (by decide) (hts _ (gw kw_722 rfl)) (fun _ h9 => h9) rfl dX12_priceOf_1 ?_
  refine lv_iconst (v := 2) hx hb dX12_priceOf_4 (by decide) ?_
  have h_19 : vp_in 2 5 := by first | exact vp_in_nI (by omega) (by omega) | (unfold vp_in; decide) | (subst_vars; first | (unfold vp_in; decide) | exact vp_in_nI (by omega) (by omega))
  refine va_iald hx hb hK hP 3 0 rfl rfl h_19 dX12_priceOf_5 ?_
  refine lv_topi (fun x_20 e_20 => ?_)
  have h9 : x_20 = (stf 2) := by rw [e_20]; rfl
  subst h9
  refine lv_iconst (v := 1) hx hb dX12_priceOf_6 (by decide) ?_
  refine lv_icmp_ne (tgt := 14) hx hb dX12_priceOf_7 (by decide) (fun c_21 => ?_) (fun c_21 => ?_)
  · refine lv_iload_n hx hb dX12_priceOf_14 rfl (lv_at hl 2 rfl) ?_
    refine lv_iconst (v := 1) hx hb dX12_priceOf_15 (by decide) ?_
    refine lv_iadd hx hb dX12_priceOf_16 ?_
    refine lv_topi (fun x_22 e_22 => ?_)
    have h9 : x_22 = iI (s0 + 1) := by rw [e_22, ← iI_1, iI_add]
    subst h9
    have hpd9 := pdf_N (cx := []) hP hD hS hA [] (by decide) rfl
    have hPc := hpd9.1
    have hDc := hpd9.2.1
    have hFc := hpd9.2.2
    clear hpd9
    refine va_calli (va_runS (As := [Value.int (iI (s0 + 1))]) (rest := []) ⟨hx, hb, hml, hown, hts⟩ (c_X12_above_z l dC dI aC H.size (s0 + 1) (by unfold sm; omega)) ⟨(callB_of 1 hts (gG kw_907) rfl rfl rfl (hts _ (gw kw_13 rfl)) (hts _ (gw kw_905 rfl)) hd_X12_above ⟨Nat.le_of_ble_eq_true rfl, Nat.le_of_ble_eq_true rfl⟩), (hts _ (gw kw_906 rfl))⟩ ⟨fb_std, pre_std hPc hK hDc hN⟩ rfl rfl hl.1 rfl (lv_room (Nat.le_of_ble_eq_true rfl)) dX12_priceOf_17 ⟨Nat.le_of_ble_eq_true rfl, Nat.le_of_ble_eq_true rfl⟩) hS (fun q _ h => hFc q h) hFc (fun x_23 u9 t9 H1 locs ht hvm hw_23 hB hz1 hk1 hS => ?_)
    obtain ⟨hP1, hK1, hD1⟩ := hB
    rw [ht] at hP1
    clear hK1
    try dsimp only at hw_23
    have hpd9 : PDx (dC, dI) classes A H1 [oX12 g0 m_refused m_kind m_figure m_weight m_got m_setting (nI n) msy mdn m_tape m_letter m_letterAt m_told tp mat stm m_kept him ki crs m_price m_offer m_gets m_yes m_buys m_ends m_carried m_row rm m_keptRow m_likeGets m_likePrice m_ahead, cI aC m_kind 9 kf, cI aC m_figure 9 ff, cI aC m_setting 5 stf] := jn_N (wr := [oX12 g0 m_refused m_kind m_figure m_weight m_got m_setting (nI n) msy mdn m_tape m_letter m_letterAt m_told tp mat stm m_kept him ki crs m_price m_offer m_gets m_yes m_buys m_ends m_carried m_row rm m_keptRow m_likeGets m_likePrice m_ahead, cI aC m_kind 9 kf, cI aC m_figure 9 ff, cI aC m_setting 5 stf]) hFc hk1 hP1 hD1 hP hD [] [0, 1, 2, 3] rfl rfl (by decide) (by decide)
    have hP := hpd9.1
    have hD := hpd9.2
    clear hpd9
    generalize H1 = H at hP hS ⊢
    clear hPc hDc hFc hz1 hk1 hP1 hD1 ht hvm
    have h9 : x_23 = nI (ask (stf 2) s0) := by rw [hw_23]; unfold ask; rw [if_neg c_21]
    subst h9
    refine lv_istore_n (lv' := [(3, Value.int (nI (ask (stf 2) s0))), (0, Value.ref g0), (1, Value.int (nI j)), (2, Value.int (iI s0))]) hx hb dX12_priceOf_20 rfl hl (by decide) rfl (fun ls hl => ?_)
    refine lv_iload_n hx hb dX12_priceOf_21 rfl (lv_at hl 3 rfl) ?_
    refine lv_if_lt (tgt := 31) hx hb dX12_priceOf_22 (by decide) (fun c_24 => ?_) (fun c_24 => ?_)
    · refine lv_iload_n hx hb dX12_priceOf_31 rfl (lv_at hl 0 rfl) ?_
      refine lv_topi (fun x_25 e_25 => ?_)
      have h9 : x_25 = nI (env (stf 2) s0) := by rw [e_25]; unfold env; rw [if_neg (by rw [← iI_0, iI_lt (by unfold sm; omega) sm0] at c_24; omega)]
      subst h9
      refine lv_istore (lv' := [(4, Value.int (nI (env (stf 2) s0))), (3, Value.int (nI (ask (stf 2) s0))), (0, Value.ref g0), (1, Value.int (nI j)), (2, Value.int (iI s0))]) hx hb dX12_priceOf_32 hl (by decide) rfl (fun ls hl => ?_)
      exact jp_34   _ _ _ (hP.sub [0, 1, 2, 3] rfl) (hD.sub [0, 1, 2, 3] (by decide) rfl) hS (lv_sub hl [2, 3, 4, 1, 0] rfl)
    · refine lv_iload_n hx hb dX12_priceOf_25 rfl (lv_at hl 0 rfl) ?_
      refine lv_iconst (v := 1) hx hb dX12_priceOf_26 (by decide) ?_
      refine lv_iadd hx hb dX12_priceOf_27 ?_
      refine lv_topi (fun x_26 e_26 => ?_)
      refine lv_goto (tgt := 32) hx hb dX12_priceOf_28 (by decide) ?_
      have h9 : x_26 = nI (env (stf 2) s0) := by rw [e_26, nI_1]; unfold env; rw [if_pos (by rw [← iI_0, iI_lt (by unfold sm; omega) sm0] at c_24; omega)]
      subst h9
      refine lv_istore (lv' := [(4, Value.int (nI (env (stf 2) s0))), (3, Value.int (nI (ask (stf 2) s0))), (0, Value.ref g0), (1, Value.int (nI j)), (2, Value.int (iI s0))]) hx hb dX12_priceOf_32 hl (by decide) rfl (fun ls hl => ?_)
      exact jp_34   _ _ _ (hP.sub [0, 1, 2, 3] rfl) (hD.sub [0, 1, 2, 3] (by decide) rfl) hS (lv_sub hl [2, 3, 4, 1, 0] rfl)
  · refine lv_iload_n hx hb dX12_priceOf_10 rfl (lv_at hl 2 rfl) ?_
    refine lv_goto (tgt := 17) hx hb dX12_priceOf_11 (by decide) ?_
    have hpd9 := pdf_N (cx := []) hP hD hS hA [] (by decide) rfl
    have hPc := hpd9.1
    have hDc := hpd9.2.1
    have hFc := hpd9.2.2
    clear hpd9
    refine va_calli (va_runS (As := [Value.int (iI s0)]) (rest := []) ⟨hx, hb, hml, hown, hts⟩ (c_X12_above_z l dC dI aC H.size s0 (by unfold sm; omega)) ⟨(callB_of 1 hts (gG kw_907) rfl rfl rfl (hts _ (gw kw_13 rfl)) (hts _ (gw kw_905 rfl)) hd_X12_above ⟨Nat.le_of_ble_eq_true rfl, Nat.le_of_ble_eq_true rfl⟩), (hts _ (gw kw_906 rfl))⟩ ⟨fb_std, pre_std hPc hK hDc hN⟩ rfl rfl hl.1 rfl (lv_room (Nat.le_of_ble_eq_true rfl)) dX12_priceOf_17 ⟨Nat.le_of_ble_eq_true rfl, Nat.le_of_ble_eq_true rfl⟩) hS (fun q _ h => hFc q h) hFc (fun x_27 u9 t9 H1 locs ht hvm hw_27 hB hz1 hk1 hS => ?_)
    obtain ⟨hP1, hK1, hD1⟩ := hB
    rw [ht] at hP1
    clear hK1
    try dsimp only at hw_27
    have hpd9 : PDx (dC, dI) classes A H1 [oX12 g0 m_refused m_kind m_figure m_weight m_got m_setting (nI n) msy mdn m_tape m_letter m_letterAt m_told tp mat stm m_kept him ki crs m_price m_offer m_gets m_yes m_buys m_ends m_carried m_row rm m_keptRow m_likeGets m_likePrice m_ahead, cI aC m_kind 9 kf, cI aC m_figure 9 ff, cI aC m_setting 5 stf] := jn_N (wr := [oX12 g0 m_refused m_kind m_figure m_weight m_got m_setting (nI n) msy mdn m_tape m_letter m_letterAt m_told tp mat stm m_kept him ki crs m_price m_offer m_gets m_yes m_buys m_ends m_carried m_row rm m_keptRow m_likeGets m_likePrice m_ahead, cI aC m_kind 9 kf, cI aC m_figure 9 ff, cI aC m_setting 5 stf]) hFc hk1 hP1 hD1 hP hD [] [0, 1, 2, 3] rfl rfl (by decide) (by decide)
    have hP := hpd9.1
    have hD := hpd9.2
    clear hpd9
    generalize H1 = H at hP hS ⊢
    clear hPc hDc hFc hz1 hk1 hP1 hD1 ht hvm
    have h9 : x_27 = nI (ask (stf 2) s0) := by rw [hw_27]; unfold ask; rw [if_pos c_21]
    subst h9
    refine lv_istore_n (lv' := [(3, Value.int (nI (ask (stf 2) s0))), (0, Value.ref g0), (1, Value.int (nI j)), (2, Value.int (iI s0))]) hx hb dX12_priceOf_20 rfl hl (by decide) rfl (fun ls hl => ?_)
    refine lv_iload_n hx hb dX12_priceOf_21 rfl (lv_at hl 3 rfl) ?_
    refine lv_if_lt (tgt := 31) hx hb dX12_priceOf_22 (by decide) (fun c_28 => ?_) (fun c_28 => ?_)
    · refine lv_iload_n hx hb dX12_priceOf_31 rfl (lv_at hl 0 rfl) ?_
      refine lv_topi (fun x_29 e_29 => ?_)
      have h9 : x_29 = nI (env (stf 2) s0) := by rw [e_29]; unfold env; rw [if_neg (by rw [← iI_0, iI_lt (by unfold sm; omega) sm0] at c_28; omega)]
      subst h9
      refine lv_istore (lv' := [(4, Value.int (nI (env (stf 2) s0))), (3, Value.int (nI (ask (stf 2) s0))), (0, Value.ref g0), (1, Value.int (nI j)), (2, Value.int (iI s0))]) hx hb dX12_priceOf_32 hl (by decide) rfl (fun ls hl => ?_)
      exact jp_34   _ _ _ (hP.sub [0, 1, 2, 3] rfl) (hD.sub [0, 1, 2, 3] (by decide) rfl) hS (lv_sub hl [2, 3, 4, 1, 0] rfl)
    · refine lv_iload_n hx hb dX12_priceOf_25 rfl (lv_at hl 0 rfl) ?_
      refine lv_iconst (v := 1) hx hb dX12_priceOf_26 (by decide) ?_
      refine lv_iadd hx hb dX12_priceOf_27 ?_
      refine lv_topi (fun x_30 e_30 => ?_)
      refine lv_goto (tgt := 32) hx hb dX12_priceOf_28 (by decide) ?_
      have h9 : x_30 = nI (env (stf 2) s0) := by rw [e_30, nI_1]; unfold env; rw [if_pos (by rw [← iI_0, iI_lt (by unfold sm; omega) sm0] at c_28; omega)]
      subst h9
      refine lv_istore (lv' := [(4, Value.int (nI (env (stf 2) s0))), (3, Value.int (nI (ask (stf 2) s0))), (0, Value.ref g0), (1, Value.int (nI j)), (2, Value.int (iI s0))]) hx hb dX12_priceOf_32 hl (by decide) rfl (fun ls hl => ?_)
      exact jp_34   _ _ _ (hP.sub [0, 1, 2, 3] rfl) (hD.sub [0, 1, 2, 3] (by decide) rfl) hS (lv_sub hl [2, 3, 4, 1, 0] rfl)

set_option maxHeartbeats 1000000 in
set_option maxRecDepth 100000 in
/-- X12_costOf -/
theorem c_X12_costOf (l : Launch) (dC : Nat → ClassId) (dI : Nat → Nat → Nat) (aC : Nat → ClassId) (sz : Nat) (g0 : Nat) (m_refused : Nat) (m_kind : Nat) (m_figure : Nat) (m_weight : Nat) (m_got : Nat) (m_setting : Nat) (m_tape : Nat) (m_letter : Nat) (m_letterAt : Nat) (m_told : Nat) (m_kept : Nat) (m_price : Nat) (m_offer : Nat) (m_gets : Nat) (m_yes : Nat) (m_buys : Nat) (m_ends : Nat) (m_carried : Nat) (m_row : Nat) (m_keptRow : Nat) (m_likeGets : Nat) (m_likePrice : Nat) (m_ahead : Nat) (msy : Int32) (mdn : Int32) (tp : Int32) (mat : Int32) (stm : Int32) (him : Int32) (ki : Int32) (crs : Int32) (rm : Int32) (n : Nat) (pf : Nat → Int32) (Pq : Nat → Nat) (i : Nat) (y : Int32) (hi : i < n ∧ n ≤ 8) (hPq : ∀ q, i < q → q < n → pf (9 * i + q) = nI (Pq q) ∧ Pq q ≤ 110) : Met l yX12_costOf (wW yX12_costOf cX12_costOf 5 (some .int)) ({ frames := 0, cells := 0, slots := 0, locals := 0 } : Room) (va_Pc [Value.ref g0, Value.int (nI i), Value.int y] (fun U => U.heap.size = sz ∧ va_P (dC, dI) classes [oX12 g0 m_refused m_kind m_figure m_weight m_got m_setting (nI n) msy mdn m_tape m_letter m_letterAt m_told tp mat stm m_kept him ki crs m_price m_offer m_gets m_yes m_buys m_ends m_carried m_row rm m_keptRow m_likeGets m_likePrice m_ahead, cI aC m_price 81 pf] U.heap ∧ va_K (dC, dI) classes (TY aC) U ∧ va_D (fun _ => True) [oX12 g0 m_refused m_kind m_figure m_weight m_got m_setting (nI n) msy mdn m_tape m_letter m_letterAt m_told tp mat stm m_kept him ki crs m_price m_offer m_gets m_yes m_buys m_ends m_carried m_row rm m_keptRow m_likeGets m_likePrice m_ahead, cI aC m_price 81 pf] ∧ NX U)) (va_Qi (fun (r : Int32) (_ : Unit) => r = nI (yw Pq y (i + 1) (n - 1 - i))) (fun (_ : Unit) (t : State) => va_P (dC, dI) classes [oX12 g0 m_refused m_kind m_figure m_weight m_got m_setting (nI n) msy mdn m_tape m_letter m_letterAt m_told tp mat stm m_kept him ki crs m_price m_offer m_gets m_yes m_buys m_ends m_carried m_row rm m_keptRow m_likeGets m_likePrice m_ahead, cI aC m_price 81 pf] t.heap ∧ va_K (dC, dI) classes (TY aC) t ∧ va_D (va_A [oX12 g0 m_refused m_kind m_figure m_weight m_got m_setting (nI n) msy mdn m_tape m_letter m_letterAt m_told tp mat stm m_kept him ki crs m_price m_offer m_gets m_yes m_buys m_ends m_carried m_row rm m_keptRow m_likeGets m_likePrice m_ahead, cI aC m_price 81 pf] sz) [oX12 g0 m_refused m_kind m_figure m_weight m_got m_setting (nI n) msy mdn m_tape m_letter m_letterAt m_told tp mat stm m_kept him ki crs m_price m_offer m_gets m_yes m_buys m_ends m_carried m_row rm m_keptRow m_likeGets m_likePrice m_ahead, cI aC m_price 81 pf]) (va_A [oX12 g0 m_refused m_kind m_figure m_weight m_got m_setting (nI n) msy mdn m_tape m_letter m_letterAt m_told tp mat stm m_kept him ki crs m_price m_offer m_gets m_yes m_buys m_ends m_carried m_row rm m_keptRow m_likeGets m_likePrice m_ahead, cI aC m_price 81 pf] sz)) 0 0 (va_A [oX12 g0 m_refused m_kind m_figure m_weight m_got m_setting (nI n) msy mdn m_tape m_letter m_letterAt m_told tp mat stm m_kept him ki crs m_price m_offer m_gets m_yes m_buys m_ends m_carried m_row rm m_keptRow m_likeGets m_likePrice m_ahead, cI aC m_price 81 pf] sz) := by
  refine Met.ofW (cc := cX12_costOf) (maxL := 5) (ret := (some .int)) (by decide) rfl ?_
  intro p e s m args below meth c s₁ B hml hv
  obtain ⟨rfl, hsz, hP, hK, hD0, hN⟩ := hv
  have hx := B.exec
  have hb := B.bytes
  have hr := B.returns
  have hts0 := atoms_spec (ws := (wW yX12_costOf cX12_costOf 5 (some .int))) B.pre
  have hts : ∀ w9 ∈ lw_G, w9.before ([Value.ref g0, Value.int (nI i), Value.int y] : List Value).toArray s = true := fun w9 h9 => hts0 w9 (List.mem_cons_of_mem _ h9)
  have hown : s.vm.findClass RX12 = some m.cls := findClass_of_methodNamed (x := yX12_costOf) B.named
  have hlocks := B.notSynchronized
  subst hsz
  have hD := hD0.self (sz := s.heap.size)
  generalize hAe : va_A [oX12 g0 m_refused m_kind m_figure m_weight m_got m_setting (nI n) msy mdn m_tape m_letter m_letterAt m_told tp mat stm m_kept him ki crs m_price m_offer m_gets m_yes m_buys m_ends m_carried m_row rm m_keptRow m_likeGets m_likePrice m_ahead, cI aC m_price 81 pf] s.heap.size = A at hD ⊢
  have hA : ∀ q : Nat, s.heap.size ≤ q → A q := fun q h => by rw [← hAe]; exact Or.inr h
  obtain ⟨H, hHe⟩ : ∃ H : Heap, H = s.heap := ⟨_, rfl⟩
  have hS : va_S A s.heap H [] := by rw [hHe]; exact va_S.rf
  have hP : va_P (dC, dI) classes [oX12 g0 m_refused m_kind m_figure m_weight m_got m_setting (nI n) msy mdn m_tape m_letter m_letterAt m_told tp mat stm m_kept him ki crs m_price m_offer m_gets m_yes m_buys m_ends m_carried m_row rm m_keptRow m_likeGets m_likePrice m_ahead, cI aC m_price 81 pf] H := by rw [hHe]; exact hP
  have hl := lv_entry ([Value.ref g0, Value.int (nI i), Value.int y]) (n := 5) (Nat.le_of_ble_eq_true rfl)
  rw [lg_entry_eq]
  generalize (lg_sl ([Value.ref g0, Value.int (nI i), Value.int y]) ++ List.replicate (5 - (lg_sl ([Value.ref g0, Value.int (nI i), Value.int y])).length) Slot.unset).toArray = ls at hl ⊢
  have hl : lv_has ls 5 [(0, Value.ref g0), (1, Value.int (nI i)), (2, Value.int y)] := hl
  rw [← hHe]
  refine lv_iconst (v := 0) hx hb dX12_costOf_0 (by decide) ?_
  refine lv_topi (fun x_1 e_1 => ?_)
  have h9 : x_1 = nI (yw Pq y (i + 1) (i + 1 - (i + 1))) := by rw [e_1, Nat.sub_self]; rfl
  subst h9
  refine lv_istore_n (lv' := [(3, Value.int (nI (yw Pq y (i + 1) (i + 1 - (i + 1))))), (0, Value.ref g0), (1, Value.int (nI i)), (2, Value.int y)]) hx hb dX12_costOf_1 rfl hl (by decide) rfl (fun ls hl => ?_)
  refine lv_iload_n hx hb dX12_costOf_2 rfl (lv_at hl 2 rfl) ?_
  refine lv_iconst (v := 1) hx hb dX12_costOf_3 (by decide) ?_
  refine lv_iadd hx hb dX12_costOf_4 ?_
  refine lv_topi (fun x_2 e_2 => ?_)
  refine lv_istore (lv' := [(4, Value.int x_2), (3, Value.int (nI (yw Pq y (i + 1) (i + 1 - (i + 1))))), (0, Value.ref g0), (1, Value.int (nI i)), (2, Value.int y)]) hx hb dX12_costOf_5 hl (by decide) rfl (fun ls hl => ?_)
  have h9 : x_2 = nI (i + 1) := by rw [e_2, nI_1]
  subst h9
  have lp_7 : ∀ (fu : Nat) (j : Nat) (hfu : n - j < fu) (hj : i < j ∧ j ≤ n) (H : Heap) (locs : List Loc) (ls : Array Slot), va_P (dC, dI) classes [oX12 g0 m_refused m_kind m_figure m_weight m_got m_setting (nI n) msy mdn m_tape m_letter m_letterAt m_told tp mat stm m_kept him ki crs m_price m_offer m_gets m_yes m_buys m_ends m_carried m_row rm m_keptRow m_likeGets m_likePrice m_ahead, cI aC m_price 81 pf] H → va_D A [oX12 g0 m_refused m_kind m_figure m_weight m_got m_setting (nI n) msy mdn m_tape m_letter m_letterAt m_told tp mat stm m_kept him ki crs m_price m_offer m_gets m_yes m_buys m_ends m_carried m_row rm m_keptRow m_likeGets m_likePrice m_ahead, cI aC m_price 81 pf] → va_S A s.heap H locs → lv_has ls 5 [(0, Value.ref g0), (1, Value.int (nI i)), (2, Value.int y), (3, Value.int (nI (yw Pq y (i + 1) (j - (i + 1))))), (4, Value.int (nI j))] → W p l e (headSpec (wW yX12_costOf cX12_costOf 5 (some .int)) ({ frames := 0, cells := 0, slots := 0, locals := 0 } : Room)).room s m ([Value.ref g0, Value.int (nI i), Value.int y] : List Value).toArray below meth c H locs 0 0 (MQ below (va_Qi (fun (r : Int32) (_ : Unit) => r = nI (yw Pq y (i + 1) (n - 1 - i))) (fun (_ : Unit) (t : State) => va_P (dC, dI) classes [oX12 g0 m_refused m_kind m_figure m_weight m_got m_setting (nI n) msy mdn m_tape m_letter m_letterAt m_told tp mat stm m_kept him ki crs m_price m_offer m_gets m_yes m_buys m_ends m_carried m_row rm m_keptRow m_likeGets m_likePrice m_ahead, cI aC m_price 81 pf] t.heap ∧ va_K (dC, dI) classes (TY aC) t ∧ va_D A [oX12 g0 m_refused m_kind m_figure m_weight m_got m_setting (nI n) msy mdn m_tape m_letter m_letterAt m_told tp mat stm m_kept him ki crs m_price m_offer m_gets m_yes m_buys m_ends m_carried m_row rm m_keptRow m_likeGets m_likePrice m_ahead, cI aC m_price 81 pf]) A) ([Value.ref g0, Value.int (nI i), Value.int y] : List Value).toArray s 0 0 A) (F0 m 7 ls []) := by
    intro fu
    induction fu with
    | zero => intro j hfu; exact absurd hfu (Nat.not_lt_zero _)
    | succ fu ih_7 =>
      intro j hfu hj H locs ls hP hD hS hl
      refine lv_iload hx hb dX12_costOf_7 (lv_at hl 4 rfl) ?_
      refine lv_aload_n hx hb dX12_costOf_9 rfl (lv_at hl 0 rfl) ?_
      refine va_get (D := (dC, dI)) (ci := 12) (v := Value.int (nI n)) (C := RX12) (T := TX12) (N := 33) hx hb hts inX12 hown hK hP 0 rfl rfl 6 (by decide) (hts _ (gw kw_723 rfl)) (fun _ h9 => h9) rfl dX12_costOf_10 ?_
      refine lv_icmp_ge (tgt := 44) hx hb dX12_costOf_13 (by decide) (fun c_3 => ?_) (fun c_3 => ?_)
      · have hjn : j = n := by
          rcases Nat.lt_or_ge j n with q | q
          · exact absurd c_3 (nI_ge q (by omega))
          · omega
        refine lv_iload_n hx hb dX12_costOf_44 rfl (lv_at hl 3 rfl) ?_
        have hpd9 := pd_N (cx := [oX12 g0 m_refused m_kind m_figure m_weight m_got m_setting (nI n) msy mdn m_tape m_letter m_letterAt m_told tp mat stm m_kept him ki crs m_price m_offer m_gets m_yes m_buys m_ends m_carried m_row rm m_keptRow m_likeGets m_likePrice m_ahead, cI aC m_price 81 pf]) hP hD [0, 1] (by decide) rfl
        have hP9 := hpd9.1
        have hD9 := hpd9.2
        refine W.widen (k := 0) (n := 0) (by omega) (by omega) ?_
        exact W.iret (v := nI (yw Pq y (i + 1) (j - (i + 1)))) hx hb hr (fun t ht hW => ⟨⟨(nI (yw Pq y (i + 1) (j - (i + 1)))), (), rfl, by rw [hjn, show n - (i + 1) = n - 1 - i by omega], by rw [ht]; exact hP9, va_K.moved hW.alike hK, hD9⟩, hS.F ht⟩) hS.2.2 dX12_costOf_45
      · have hlt : j < n := by
          rcases Nat.lt_or_ge j n with q | q
          · exact q
          · exact absurd (nI_le q (by omega)) c_3
        refine lv_iload_n hx hb dX12_costOf_16 rfl (lv_at hl 3 rfl) ?_
        refine lv_iload_n hx hb dX12_costOf_17 rfl (lv_at hl 2 rfl) ?_
        refine lv_iload hx hb dX12_costOf_18 (lv_at hl 4 rfl) ?_
        refine lv_ishr hx hb dX12_costOf_20 ?_
        refine lv_topi (fun x_4 e_4 => ?_)
        refine lv_iconst (v := 1) hx hb dX12_costOf_21 (by decide) ?_
        refine lv_iand hx hb dX12_costOf_22 ?_
        refine lv_topi (fun x_5 e_5 => ?_)
        refine lv_aload_n hx hb dX12_costOf_23 rfl (lv_at hl 0 rfl) ?_
        refine va_get (D := (dC, dI)) (ci := 12) (v := Value.ref m_price) (C := RX12) (T := TX12) (N := 33) hx hb hts inX12 hown hK hP 0 rfl rfl 20 (by decide) (hts _ (gw kw_737 rfl)) (fun _ h9 => h9) rfl dX12_costOf_24 ?_
        refine lv_bipush (v := 9) hx hb dX12_costOf_27 (by decide) ?_
        refine lv_iload_n hx hb dX12_costOf_29 rfl (lv_at hl 1 rfl) ?_
        refine lv_imul hx hb dX12_costOf_30 ?_
        refine lv_topi (fun x_6 e_6 => ?_)
        have h9 : x_6 = nI (9 * i) := by rw [e_6]; exact pk_mul 9 i
        subst h9
        refine lv_iload hx hb dX12_costOf_31 (lv_at hl 4 rfl) ?_
        refine lv_iadd hx hb dX12_costOf_33 ?_
        refine lv_topi (fun x_7 e_7 => ?_)
        have h9 : x_7 = nI (9 * i + j) := by rw [e_7, nI_add]
        subst h9
        have h_8 : vp_in (nI (9 * i + j)) 81 := by first | exact vp_in_nI (by omega) (by omega) | (unfold vp_in; decide) | (subst_vars; first | (unfold vp_in; decide) | exact vp_in_nI (by omega) (by omega))
        refine va_iald hx hb hK hP 1 0 rfl rfl h_8 dX12_costOf_34 ?_
        refine lv_topi (fun x_9 e_9 => ?_)
        have h9 : x_9 = nI (Pq j) := by rw [e_9, nI_clamp (by omega)]; exact (hPq j hj.1 hlt).1
        subst h9
        refine lv_imul hx hb dX12_costOf_35 ?_
        refine lv_topi (fun x_10 e_10 => ?_)
        have h9 : x_10 = nI (if bt y j = true then Pq j else 0) := by rw [e_10, e_5, e_4]; exact b_mul (by omega)
        subst h9
        refine lv_iadd hx hb dX12_costOf_36 ?_
        refine lv_topi (fun x_11 e_11 => ?_)
        have h9 : x_11 = nI (yw Pq y (i + 1) (j + 1 - (i + 1))) := by rw [e_11, nI_add, yw_suc hj.1]
        subst h9
        refine lv_istore_n (lv' := [(3, Value.int (nI (yw Pq y (i + 1) (j + 1 - (i + 1))))), (0, Value.ref g0), (1, Value.int (nI i)), (2, Value.int y), (4, Value.int (nI j))]) hx hb dX12_costOf_37 rfl hl (by decide) rfl (fun ls hl => ?_)
        obtain ⟨x_12, e_12⟩ : ∃ y : Int32, y = (nI j) + 1 := ⟨_, rfl⟩
        refine lv_iinc (v := x_12) (lv' := [(4, Value.int x_12), (3, Value.int (nI (yw Pq y (i + 1) (j + 1 - (i + 1))))), (0, Value.ref g0), (1, Value.int (nI i)), (2, Value.int y)]) hx hb dX12_costOf_38 hl (k := 4) rfl (by rw [e_12]; rfl) (by decide) rfl (fun ls hl => ?_)
        have h9 : x_12 = nI (j + 1) := by rw [e_12, nI_1]
        subst h9
        refine lv_goto (tgt := 7) hx hb dX12_costOf_41 (by decide) ?_
        exact ih_7 (j + 1) (ms_lt hlt hfu) (by omega) _ _ _ (hP.sub [0, 1] rfl) (hD.sub [0, 1] (by decide) rfl) hS (lv_sub hl [2, 3, 4, 1, 0] rfl)
  exact lp_7 ((n - (i + 1)) + 1) (i + 1) (Nat.lt_succ_self _) (by omega) _ _ _ (hP.sub [0, 1] rfl) (hD.sub [0, 1] (by decide) rfl) hS (lv_sub hl [2, 3, 4, 1, 0] rfl)

set_option maxHeartbeats 1000000 in
set_option maxRecDepth 100000 in
/-- X12_unbought -/
theorem c_X12_unbought (l : Launch) (dC : Nat → ClassId) (dI : Nat → Nat → Nat) (aC : Nat → ClassId) (sz : Nat) (g0 : Nat) (m_refused : Nat) (m_kind : Nat) (m_figure : Nat) (m_weight : Nat) (m_got : Nat) (m_setting : Nat) (m_tape : Nat) (m_letter : Nat) (m_letterAt : Nat) (m_told : Nat) (m_kept : Nat) (m_price : Nat) (m_offer : Nat) (m_gets : Nat) (m_yes : Nat) (m_buys : Nat) (m_ends : Nat) (m_carried : Nat) (m_row : Nat) (m_keptRow : Nat) (m_likeGets : Nat) (m_likePrice : Nat) (m_ahead : Nat) (msy : Int32) (mdn : Int32) (tp : Int32) (mat : Int32) (stm : Int32) (him : Int32) (ki : Int32) (crs : Int32) (rm : Int32) (n : Nat) (pf : Nat → Int32) (Pq : Nat → Nat) (i : Nat) (hi : i < n ∧ n ≤ 8) (hPq : ∀ q, i < q → q < n → pf (9 * i + q) = nI (Pq q) ∧ Pq q ≤ 110) : Met l yX12_unbought (wW yX12_unbought cX12_unbought 4 (some .int)) ({ frames := 0, cells := 0, slots := 0, locals := 0 } : Room) (va_Pc [Value.ref g0, Value.int (nI i)] (fun U => U.heap.size = sz ∧ va_P (dC, dI) classes [oX12 g0 m_refused m_kind m_figure m_weight m_got m_setting (nI n) msy mdn m_tape m_letter m_letterAt m_told tp mat stm m_kept him ki crs m_price m_offer m_gets m_yes m_buys m_ends m_carried m_row rm m_keptRow m_likeGets m_likePrice m_ahead, cI aC m_price 81 pf] U.heap ∧ va_K (dC, dI) classes (TY aC) U ∧ va_D (fun _ => True) [oX12 g0 m_refused m_kind m_figure m_weight m_got m_setting (nI n) msy mdn m_tape m_letter m_letterAt m_told tp mat stm m_kept him ki crs m_price m_offer m_gets m_yes m_buys m_ends m_carried m_row rm m_keptRow m_likeGets m_likePrice m_ahead, cI aC m_price 81 pf] ∧ NX U)) (va_Qi (fun (r : Int32) (_ : Unit) => ∀ b, b < 32 → bt r b = decide (i < b ∧ b < n ∧ Pq b = 0)) (fun (_ : Unit) (t : State) => va_P (dC, dI) classes [oX12 g0 m_refused m_kind m_figure m_weight m_got m_setting (nI n) msy mdn m_tape m_letter m_letterAt m_told tp mat stm m_kept him ki crs m_price m_offer m_gets m_yes m_buys m_ends m_carried m_row rm m_keptRow m_likeGets m_likePrice m_ahead, cI aC m_price 81 pf] t.heap ∧ va_K (dC, dI) classes (TY aC) t ∧ va_D (va_A [oX12 g0 m_refused m_kind m_figure m_weight m_got m_setting (nI n) msy mdn m_tape m_letter m_letterAt m_told tp mat stm m_kept him ki crs m_price m_offer m_gets m_yes m_buys m_ends m_carried m_row rm m_keptRow m_likeGets m_likePrice m_ahead, cI aC m_price 81 pf] sz) [oX12 g0 m_refused m_kind m_figure m_weight m_got m_setting (nI n) msy mdn m_tape m_letter m_letterAt m_told tp mat stm m_kept him ki crs m_price m_offer m_gets m_yes m_buys m_ends m_carried m_row rm m_keptRow m_likeGets m_likePrice m_ahead, cI aC m_price 81 pf]) (va_A [oX12 g0 m_refused m_kind m_figure m_weight m_got m_setting (nI n) msy mdn m_tape m_letter m_letterAt m_told tp mat stm m_kept him ki crs m_price m_offer m_gets m_yes m_buys m_ends m_carried m_row rm m_keptRow m_likeGets m_likePrice m_ahead, cI aC m_price 81 pf] sz)) 0 0 (va_A [oX12 g0 m_refused m_kind m_figure m_weight m_got m_setting (nI n) msy mdn m_tape m_letter m_letterAt m_told tp mat stm m_kept him ki crs m_price m_offer m_gets m_yes m_buys m_ends m_carried m_row rm m_keptRow m_likeGets m_likePrice m_ahead, cI aC m_price 81 pf] sz) := by
  refine Met.ofW (cc := cX12_unbought) (maxL := 4) (ret := (some .int)) (by decide) rfl ?_
  intro p e s m args below meth c s₁ B hml hv
  obtain ⟨rfl, hsz, hP, hK, hD0, hN⟩ := hv
  have hx := B.exec
  have hb := B.bytes
  have hr := B.returns
  have hts0 := atoms_spec (ws := (wW yX12_unbought cX12_unbought 4 (some .int))) B.pre
  have hts : ∀ w9 ∈ lw_G, w9.before ([Value.ref g0, Value.int (nI i)] : List Value).toArray s = true := fun w9 h9 => hts0 w9 (List.mem_cons_of_mem _ h9)
  have hown : s.vm.findClass RX12 = some m.cls := findClass_of_methodNamed (x := yX12_unbought) B.named
  have hlocks := B.notSynchronized
  subst hsz
  have hD := hD0.self (sz := s.heap.size)
  generalize hAe : va_A [oX12 g0 m_refused m_kind m_figure m_weight m_got m_setting (nI n) msy mdn m_tape m_letter m_letterAt m_told tp mat stm m_kept him ki crs m_price m_offer m_gets m_yes m_buys m_ends m_carried m_row rm m_keptRow m_likeGets m_likePrice m_ahead, cI aC m_price 81 pf] s.heap.size = A at hD ⊢
  have hA : ∀ q : Nat, s.heap.size ≤ q → A q := fun q h => by rw [← hAe]; exact Or.inr h
  obtain ⟨H, hHe⟩ : ∃ H : Heap, H = s.heap := ⟨_, rfl⟩
  have hS : va_S A s.heap H [] := by rw [hHe]; exact va_S.rf
  have hP : va_P (dC, dI) classes [oX12 g0 m_refused m_kind m_figure m_weight m_got m_setting (nI n) msy mdn m_tape m_letter m_letterAt m_told tp mat stm m_kept him ki crs m_price m_offer m_gets m_yes m_buys m_ends m_carried m_row rm m_keptRow m_likeGets m_likePrice m_ahead, cI aC m_price 81 pf] H := by rw [hHe]; exact hP
  have hl := lv_entry ([Value.ref g0, Value.int (nI i)]) (n := 4) (Nat.le_of_ble_eq_true rfl)
  rw [lg_entry_eq]
  generalize (lg_sl ([Value.ref g0, Value.int (nI i)]) ++ List.replicate (4 - (lg_sl ([Value.ref g0, Value.int (nI i)])).length) Slot.unset).toArray = ls at hl ⊢
  have hl : lv_has ls 4 [(0, Value.ref g0), (1, Value.int (nI i))] := hl
  rw [← hHe]
  refine lv_iconst (v := 0) hx hb dX12_unbought_0 (by decide) ?_
  refine lv_istore_n (lv' := [(2, Value.int 0), (0, Value.ref g0), (1, Value.int (nI i))]) hx hb dX12_unbought_1 rfl hl (by decide) rfl (fun ls hl => ?_)
  refine lv_iload_n hx hb dX12_unbought_2 rfl (lv_at hl 2 rfl) ?_
  refine lv_iconst (v := 1) hx hb dX12_unbought_3 (by decide) ?_
  refine lv_iadd hx hb dX12_unbought_4 ?_
  refine lv_topi (fun x_1 e_1 => ?_)
  refine lv_istore_n (lv' := [(3, Value.int x_1), (2, Value.int 0), (0, Value.ref g0), (1, Value.int (nI i))]) hx hb dX12_unbought_5 rfl hl (by decide) rfl (fun ls hl => ?_)
  have h9 : x_1 = nI (i + 1) := by rw [e_1, nI_1]
  subst h9
  have lp_6 : ∀ (fu : Nat) (j : Nat) (x2 : Int32) (hfu : n - j < fu) (hj : i < j ∧ j ≤ n) (hx2 : ∀ b, b < 32 → bt x2 b = decide (i < b ∧ b < j ∧ Pq b = 0)) (H : Heap) (locs : List Loc) (ls : Array Slot), va_P (dC, dI) classes [oX12 g0 m_refused m_kind m_figure m_weight m_got m_setting (nI n) msy mdn m_tape m_letter m_letterAt m_told tp mat stm m_kept him ki crs m_price m_offer m_gets m_yes m_buys m_ends m_carried m_row rm m_keptRow m_likeGets m_likePrice m_ahead, cI aC m_price 81 pf] H → va_D A [oX12 g0 m_refused m_kind m_figure m_weight m_got m_setting (nI n) msy mdn m_tape m_letter m_letterAt m_told tp mat stm m_kept him ki crs m_price m_offer m_gets m_yes m_buys m_ends m_carried m_row rm m_keptRow m_likeGets m_likePrice m_ahead, cI aC m_price 81 pf] → va_S A s.heap H locs → lv_has ls 4 [(0, Value.ref g0), (1, Value.int (nI i)), (2, Value.int x2), (3, Value.int (nI j))] → W p l e (headSpec (wW yX12_unbought cX12_unbought 4 (some .int)) ({ frames := 0, cells := 0, slots := 0, locals := 0 } : Room)).room s m ([Value.ref g0, Value.int (nI i)] : List Value).toArray below meth c H locs 0 0 (MQ below (va_Qi (fun (r : Int32) (_ : Unit) => ∀ b, b < 32 → bt r b = decide (i < b ∧ b < n ∧ Pq b = 0)) (fun (_ : Unit) (t : State) => va_P (dC, dI) classes [oX12 g0 m_refused m_kind m_figure m_weight m_got m_setting (nI n) msy mdn m_tape m_letter m_letterAt m_told tp mat stm m_kept him ki crs m_price m_offer m_gets m_yes m_buys m_ends m_carried m_row rm m_keptRow m_likeGets m_likePrice m_ahead, cI aC m_price 81 pf] t.heap ∧ va_K (dC, dI) classes (TY aC) t ∧ va_D A [oX12 g0 m_refused m_kind m_figure m_weight m_got m_setting (nI n) msy mdn m_tape m_letter m_letterAt m_told tp mat stm m_kept him ki crs m_price m_offer m_gets m_yes m_buys m_ends m_carried m_row rm m_keptRow m_likeGets m_likePrice m_ahead, cI aC m_price 81 pf]) A) ([Value.ref g0, Value.int (nI i)] : List Value).toArray s 0 0 A) (F0 m 6 ls []) := by
    intro fu
    induction fu with
    | zero => intro j x2 hfu; exact absurd hfu (Nat.not_lt_zero _)
    | succ fu ih_6 =>
      intro j x2 hfu hj hx2 H locs ls hP hD hS hl
      refine lv_iload_n hx hb dX12_unbought_6 rfl (lv_at hl 3 rfl) ?_
      refine lv_aload_n hx hb dX12_unbought_7 rfl (lv_at hl 0 rfl) ?_
      refine va_get (D := (dC, dI)) (ci := 12) (v := Value.int (nI n)) (C := RX12) (T := TX12) (N := 33) hx hb hts inX12 hown hK hP 0 rfl rfl 6 (by decide) (hts _ (gw kw_723 rfl)) (fun _ h9 => h9) rfl dX12_unbought_8 ?_
      refine lv_icmp_ge (tgt := 44) hx hb dX12_unbought_11 (by decide) (fun c_2 => ?_) (fun c_2 => ?_)
      · have hjn : j = n := by
          rcases Nat.lt_or_ge j n with q | q
          · exact absurd c_2 (nI_ge q (by omega))
          · omega
        refine lv_iload_n hx hb dX12_unbought_44 rfl (lv_at hl 2 rfl) ?_
        have hpd9 := pd_N (cx := [oX12 g0 m_refused m_kind m_figure m_weight m_got m_setting (nI n) msy mdn m_tape m_letter m_letterAt m_told tp mat stm m_kept him ki crs m_price m_offer m_gets m_yes m_buys m_ends m_carried m_row rm m_keptRow m_likeGets m_likePrice m_ahead, cI aC m_price 81 pf]) hP hD [0, 1] (by decide) rfl
        have hP9 := hpd9.1
        have hD9 := hpd9.2
        refine W.widen (k := 0) (n := 0) (by omega) (by omega) ?_
        exact W.iret (v := x2) hx hb hr (fun t ht hW => ⟨⟨x2, (), rfl, fun b hb => by rw [hx2 b hb, hjn], by rw [ht]; exact hP9, va_K.moved hW.alike hK, hD9⟩, hS.F ht⟩) hS.2.2 dX12_unbought_45
      · have hlt : j < n := by
          rcases Nat.lt_or_ge j n with q | q
          · exact q
          · exact absurd (nI_le q (by omega)) c_2
        obtain ⟨hp1, hp2⟩ := hPq j hj.1 hlt
        refine lv_iload_n hx hb dX12_unbought_14 rfl (lv_at hl 2 rfl) ?_
        refine lv_aload_n hx hb dX12_unbought_15 rfl (lv_at hl 0 rfl) ?_
        refine va_get (D := (dC, dI)) (ci := 12) (v := Value.ref m_price) (C := RX12) (T := TX12) (N := 33) hx hb hts inX12 hown hK hP 0 rfl rfl 20 (by decide) (hts _ (gw kw_737 rfl)) (fun _ h9 => h9) rfl dX12_unbought_16 ?_
        refine lv_bipush (v := 9) hx hb dX12_unbought_19 (by decide) ?_
        refine lv_iload_n hx hb dX12_unbought_21 rfl (lv_at hl 1 rfl) ?_
        refine lv_imul hx hb dX12_unbought_22 ?_
        refine lv_topi (fun x_3 e_3 => ?_)
        have h9 : x_3 = nI (9 * i) := by rw [e_3]; exact pk_mul 9 i
        subst h9
        refine lv_iload_n hx hb dX12_unbought_23 rfl (lv_at hl 3 rfl) ?_
        refine lv_iadd hx hb dX12_unbought_24 ?_
        refine lv_topi (fun x_4 e_4 => ?_)
        have h9 : x_4 = nI (9 * i + j) := by rw [e_4, nI_add]
        subst h9
        have h_5 : vp_in (nI (9 * i + j)) 81 := by first | exact vp_in_nI (by omega) (by omega) | (unfold vp_in; decide) | (subst_vars; first | (unfold vp_in; decide) | exact vp_in_nI (by omega) (by omega))
        refine va_iald hx hb hK hP 1 0 rfl rfl h_5 dX12_unbought_25 ?_
        refine lv_topi (fun x_6 e_6 => ?_)
        have h9 : x_6 = nI (Pq j) := by rw [e_6, nI_clamp (by omega)]; exact hp1
        subst h9
        refine lv_if_ne (tgt := 35) hx hb dX12_unbought_26 (by decide) (fun c_7 => ?_) (fun c_7 => ?_)
        · refine lv_iconst (v := 0) hx hb dX12_unbought_35 (by decide) ?_
          refine lv_ior hx hb dX12_unbought_36 ?_
          refine lv_topi (fun x_8 e_8 => ?_)
          have hub : ¬ Pq j = 0 := fun q => c_7 (by rw [q]; rfl)
          have hb1 := ub_n hx2 e_8 hub
          refine lv_istore_n (lv' := [(2, Value.int x_8), (0, Value.ref g0), (1, Value.int (nI i)), (3, Value.int (nI j))]) hx hb dX12_unbought_37 rfl hl (by decide) rfl (fun ls hl => ?_)
          obtain ⟨x_9, e_9⟩ : ∃ y : Int32, y = (nI j) + 1 := ⟨_, rfl⟩
          refine lv_iinc (v := x_9) (lv' := [(3, Value.int x_9), (2, Value.int x_8), (0, Value.ref g0), (1, Value.int (nI i))]) hx hb dX12_unbought_38 hl (k := 3) rfl (by rw [e_9]; rfl) (by decide) rfl (fun ls hl => ?_)
          have h9 : x_9 = nI (j + 1) := by rw [e_9, nI_1]
          subst h9
          refine lv_goto (tgt := 6) hx hb dX12_unbought_41 (by decide) ?_
          exact ih_6 (j + 1) x_8 (ms_lt hlt hfu) (by omega) (hb1) _ _ _ (hP.sub [0, 1] rfl) (hD.sub [0, 1] (by decide) rfl) hS (lv_sub hl [2, 3, 1, 0] rfl)
        · refine lv_iconst (v := 1) hx hb dX12_unbought_29 (by decide) ?_
          refine lv_iload_n hx hb dX12_unbought_30 rfl (lv_at hl 3 rfl) ?_
          refine lv_ishl hx hb dX12_unbought_31 ?_
          refine lv_topi (fun x_10 e_10 => ?_)
          refine lv_goto (tgt := 36) hx hb dX12_unbought_32 (by decide) ?_
          refine lv_ior hx hb dX12_unbought_36 ?_
          refine lv_topi (fun x_11 e_11 => ?_)
          have hub : Pq j = 0 := (nI_eq (a := Pq j) (b := 0) (by omega) (by omega)).mp c_7
          have hb1 := ub_y (by omega) hx2 (e_11.trans (by rw [e_10])) hub
          refine lv_istore_n (lv' := [(2, Value.int x_11), (0, Value.ref g0), (1, Value.int (nI i)), (3, Value.int (nI j))]) hx hb dX12_unbought_37 rfl hl (by decide) rfl (fun ls hl => ?_)
          obtain ⟨x_12, e_12⟩ : ∃ y : Int32, y = (nI j) + 1 := ⟨_, rfl⟩
          refine lv_iinc (v := x_12) (lv' := [(3, Value.int x_12), (2, Value.int x_11), (0, Value.ref g0), (1, Value.int (nI i))]) hx hb dX12_unbought_38 hl (k := 3) rfl (by rw [e_12]; rfl) (by decide) rfl (fun ls hl => ?_)
          have h9 : x_12 = nI (j + 1) := by rw [e_12, nI_1]
          subst h9
          refine lv_goto (tgt := 6) hx hb dX12_unbought_41 (by decide) ?_
          exact ih_6 (j + 1) x_11 (ms_lt hlt hfu) (by omega) (hb1) _ _ _ (hP.sub [0, 1] rfl) (hD.sub [0, 1] (by decide) rfl) hS (lv_sub hl [2, 3, 1, 0] rfl)
  exact lp_6 ((n - (i + 1)) + 1) (i + 1) 0 (Nat.lt_succ_self _) (by omega) (fun b hb => by rw [b_0, decide_eq_false (by omega)]) _ _ _ (hP.sub [0, 1] rfl) (hD.sub [0, 1] (by decide) rfl) hS (lv_sub hl [2, 3, 1, 0] rfl)

set_option maxHeartbeats 1000000 in
set_option maxRecDepth 100000 in
/-- X12_isAhead -/
theorem c_X12_isAhead (l : Launch) (dC : Nat → ClassId) (dI : Nat → Nat → Nat) (aC : Nat → ClassId) (sz : Nat) (g0 : Nat) (m_refused : Nat) (m_kind : Nat) (m_figure : Nat) (m_weight : Nat) (m_got : Nat) (m_setting : Nat) (m_tape : Nat) (m_letter : Nat) (m_letterAt : Nat) (m_told : Nat) (m_kept : Nat) (m_price : Nat) (m_offer : Nat) (m_gets : Nat) (m_yes : Nat) (m_buys : Nat) (m_ends : Nat) (m_carried : Nat) (m_row : Nat) (m_keptRow : Nat) (m_likeGets : Nat) (m_likePrice : Nat) (m_ahead : Nat) (msy : Int32) (mdn : Int32) (tp : Int32) (mat : Int32) (stm : Int32) (him : Int32) (ki : Int32) (crs : Int32) (rm : Int32) (n : Nat) (stf : Nat → Int32) (i : Nat) (a0 : Nat) (z0 : Nat) (hi : i < n ∧ n ≤ 8) (ha : a0 < 2 ^ n ∧ BND n i a0) (hz : z0 < 2 ^ n ∧ BND n i z0) : Met l yX12_isAhead (wW yX12_isAhead cX12_isAhead 6 (some .boolean)) ({ frames := 0, cells := 0, slots := 0, locals := 0 } : Room) (va_Pc [Value.ref g0, Value.int (nI a0), Value.int (nI z0)] (fun U => U.heap.size = sz ∧ va_P (dC, dI) classes [oX12 g0 m_refused m_kind m_figure m_weight m_got m_setting (nI n) msy mdn m_tape m_letter m_letterAt m_told tp mat stm m_kept him ki crs m_price m_offer m_gets m_yes m_buys m_ends m_carried m_row rm m_keptRow m_likeGets m_likePrice m_ahead, cI aC m_setting 5 stf] U.heap ∧ va_K (dC, dI) classes (TY aC) U ∧ va_D (fun _ => True) [oX12 g0 m_refused m_kind m_figure m_weight m_got m_setting (nI n) msy mdn m_tape m_letter m_letterAt m_told tp mat stm m_kept him ki crs m_price m_offer m_gets m_yes m_buys m_ends m_carried m_row rm m_keptRow m_likeGets m_likePrice m_ahead, cI aC m_setting 5 stf] ∧ NX U)) (va_Qi (fun (r : Int32) (_ : Unit) => r = if us (stf 3) n i z0 < us (stf 3) n i a0 then 1 else 0) (fun (_ : Unit) (t : State) => va_P (dC, dI) classes [oX12 g0 m_refused m_kind m_figure m_weight m_got m_setting (nI n) msy mdn m_tape m_letter m_letterAt m_told tp mat stm m_kept him ki crs m_price m_offer m_gets m_yes m_buys m_ends m_carried m_row rm m_keptRow m_likeGets m_likePrice m_ahead, cI aC m_setting 5 stf] t.heap ∧ va_K (dC, dI) classes (TY aC) t ∧ va_D (va_A [oX12 g0 m_refused m_kind m_figure m_weight m_got m_setting (nI n) msy mdn m_tape m_letter m_letterAt m_told tp mat stm m_kept him ki crs m_price m_offer m_gets m_yes m_buys m_ends m_carried m_row rm m_keptRow m_likeGets m_likePrice m_ahead, cI aC m_setting 5 stf] sz) [oX12 g0 m_refused m_kind m_figure m_weight m_got m_setting (nI n) msy mdn m_tape m_letter m_letterAt m_told tp mat stm m_kept him ki crs m_price m_offer m_gets m_yes m_buys m_ends m_carried m_row rm m_keptRow m_likeGets m_likePrice m_ahead, cI aC m_setting 5 stf]) (va_A [oX12 g0 m_refused m_kind m_figure m_weight m_got m_setting (nI n) msy mdn m_tape m_letter m_letterAt m_told tp mat stm m_kept him ki crs m_price m_offer m_gets m_yes m_buys m_ends m_carried m_row rm m_keptRow m_likeGets m_likePrice m_ahead, cI aC m_setting 5 stf] sz)) 0 0 (va_A [oX12 g0 m_refused m_kind m_figure m_weight m_got m_setting (nI n) msy mdn m_tape m_letter m_letterAt m_told tp mat stm m_kept him ki crs m_price m_offer m_gets m_yes m_buys m_ends m_carried m_row rm m_keptRow m_likeGets m_likePrice m_ahead, cI aC m_setting 5 stf] sz) := by
  refine Met.ofW (cc := cX12_isAhead) (maxL := 6) (ret := (some .boolean)) (by decide) rfl ?_
  intro p e s m args below meth c s₁ B hml hv
  obtain ⟨rfl, hsz, hP, hK, hD0, hN⟩ := hv
  have hx := B.exec
  have hb := B.bytes
  have hr := B.returns
  have hts0 := atoms_spec (ws := (wW yX12_isAhead cX12_isAhead 6 (some .boolean))) B.pre
  have hts : ∀ w9 ∈ lw_G, w9.before ([Value.ref g0, Value.int (nI a0), Value.int (nI z0)] : List Value).toArray s = true := fun w9 h9 => hts0 w9 (List.mem_cons_of_mem _ h9)
  have hown : s.vm.findClass RX12 = some m.cls := findClass_of_methodNamed (x := yX12_isAhead) B.named
  have hlocks := B.notSynchronized
  subst hsz
  have hD := hD0.self (sz := s.heap.size)
  generalize hAe : va_A [oX12 g0 m_refused m_kind m_figure m_weight m_got m_setting (nI n) msy mdn m_tape m_letter m_letterAt m_told tp mat stm m_kept him ki crs m_price m_offer m_gets m_yes m_buys m_ends m_carried m_row rm m_keptRow m_likeGets m_likePrice m_ahead, cI aC m_setting 5 stf] s.heap.size = A at hD ⊢
  have hA : ∀ q : Nat, s.heap.size ≤ q → A q := fun q h => by rw [← hAe]; exact Or.inr h
  obtain ⟨H, hHe⟩ : ∃ H : Heap, H = s.heap := ⟨_, rfl⟩
  have hS : va_S A s.heap H [] := by rw [hHe]; exact va_S.rf
  have hP : va_P (dC, dI) classes [oX12 g0 m_refused m_kind m_figure m_weight m_got m_setting (nI n) msy mdn m_tape m_letter m_letterAt m_told tp mat stm m_kept him ki crs m_price m_offer m_gets m_yes m_buys m_ends m_carried m_row rm m_keptRow m_likeGets m_likePrice m_ahead, cI aC m_setting 5 stf] H := by rw [hHe]; exact hP
  have hl := lv_entry ([Value.ref g0, Value.int (nI a0), Value.int (nI z0)]) (n := 6) (Nat.le_of_ble_eq_true rfl)
  rw [lg_entry_eq]
  generalize (lg_sl ([Value.ref g0, Value.int (nI a0), Value.int (nI z0)]) ++ List.replicate (6 - (lg_sl ([Value.ref g0, Value.int (nI a0), Value.int (nI z0)])).length) Slot.unset).toArray = ls at hl ⊢
  have hl : lv_has ls 6 [(0, Value.ref g0), (1, Value.int (nI a0)), (2, Value.int (nI z0))] := hl
  rw [← hHe]
  have h256 := p28 hi.2
  refine lv_iload_n hx hb dX12_isAhead_0 rfl (lv_at hl 1 rfl) ?_
  refine lv_iload_n hx hb dX12_isAhead_1 rfl (lv_at hl 2 rfl) ?_
  refine lv_ixor hx hb dX12_isAhead_2 ?_
  refine lv_topi (fun x_1 e_1 => ?_)
  refine lv_istore_n (lv' := [(3, Value.int x_1), (0, Value.ref g0), (1, Value.int (nI a0)), (2, Value.int (nI z0))]) hx hb dX12_isAhead_3 rfl hl (by decide) rfl (fun ls hl => ?_)
  refine lv_iconst (v := 0) hx hb dX12_isAhead_4 (by decide) ?_
  refine lv_istore (lv' := [(4, Value.int 0), (3, Value.int x_1), (0, Value.ref g0), (1, Value.int (nI a0)), (2, Value.int (nI z0))]) hx hb dX12_isAhead_5 hl (by decide) rfl (fun ls hl => ?_)
  have lp_7 : ∀ (fu : Nat) (k : Nat) (x3 : Int32) (hfu : n - k < fu) (hk : k ≤ n) (hx3 : ∀ b, b < 31 → bt x3 b = (a0.testBit b ^^ z0.testBit b)) (hag : ∀ p, (if stf 3 = 0 then p < k else n - 1 - k + 1 ≤ p) → p < n → a0.testBit p = z0.testBit p) (H : Heap) (locs : List Loc) (ls : Array Slot), va_P (dC, dI) classes [oX12 g0 m_refused m_kind m_figure m_weight m_got m_setting (nI n) msy mdn m_tape m_letter m_letterAt m_told tp mat stm m_kept him ki crs m_price m_offer m_gets m_yes m_buys m_ends m_carried m_row rm m_keptRow m_likeGets m_likePrice m_ahead, cI aC m_setting 5 stf] H → va_D A [oX12 g0 m_refused m_kind m_figure m_weight m_got m_setting (nI n) msy mdn m_tape m_letter m_letterAt m_told tp mat stm m_kept him ki crs m_price m_offer m_gets m_yes m_buys m_ends m_carried m_row rm m_keptRow m_likeGets m_likePrice m_ahead, cI aC m_setting 5 stf] → va_S A s.heap H locs → lv_has ls 6 [(0, Value.ref g0), (1, Value.int (nI a0)), (2, Value.int (nI z0)), (3, Value.int x3), (4, Value.int (nI k))] → W p l e (headSpec (wW yX12_isAhead cX12_isAhead 6 (some .boolean)) ({ frames := 0, cells := 0, slots := 0, locals := 0 } : Room)).room s m ([Value.ref g0, Value.int (nI a0), Value.int (nI z0)] : List Value).toArray below meth c H locs 0 0 (MQ below (va_Qi (fun (r : Int32) (_ : Unit) => r = if us (stf 3) n i z0 < us (stf 3) n i a0 then 1 else 0) (fun (_ : Unit) (t : State) => va_P (dC, dI) classes [oX12 g0 m_refused m_kind m_figure m_weight m_got m_setting (nI n) msy mdn m_tape m_letter m_letterAt m_told tp mat stm m_kept him ki crs m_price m_offer m_gets m_yes m_buys m_ends m_carried m_row rm m_keptRow m_likeGets m_likePrice m_ahead, cI aC m_setting 5 stf] t.heap ∧ va_K (dC, dI) classes (TY aC) t ∧ va_D A [oX12 g0 m_refused m_kind m_figure m_weight m_got m_setting (nI n) msy mdn m_tape m_letter m_letterAt m_told tp mat stm m_kept him ki crs m_price m_offer m_gets m_yes m_buys m_ends m_carried m_row rm m_keptRow m_likeGets m_likePrice m_ahead, cI aC m_setting 5 stf]) A) ([Value.ref g0, Value.int (nI a0), Value.int (nI z0)] : List Value).toArray s 0 0 A) (F0 m 7 ls []) := by
    intro fu
    induction fu with
    | zero => intro k x3 hfu; exact absurd hfu (Nat.not_lt_zero _)
    | succ fu ih_7 =>
      intro k x3 hfu hk hx3 hag H locs ls hP hD hS hl
      refine lv_iload hx hb dX12_isAhead_7 (lv_at hl 4 rfl) ?_
      refine lv_aload_n hx hb dX12_isAhead_9 rfl (lv_at hl 0 rfl) ?_
      refine va_get (D := (dC, dI)) (ci := 12) (v := Value.int (nI n)) (C := RX12) (T := TX12) (N := 33) hx hb hts inX12 hown hK hP 0 rfl rfl 6 (by decide) (hts _ (gw kw_723 rfl)) (fun _ h9 => h9) rfl dX12_isAhead_10 ?_
      refine lv_icmp_ge (tgt := 73) hx hb dX12_isAhead_13 (by decide) (fun c_2 => ?_) (fun c_2 => ?_)
      · have hkn : k = n := by
          rcases Nat.lt_or_ge k n with q | q
          · exact absurd c_2 (nI_ge q (by omega))
          · omega
        refine lv_iconst (v := 0) hx hb dX12_isAhead_73 (by decide) ?_
        have hpd9 := pd_N (cx := [oX12 g0 m_refused m_kind m_figure m_weight m_got m_setting (nI n) msy mdn m_tape m_letter m_letterAt m_told tp mat stm m_kept him ki crs m_price m_offer m_gets m_yes m_buys m_ends m_carried m_row rm m_keptRow m_likeGets m_likePrice m_ahead, cI aC m_setting 5 stf]) hP hD [0, 1] (by decide) rfl
        have hP9 := hpd9.1
        have hD9 := hpd9.2
        refine W.widen (k := 0) (n := 0) (by omega) (by omega) ?_
        exact W.zret (v := 0) hx hb hr rfl (fun t ht hW => ⟨⟨0, (), rfl, by rw [ah_eq (fst := stf 3) hi.1 (fun p q1 q2 => hag p (by rw [hkn]; split <;> omega) q2), if_neg (Nat.lt_irrefl _)], by rw [ht]; exact hP9, va_K.moved hW.alike hK, hD9⟩, hS.F ht⟩) hS.2.2 dX12_isAhead_74
      · have hlt : k < n := by
          rcases Nat.lt_or_ge k n with q | q
          · exact q
          · exact absurd (nI_le q (by omega)) c_2
        refine lv_aload_n hx hb dX12_isAhead_16 rfl (lv_at hl 0 rfl) ?_
        refine va_get (D := (dC, dI)) (ci := 12) (v := Value.ref m_setting) (C := RX12) (T := TX12) (N := 33) hx hb hts inX12 hown hK hP 0 rfl rfl 5 (by decide) (hts _ (gw kw_722 rfl)) (fun _ h9 => h9) rfl dX12_isAhead_17 ?_
        refine lv_iconst (v := 3) hx hb dX12_isAhead_20 (by decide) ?_
        have h_3 : vp_in 3 5 := by first | exact vp_in_nI (by omega) (by omega) | (unfold vp_in; decide) | (subst_vars; first | (unfold vp_in; decide) | exact vp_in_nI (by omega) (by omega))
        refine va_iald hx hb hK hP 1 0 rfl rfl h_3 dX12_isAhead_21 ?_
        refine lv_topi (fun x_4 e_4 => ?_)
        have h9 : x_4 = (stf 3) := by rw [e_4]; rfl
        subst h9
        refine lv_if_ne (tgt := 30) hx hb dX12_isAhead_22 (by decide) (fun c_5 => ?_) (fun c_5 => ?_)
        · refine lv_aload_n hx hb dX12_isAhead_30 rfl (lv_at hl 0 rfl) ?_
          refine va_get (D := (dC, dI)) (ci := 12) (v := Value.int (nI n)) (C := RX12) (T := TX12) (N := 33) hx hb hts inX12 hown hK hP 0 rfl rfl 6 (by decide) (hts _ (gw kw_723 rfl)) (fun _ h9 => h9) rfl dX12_isAhead_31 ?_
          refine lv_iconst (v := 1) hx hb dX12_isAhead_34 (by decide) ?_
          refine lv_isub hx hb dX12_isAhead_35 ?_
          refine lv_topi (fun x_6 e_6 => ?_)
          have h9 : x_6 = nI (n - 1) := by rw [e_6]; exact pk_sub (a := n) (b := 1) (by omega)
          subst h9
          refine lv_iload hx hb dX12_isAhead_36 (lv_at hl 4 rfl) ?_
          refine lv_isub hx hb dX12_isAhead_38 ?_
          refine lv_topi (fun x_7 e_7 => ?_)
          have h9 : x_7 = nI (n - 1 - k) := by rw [e_7]; exact pk_sub (by omega)
          subst h9
          refine lv_istore (lv' := [(5, Value.int (nI (n - 1 - k))), (0, Value.ref g0), (1, Value.int (nI a0)), (2, Value.int (nI z0)), (3, Value.int x3), (4, Value.int (nI k))]) hx hb dX12_isAhead_39 hl (by decide) rfl (fun ls hl => ?_)
          obtain ⟨mm, hmm⟩ : ∃ mm, mm = (if stf 3 = 0 then k else n - 1 - k) := ⟨_, rfl⟩
          have h9 : nI (n - 1 - k) = nI mm := by rw [hmm, if_neg c_5]
          have hl : lv_has ls 6 [(5, Value.int (nI mm)), (0, Value.ref g0), (1, Value.int (nI a0)), (2, Value.int (nI z0)), (3, Value.int x3), (4, Value.int (nI k))] := by rw [← h9]; exact hl
          have hml9 : mm < n := by rw [hmm]; split <;> omega
          refine lv_iload_n hx hb dX12_isAhead_41 rfl (lv_at hl 4 rfl) ?_
          refine lv_iload hx hb dX12_isAhead_42 (lv_at hl 0 rfl) ?_
          refine lv_ishr hx hb dX12_isAhead_44 ?_
          refine lv_topi (fun x_8 e_8 => ?_)
          refine lv_iconst (v := 1) hx hb dX12_isAhead_45 (by decide) ?_
          refine lv_iand hx hb dX12_isAhead_46 ?_
          refine lv_topi (fun x_9 e_9 => ?_)
          refine lv_iconst (v := 1) hx hb dX12_isAhead_47 (by decide) ?_
          refine lv_icmp_ne (tgt := 67) hx hb dX12_isAhead_48 (by decide) (fun c_10 => ?_) (fun c_10 => ?_)
          · have hsm : a0.testBit mm = z0.testBit mm := by
              have h8 : ¬ bt x3 mm = true := fun q => c_10 (by rw [e_9, e_8]; exact (b_tst (by omega)).mpr q)
              rw [hx3 mm (by omega)] at h8
              revert h8
              cases a0.testBit mm <;> cases z0.testBit mm <;> simp
            have hb1 : ∀ p, (if stf 3 = 0 then p < k + 1 else n - 1 - (k + 1) + 1 ≤ p) → p < n → a0.testBit p = z0.testBit p := fun p q1 q2 => by
              by_cases e8 : p = mm
              · rw [e8]; exact hsm
              · refine hag p ?_ q2
                rw [hmm] at e8
                by_cases e9 : stf 3 = 0
                · rw [if_pos e9] at q1 e8 ⊢; omega
                · rw [if_neg e9] at q1 e8 ⊢; omega
            obtain ⟨x_11, e_11⟩ : ∃ y : Int32, y = (nI k) + 1 := ⟨_, rfl⟩
            refine lv_iinc (v := x_11) (lv' := [(4, Value.int x_11), (5, Value.int (nI mm)), (0, Value.ref g0), (1, Value.int (nI a0)), (2, Value.int (nI z0)), (3, Value.int x3)]) hx hb dX12_isAhead_67 hl (k := 5) rfl (by rw [e_11]; rfl) (by decide) rfl (fun ls hl => ?_)
            have h9 : x_11 = nI (k + 1) := by rw [e_11, nI_1]
            subst h9
            refine lv_goto (tgt := 7) hx hb dX12_isAhead_70 (by decide) ?_
            exact ih_7 (k + 1) x3 (ms_lt hlt hfu) (by omega) (hx3) (hb1) _ _ _ (hP.sub [0, 1] rfl) (hD.sub [0, 1] (by decide) rfl) hS (lv_sub hl [2, 3, 4, 5, 0] rfl)
          · have hdf : bt x3 mm = true := (b_tst (by omega)).mp (by rw [← e_8, ← e_9]; exact c_10)
            rw [hx3 mm (by omega)] at hdf
            have hmi : i < mm ∧ mm < n := by
              refine ⟨?_, hml9⟩
              cases h8 : a0.testBit mm with
              | true => exact (ha.2 mm h8).1
              | false =>
                cases h9 : z0.testBit mm with
                | true => exact (hz.2 mm h9).1
                | false => rw [h8, h9] at hdf; exact absurd hdf (by decide)
            have hup : ∀ p, i < p → p < n → (if stf 3 = 0 then p < mm else mm < p) → a0.testBit p = z0.testBit p := fun p q1 q2 q3 => by
              rw [hmm] at q3
              by_cases e9 : stf 3 = 0
              · rw [if_pos e9, if_pos e9] at q3; exact hag p (by rw [if_pos e9]; exact q3) q2
              · rw [if_neg e9, if_neg e9] at q3; exact hag p (by rw [if_neg e9]; omega) q2
            refine lv_iload_n hx hb dX12_isAhead_51 rfl (lv_at hl 2 rfl) ?_
            refine lv_iload hx hb dX12_isAhead_52 (lv_at hl 0 rfl) ?_
            refine lv_ishr hx hb dX12_isAhead_54 ?_
            refine lv_topi (fun x_12 e_12 => ?_)
            refine lv_iconst (v := 1) hx hb dX12_isAhead_55 (by decide) ?_
            refine lv_iand hx hb dX12_isAhead_56 ?_
            refine lv_topi (fun x_13 e_13 => ?_)
            refine lv_iconst (v := 1) hx hb dX12_isAhead_57 (by decide) ?_
            refine lv_icmp_ne (tgt := 65) hx hb dX12_isAhead_58 (by decide) (fun c_14 => ?_) (fun c_14 => ?_)
            · refine lv_iconst (v := 0) hx hb dX12_isAhead_65 (by decide) ?_
              have hpd9 := pd_N (cx := [oX12 g0 m_refused m_kind m_figure m_weight m_got m_setting (nI n) msy mdn m_tape m_letter m_letterAt m_told tp mat stm m_kept him ki crs m_price m_offer m_gets m_yes m_buys m_ends m_carried m_row rm m_keptRow m_likeGets m_likePrice m_ahead, cI aC m_setting 5 stf]) hP hD [0, 1] (by decide) rfl
              have hP9 := hpd9.1
              have hD9 := hpd9.2
              refine W.widen (k := 0) (n := 0) (by omega) (by omega) ?_
              exact W.zret (v := 0) hx hb hr rfl (fun t ht hW => ⟨⟨0, (), rfl, by have h7 : a0.testBit mm = false := (by rw [← b_get (b := a0) (by omega) (by omega)]; exact Bool.eq_false_iff.mpr (fun q => c_14 (by rw [e_13, e_12]; exact (b_tst (by omega)).mpr q))); have h8 : z0.testBit mm = true := (by cases h9 : z0.testBit mm with | true => rfl | false => rw [h7, h9] at hdf; exact absurd hdf (by decide)); rw [if_neg (Nat.not_lt.mpr (Nat.le_of_lt (ah_lt (fst := stf 3) hmi h7 h8 hup)))], by rw [ht]; exact hP9, va_K.moved hW.alike hK, hD9⟩, hS.F ht⟩) hS.2.2 dX12_isAhead_66
            · refine lv_iconst (v := 1) hx hb dX12_isAhead_61 (by decide) ?_
              refine lv_goto (tgt := 66) hx hb dX12_isAhead_62 (by decide) ?_
              have hpd9 := pd_N (cx := [oX12 g0 m_refused m_kind m_figure m_weight m_got m_setting (nI n) msy mdn m_tape m_letter m_letterAt m_told tp mat stm m_kept him ki crs m_price m_offer m_gets m_yes m_buys m_ends m_carried m_row rm m_keptRow m_likeGets m_likePrice m_ahead, cI aC m_setting 5 stf]) hP hD [0, 1] (by decide) rfl
              have hP9 := hpd9.1
              have hD9 := hpd9.2
              refine W.widen (k := 0) (n := 0) (by omega) (by omega) ?_
              exact W.zret (v := 1) hx hb hr rfl (fun t ht hW => ⟨⟨1, (), rfl, by have h7 : a0.testBit mm = true := (by rw [← b_get (b := a0) (by omega) (by omega)]; exact (b_tst (by omega)).mp (by rw [← e_12, ← e_13]; exact c_14)); have h8 : z0.testBit mm = false := (by cases h9 : z0.testBit mm with | false => rfl | true => rw [h7, h9] at hdf; exact absurd hdf (by decide)); rw [if_pos (ah_lt (fst := stf 3) hmi h8 h7 (fun p q1 q2 q3 => (hup p q1 q2 q3).symm))], by rw [ht]; exact hP9, va_K.moved hW.alike hK, hD9⟩, hS.F ht⟩) hS.2.2 dX12_isAhead_66
        · refine lv_iload hx hb dX12_isAhead_25 (lv_at hl 4 rfl) ?_
          refine lv_goto (tgt := 39) hx hb dX12_isAhead_27 (by decide) ?_
          refine lv_istore (lv' := [(5, Value.int (nI k)), (0, Value.ref g0), (1, Value.int (nI a0)), (2, Value.int (nI z0)), (3, Value.int x3), (4, Value.int (nI k))]) hx hb dX12_isAhead_39 hl (by decide) rfl (fun ls hl => ?_)
          obtain ⟨mm, hmm⟩ : ∃ mm, mm = (if stf 3 = 0 then k else n - 1 - k) := ⟨_, rfl⟩
          have h9 : nI k = nI mm := by rw [hmm, if_pos c_5]
          have hl : lv_has ls 6 [(5, Value.int (nI mm)), (0, Value.ref g0), (1, Value.int (nI a0)), (2, Value.int (nI z0)), (3, Value.int x3), (4, Value.int (nI k))] := by rw [← h9]; exact hl
          have hml9 : mm < n := by rw [hmm]; split <;> omega
          refine lv_iload_n hx hb dX12_isAhead_41 rfl (lv_at hl 4 rfl) ?_
          refine lv_iload hx hb dX12_isAhead_42 (lv_at hl 0 rfl) ?_
          refine lv_ishr hx hb dX12_isAhead_44 ?_
          refine lv_topi (fun x_15 e_15 => ?_)
          refine lv_iconst (v := 1) hx hb dX12_isAhead_45 (by decide) ?_
          refine lv_iand hx hb dX12_isAhead_46 ?_
          refine lv_topi (fun x_16 e_16 => ?_)
          refine lv_iconst (v := 1) hx hb dX12_isAhead_47 (by decide) ?_
          refine lv_icmp_ne (tgt := 67) hx hb dX12_isAhead_48 (by decide) (fun c_17 => ?_) (fun c_17 => ?_)
          · have hsm : a0.testBit mm = z0.testBit mm := by
              have h8 : ¬ bt x3 mm = true := fun q => c_17 (by rw [e_16, e_15]; exact (b_tst (by omega)).mpr q)
              rw [hx3 mm (by omega)] at h8
              revert h8
              cases a0.testBit mm <;> cases z0.testBit mm <;> simp
            have hb1 : ∀ p, (if stf 3 = 0 then p < k + 1 else n - 1 - (k + 1) + 1 ≤ p) → p < n → a0.testBit p = z0.testBit p := fun p q1 q2 => by
              by_cases e8 : p = mm
              · rw [e8]; exact hsm
              · refine hag p ?_ q2
                rw [hmm] at e8
                by_cases e9 : stf 3 = 0
                · rw [if_pos e9] at q1 e8 ⊢; omega
                · rw [if_neg e9] at q1 e8 ⊢; omega
            obtain ⟨x_18, e_18⟩ : ∃ y : Int32, y = (nI k) + 1 := ⟨_, rfl⟩
            refine lv_iinc (v := x_18) (lv' := [(4, Value.int x_18), (5, Value.int (nI mm)), (0, Value.ref g0), (1, Value.int (nI a0)), (2, Value.int (nI z0)), (3, Value.int x3)]) hx hb dX12_isAhead_67 hl (k := 5) rfl (by rw [e_18]; rfl) (by decide) rfl (fun ls hl => ?_)
            have h9 : x_18 = nI (k + 1) := by rw [e_18, nI_1]
            subst h9
            refine lv_goto (tgt := 7) hx hb dX12_isAhead_70 (by decide) ?_
            exact ih_7 (k + 1) x3 (ms_lt hlt hfu) (by omega) (hx3) (hb1) _ _ _ (hP.sub [0, 1] rfl) (hD.sub [0, 1] (by decide) rfl) hS (lv_sub hl [2, 3, 4, 5, 0] rfl)
          · have hdf : bt x3 mm = true := (b_tst (by omega)).mp (by rw [← e_15, ← e_16]; exact c_17)
            rw [hx3 mm (by omega)] at hdf
            have hmi : i < mm ∧ mm < n := by
              refine ⟨?_, hml9⟩
              cases h8 : a0.testBit mm with
              | true => exact (ha.2 mm h8).1
              | false =>
                cases h9 : z0.testBit mm with
                | true => exact (hz.2 mm h9).1
                | false => rw [h8, h9] at hdf; exact absurd hdf (by decide)
            have hup : ∀ p, i < p → p < n → (if stf 3 = 0 then p < mm else mm < p) → a0.testBit p = z0.testBit p := fun p q1 q2 q3 => by
              rw [hmm] at q3
              by_cases e9 : stf 3 = 0
              · rw [if_pos e9, if_pos e9] at q3; exact hag p (by rw [if_pos e9]; exact q3) q2
              · rw [if_neg e9, if_neg e9] at q3; exact hag p (by rw [if_neg e9]; omega) q2
            refine lv_iload_n hx hb dX12_isAhead_51 rfl (lv_at hl 2 rfl) ?_
            refine lv_iload hx hb dX12_isAhead_52 (lv_at hl 0 rfl) ?_
            refine lv_ishr hx hb dX12_isAhead_54 ?_
            refine lv_topi (fun x_19 e_19 => ?_)
            refine lv_iconst (v := 1) hx hb dX12_isAhead_55 (by decide) ?_
            refine lv_iand hx hb dX12_isAhead_56 ?_
            refine lv_topi (fun x_20 e_20 => ?_)
            refine lv_iconst (v := 1) hx hb dX12_isAhead_57 (by decide) ?_
            refine lv_icmp_ne (tgt := 65) hx hb dX12_isAhead_58 (by decide) (fun c_21 => ?_) (fun c_21 => ?_)
            · refine lv_iconst (v := 0) hx hb dX12_isAhead_65 (by decide) ?_
              have hpd9 := pd_N (cx := [oX12 g0 m_refused m_kind m_figure m_weight m_got m_setting (nI n) msy mdn m_tape m_letter m_letterAt m_told tp mat stm m_kept him ki crs m_price m_offer m_gets m_yes m_buys m_ends m_carried m_row rm m_keptRow m_likeGets m_likePrice m_ahead, cI aC m_setting 5 stf]) hP hD [0, 1] (by decide) rfl
              have hP9 := hpd9.1
              have hD9 := hpd9.2
              refine W.widen (k := 0) (n := 0) (by omega) (by omega) ?_
              exact W.zret (v := 0) hx hb hr rfl (fun t ht hW => ⟨⟨0, (), rfl, by have h7 : a0.testBit mm = false := (by rw [← b_get (b := a0) (by omega) (by omega)]; exact Bool.eq_false_iff.mpr (fun q => c_21 (by rw [e_20, e_19]; exact (b_tst (by omega)).mpr q))); have h8 : z0.testBit mm = true := (by cases h9 : z0.testBit mm with | true => rfl | false => rw [h7, h9] at hdf; exact absurd hdf (by decide)); rw [if_neg (Nat.not_lt.mpr (Nat.le_of_lt (ah_lt (fst := stf 3) hmi h7 h8 hup)))], by rw [ht]; exact hP9, va_K.moved hW.alike hK, hD9⟩, hS.F ht⟩) hS.2.2 dX12_isAhead_66
            · refine lv_iconst (v := 1) hx hb dX12_isAhead_61 (by decide) ?_
              refine lv_goto (tgt := 66) hx hb dX12_isAhead_62 (by decide) ?_
              have hpd9 := pd_N (cx := [oX12 g0 m_refused m_kind m_figure m_weight m_got m_setting (nI n) msy mdn m_tape m_letter m_letterAt m_told tp mat stm m_kept him ki crs m_price m_offer m_gets m_yes m_buys m_ends m_carried m_row rm m_keptRow m_likeGets m_likePrice m_ahead, cI aC m_setting 5 stf]) hP hD [0, 1] (by decide) rfl
              have hP9 := hpd9.1
              have hD9 := hpd9.2
              refine W.widen (k := 0) (n := 0) (by omega) (by omega) ?_
              exact W.zret (v := 1) hx hb hr rfl (fun t ht hW => ⟨⟨1, (), rfl, by have h7 : a0.testBit mm = true := (by rw [← b_get (b := a0) (by omega) (by omega)]; exact (b_tst (by omega)).mp (by rw [← e_19, ← e_20]; exact c_21)); have h8 : z0.testBit mm = false := (by cases h9 : z0.testBit mm with | false => rfl | true => rw [h7, h9] at hdf; exact absurd hdf (by decide)); rw [if_pos (ah_lt (fst := stf 3) hmi h8 h7 (fun p q1 q2 q3 => (hup p q1 q2 q3).symm))], by rw [ht]; exact hP9, va_K.moved hW.alike hK, hD9⟩, hS.F ht⟩) hS.2.2 dX12_isAhead_66
  exact lp_7 ((n - 0) + 1) 0 x_1 (Nat.lt_succ_self _) (Nat.zero_le _) (fun b hb => by rw [e_1, b_xor, b_get (by omega) hb, b_get (by omega) hb]) (fun p q1 q2 => by exfalso; revert q1; split <;> omega) _ _ _ (hP.sub [0, 1] rfl) (hD.sub [0, 1] (by decide) rfl) hS (lv_sub hl [2, 3, 4, 1, 0] rfl)
