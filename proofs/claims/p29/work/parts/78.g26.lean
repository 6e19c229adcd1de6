set_option maxHeartbeats 1000000 in
set_option maxRecDepth 100000 in
/-- X12_enough -/
theorem c_X12_enough (l : Launch) (dC : Nat → ClassId) (dI : Nat → Nat → Nat) (aC : Nat → ClassId) (sz : Nat) (g0 : Nat) (m_refused : Nat) (m_kind : Nat) (m_figure : Nat) (m_weight : Nat) (m_got : Nat) (m_setting : Nat) (m_tape : Nat) (m_letter : Nat) (m_letterAt : Nat) (m_told : Nat) (m_kept : Nat) (m_price : Nat) (m_offer : Nat) (m_gets : Nat) (m_yes : Nat) (m_buys : Nat) (m_ends : Nat) (m_carried : Nat) (m_row : Nat) (m_keptRow : Nat) (m_likeGets : Nat) (m_likePrice : Nat) (m_ahead : Nat) (men : Int32) (msy : Int32) (mdn : Int32) (tp : Int32) (mat : Int32) (stm : Int32) (him : Int32) (ki : Int32) (crs : Int32) (rm : Int32) (stf : Nat → Int32) (a : Nat) (ha : 1 ≤ a ∧ a ≤ 100) : Met l yX12_enough (wW yX12_enough cX12_enough 3 (some .int)) ({ frames := 1, cells := 0, slots := 0, locals := 22 } : Room) (va_Pc [Value.ref g0, Value.int (nI a)] (fun U => U.heap.size = sz ∧ va_P (dC, dI) classes [oX12 g0 m_refused m_kind m_figure m_weight m_got m_setting men msy mdn m_tape m_letter m_letterAt m_told tp mat stm m_kept him ki crs m_price m_offer m_gets m_yes m_buys m_ends m_carried m_row rm m_keptRow m_likeGets m_likePrice m_ahead, cI aC m_setting 5 stf] U.heap ∧ va_K (dC, dI) classes (TY aC) U ∧ va_D (fun _ => True) [oX12 g0 m_refused m_kind m_figure m_weight m_got m_setting men msy mdn m_tape m_letter m_letterAt m_told tp mat stm m_kept him ki crs m_price m_offer m_gets m_yes m_buys m_ends m_carried m_row rm m_keptRow m_likeGets m_likePrice m_ahead, cI aC m_setting 5 stf] ∧ NX U)) (va_Qi (fun (r : Int32) (_ : Unit) => r = nI (nd (stf 1) a)) (fun (_ : Unit) (t : State) => va_P (dC, dI) classes [oX12 g0 m_refused m_kind m_figure m_weight m_got m_setting men msy mdn m_tape m_letter m_letterAt m_told tp mat stm m_kept him ki crs m_price m_offer m_gets m_yes m_buys m_ends m_carried m_row rm m_keptRow m_likeGets m_likePrice m_ahead, cI aC m_setting 5 stf] t.heap ∧ va_K (dC, dI) classes (TY aC) t ∧ va_D (va_A [oX12 g0 m_refused m_kind m_figure m_weight m_got m_setting men msy mdn m_tape m_letter m_letterAt m_told tp mat stm m_kept him ki crs m_price m_offer m_gets m_yes m_buys m_ends m_carried m_row rm m_keptRow m_likeGets m_likePrice m_ahead, cI aC m_setting 5 stf] sz) [oX12 g0 m_refused m_kind m_figure m_weight m_got m_setting men msy mdn m_tape m_letter m_letterAt m_told tp mat stm m_kept him ki crs m_price m_offer m_gets m_yes m_buys m_ends m_carried m_row rm m_keptRow m_likeGets m_likePrice m_ahead, cI aC m_setting 5 stf]) (va_A [oX12 g0 m_refused m_kind m_figure m_weight m_got m_setting men msy mdn m_tape m_letter m_letterAt m_told tp mat stm m_kept him ki crs m_price m_offer m_gets m_yes m_buys m_ends m_carried m_row rm m_keptRow m_likeGets m_likePrice m_ahead, cI aC m_setting 5 stf] sz)) 0 0 (va_A [oX12 g0 m_refused m_kind m_figure m_weight m_got m_setting men msy mdn m_tape m_letter m_letterAt m_told tp mat stm m_kept him ki crs m_price m_offer m_gets m_yes m_buys m_ends m_carried m_row rm m_keptRow m_likeGets m_likePrice m_ahead, cI aC m_setting 5 stf] sz) := by
  refine Met.ofW (cc := cX12_enough) (maxL := 3) (ret := (some .int)) (by decide) rfl ?_
  intro p e s m args below meth c s₁ B hml hv
  obtain ⟨rfl, hsz, hP, hK, hD0, hN⟩ := hv
  have hx := B.exec
  have hb := B.bytes
  have hr := B.returns
  have hts0 := atoms_spec (ws := (wW yX12_enough cX12_enough 3 (some .int))) B.pre
  have hts : ∀ w9 ∈ lw_G, w9.before ([Value.ref g0, Value.int (nI a)] : List Value).toArray s = true := fun w9 h9 => hts0 w9 (List.mem_cons_of_mem _ h9)
  have hown : s.vm.findClass RX12 = some m.cls := findClass_of_methodNamed (x := yX12_enough) B.named
  have hlocks := B.notSynchronized
  subst hsz
  have hD := hD0.self (sz := s.heap.size)
  generalize hAe : va_A [oX12 g0 m_refused m_kind m_figure m_weight m_got m_setting men msy mdn m_tape m_letter m_letterAt m_told tp mat stm m_kept him ki crs m_price m_offer m_gets m_yes m_buys m_ends m_carried m_row rm m_keptRow m_likeGets m_likePrice m_ahead, cI aC m_setting 5 stf] s.heap.size = A at hD ⊢
  have hA : ∀ q : Nat, s.heap.size ≤ q → A q := fun q h => by rw [← hAe]; exact Or.inr h
  obtain ⟨H, hHe⟩ : ∃ H : Heap, H = s.heap := ⟨_, rfl⟩
  have hS : va_S A s.heap H [] := by rw [hHe]; exact va_S.rf
  have hP : va_P (dC, dI) classes [oX12 g0 m_refused m_kind m_figure m_weight m_got m_setting men msy mdn m_tape m_letter m_letterAt m_told tp mat stm m_kept him ki crs m_price m_offer m_gets m_yes m_buys m_ends m_carried m_row rm m_keptRow m_likeGets m_likePrice m_ahead, cI aC m_setting 5 stf] H := by rw [hHe]; exact hP
  have hl := lv_entry ([Value.ref g0, Value.int (nI a)]) (n := 3) (Nat.le_of_ble_eq_true rfl)
  rw [lg_entry_eq]
  generalize (lg_sl ([Value.ref g0, Value.int (nI a)]) ++ List.replicate (3 - (lg_sl ([Value.ref g0, Value.int (nI a)])).length) Slot.unset).toArray = ls at hl ⊢
  have hl : lv_has ls 3 [(0, Value.ref g0), (1, Value.int (nI a))] := hl
  rw [← hHe]
  refine lv_iconst (v := 0) hx hb dX12_enough_0 (by decide) ?_
  refine lv_istore_n (lv' := [(2, Value.int 0), (0, Value.ref g0), (1, Value.int (nI a))]) hx hb dX12_enough_1 rfl hl (by decide) rfl (fun ls hl => ?_)
  have lp_2 : ∀ (fu : Nat) (k : Nat) (hfu : 200 - k < fu) (hk : k ≤ nd (stf 1) a) (H : Heap) (locs : List Loc) (ls : Array Slot), va_P (dC, dI) classes [oX12 g0 m_refused m_kind m_figure m_weight m_got m_setting men msy mdn m_tape m_letter m_letterAt m_told tp mat stm m_kept him ki crs m_price m_offer m_gets m_yes m_buys m_ends m_carried m_row rm m_keptRow m_likeGets m_likePrice m_ahead, cI aC m_setting 5 stf] H → va_D A [oX12 g0 m_refused m_kind m_figure m_weight m_got m_setting men msy mdn m_tape m_letter m_letterAt m_told tp mat stm m_kept him ki crs m_price m_offer m_gets m_yes m_buys m_ends m_carried m_row rm m_keptRow m_likeGets m_likePrice m_ahead, cI aC m_setting 5 stf] → va_S A s.heap H locs → lv_has ls 3 [(0, Value.ref g0), (1, Value.int (nI a)), (2, Value.int (nI k))] → W p l e (headSpec (wW yX12_enough cX12_enough 3 (some .int)) ({ frames := 1, cells := 0, slots := 0, locals := 22 } : Room)).room s m ([Value.ref g0, Value.int (nI a)] : List Value).toArray below meth c H locs 0 0 (MQ below (va_Qi (fun (r : Int32) (_ : Unit) => r = nI (nd (stf 1) a)) (fun (_ : Unit) (t : State) => va_P (dC, dI) classes [oX12 g0 m_refused m_kind m_figure m_weight m_got m_setting men msy mdn m_tape m_letter m_letterAt m_told tp mat stm m_kept him ki crs m_price m_offer m_gets m_yes m_buys m_ends m_carried m_row rm m_keptRow m_likeGets m_likePrice m_ahead, cI aC m_setting 5 stf] t.heap ∧ va_K (dC, dI) classes (TY aC) t ∧ va_D A [oX12 g0 m_refused m_kind m_figure m_weight m_got m_setting men msy mdn m_tape m_letter m_letterAt m_told tp mat stm m_kept him ki crs m_price m_offer m_gets m_yes m_buys m_ends m_carried m_row rm m_keptRow m_likeGets m_likePrice m_ahead, cI aC m_setting 5 stf]) A) ([Value.ref g0, Value.int (nI a)] : List Value).toArray s 0 0 A) (F0 m 2 ls []) := by
    intro fu
    induction fu with
    | zero => intro k hfu; exact absurd hfu (Nat.not_lt_zero _)
    | succ fu ih_2 =>
      intro k hfu hk H locs ls hP hD hS hl
      refine lv_aload_n hx hb dX12_enough_2 rfl (lv_at hl 0 rfl) ?_
      refine va_get (D := (dC, dI)) (ci := 12) (v := Value.ref m_setting) (C := RX12) (T := TX12) (N := 33) hx hb hts inX12 hown hK hP 0 rfl rfl 5 (by decide) (hts _ (gw kw_722 rfl)) (fun _ h9 => h9) rfl dX12_enough_3 ?_
      refine lv_iconst (v := 1) hx hb dX12_enough_6 (by decide) ?_
      have h_1 : vp_in 1 5 := by unfold vp_in; decide
      refine va_iald hx hb hK hP 1 0 rfl rfl h_1 dX12_enough_7 ?_
      refine lv_topi (fun x_2 e_2 => ?_)
      have h9 : x_2 = (stf 1) := by rw [e_2]; rfl
      subst h9
      refine lv_iload_n hx hb dX12_enough_8 rfl (lv_at hl 2 rfl) ?_
      refine lv_iload_n hx hb dX12_enough_9 rfl (lv_at hl 1 rfl) ?_
      have hpd9 := pdf_N (cx := []) hP hD hS hA [] (by decide) rfl
      have hPc := hpd9.1
      have hDc := hpd9.2.1
      have hFc := hpd9.2.2
      clear hpd9
      refine va_calli (va_runS (As := [Value.int (stf 1), Value.int (nI k), Value.int (nI a)]) (rest := []) ⟨hx, hb, hml, hown, hts⟩ (c_X12_isCarried l dC dI aC H.size (stf 1) k a (by have := nd_le (law := stf 1) ha.1; omega) (by omega)) ⟨(callB_of 3 hts (gG kw_933) rfl rfl rfl (hts _ (gw kw_13 rfl)) (hts _ (gw kw_931 rfl)) hd_X12_isCarried ⟨Nat.le_of_ble_eq_true rfl, Nat.le_of_ble_eq_true rfl⟩), (hts _ (gw kw_932 rfl))⟩ ⟨fb_std, pre_std hPc hK hDc hN⟩ rfl rfl hl.1 rfl (lv_room (Nat.le_of_ble_eq_true rfl)) dX12_enough_10 ⟨Nat.le_of_ble_eq_true rfl, Nat.le_of_ble_eq_true rfl⟩) hS (fun q _ h => hFc q h) hFc (fun x_3 u9 t9 H1 locs ht hvm hw_3 hB hz1 hk1 hS => ?_)
      obtain ⟨hP1, hK1, hD1⟩ := hB
      rw [ht] at hP1
      clear hK1
      try dsimp only at hw_3
      have hpd9 : PDx (dC, dI) classes A H1 [oX12 g0 m_refused m_kind m_figure m_weight m_got m_setting men msy mdn m_tape m_letter m_letterAt m_told tp mat stm m_kept him ki crs m_price m_offer m_gets m_yes m_buys m_ends m_carried m_row rm m_keptRow m_likeGets m_likePrice m_ahead, cI aC m_setting 5 stf] := jn_N (wr := [oX12 g0 m_refused m_kind m_figure m_weight m_got m_setting men msy mdn m_tape m_letter m_letterAt m_told tp mat stm m_kept him ki crs m_price m_offer m_gets m_yes m_buys m_ends m_carried m_row rm m_keptRow m_likeGets m_likePrice m_ahead, cI aC m_setting 5 stf]) hFc hk1 hP1 hD1 hP hD [] [0, 1] rfl rfl (by decide) (by decide)
      have hP := hpd9.1
      have hD := hpd9.2
      clear hpd9
      generalize H1 = H at hP hS ⊢
      clear hPc hDc hFc hz1 hk1 hP1 hD1 ht hvm
      have hz_10 := hw_3
      refine lv_if_ne (tgt := 22) hx hb dX12_enough_13 (by decide) (fun c_4 => ?_) (fun c_4 => ?_)
      · have hge : nd (stf 1) a ≤ k := by
          rcases Nat.lt_or_ge k (nd (stf 1) a) with q | q
          · exact absurd (by rw [hz_10, if_neg (by omega)]) c_4
          · exact q
        refine lv_iload_n hx hb dX12_enough_22 rfl (lv_at hl 2 rfl) ?_
        have hpd9 := pd_N (cx := [oX12 g0 m_refused m_kind m_figure m_weight m_got m_setting men msy mdn m_tape m_letter m_letterAt m_told tp mat stm m_kept him ki crs m_price m_offer m_gets m_yes m_buys m_ends m_carried m_row rm m_keptRow m_likeGets m_likePrice m_ahead, cI aC m_setting 5 stf]) hP hD [0, 1] (by decide) rfl
        have hP9 := hpd9.1
        have hD9 := hpd9.2
        refine W.widen (k := 0) (n := 0) (by omega) (by omega) ?_
        exact W.iret (v := nI k) hx hb hr (fun t ht hW => ⟨⟨(nI k), (), rfl, by rw [show k = nd (stf 1) a by omega], by rw [ht]; exact hP9, va_K.moved hW.alike hK, hD9⟩, hS.F ht⟩) hS.2.2 dX12_enough_23
      · have hlt : ¬ nd (stf 1) a ≤ k := fun q => by rw [hz_10, if_pos q] at c_4; exact absurd c_4 (by decide)
        obtain ⟨x_5, e_5⟩ : ∃ y : Int32, y = (nI k) + 1 := ⟨_, rfl⟩
        refine lv_iinc (v := x_5) (lv' := [(2, Value.int x_5), (0, Value.ref g0), (1, Value.int (nI a))]) hx hb dX12_enough_16 hl (k := 2) rfl (by rw [e_5]; rfl) (by decide) rfl (fun ls hl => ?_)
        have h9 : x_5 = nI (k + 1) := by rw [e_5, nI_1]
        subst h9
        refine lv_goto (tgt := 2) hx hb dX12_enough_19 (by decide) ?_
        exact ih_2 (k + 1) (by have := nd_le (law := stf 1) ha.1; omega) (by omega) _ _ _ (hP.sub [0, 1] rfl) (hD.sub [0, 1] (by decide) rfl) hS (lv_sub hl [1, 2, 0] rfl)
  exact lp_2 ((200 - 0) + 1) 0 (Nat.lt_succ_self _) (Nat.zero_le _) _ _ _ (hP.sub [0, 1] rfl) (hD.sub [0, 1] (by decide) rfl) hS (lv_sub hl [1, 2, 0] rfl)

set_option maxHeartbeats 1000000 in
set_option maxRecDepth 100000 in
/-- X12_withPrice -/
theorem c_X12_withPrice (l : Launch) (dC : Nat → ClassId) (dI : Nat → Nat → Nat) (aC : Nat → ClassId) (sz : Nat) (g0 : Nat) (m_refused : Nat) (m_kind : Nat) (m_figure : Nat) (m_weight : Nat) (m_got : Nat) (m_setting : Nat) (m_tape : Nat) (m_letter : Nat) (m_letterAt : Nat) (m_told : Nat) (m_kept : Nat) (m_price : Nat) (m_offer : Nat) (m_gets : Nat) (m_yes : Nat) (m_buys : Nat) (m_ends : Nat) (m_carried : Nat) (m_row : Nat) (m_keptRow : Nat) (m_likeGets : Nat) (m_likePrice : Nat) (m_ahead : Nat) (men : Int32) (msy : Int32) (mdn : Int32) (tp : Int32) (mat : Int32) (stm : Int32) (him : Int32) (ki : Int32) (crs : Int32) (rm : Int32) (Q : Nat → Nat) (pf : Nat → Int32) (i : Nat) (n : Nat) (v : Nat) (hn : i < n ∧ n ≤ 60) (hQ : ∀ j, i < j → j < n → pf j = nI (Q j) ∧ Q j ≤ 100) (hv : v ≤ 101) : Met l yX12_withPrice (wW yX12_withPrice cX12_withPrice 6 (some .int)) ({ frames := 0, cells := 0, slots := 0, locals := 0 } : Room) (va_Pc [Value.ref g0, Value.int (nI (i + 1)), Value.int (nI n), Value.int (nI v)] (fun U => U.heap.size = sz ∧ va_P (dC, dI) classes [oX12 g0 m_refused m_kind m_figure m_weight m_got m_setting men msy mdn m_tape m_letter m_letterAt m_told tp mat stm m_kept him ki crs m_price m_offer m_gets m_yes m_buys m_ends m_carried m_row rm m_keptRow m_likeGets m_likePrice m_ahead, cI aC m_likePrice 61 pf] U.heap ∧ va_K (dC, dI) classes (TY aC) U ∧ va_D (fun _ => True) [oX12 g0 m_refused m_kind m_figure m_weight m_got m_setting men msy mdn m_tape m_letter m_letterAt m_told tp mat stm m_kept him ki crs m_price m_offer m_gets m_yes m_buys m_ends m_carried m_row rm m_keptRow m_likeGets m_likePrice m_ahead, cI aC m_likePrice 61 pf] ∧ NX U)) (va_Qi (fun (r : Int32) (_ : Unit) => r = nI (cv Q (i + 1) (n - 1 - i) v)) (fun (_ : Unit) (t : State) => va_P (dC, dI) classes [oX12 g0 m_refused m_kind m_figure m_weight m_got m_setting men msy mdn m_tape m_letter m_letterAt m_told tp mat stm m_kept him ki crs m_price m_offer m_gets m_yes m_buys m_ends m_carried m_row rm m_keptRow m_likeGets m_likePrice m_ahead, cI aC m_likePrice 61 pf] t.heap ∧ va_K (dC, dI) classes (TY aC) t ∧ va_D (va_A [oX12 g0 m_refused m_kind m_figure m_weight m_got m_setting men msy mdn m_tape m_letter m_letterAt m_told tp mat stm m_kept him ki crs m_price m_offer m_gets m_yes m_buys m_ends m_carried m_row rm m_keptRow m_likeGets m_likePrice m_ahead, cI aC m_likePrice 61 pf] sz) [oX12 g0 m_refused m_kind m_figure m_weight m_got m_setting men msy mdn m_tape m_letter m_letterAt m_told tp mat stm m_kept him ki crs m_price m_offer m_gets m_yes m_buys m_ends m_carried m_row rm m_keptRow m_likeGets m_likePrice m_ahead, cI aC m_likePrice 61 pf]) (va_A [oX12 g0 m_refused m_kind m_figure m_weight m_got m_setting men msy mdn m_tape m_letter m_letterAt m_told tp mat stm m_kept him ki crs m_price m_offer m_gets m_yes m_buys m_ends m_carried m_row rm m_keptRow m_likeGets m_likePrice m_ahead, cI aC m_likePrice 61 pf] sz)) 0 0 (va_A [oX12 g0 m_refused m_kind m_figure m_weight m_got m_setting men msy mdn m_tape m_letter m_letterAt m_told tp mat stm m_kept him ki crs m_price m_offer m_gets m_yes m_buys m_ends m_carried m_row rm m_keptRow m_likeGets m_likePrice m_ahead, cI aC m_likePrice 61 pf] sz) := by
  refine Met.ofW (cc := cX12_withPrice) (maxL := 6) (ret := (some .int)) (by decide) rfl ?_
  intro p e s m args below meth c s₁ B hml hv
  obtain ⟨rfl, hsz, hP, hK, hD0, hN⟩ := hv
  have hx := B.exec
  have hb := B.bytes
  have hr := B.returns
  have hts0 := atoms_spec (ws := (wW yX12_withPrice cX12_withPrice 6 (some .int))) B.pre
  have hts : ∀ w9 ∈ lw_G, w9.before ([Value.ref g0, Value.int (nI (i + 1)), Value.int (nI n), Value.int (nI v)] : List Value).toArray s = true := fun w9 h9 => hts0 w9 (List.mem_cons_of_mem _ h9)
  have hown : s.vm.findClass RX12 = some m.cls := findClass_of_methodNamed (x := yX12_withPrice) B.named
  have hlocks := B.notSynchronized
  subst hsz
  have hD := hD0.self (sz := s.heap.size)
  generalize hAe : va_A [oX12 g0 m_refused m_kind m_figure m_weight m_got m_setting men msy mdn m_tape m_letter m_letterAt m_told tp mat stm m_kept him ki crs m_price m_offer m_gets m_yes m_buys m_ends m_carried m_row rm m_keptRow m_likeGets m_likePrice m_ahead, cI aC m_likePrice 61 pf] s.heap.size = A at hD ⊢
  have hA : ∀ q : Nat, s.heap.size ≤ q → A q := fun q h => by rw [← hAe]; exact Or.inr h
  obtain ⟨H, hHe⟩ : ∃ H : Heap, H = s.heap := ⟨_, rfl⟩
  have hS : va_S A s.heap H [] := by rw [hHe]; exact va_S.rf
  have hP : va_P (dC, dI) classes [oX12 g0 m_refused m_kind m_figure m_weight m_got m_setting men msy mdn m_tape m_letter m_letterAt m_told tp mat stm m_kept him ki crs m_price m_offer m_gets m_yes m_buys m_ends m_carried m_row rm m_keptRow m_likeGets m_likePrice m_ahead, cI aC m_likePrice 61 pf] H := by rw [hHe]; exact hP
  have hl := lv_entry ([Value.ref g0, Value.int (nI (i + 1)), Value.int (nI n), Value.int (nI v)]) (n := 6) (Nat.le_of_ble_eq_true rfl)
  rw [lg_entry_eq]
  generalize (lg_sl ([Value.ref g0, Value.int (nI (i + 1)), Value.int (nI n), Value.int (nI v)]) ++ List.replicate (6 - (lg_sl ([Value.ref g0, Value.int (nI (i + 1)), Value.int (nI n), Value.int (nI v)])).length) Slot.unset).toArray = ls at hl ⊢
  have hl : lv_has ls 6 [(0, Value.ref g0), (1, Value.int (nI (i + 1))), (2, Value.int (nI n)), (3, Value.int (nI v))] := hl
  rw [← hHe]
  refine lv_iconst (v := 0) hx hb dX12_withPrice_0 (by decide) ?_
  refine lv_topi (fun x_1 e_1 => ?_)
  have h9 : x_1 = nI (cv Q (i + 1) (i + 1 - (i + 1)) v) := by rw [e_1, Nat.sub_self]; rfl
  subst h9
  refine lv_istore (lv' := [(4, Value.int (nI (cv Q (i + 1) (i + 1 - (i + 1)) v))), (0, Value.ref g0), (1, Value.int (nI (i + 1))), (2, Value.int (nI n)), (3, Value.int (nI v))]) hx hb dX12_withPrice_1 hl (by decide) rfl (fun ls hl => ?_)
  refine lv_iload_n hx hb dX12_withPrice_3 rfl (lv_at hl 2 rfl) ?_
  refine lv_istore (lv' := [(5, Value.int (nI (i + 1))), (4, Value.int (nI (cv Q (i + 1) (i + 1 - (i + 1)) v))), (0, Value.ref g0), (1, Value.int (nI (i + 1))), (2, Value.int (nI n)), (3, Value.int (nI v))]) hx hb dX12_withPrice_4 hl (by decide) rfl (fun ls hl => ?_)
  have lp_6 : ∀ (fu : Nat) (j : Nat) (hfu : n - j < fu) (hj : i < j ∧ j ≤ n) (H : Heap) (locs : List Loc) (ls : Array Slot), va_P (dC, dI) classes [oX12 g0 m_refused m_kind m_figure m_weight m_got m_setting men msy mdn m_tape m_letter m_letterAt m_told tp mat stm m_kept him ki crs m_price m_offer m_gets m_yes m_buys m_ends m_carried m_row rm m_keptRow m_likeGets m_likePrice m_ahead, cI aC m_likePrice 61 pf] H → va_D A [oX12 g0 m_refused m_kind m_figure m_weight m_got m_setting men msy mdn m_tape m_letter m_letterAt m_told tp mat stm m_kept him ki crs m_price m_offer m_gets m_yes m_buys m_ends m_carried m_row rm m_keptRow m_likeGets m_likePrice m_ahead, cI aC m_likePrice 61 pf] → va_S A s.heap H locs → lv_has ls 6 [(0, Value.ref g0), (1, Value.int (nI (i + 1))), (2, Value.int (nI n)), (3, Value.int (nI v)), (4, Value.int (nI (cv Q (i + 1) (j - (i + 1)) v))), (5, Value.int (nI j))] → W p l e (headSpec (wW yX12_withPrice cX12_withPrice 6 (some .int)) ({ frames := 0, cells := 0, slots := 0, locals := 0 } : Room)).room s m ([Value.ref g0, Value.int (nI (i + 1)), Value.int (nI n), Value.int (nI v)] : List Value).toArray below meth c H locs 0 0 (MQ below (va_Qi (fun (r : Int32) (_ : Unit) => r = nI (cv Q (i + 1) (n - 1 - i) v)) (fun (_ : Unit) (t : State) => va_P (dC, dI) classes [oX12 g0 m_refused m_kind m_figure m_weight m_got m_setting men msy mdn m_tape m_letter m_letterAt m_told tp mat stm m_kept him ki crs m_price m_offer m_gets m_yes m_buys m_ends m_carried m_row rm m_keptRow m_likeGets m_likePrice m_ahead, cI aC m_likePrice 61 pf] t.heap ∧ va_K (dC, dI) classes (TY aC) t ∧ va_D A [oX12 g0 m_refused m_kind m_figure m_weight m_got m_setting men msy mdn m_tape m_letter m_letterAt m_told tp mat stm m_kept him ki crs m_price m_offer m_gets m_yes m_buys m_ends m_carried m_row rm m_keptRow m_likeGets m_likePrice m_ahead, cI aC m_likePrice 61 pf]) A) ([Value.ref g0, Value.int (nI (i + 1)), Value.int (nI n), Value.int (nI v)] : List Value).toArray s 0 0 A) (F0 m 6 ls []) := by
    intro fu
    induction fu with
    | zero => intro j hfu; exact absurd hfu (Nat.not_lt_zero _)
    | succ fu ih_6 =>
      intro j hfu hj H locs ls hP hD hS hl
      refine lv_iload hx hb dX12_withPrice_6 (lv_at hl 5 rfl) ?_
      refine lv_iload_n hx hb dX12_withPrice_8 rfl (lv_at hl 2 rfl) ?_
      refine lv_icmp_ge (tgt := 39) hx hb dX12_withPrice_9 (by decide) (fun c_2 => ?_) (fun c_2 => ?_)
      · have hjn : j = n := by
          rcases Nat.lt_or_ge j n with q | q
          · exact absurd c_2 (nI_ge q (by omega))
          · omega
        refine lv_iload hx hb dX12_withPrice_39 (lv_at hl 4 rfl) ?_
        have hpd9 := pd_N (cx := [oX12 g0 m_refused m_kind m_figure m_weight m_got m_setting men msy mdn m_tape m_letter m_letterAt m_told tp mat stm m_kept him ki crs m_price m_offer m_gets m_yes m_buys m_ends m_carried m_row rm m_keptRow m_likeGets m_likePrice m_ahead, cI aC m_likePrice 61 pf]) hP hD [0, 1] (by decide) rfl
        have hP9 := hpd9.1
        have hD9 := hpd9.2
        refine W.widen (k := 0) (n := 0) (by omega) (by omega) ?_
        exact W.iret (v := nI (cv Q (i + 1) (j - (i + 1)) v)) hx hb hr (fun t ht hW => ⟨⟨(nI (cv Q (i + 1) (j - (i + 1)) v)), (), rfl, by rw [hjn, show n - (i + 1) = n - 1 - i by omega], by rw [ht]; exact hP9, va_K.moved hW.alike hK, hD9⟩, hS.F ht⟩) hS.2.2 dX12_withPrice_41
      · have hlt : j < n := by
          rcases Nat.lt_or_ge j n with q | q
          · exact q
          · exact absurd (nI_le q (by omega)) c_2
        obtain ⟨hq1, hq2⟩ := hQ j hj.1 hlt
        refine lv_iload hx hb dX12_withPrice_12 (lv_at hl 4 rfl) ?_
        refine lv_aload_n hx hb dX12_withPrice_14 rfl (lv_at hl 0 rfl) ?_
        refine va_get (D := (dC, dI)) (ci := 12) (v := Value.ref m_likePrice) (C := RX12) (T := TX12) (N := 33) hx hb hts inX12 hown hK hP 0 rfl rfl 31 (by decide) (hts _ (gw kw_748 rfl)) (fun _ h9 => h9) rfl dX12_withPrice_15 ?_
        refine lv_iload hx hb dX12_withPrice_18 (lv_at hl 5 rfl) ?_
        have h_3 : vp_in (nI j) 61 := vp_in_nI (by omega) (by omega)
        refine va_iald hx hb hK hP 1 0 rfl rfl h_3 dX12_withPrice_20 ?_
        refine lv_topi (fun x_4 e_4 => ?_)
        have h9 : x_4 = nI (Q j) := by rw [e_4, nI_clamp (by omega)]; exact hq1
        subst h9
        refine lv_iload_n hx hb dX12_withPrice_21 rfl (lv_at hl 3 rfl) ?_
        refine lv_icmp_ne (tgt := 29) hx hb dX12_withPrice_22 (by decide) (fun c_5 => ?_) (fun c_5 => ?_)
        · refine lv_iconst (v := 0) hx hb dX12_withPrice_29 (by decide) ?_
          refine lv_iadd hx hb dX12_withPrice_30 ?_
          refine lv_topi (fun x_6 e_6 => ?_)
          refine lv_istore (lv' := [(4, Value.int x_6), (0, Value.ref g0), (1, Value.int (nI (i + 1))), (2, Value.int (nI n)), (3, Value.int (nI v)), (5, Value.int (nI j))]) hx hb dX12_withPrice_31 hl (by decide) rfl (fun ls hl => ?_)
          have hqv : ¬ Q j = v := fun q => c_5 (by rw [q])
          have h9 : x_6 = nI (cv Q (i + 1) (j + 1 - (i + 1)) v) := by rw [e_6, cv_at (by omega), if_neg hqv]; exact nI_add _ 0
          subst h9
          obtain ⟨x_7, e_7⟩ : ∃ y : Int32, y = (nI j) + 1 := ⟨_, rfl⟩
          refine lv_iinc (v := x_7) (lv' := [(5, Value.int x_7), (4, Value.int (nI (cv Q (i + 1) (j + 1 - (i + 1)) v))), (0, Value.ref g0), (1, Value.int (nI (i + 1))), (2, Value.int (nI n)), (3, Value.int (nI v))]) hx hb dX12_withPrice_33 hl (k := 5) rfl (by rw [e_7]; rfl) (by decide) rfl (fun ls hl => ?_)
          have h9 : x_7 = nI (j + 1) := by rw [e_7, nI_1]
          subst h9
          refine lv_goto (tgt := 6) hx hb dX12_withPrice_36 (by decide) ?_
          exact ih_6 (j + 1) (ms_lt hlt hfu) (by omega) _ _ _ (hP.sub [0, 1] rfl) (hD.sub [0, 1] (by decide) rfl) hS (lv_sub hl [2, 3, 4, 5, 1, 0] rfl)
        · refine lv_iconst (v := 1) hx hb dX12_withPrice_25 (by decide) ?_
          refine lv_goto (tgt := 30) hx hb dX12_withPrice_26 (by decide) ?_
          refine lv_iadd hx hb dX12_withPrice_30 ?_
          refine lv_topi (fun x_8 e_8 => ?_)
          refine lv_istore (lv' := [(4, Value.int x_8), (0, Value.ref g0), (1, Value.int (nI (i + 1))), (2, Value.int (nI n)), (3, Value.int (nI v)), (5, Value.int (nI j))]) hx hb dX12_withPrice_31 hl (by decide) rfl (fun ls hl => ?_)
          have hqv : Q j = v := (nI_eq (by omega) (by omega)).mp c_5
          have h9 : x_8 = nI (cv Q (i + 1) (j + 1 - (i + 1)) v) := by rw [e_8, cv_at (by omega), if_pos hqv]; exact nI_add _ 1
          subst h9
          obtain ⟨x_9, e_9⟩ : ∃ y : Int32, y = (nI j) + 1 := ⟨_, rfl⟩
          refine lv_iinc (v := x_9) (lv' := [(5, Value.int x_9), (4, Value.int (nI (cv Q (i + 1) (j + 1 - (i + 1)) v))), (0, Value.ref g0), (1, Value.int (nI (i + 1))), (2, Value.int (nI n)), (3, Value.int (nI v))]) hx hb dX12_withPrice_33 hl (k := 5) rfl (by rw [e_9]; rfl) (by decide) rfl (fun ls hl => ?_)
          have h9 : x_9 = nI (j + 1) := by rw [e_9, nI_1]
          subst h9
          refine lv_goto (tgt := 6) hx hb dX12_withPrice_36 (by decide) ?_
          exact ih_6 (j + 1) (ms_lt hlt hfu) (by omega) _ _ _ (hP.sub [0, 1] rfl) (hD.sub [0, 1] (by decide) rfl) hS (lv_sub hl [2, 3, 4, 5, 1, 0] rfl)
  exact lp_6 ((n - (i + 1)) + 1) (i + 1) (Nat.lt_succ_self _) (by omega) _ _ _ (hP.sub [0, 1] rfl) (hD.sub [0, 1] (by decide) rfl) hS (lv_sub hl [2, 3, 4, 5, 1, 0] rfl)

set_option maxHeartbeats 1000000 in
set_option maxRecDepth 100000 in
/-- X12_likeTakes -/
theorem c_X12_likeTakes (l : Launch) (dC : Nat → ClassId) (dI : Nat → Nat → Nat) (aC : Nat → ClassId) (sz : Nat) (g0 : Nat) (m_refused : Nat) (m_kind : Nat) (m_figure : Nat) (m_weight : Nat) (m_got : Nat) (m_setting : Nat) (m_tape : Nat) (m_letter : Nat) (m_letterAt : Nat) (m_told : Nat) (m_kept : Nat) (m_price : Nat) (m_offer : Nat) (m_gets : Nat) (m_yes : Nat) (m_buys : Nat) (m_ends : Nat) (m_carried : Nat) (m_row : Nat) (m_keptRow : Nat) (m_likeGets : Nat) (m_likePrice : Nat) (m_ahead : Nat) (men : Int32) (msy : Int32) (mdn : Int32) (tp : Int32) (mat : Int32) (stm : Int32) (him : Int32) (ki : Int32) (crs : Int32) (rm : Int32) (stf : Nat → Int32) (gf : Nat → Int32) (pf : Nat → Int32) (Q : Nat → Nat) (i : Nat) (n : Nat) (v : Nat) (mq : Nat) (hn : i < n ∧ n ≤ 60) (hQ : ∀ j, i < j → j < n → pf j = nI (Q j) ∧ Q j ≤ 100) (hv : v ≤ 100) (hm : mq ≤ 100) (hst : ∀ u, u < v → cu Q (i + 1) (n - 1 - i) u < mq) : Met l yX12_likeTakes (wW yX12_likeTakes cX12_likeTakes 9 (none : Option FieldType)) ({ frames := 1, cells := 0, slots := 0, locals := 25 } : Room) (va_Pc [Value.ref g0, Value.int (nI i), Value.int (nI n), Value.int (nI v), Value.int (nI mq)] (fun U => U.heap.size = sz ∧ va_P (dC, dI) classes [oX12 g0 m_refused m_kind m_figure m_weight m_got m_setting men msy mdn m_tape m_letter m_letterAt m_told tp mat stm m_kept him ki crs m_price m_offer m_gets m_yes m_buys m_ends m_carried m_row rm m_keptRow m_likeGets m_likePrice m_ahead, cI aC m_setting 5 stf, cI aC m_likeGets 61 gf, cI aC m_likePrice 61 pf] U.heap ∧ va_K (dC, dI) classes (TY aC) U ∧ va_D (fun _ => True) [oX12 g0 m_refused m_kind m_figure m_weight m_got m_setting men msy mdn m_tape m_letter m_letterAt m_told tp mat stm m_kept him ki crs m_price m_offer m_gets m_yes m_buys m_ends m_carried m_row rm m_keptRow m_likeGets m_likePrice m_ahead, cI aC m_setting 5 stf, cI aC m_likeGets 61 gf, cI aC m_likePrice 61 pf] ∧ NX U)) (va_Qv (fun (gg : Nat → Int32) => ∀ q, i < q → q < n → gg q = nI (OFm (stf 3) Q (i + 1) (n - 1 - i) mq v q)) (fun (gg : Nat → Int32) (t : State) => va_P (dC, dI) classes [oX12 g0 m_refused m_kind m_figure m_weight m_got m_setting men msy mdn m_tape m_letter m_letterAt m_told tp mat stm m_kept him ki crs m_price m_offer m_gets m_yes m_buys m_ends m_carried m_row rm m_keptRow m_likeGets m_likePrice m_ahead, cI aC m_setting 5 stf, cI aC m_likeGets 61 gg, cI aC m_likePrice 61 pf] t.heap ∧ va_K (dC, dI) classes (TY aC) t ∧ va_D (va_A [oX12 g0 m_refused m_kind m_figure m_weight m_got m_setting men msy mdn m_tape m_letter m_letterAt m_told tp mat stm m_kept him ki crs m_price m_offer m_gets m_yes m_buys m_ends m_carried m_row rm m_keptRow m_likeGets m_likePrice m_ahead, cI aC m_setting 5 stf, cI aC m_likeGets 61 gf, cI aC m_likePrice 61 pf] sz) [oX12 g0 m_refused m_kind m_figure m_weight m_got m_setting men msy mdn m_tape m_letter m_letterAt m_told tp mat stm m_kept him ki crs m_price m_offer m_gets m_yes m_buys m_ends m_carried m_row rm m_keptRow m_likeGets m_likePrice m_ahead, cI aC m_setting 5 stf, cI aC m_likeGets 61 gg, cI aC m_likePrice 61 pf]) (va_A [oX12 g0 m_refused m_kind m_figure m_weight m_got m_setting men msy mdn m_tape m_letter m_letterAt m_told tp mat stm m_kept him ki crs m_price m_offer m_gets m_yes m_buys m_ends m_carried m_row rm m_keptRow m_likeGets m_likePrice m_ahead, cI aC m_setting 5 stf, cI aC m_likeGets 61 gf, cI aC m_likePrice 61 pf] sz)) 0 0 (va_A [oX12 g0 m_refused m_kind m_figure m_weight m_got m_setting men msy mdn m_tape m_letter m_letterAt m_told tp mat stm m_kept him ki crs m_price m_offer m_gets m_yes m_buys m_ends m_carried m_row rm m_keptRow m_likeGets m_likePrice m_ahead, cI aC m_setting 5 stf, cI aC m_likeGets 61 gf, cI aC m_likePrice 61 pf] sz) := by
  refine Met.ofW (cc := cX12_likeTakes) (maxL := 9) (ret := (none : Option FieldType)) (by decide) rfl ?_
  intro p e s m args below meth c s₁ B hml hv
  obtain ⟨rfl, hsz, hP, hK, hD0, hN⟩ := hv
  have hx := B.exec
  have hb := B.bytes
  have hr := B.returns
  have hts0 := atoms_spec (ws := (wW yX12_likeTakes cX12_likeTakes 9 (none : Option FieldType))) B.pre
  have hts : ∀ w9 ∈ lw_G, w9.before ([Value.ref g0, Value.int (nI i), Value.int (nI n), Value.int (nI v), Value.int (nI mq)] : List Value).toArray s = true := fun w9 h9 => hts0 w9 (List.mem_cons_of_mem _ h9)
  have hown : s.vm.findClass RX12 = some m.cls := findClass_of_methodNamed (x := yX12_likeTakes) B.named
  have hlocks := B.notSynchronized
  subst hsz
  have hD := hD0.self (sz := s.heap.size)
  generalize hAe : va_A [oX12 g0 m_refused m_kind m_figure m_weight m_got m_setting men msy mdn m_tape m_letter m_letterAt m_told tp mat stm m_kept him ki crs m_price m_offer m_gets m_yes m_buys m_ends m_carried m_row rm m_keptRow m_likeGets m_likePrice m_ahead, cI aC m_setting 5 stf, cI aC m_likeGets 61 gf, cI aC m_likePrice 61 pf] s.heap.size = A at hD ⊢
  have hA : ∀ q : Nat, s.heap.size ≤ q → A q := fun q h => by rw [← hAe]; exact Or.inr h
  obtain ⟨H, hHe⟩ : ∃ H : Heap, H = s.heap := ⟨_, rfl⟩
  have hS : va_S A s.heap H [] := by rw [hHe]; exact va_S.rf
  have hP : va_P (dC, dI) classes [oX12 g0 m_refused m_kind m_figure m_weight m_got m_setting men msy mdn m_tape m_letter m_letterAt m_told tp mat stm m_kept him ki crs m_price m_offer m_gets m_yes m_buys m_ends m_carried m_row rm m_keptRow m_likeGets m_likePrice m_ahead, cI aC m_setting 5 stf, cI aC m_likeGets 61 gf, cI aC m_likePrice 61 pf] H := by rw [hHe]; exact hP
  have hl := lv_entry ([Value.ref g0, Value.int (nI i), Value.int (nI n), Value.int (nI v), Value.int (nI mq)]) (n := 9) (Nat.le_of_ble_eq_true rfl)
  rw [lg_entry_eq]
  generalize (lg_sl ([Value.ref g0, Value.int (nI i), Value.int (nI n), Value.int (nI v), Value.int (nI mq)]) ++ List.replicate (9 - (lg_sl ([Value.ref g0, Value.int (nI i), Value.int (nI n), Value.int (nI v), Value.int (nI mq)])).length) Slot.unset).toArray = ls at hl ⊢
  have hl : lv_has ls 9 [(0, Value.ref g0), (1, Value.int (nI i)), (2, Value.int (nI n)), (3, Value.int (nI v)), (4, Value.int (nI mq))] := hl
  rw [← hHe]
  refine lv_iload hx hb dX12_likeTakes_0 (lv_at hl 4 rfl) ?_
  refine lv_topi (fun x_1 e_1 => ?_)
  have h9 : x_1 = iI ((mq : Int) - cu Q (i + 1) (n - 1 - i) (1 - 1)) := by rw [e_1, nI_iI]; exact congrArg iI (show (mq : Int) = mq - ((0 : Nat) : Int) by omega)
  subst h9
  refine lv_istore (lv' := [(5, Value.int (iI ((mq : Int) - cu Q (i + 1) (n - 1 - i) (1 - 1)))), (0, Value.ref g0), (1, Value.int (nI i)), (2, Value.int (nI n)), (3, Value.int (nI v)), (4, Value.int (nI mq))]) hx hb dX12_likeTakes_2 hl (by decide) rfl (fun ls hl => ?_)
  refine lv_iconst (v := 1) hx hb dX12_likeTakes_4 (by decide) ?_
  refine lv_istore (lv' := [(6, Value.int 1), (5, Value.int (iI ((mq : Int) - cu Q (i + 1) (n - 1 - i) (1 - 1)))), (0, Value.ref g0), (1, Value.int (nI i)), (2, Value.int (nI n)), (3, Value.int (nI v)), (4, Value.int (nI mq))]) hx hb dX12_likeTakes_5 hl (by decide) rfl (fun ls hl => ?_)
  have lp_7 : ∀ (fu : Nat) (pp : Nat) (hfu : 101 - pp < fu) (hp1 : 1 ≤ pp) (hp2 : pp ≤ max v 1) (H : Heap) (locs : List Loc) (ls : Array Slot), va_P (dC, dI) classes [oX12 g0 m_refused m_kind m_figure m_weight m_got m_setting men msy mdn m_tape m_letter m_letterAt m_told tp mat stm m_kept him ki crs m_price m_offer m_gets m_yes m_buys m_ends m_carried m_row rm m_keptRow m_likeGets m_likePrice m_ahead, cI aC m_setting 5 stf, cI aC m_likeGets 61 gf, cI aC m_likePrice 61 pf] H → va_D A [oX12 g0 m_refused m_kind m_figure m_weight m_got m_setting men msy mdn m_tape m_letter m_letterAt m_told tp mat stm m_kept him ki crs m_price m_offer m_gets m_yes m_buys m_ends m_carried m_row rm m_keptRow m_likeGets m_likePrice m_ahead, cI aC m_setting 5 stf, cI aC m_likeGets 61 gf, cI aC m_likePrice 61 pf] → va_S A s.heap H locs → lv_has ls 9 [(0, Value.ref g0), (1, Value.int (nI i)), (2, Value.int (nI n)), (3, Value.int (nI v)), (4, Value.int (nI mq)), (5, Value.int (iI ((mq : Int) - cu Q (i + 1) (n - 1 - i) (pp - 1)))), (6, Value.int (nI pp))] → W p l e (headSpec (wW yX12_likeTakes cX12_likeTakes 9 (none : Option FieldType)) ({ frames := 1, cells := 0, slots := 0, locals := 25 } : Room)).room s m ([Value.ref g0, Value.int (nI i), Value.int (nI n), Value.int (nI v), Value.int (nI mq)] : List Value).toArray below meth c H locs 0 0 (MQ below (va_Qv (fun (gg : Nat → Int32) => ∀ q, i < q → q < n → gg q = nI (OFm (stf 3) Q (i + 1) (n - 1 - i) mq v q)) (fun (gg : Nat → Int32) (t : State) => va_P (dC, dI) classes [oX12 g0 m_refused m_kind m_figure m_weight m_got m_setting men msy mdn m_tape m_letter m_letterAt m_told tp mat stm m_kept him ki crs m_price m_offer m_gets m_yes m_buys m_ends m_carried m_row rm m_keptRow m_likeGets m_likePrice m_ahead, cI aC m_setting 5 stf, cI aC m_likeGets 61 gg, cI aC m_likePrice 61 pf] t.heap ∧ va_K (dC, dI) classes (TY aC) t ∧ va_D A [oX12 g0 m_refused m_kind m_figure m_weight m_got m_setting men msy mdn m_tape m_letter m_letterAt m_told tp mat stm m_kept him ki crs m_price m_offer m_gets m_yes m_buys m_ends m_carried m_row rm m_keptRow m_likeGets m_likePrice m_ahead, cI aC m_setting 5 stf, cI aC m_likeGets 61 gg, cI aC m_likePrice 61 pf]) A) ([Value.ref g0, Value.int (nI i), Value.int (nI n), Value.int (nI v), Value.int (nI mq)] : List Value).toArray s 0 0 A) (F0 m 7 ls []) := by
    intro fu
    induction fu with
    | zero => intro pp hfu; exact absurd hfu (Nat.not_lt_zero _)
    | succ fu ih_7 =>
      intro pp hfu hp1 hp2 H locs ls hP hD hS hl
      refine lv_iload hx hb dX12_likeTakes_7 (lv_at hl 6 rfl) ?_
      refine lv_iload_n hx hb dX12_likeTakes_9 rfl (lv_at hl 3 rfl) ?_
      refine lv_icmp_ge (tgt := 34) hx hb dX12_likeTakes_10 (by decide) (fun c_2 => ?_) (fun c_2 => ?_)
      · refine lv_iload_n hx hb dX12_likeTakes_34 rfl (lv_at hl 1 rfl) ?_
        refine lv_iconst (v := 1) hx hb dX12_likeTakes_35 (by decide) ?_
        refine lv_iadd hx hb dX12_likeTakes_36 ?_
        refine lv_topi (fun x_3 e_3 => ?_)
        refine lv_istore (lv' := [(6, Value.int x_3), (0, Value.ref g0), (1, Value.int (nI i)), (2, Value.int (nI n)), (3, Value.int (nI v)), (4, Value.int (nI mq)), (5, Value.int (iI ((mq : Int) - cu Q (i + 1) (n - 1 - i) (pp - 1))))]) hx hb dX12_likeTakes_37 hl (by decide) rfl (fun ls hl => ?_)
        have h9 : x_3 = nI (i + 1) := by rw [e_3, nI_1]
        subst h9
        have hx50 : 0 < v → iI ((mq : Int) - cu Q (i + 1) (n - 1 - i) (pp - 1)) = nI (((mq - cu Q (i + 1) (n - 1 - i) (v - 1))) - cv (Qm (stf 3) (i + 1) (n - 1 - i) Q) (i + 1) (i + 1 - (i + 1)) v) := fun hv0 => by
          have h8 := hst (v - 1) (by omega)
          have hpv : pp = v := by
            have := (nI_leI (by omega) (by omega)).mp c_2
            omega
          rw [hpv, Nat.sub_self, show cv (Qm (stf 3) (i + 1) (n - 1 - i) Q) (i + 1) 0 v = 0 from rfl, nI_iI]
          congr 1
          omega
        have lp_39 : ∀ (fu : Nat) (j : Nat) (x5 : Int32) (gc : Nat → Int32) (hfu : n - j < fu) (hj : i < j ∧ j ≤ n) (hx5 : 0 < v → x5 = nI (((mq - cu Q (i + 1) (n - 1 - i) (v - 1))) - cv (Qm (stf 3) (i + 1) (n - 1 - i) Q) (i + 1) (j - (i + 1)) v)) (hgc : ∀ q, i < q → q < j → gc (mr (stf 3) (i + 1) (n - 1 - i) q) = nI (OF (Qm (stf 3) (i + 1) (n - 1 - i) Q) (i + 1) (n - 1 - i) mq v q)) (H : Heap) (locs : List Loc) (ls : Array Slot), va_P (dC, dI) classes [oX12 g0 m_refused m_kind m_figure m_weight m_got m_setting men msy mdn m_tape m_letter m_letterAt m_told tp mat stm m_kept him ki crs m_price m_offer m_gets m_yes m_buys m_ends m_carried m_row rm m_keptRow m_likeGets m_likePrice m_ahead, cI aC m_setting 5 stf, cI aC m_likeGets 61 gc, cI aC m_likePrice 61 pf] H → va_D A [oX12 g0 m_refused m_kind m_figure m_weight m_got m_setting men msy mdn m_tape m_letter m_letterAt m_told tp mat stm m_kept him ki crs m_price m_offer m_gets m_yes m_buys m_ends m_carried m_row rm m_keptRow m_likeGets m_likePrice m_ahead, cI aC m_setting 5 stf, cI aC m_likeGets 61 gc, cI aC m_likePrice 61 pf] → va_S A s.heap H locs → lv_has ls 9 [(0, Value.ref g0), (1, Value.int (nI i)), (2, Value.int (nI n)), (3, Value.int (nI v)), (4, Value.int (nI mq)), (5, Value.int x5), (6, Value.int (nI j))] → W p l e (headSpec (wW yX12_likeTakes cX12_likeTakes 9 (none : Option FieldType)) ({ frames := 1, cells := 0, slots := 0, locals := 25 } : Room)).room s m ([Value.ref g0, Value.int (nI i), Value.int (nI n), Value.int (nI v), Value.int (nI mq)] : List Value).toArray below meth c H locs 0 0 (MQ below (va_Qv (fun (gg : Nat → Int32) => ∀ q, i < q → q < n → gg q = nI (OFm (stf 3) Q (i + 1) (n - 1 - i) mq v q)) (fun (gg : Nat → Int32) (t : State) => va_P (dC, dI) classes [oX12 g0 m_refused m_kind m_figure m_weight m_got m_setting men msy mdn m_tape m_letter m_letterAt m_told tp mat stm m_kept him ki crs m_price m_offer m_gets m_yes m_buys m_ends m_carried m_row rm m_keptRow m_likeGets m_likePrice m_ahead, cI aC m_setting 5 stf, cI aC m_likeGets 61 gg, cI aC m_likePrice 61 pf] t.heap ∧ va_K (dC, dI) classes (TY aC) t ∧ va_D A [oX12 g0 m_refused m_kind m_figure m_weight m_got m_setting men msy mdn m_tape m_letter m_letterAt m_told tp mat stm m_kept him ki crs m_price m_offer m_gets m_yes m_buys m_ends m_carried m_row rm m_keptRow m_likeGets m_likePrice m_ahead, cI aC m_setting 5 stf, cI aC m_likeGets 61 gg, cI aC m_likePrice 61 pf]) A) ([Value.ref g0, Value.int (nI i), Value.int (nI n), Value.int (nI v), Value.int (nI mq)] : List Value).toArray s 0 0 A) (F0 m 39 ls []) := by
          intro fu
          induction fu with
          | zero => intro j x5 gc hfu; exact absurd hfu (Nat.not_lt_zero _)
          | succ fu ih_39 =>
            intro j x5 gc hfu hj hx5 hgc H locs ls hP hD hS hl
            refine lv_iload hx hb dX12_likeTakes_39 (lv_at hl 6 rfl) ?_
            refine lv_iload_n hx hb dX12_likeTakes_41 rfl (lv_at hl 2 rfl) ?_
            refine lv_icmp_ge (tgt := 150) hx hb dX12_likeTakes_42 (by decide) (fun c_4 => ?_) (fun c_4 => ?_)
            · have hjn : j = n := by
                rcases Nat.lt_or_ge j n with q | q
                · exact absurd c_4 (nI_ge q (by omega))
                · omega
              have hpd9 := pd_N (cx := [oX12 g0 m_refused m_kind m_figure m_weight m_got m_setting men msy mdn m_tape m_letter m_letterAt m_told tp mat stm m_kept him ki crs m_price m_offer m_gets m_yes m_buys m_ends m_carried m_row rm m_keptRow m_likeGets m_likePrice m_ahead, cI aC m_setting 5 stf, cI aC m_likeGets 61 gc, cI aC m_likePrice 61 pf]) hP hD [0, 1, 2, 3] (by decide) rfl
              have hP9 := hpd9.1
              have hD9 := hpd9.2
              refine W.widen (k := 0) (n := 0) (by omega) (by omega) ?_
              exact W.vret hx hb hr (fun t ht hW => ⟨⟨(gc), rfl, fun q h1 h2 => by have hm9 := mr_in (fs := stf 3) (a := i + 1) (y := n - 1 - i) (q := q) (by omega) (by omega); have h9 := hgc (mr (stf 3) (i + 1) (n - 1 - i) q) (by omega) (by omega); rw [mr_mr (by omega) (by omega)] at h9; exact h9, by rw [ht]; exact hP9, va_K.moved hW.alike hK, hD9⟩, hS.F ht⟩) hS.2.2 dX12_likeTakes_150
            · have hlt : j < n := by
                rcases Nat.lt_or_ge j n with q | q
                · exact q
                · exact absurd (nI_le q (by omega)) c_4
              have hcvl := cv_le (Q := (Qm (stf 3) (i + 1) (n - 1 - i) Q)) (a := i + 1) (y := j - (i + 1)) (v := v)
              refine lv_aload_n hx hb dX12_likeTakes_45 rfl (lv_at hl 0 rfl) ?_
              refine va_get (D := (dC, dI)) (ci := 12) (v := Value.ref m_setting) (C := RX12) (T := TX12) (N := 33) hx hb hts inX12 hown hK hP 0 rfl rfl 5 (by decide) (hts _ (gw kw_722 rfl)) (fun _ h9 => h9) rfl dX12_likeTakes_46 ?_
              refine lv_iconst (v := 3) hx hb dX12_likeTakes_49 (by decide) ?_
              have h_5 : vp_in 3 5 := by unfold vp_in; decide
              refine va_iald hx hb hK hP 1 0 rfl rfl h_5 dX12_likeTakes_50 ?_
              refine lv_topi (fun x_6 e_6 => ?_)
              have h9 : x_6 = (stf 3) := by rw [e_6]; rfl
              subst h9
              refine lv_if_ne (tgt := 59) hx hb dX12_likeTakes_51 (by decide) (fun c_7 => ?_) (fun c_7 => ?_)
              · refine lv_iload_n hx hb dX12_likeTakes_59 rfl (lv_at hl 2 rfl) ?_
                refine lv_iload_n hx hb dX12_likeTakes_60 rfl (lv_at hl 1 rfl) ?_
                refine lv_iadd hx hb dX12_likeTakes_61 ?_
                refine lv_topi (fun x_8 e_8 => ?_)
                have h9 : x_8 = nI (n + i) := by rw [e_8, nI_add]
                subst h9
                refine lv_iload hx hb dX12_likeTakes_62 (lv_at hl 6 rfl) ?_
                refine lv_isub hx hb dX12_likeTakes_64 ?_
                refine lv_topi (fun x_9 e_9 => ?_)
                have h9 : x_9 = nI (mr (stf 3) (i + 1) (n - 1 - i) j) := by rw [e_9, pk_sub (by omega)]; congr 1; unfold mr; rw [if_neg c_7]; omega
                subst h9
                refine lv_istore (lv' := [(7, Value.int (nI (mr (stf 3) (i + 1) (n - 1 - i) j))), (0, Value.ref g0), (1, Value.int (nI i)), (2, Value.int (nI n)), (3, Value.int (nI v)), (4, Value.int (nI mq)), (5, Value.int x5), (6, Value.int (nI j))]) hx hb dX12_likeTakes_65 hl (by decide) rfl (fun ls hl => ?_)
                have hmi := mr_in (fs := stf 3) (a := i + 1) (y := n - 1 - i) (q := j) (by omega) (by omega)
                obtain ⟨hq1, hq2⟩ := hQ (mr (stf 3) (i + 1) (n - 1 - i) j) (by omega) (by omega)
                have hq2 : (Qm (stf 3) (i + 1) (n - 1 - i) Q) j ≤ 100 := hq2
                have hq1 : pf (mr (stf 3) (i + 1) (n - 1 - i) j) = nI ((Qm (stf 3) (i + 1) (n - 1 - i) Q) j) := hq1
                have jp_121 : ∀ (b : Int32) (xb : Int32) (hbb : (b = 1 ∧ OF (Qm (stf 3) (i + 1) (n - 1 - i) Q) (i + 1) (n - 1 - i) mq v j = (Qm (stf 3) (i + 1) (n - 1 - i) Q) j) ∨ (b = 0 ∧ OF (Qm (stf 3) (i + 1) (n - 1 - i) Q) (i + 1) (n - 1 - i) mq v j = 0)) (hxx : 0 < v → xb = nI (((mq - cu Q (i + 1) (n - 1 - i) (v - 1))) - cv (Qm (stf 3) (i + 1) (n - 1 - i) Q) (i + 1) (j + 1 - (i + 1)) v)) (H : Heap) (locs : List Loc) (ls : Array Slot), va_P (dC, dI) classes [oX12 g0 m_refused m_kind m_figure m_weight m_got m_setting men msy mdn m_tape m_letter m_letterAt m_told tp mat stm m_kept him ki crs m_price m_offer m_gets m_yes m_buys m_ends m_carried m_row rm m_keptRow m_likeGets m_likePrice m_ahead, cI aC m_setting 5 stf, cI aC m_likeGets 61 gc, cI aC m_likePrice 61 pf] H → va_D A [oX12 g0 m_refused m_kind m_figure m_weight m_got m_setting men msy mdn m_tape m_letter m_letterAt m_told tp mat stm m_kept him ki crs m_price m_offer m_gets m_yes m_buys m_ends m_carried m_row rm m_keptRow m_likeGets m_likePrice m_ahead, cI aC m_setting 5 stf, cI aC m_likeGets 61 gc, cI aC m_likePrice 61 pf] → va_S A s.heap H locs → lv_has ls 9 [(0, Value.ref g0), (1, Value.int (nI i)), (2, Value.int (nI n)), (3, Value.int (nI v)), (4, Value.int (nI mq)), (5, Value.int xb), (6, Value.int (nI j)), (7, Value.int (nI (mr (stf 3) (i + 1) (n - 1 - i) j))), (8, Value.int b)] → W p l e (headSpec (wW yX12_likeTakes cX12_likeTakes 9 (none : Option FieldType)) ({ frames := 1, cells := 0, slots := 0, locals := 25 } : Room)).room s m ([Value.ref g0, Value.int (nI i), Value.int (nI n), Value.int (nI v), Value.int (nI mq)] : List Value).toArray below meth c H locs 0 0 (MQ below (va_Qv (fun (gg : Nat → Int32) => ∀ q, i < q → q < n → gg q = nI (OFm (stf 3) Q (i + 1) (n - 1 - i) mq v q)) (fun (gg : Nat → Int32) (t : State) => va_P (dC, dI) classes [oX12 g0 m_refused m_kind m_figure m_weight m_got m_setting men msy mdn m_tape m_letter m_letterAt m_told tp mat stm m_kept him ki crs m_price m_offer m_gets m_yes m_buys m_ends m_carried m_row rm m_keptRow m_likeGets m_likePrice m_ahead, cI aC m_setting 5 stf, cI aC m_likeGets 61 gg, cI aC m_likePrice 61 pf] t.heap ∧ va_K (dC, dI) classes (TY aC) t ∧ va_D A [oX12 g0 m_refused m_kind m_figure m_weight m_got m_setting men msy mdn m_tape m_letter m_letterAt m_told tp mat stm m_kept him ki crs m_price m_offer m_gets m_yes m_buys m_ends m_carried m_row rm m_keptRow m_likeGets m_likePrice m_ahead, cI aC m_setting 5 stf, cI aC m_likeGets 61 gg, cI aC m_likePrice 61 pf]) A) ([Value.ref g0, Value.int (nI i), Value.int (nI n), Value.int (nI v), Value.int (nI mq)] : List Value).toArray s 0 0 A) (F0 m 121 ls []) := by
                  intro b xb hbb hxx H locs ls hP hD hS hl
                  refine lv_aload_n hx hb dX12_likeTakes_121 rfl (lv_at hl 0 rfl) ?_
                  refine va_get (D := (dC, dI)) (ci := 12) (v := Value.ref m_likeGets) (C := RX12) (T := TX12) (N := 33) hx hb hts inX12 hown hK hP 0 rfl rfl 30 (by decide) (hts _ (gw kw_747 rfl)) (fun _ h9 => h9) rfl dX12_likeTakes_122 ?_
                  refine lv_iload hx hb dX12_likeTakes_125 (lv_at hl 7 rfl) ?_
                  refine lv_iload hx hb dX12_likeTakes_127 (lv_at hl 8 rfl) ?_
                  refine lv_if_eq (tgt := 142) hx hb dX12_likeTakes_129 (by decide) (fun c_10 => ?_) (fun c_10 => ?_)
                  · refine lv_iconst (v := 0) hx hb dX12_likeTakes_142 (by decide) ?_
                    have h_11 : vp_in (nI (mr (stf 3) (i + 1) (n - 1 - i) j)) 61 := vp_in_nI (by omega) (by omega)
                    refine va_iast hx hb hK hP hD hS 2 0 rfl rfl h_11 dX12_likeTakes_143 (fun H locs hP hD hS => ?_)
                    obtain ⟨f_12, e_f_12⟩ : ∃ y : Nat → Int32, y = upd gc (nI (mr (stf 3) (i + 1) (n - 1 - i) j) : Int32).toNatClampNeg 0 := ⟨_, rfl⟩
                    have hpd9 : PDx (dC, dI) classes A H [oX12 g0 m_refused m_kind m_figure m_weight m_got m_setting men msy mdn m_tape m_letter m_letterAt m_told tp mat stm m_kept him ki crs m_price m_offer m_gets m_yes m_buys m_ends m_carried m_row rm m_keptRow m_likeGets m_likePrice m_ahead, cI aC m_setting 5 stf, cI aC m_likeGets 61 f_12, cI aC m_likePrice 61 pf] := by rw [e_f_12]; exact ⟨hP, hD⟩
                    have hP := hpd9.1
                    have hD := hpd9.2
                    clear hpd9
                    have hOF : (0 : Int32) = nI (OF (Qm (stf 3) (i + 1) (n - 1 - i) Q) (i + 1) (n - 1 - i) mq v j) := by
                      rcases hbb with ⟨q1, q2⟩ | ⟨q1, q2⟩
                      · exact absurd (q1.symm.trans c_10) (by decide)
                      · rw [q2]; rfl
                    have hb2 : ∀ q, i < q → q < j + 1 → f_12 (mr (stf 3) (i + 1) (n - 1 - i) q) = nI (OF (Qm (stf 3) (i + 1) (n - 1 - i) Q) (i + 1) (n - 1 - i) mq v q) := fun q h1 h2 => by
                      rw [e_f_12, nI_clamp (by omega)]
                      by_cases e : q = j
                      · rw [e, pk_us]; exact hOF
                      · rw [pk_un (fun z => e (by rw [← mr_mr (fs := stf 3) (a := i + 1) (y := n - 1 - i) (q := q) (by omega) (by omega), z, mr_mr (by omega) (by omega)]))]; exact hgc q h1 (by omega)
                    obtain ⟨x_13, e_13⟩ : ∃ y : Int32, y = (nI j) + 1 := ⟨_, rfl⟩
                    refine lv_iinc (v := x_13) (lv' := [(6, Value.int x_13), (0, Value.ref g0), (1, Value.int (nI i)), (2, Value.int (nI n)), (3, Value.int (nI v)), (4, Value.int (nI mq)), (5, Value.int xb), (7, Value.int (nI (mr (stf 3) (i + 1) (n - 1 - i) j))), (8, Value.int b)]) hx hb dX12_likeTakes_144 hl (k := 6) rfl (by rw [e_13]; rfl) (by decide) rfl (fun ls hl => ?_)
                    have h9 : x_13 = nI (j + 1) := by rw [e_13, nI_1]
                    subst h9
                    refine lv_goto (tgt := 39) hx hb dX12_likeTakes_147 (by decide) ?_
                    exact ih_39 (j + 1) xb f_12 (ms_lt hlt hfu) (by omega) (hxx) (hb2) _ _ _ (hP.sub [0, 1, 2, 3] rfl) (hD.sub [0, 1, 2, 3] (by decide) rfl) hS (lv_sub hl [1, 2, 3, 4, 5, 6, 0] rfl)
                  · refine lv_aload_n hx hb dX12_likeTakes_132 rfl (lv_at hl 0 rfl) ?_
                    refine va_get (D := (dC, dI)) (ci := 12) (v := Value.ref m_likePrice) (C := RX12) (T := TX12) (N := 33) hx hb hts inX12 hown hK hP 0 rfl rfl 31 (by decide) (hts _ (gw kw_748 rfl)) (fun _ h9 => h9) rfl dX12_likeTakes_133 ?_
                    refine lv_iload hx hb dX12_likeTakes_136 (lv_at hl 7 rfl) ?_
                    have h_14 : vp_in (nI (mr (stf 3) (i + 1) (n - 1 - i) j)) 61 := vp_in_nI (by omega) (by omega)
                    refine va_iald hx hb hK hP 3 0 rfl rfl h_14 dX12_likeTakes_138 ?_
                    refine lv_topi (fun x_15 e_15 => ?_)
                    have h9 : x_15 = nI ((Qm (stf 3) (i + 1) (n - 1 - i) Q) j) := by rw [e_15, nI_clamp (by omega)]; exact hq1
                    subst h9
                    refine lv_goto (tgt := 143) hx hb dX12_likeTakes_139 (by decide) ?_
                    have h_16 : vp_in (nI (mr (stf 3) (i + 1) (n - 1 - i) j)) 61 := vp_in_nI (by omega) (by omega)
                    refine va_iast hx hb hK hP hD hS 2 0 rfl rfl h_16 dX12_likeTakes_143 (fun H locs hP hD hS => ?_)
                    obtain ⟨f_17, e_f_17⟩ : ∃ y : Nat → Int32, y = upd gc (nI (mr (stf 3) (i + 1) (n - 1 - i) j) : Int32).toNatClampNeg (nI ((Qm (stf 3) (i + 1) (n - 1 - i) Q) j)) := ⟨_, rfl⟩
                    have hpd9 : PDx (dC, dI) classes A H [oX12 g0 m_refused m_kind m_figure m_weight m_got m_setting men msy mdn m_tape m_letter m_letterAt m_told tp mat stm m_kept him ki crs m_price m_offer m_gets m_yes m_buys m_ends m_carried m_row rm m_keptRow m_likeGets m_likePrice m_ahead, cI aC m_setting 5 stf, cI aC m_likeGets 61 f_17, cI aC m_likePrice 61 pf] := by rw [e_f_17]; exact ⟨hP, hD⟩
                    have hP := hpd9.1
                    have hD := hpd9.2
                    clear hpd9
                    have hOF : nI ((Qm (stf 3) (i + 1) (n - 1 - i) Q j)) = nI (OF (Qm (stf 3) (i + 1) (n - 1 - i) Q) (i + 1) (n - 1 - i) mq v j) := by
                      rcases hbb with ⟨q1, q2⟩ | ⟨q1, q2⟩
                      · rw [q2]
                      · exact absurd q1 c_10
                    have hb2 : ∀ q, i < q → q < j + 1 → f_17 (mr (stf 3) (i + 1) (n - 1 - i) q) = nI (OF (Qm (stf 3) (i + 1) (n - 1 - i) Q) (i + 1) (n - 1 - i) mq v q) := fun q h1 h2 => by
                      rw [e_f_17, nI_clamp (by omega)]
                      by_cases e : q = j
                      · rw [e, pk_us]; exact hOF
                      · rw [pk_un (fun z => e (by rw [← mr_mr (fs := stf 3) (a := i + 1) (y := n - 1 - i) (q := q) (by omega) (by omega), z, mr_mr (by omega) (by omega)]))]; exact hgc q h1 (by omega)
                    obtain ⟨x_18, e_18⟩ : ∃ y : Int32, y = (nI j) + 1 := ⟨_, rfl⟩
                    refine lv_iinc (v := x_18) (lv' := [(6, Value.int x_18), (0, Value.ref g0), (1, Value.int (nI i)), (2, Value.int (nI n)), (3, Value.int (nI v)), (4, Value.int (nI mq)), (5, Value.int xb), (7, Value.int (nI (mr (stf 3) (i + 1) (n - 1 - i) j))), (8, Value.int b)]) hx hb dX12_likeTakes_144 hl (k := 6) rfl (by rw [e_18]; rfl) (by decide) rfl (fun ls hl => ?_)
                    have h9 : x_18 = nI (j + 1) := by rw [e_18, nI_1]
                    subst h9
                    refine lv_goto (tgt := 39) hx hb dX12_likeTakes_147 (by decide) ?_
                    exact ih_39 (j + 1) xb f_17 (ms_lt hlt hfu) (by omega) (hxx) (hb2) _ _ _ (hP.sub [0, 1, 2, 3] rfl) (hD.sub [0, 1, 2, 3] (by decide) rfl) hS (lv_sub hl [1, 2, 3, 4, 5, 6, 0] rfl)
                refine lv_aload_n hx hb dX12_likeTakes_67 rfl (lv_at hl 1 rfl) ?_
                refine va_get (D := (dC, dI)) (ci := 12) (v := Value.ref m_likePrice) (C := RX12) (T := TX12) (N := 33) hx hb hts inX12 hown hK hP 0 rfl rfl 31 (by decide) (hts _ (gw kw_748 rfl)) (fun _ h9 => h9) rfl dX12_likeTakes_68 ?_
                refine lv_iload hx hb dX12_likeTakes_71 (lv_at hl 0 rfl) ?_
                have h_19 : vp_in (nI (mr (stf 3) (i + 1) (n - 1 - i) j)) 61 := vp_in_nI (by omega) (by omega)
                refine va_iald hx hb hK hP 3 0 rfl rfl h_19 dX12_likeTakes_73 ?_
                refine lv_topi (fun x_20 e_20 => ?_)
                have h9 : x_20 = nI ((Qm (stf 3) (i + 1) (n - 1 - i) Q) j) := by rw [e_20, nI_clamp (by omega)]; exact hq1
                subst h9
                refine lv_if_le (tgt := 92) hx hb dX12_likeTakes_74 (by decide) (fun c_21 => ?_) (fun c_21 => ?_)
                · refine lv_iconst (v := 0) hx hb dX12_likeTakes_92 (by decide) ?_
                  refine lv_istore (lv' := [(8, Value.int 0), (7, Value.int (nI (mr (stf 3) (i + 1) (n - 1 - i) j))), (0, Value.ref g0), (1, Value.int (nI i)), (2, Value.int (nI n)), (3, Value.int (nI v)), (4, Value.int (nI mq)), (5, Value.int x5), (6, Value.int (nI j))]) hx hb dX12_likeTakes_93 hl (by decide) rfl (fun ls hl => ?_)
                  refine lv_aload_n hx hb dX12_likeTakes_95 rfl (lv_at hl 2 rfl) ?_
                  refine va_get (D := (dC, dI)) (ci := 12) (v := Value.ref m_likePrice) (C := RX12) (T := TX12) (N := 33) hx hb hts inX12 hown hK hP 0 rfl rfl 31 (by decide) (hts _ (gw kw_748 rfl)) (fun _ h9 => h9) rfl dX12_likeTakes_96 ?_
                  refine lv_iload hx hb dX12_likeTakes_99 (lv_at hl 1 rfl) ?_
                  have h_22 : vp_in (nI (mr (stf 3) (i + 1) (n - 1 - i) j)) 61 := vp_in_nI (by omega) (by omega)
                  refine va_iald hx hb hK hP 3 0 rfl rfl h_22 dX12_likeTakes_101 ?_
                  refine lv_topi (fun x_23 e_23 => ?_)
                  have h9 : x_23 = nI ((Qm (stf 3) (i + 1) (n - 1 - i) Q) j) := by rw [e_23, nI_clamp (by omega)]; exact hq1
                  subst h9
                  refine lv_iload_n hx hb dX12_likeTakes_102 rfl (lv_at hl 5 rfl) ?_
                  refine lv_icmp_ne (tgt := 121) hx hb dX12_likeTakes_103 (by decide) (fun c_24 => ?_) (fun c_24 => ?_)
                  · have hA : (Qm (stf 3) (i + 1) (n - 1 - i) Q j) = 0 := by have := (nI_leI (a := (Qm (stf 3) (i + 1) (n - 1 - i) Q j)) (b := 0) (by omega) (by omega)).mp c_21; omega
                    have hDq : ¬ (Qm (stf 3) (i + 1) (n - 1 - i) Q j) = v := fun q => c_24 (by rw [q])
                    have hoc := OFm_case (fs := stf 3) (Q := Q) (a := i + 1) (y := n - 1 - i) (m := mq) (v := v) (j := j) (by omega) (by omega) hst
                    have hbj : ((0 : Int32) = 1 ∧ OF (Qm (stf 3) (i + 1) (n - 1 - i) Q) (i + 1) (n - 1 - i) mq v j = (Qm (stf 3) (i + 1) (n - 1 - i) Q j)) ∨ ((0 : Int32) = 0 ∧ OF (Qm (stf 3) (i + 1) (n - 1 - i) Q) (i + 1) (n - 1 - i) mq v j = 0) := Or.inr ⟨rfl, by rw [hoc, if_neg (by omega), if_neg (by omega)]⟩
                    have hxj : 0 < v → x5 = nI (((mq - cu Q (i + 1) (n - 1 - i) (v - 1))) - cv (Qm (stf 3) (i + 1) (n - 1 - i) Q) (i + 1) (j + 1 - (i + 1)) v) := fun hv0 => by rw [hx5 hv0, cv_at (by omega)]; congr 1; split <;> omega
                    exact jp_121 0 x5 (hbj) (hxj) _ _ _ (hP.sub [0, 1, 2, 3] rfl) (hD.sub [0, 1, 2, 3] (by decide) rfl) hS (lv_sub hl [2, 3, 4, 5, 6, 7, 8, 1, 0] rfl)
                  · refine lv_iload_n hx hb dX12_likeTakes_106 rfl (lv_at hl 5 rfl) ?_
                    refine lv_if_le (tgt := 121) hx hb dX12_likeTakes_107 (by decide) (fun c_25 => ?_) (fun c_25 => ?_)
                    · have hA : (Qm (stf 3) (i + 1) (n - 1 - i) Q j) = 0 := by have := (nI_leI (a := (Qm (stf 3) (i + 1) (n - 1 - i) Q j)) (b := 0) (by omega) (by omega)).mp c_21; omega
                      have hDq : (Qm (stf 3) (i + 1) (n - 1 - i) Q j) = v := (nI_eq (by omega) (by omega)).mp c_24
                      have hE : v = 0 := by have := (nI_leI (a := v) (b := 0) (by omega) (by omega)).mp c_25; omega
                      have hoc := OFm_case (fs := stf 3) (Q := Q) (a := i + 1) (y := n - 1 - i) (m := mq) (v := v) (j := j) (by omega) (by omega) hst
                      have hbj : ((0 : Int32) = 1 ∧ OF (Qm (stf 3) (i + 1) (n - 1 - i) Q) (i + 1) (n - 1 - i) mq v j = (Qm (stf 3) (i + 1) (n - 1 - i) Q j)) ∨ ((0 : Int32) = 0 ∧ OF (Qm (stf 3) (i + 1) (n - 1 - i) Q) (i + 1) (n - 1 - i) mq v j = 0) := Or.inr ⟨rfl, by rw [hoc, if_neg (by omega), if_neg (by omega)]⟩
                      have hxj : 0 < v → x5 = nI (((mq - cu Q (i + 1) (n - 1 - i) (v - 1))) - cv (Qm (stf 3) (i + 1) (n - 1 - i) Q) (i + 1) (j + 1 - (i + 1)) v) := fun hv0 => by rw [hx5 hv0, cv_at (by omega)]; congr 1; split <;> omega
                      exact jp_121 0 x5 (hbj) (hxj) _ _ _ (hP.sub [0, 1, 2, 3] rfl) (hD.sub [0, 1, 2, 3] (by decide) rfl) hS (lv_sub hl [2, 3, 4, 5, 6, 7, 8, 1, 0] rfl)
                    · refine lv_iload hx hb dX12_likeTakes_110 (lv_at hl 7 rfl) ?_
                      refine lv_if_le (tgt := 121) hx hb dX12_likeTakes_112 (by decide) (fun c_26 => ?_) (fun c_26 => ?_)
                      · have hA : (Qm (stf 3) (i + 1) (n - 1 - i) Q j) = 0 := by have := (nI_leI (a := (Qm (stf 3) (i + 1) (n - 1 - i) Q j)) (b := 0) (by omega) (by omega)).mp c_21; omega
                        have hDq : (Qm (stf 3) (i + 1) (n - 1 - i) Q j) = v := (nI_eq (by omega) (by omega)).mp c_24
                        have hE : 0 < v := by
                          rcases Nat.eq_zero_or_pos v with q | q
                          · exact absurd (by rw [q]; decide) c_25
                          · exact q
                        have hF : ((mq - cu Q (i + 1) (n - 1 - i) (v - 1))) - cv (Qm (stf 3) (i + 1) (n - 1 - i) Q) (i + 1) (j - (i + 1)) v = 0 := by have := c_26; rw [hx5 hE] at this; have := (nI_leI (a := ((mq - cu Q (i + 1) (n - 1 - i) (v - 1))) - cv (Qm (stf 3) (i + 1) (n - 1 - i) Q) (i + 1) (j - (i + 1)) v) (b := 0) (by omega) (by omega)).mp this; omega
                        have hoc := OFm_case (fs := stf 3) (Q := Q) (a := i + 1) (y := n - 1 - i) (m := mq) (v := v) (j := j) (by omega) (by omega) hst
                        have hbj : ((0 : Int32) = 1 ∧ OF (Qm (stf 3) (i + 1) (n - 1 - i) Q) (i + 1) (n - 1 - i) mq v j = (Qm (stf 3) (i + 1) (n - 1 - i) Q j)) ∨ ((0 : Int32) = 0 ∧ OF (Qm (stf 3) (i + 1) (n - 1 - i) Q) (i + 1) (n - 1 - i) mq v j = 0) := Or.inr ⟨rfl, by rw [hoc, if_neg (by omega), if_neg (by omega)]⟩
                        have hxj : 0 < v → x5 = nI (((mq - cu Q (i + 1) (n - 1 - i) (v - 1))) - cv (Qm (stf 3) (i + 1) (n - 1 - i) Q) (i + 1) (j + 1 - (i + 1)) v) := fun hv0 => by rw [hx5 hv0, cv_at (by omega)]; congr 1; split <;> omega
                        exact jp_121 0 x5 (hbj) (hxj) _ _ _ (hP.sub [0, 1, 2, 3] rfl) (hD.sub [0, 1, 2, 3] (by decide) rfl) hS (lv_sub hl [2, 3, 4, 5, 6, 7, 8, 1, 0] rfl)
                      · refine lv_iconst (v := 1) hx hb dX12_likeTakes_115 (by decide) ?_
                        refine lv_istore (lv' := [(8, Value.int 1), (7, Value.int (nI (mr (stf 3) (i + 1) (n - 1 - i) j))), (0, Value.ref g0), (1, Value.int (nI i)), (2, Value.int (nI n)), (3, Value.int (nI v)), (4, Value.int (nI mq)), (5, Value.int x5), (6, Value.int (nI j))]) hx hb dX12_likeTakes_116 hl (by decide) rfl (fun ls hl => ?_)
                        obtain ⟨x_27, e_27⟩ : ∃ y : Int32, y = x5 + (-1) := ⟨_, rfl⟩
                        refine lv_iinc (v := x_27) (lv' := [(5, Value.int x_27), (8, Value.int 1), (7, Value.int (nI (mr (stf 3) (i + 1) (n - 1 - i) j))), (0, Value.ref g0), (1, Value.int (nI i)), (2, Value.int (nI n)), (3, Value.int (nI v)), (4, Value.int (nI mq)), (6, Value.int (nI j))]) hx hb dX12_likeTakes_118 hl (k := 7) rfl (by rw [e_27]; rfl) (by decide) rfl (fun ls hl => ?_)
                        have hA : (Qm (stf 3) (i + 1) (n - 1 - i) Q j) = 0 := by have := (nI_leI (a := (Qm (stf 3) (i + 1) (n - 1 - i) Q j)) (b := 0) (by omega) (by omega)).mp c_21; omega
                        have hDq : (Qm (stf 3) (i + 1) (n - 1 - i) Q j) = v := (nI_eq (by omega) (by omega)).mp c_24
                        have hE : 0 < v := by
                          rcases Nat.eq_zero_or_pos v with q | q
                          · exact absurd (by rw [q]; decide) c_25
                          · exact q
                        have hF : 0 < ((mq - cu Q (i + 1) (n - 1 - i) (v - 1))) - cv (Qm (stf 3) (i + 1) (n - 1 - i) Q) (i + 1) (j - (i + 1)) v := by
                          rcases Nat.eq_zero_or_pos (((mq - cu Q (i + 1) (n - 1 - i) (v - 1))) - cv (Qm (stf 3) (i + 1) (n - 1 - i) Q) (i + 1) (j - (i + 1)) v) with q | q
                          · exact absurd (by rw [hx5 hE, q]; decide) c_26
                          · exact q
                        have hoc := OFm_case (fs := stf 3) (Q := Q) (a := i + 1) (y := n - 1 - i) (m := mq) (v := v) (j := j) (by omega) (by omega) hst
                        have hbj : ((1 : Int32) = 1 ∧ OF (Qm (stf 3) (i + 1) (n - 1 - i) Q) (i + 1) (n - 1 - i) mq v j = (Qm (stf 3) (i + 1) (n - 1 - i) Q j)) ∨ ((1 : Int32) = 0 ∧ OF (Qm (stf 3) (i + 1) (n - 1 - i) Q) (i + 1) (n - 1 - i) mq v j = 0) := Or.inl ⟨rfl, by rw [hoc, if_neg (by omega), if_pos ⟨hDq, hE, by omega⟩, hDq]⟩
                        have hxj : 0 < v → x_27 = nI (((mq - cu Q (i + 1) (n - 1 - i) (v - 1))) - cv (Qm (stf 3) (i + 1) (n - 1 - i) Q) (i + 1) (j + 1 - (i + 1)) v) := fun hv0 => by rw [e_27, hx5 hv0, cv_at (by omega), if_pos hDq, show ((mq - cu Q (i + 1) (n - 1 - i) (v - 1))) - cv (Qm (stf 3) (i + 1) (n - 1 - i) Q) (i + 1) (j - (i + 1)) v = (((mq - cu Q (i + 1) (n - 1 - i) (v - 1))) - (cv (Qm (stf 3) (i + 1) (n - 1 - i) Q) (i + 1) (j - (i + 1)) v + 1)) + 1 by omega]; exact pk_m1 _
                        exact jp_121 1 x_27 (hbj) (hxj) _ _ _ (hP.sub [0, 1, 2, 3] rfl) (hD.sub [0, 1, 2, 3] (by decide) rfl) hS (lv_sub hl [3, 4, 5, 6, 7, 0, 8, 2, 1] rfl)
                · refine lv_aload_n hx hb dX12_likeTakes_77 rfl (lv_at hl 1 rfl) ?_
                  refine va_get (D := (dC, dI)) (ci := 12) (v := Value.ref m_likePrice) (C := RX12) (T := TX12) (N := 33) hx hb hts inX12 hown hK hP 0 rfl rfl 31 (by decide) (hts _ (gw kw_748 rfl)) (fun _ h9 => h9) rfl dX12_likeTakes_78 ?_
                  refine lv_iload hx hb dX12_likeTakes_81 (lv_at hl 0 rfl) ?_
                  have h_28 : vp_in (nI (mr (stf 3) (i + 1) (n - 1 - i) j)) 61 := vp_in_nI (by omega) (by omega)
                  refine va_iald hx hb hK hP 3 0 rfl rfl h_28 dX12_likeTakes_83 ?_
                  refine lv_topi (fun x_29 e_29 => ?_)
                  have h9 : x_29 = nI ((Qm (stf 3) (i + 1) (n - 1 - i) Q) j) := by rw [e_29, nI_clamp (by omega)]; exact hq1
                  subst h9
                  refine lv_iload_n hx hb dX12_likeTakes_84 rfl (lv_at hl 4 rfl) ?_
                  refine lv_icmp_ge (tgt := 92) hx hb dX12_likeTakes_85 (by decide) (fun c_30 => ?_) (fun c_30 => ?_)
                  · refine lv_iconst (v := 0) hx hb dX12_likeTakes_92 (by decide) ?_
                    refine lv_istore (lv' := [(8, Value.int 0), (7, Value.int (nI (mr (stf 3) (i + 1) (n - 1 - i) j))), (0, Value.ref g0), (1, Value.int (nI i)), (2, Value.int (nI n)), (3, Value.int (nI v)), (4, Value.int (nI mq)), (5, Value.int x5), (6, Value.int (nI j))]) hx hb dX12_likeTakes_93 hl (by decide) rfl (fun ls hl => ?_)
                    refine lv_aload_n hx hb dX12_likeTakes_95 rfl (lv_at hl 2 rfl) ?_
                    refine va_get (D := (dC, dI)) (ci := 12) (v := Value.ref m_likePrice) (C := RX12) (T := TX12) (N := 33) hx hb hts inX12 hown hK hP 0 rfl rfl 31 (by decide) (hts _ (gw kw_748 rfl)) (fun _ h9 => h9) rfl dX12_likeTakes_96 ?_
                    refine lv_iload hx hb dX12_likeTakes_99 (lv_at hl 1 rfl) ?_
                    have h_31 : vp_in (nI (mr (stf 3) (i + 1) (n - 1 - i) j)) 61 := vp_in_nI (by omega) (by omega)
                    refine va_iald hx hb hK hP 3 0 rfl rfl h_31 dX12_likeTakes_101 ?_
                    refine lv_topi (fun x_32 e_32 => ?_)
                    have h9 : x_32 = nI ((Qm (stf 3) (i + 1) (n - 1 - i) Q) j) := by rw [e_32, nI_clamp (by omega)]; exact hq1
                    subst h9
                    refine lv_iload_n hx hb dX12_likeTakes_102 rfl (lv_at hl 5 rfl) ?_
                    refine lv_icmp_ne (tgt := 121) hx hb dX12_likeTakes_103 (by decide) (fun c_33 => ?_) (fun c_33 => ?_)
                    · have hA : 0 < (Qm (stf 3) (i + 1) (n - 1 - i) Q j) := by
                        rcases Nat.eq_zero_or_pos ((Qm (stf 3) (i + 1) (n - 1 - i) Q j)) with q | q
                        · exact absurd (by rw [q]; decide) c_21
                        · exact q
                      have hB : v ≤ (Qm (stf 3) (i + 1) (n - 1 - i) Q j) := (nI_leI (by omega) (by omega)).mp c_30
                      have hDq : ¬ (Qm (stf 3) (i + 1) (n - 1 - i) Q j) = v := fun q => c_33 (by rw [q])
                      have hoc := OFm_case (fs := stf 3) (Q := Q) (a := i + 1) (y := n - 1 - i) (m := mq) (v := v) (j := j) (by omega) (by omega) hst
                      have hbj : ((0 : Int32) = 1 ∧ OF (Qm (stf 3) (i + 1) (n - 1 - i) Q) (i + 1) (n - 1 - i) mq v j = (Qm (stf 3) (i + 1) (n - 1 - i) Q j)) ∨ ((0 : Int32) = 0 ∧ OF (Qm (stf 3) (i + 1) (n - 1 - i) Q) (i + 1) (n - 1 - i) mq v j = 0) := Or.inr ⟨rfl, by rw [hoc, if_neg (by omega), if_neg (by omega)]⟩
                      have hxj : 0 < v → x5 = nI (((mq - cu Q (i + 1) (n - 1 - i) (v - 1))) - cv (Qm (stf 3) (i + 1) (n - 1 - i) Q) (i + 1) (j + 1 - (i + 1)) v) := fun hv0 => by rw [hx5 hv0, cv_at (by omega)]; congr 1; split <;> omega
                      exact jp_121 0 x5 (hbj) (hxj) _ _ _ (hP.sub [0, 1, 2, 3] rfl) (hD.sub [0, 1, 2, 3] (by decide) rfl) hS (lv_sub hl [2, 3, 4, 5, 6, 7, 8, 1, 0] rfl)
                    · refine lv_iload_n hx hb dX12_likeTakes_106 rfl (lv_at hl 5 rfl) ?_
                      refine lv_if_le (tgt := 121) hx hb dX12_likeTakes_107 (by decide) (fun c_34 => ?_) (fun c_34 => ?_)
                      · have hA : 0 < (Qm (stf 3) (i + 1) (n - 1 - i) Q j) := by
                          rcases Nat.eq_zero_or_pos ((Qm (stf 3) (i + 1) (n - 1 - i) Q j)) with q | q
                          · exact absurd (by rw [q]; decide) c_21
                          · exact q
                        have hB : v ≤ (Qm (stf 3) (i + 1) (n - 1 - i) Q j) := (nI_leI (by omega) (by omega)).mp c_30
                        have hDq : (Qm (stf 3) (i + 1) (n - 1 - i) Q j) = v := (nI_eq (by omega) (by omega)).mp c_33
                        have hE : v = 0 := by have := (nI_leI (a := v) (b := 0) (by omega) (by omega)).mp c_34; omega
                        have hoc := OFm_case (fs := stf 3) (Q := Q) (a := i + 1) (y := n - 1 - i) (m := mq) (v := v) (j := j) (by omega) (by omega) hst
                        have hbj : ((0 : Int32) = 1 ∧ OF (Qm (stf 3) (i + 1) (n - 1 - i) Q) (i + 1) (n - 1 - i) mq v j = (Qm (stf 3) (i + 1) (n - 1 - i) Q j)) ∨ ((0 : Int32) = 0 ∧ OF (Qm (stf 3) (i + 1) (n - 1 - i) Q) (i + 1) (n - 1 - i) mq v j = 0) := Or.inr ⟨rfl, by rw [hoc, if_neg (by omega), if_neg (by omega)]⟩
                        have hxj : 0 < v → x5 = nI (((mq - cu Q (i + 1) (n - 1 - i) (v - 1))) - cv (Qm (stf 3) (i + 1) (n - 1 - i) Q) (i + 1) (j + 1 - (i + 1)) v) := fun hv0 => by rw [hx5 hv0, cv_at (by omega)]; congr 1; split <;> omega
                        exact jp_121 0 x5 (hbj) (hxj) _ _ _ (hP.sub [0, 1, 2, 3] rfl) (hD.sub [0, 1, 2, 3] (by decide) rfl) hS (lv_sub hl [2, 3, 4, 5, 6, 7, 8, 1, 0] rfl)
                      · refine lv_iload hx hb dX12_likeTakes_110 (lv_at hl 7 rfl) ?_
                        refine lv_if_le (tgt := 121) hx hb dX12_likeTakes_112 (by decide) (fun c_35 => ?_) (fun c_35 => ?_)
                        · have hA : 0 < (Qm (stf 3) (i + 1) (n - 1 - i) Q j) := by
                            rcases Nat.eq_zero_or_pos ((Qm (stf 3) (i + 1) (n - 1 - i) Q j)) with q | q
                            · exact absurd (by rw [q]; decide) c_21
                            · exact q
                          have hB : v ≤ (Qm (stf 3) (i + 1) (n - 1 - i) Q j) := (nI_leI (by omega) (by omega)).mp c_30
                          have hDq : (Qm (stf 3) (i + 1) (n - 1 - i) Q j) = v := (nI_eq (by omega) (by omega)).mp c_33
                          have hE : 0 < v := by
                            rcases Nat.eq_zero_or_pos v with q | q
                            · exact absurd (by rw [q]; decide) c_34
                            · exact q
                          have hF : ((mq - cu Q (i + 1) (n - 1 - i) (v - 1))) - cv (Qm (stf 3) (i + 1) (n - 1 - i) Q) (i + 1) (j - (i + 1)) v = 0 := by have := c_35; rw [hx5 hE] at this; have := (nI_leI (a := ((mq - cu Q (i + 1) (n - 1 - i) (v - 1))) - cv (Qm (stf 3) (i + 1) (n - 1 - i) Q) (i + 1) (j - (i + 1)) v) (b := 0) (by omega) (by omega)).mp this; omega
                          have hoc := OFm_case (fs := stf 3) (Q := Q) (a := i + 1) (y := n - 1 - i) (m := mq) (v := v) (j := j) (by omega) (by omega) hst
                          have hbj : ((0 : Int32) = 1 ∧ OF (Qm (stf 3) (i + 1) (n - 1 - i) Q) (i + 1) (n - 1 - i) mq v j = (Qm (stf 3) (i + 1) (n - 1 - i) Q j)) ∨ ((0 : Int32) = 0 ∧ OF (Qm (stf 3) (i + 1) (n - 1 - i) Q) (i + 1) (n - 1 - i) mq v j = 0) := Or.inr ⟨rfl, by rw [hoc, if_neg (by omega), if_neg (by omega)]⟩
                          have hxj : 0 < v → x5 = nI (((mq - cu Q (i + 1) (n - 1 - i) (v - 1))) - cv (Qm (stf 3) (i + 1) (n - 1 - i) Q) (i + 1) (j + 1 - (i + 1)) v) := fun hv0 => by rw [hx5 hv0, cv_at (by omega)]; congr 1; split <;> omega
                          exact jp_121 0 x5 (hbj) (hxj) _ _ _ (hP.sub [0, 1, 2, 3] rfl) (hD.sub [0, 1, 2, 3] (by decide) rfl) hS (lv_sub hl [2, 3, 4, 5, 6, 7, 8, 1, 0] rfl)
                        · refine lv_iconst (v := 1) hx hb dX12_likeTakes_115 (by decide) ?_
                          refine lv_istore (lv' := [(8, Value.int 1), (7, Value.int (nI (mr (stf 3) (i + 1) (n - 1 - i) j))), (0, Value.ref g0), (1, Value.int (nI i)), (2, Value.int (nI n)), (3, Value.int (nI v)), (4, Value.int (nI mq)), (5, Value.int x5), (6, Value.int (nI j))]) hx hb dX12_likeTakes_116 hl (by decide) rfl (fun ls hl => ?_)
                          obtain ⟨x_36, e_36⟩ : ∃ y : Int32, y = x5 + (-1) := ⟨_, rfl⟩
                          refine lv_iinc (v := x_36) (lv' := [(5, Value.int x_36), (8, Value.int 1), (7, Value.int (nI (mr (stf 3) (i + 1) (n - 1 - i) j))), (0, Value.ref g0), (1, Value.int (nI i)), (2, Value.int (nI n)), (3, Value.int (nI v)), (4, Value.int (nI mq)), (6, Value.int (nI j))]) hx hb dX12_likeTakes_118 hl (k := 7) rfl (by rw [e_36]; rfl) (by decide) rfl (fun ls hl => ?_)
                          have hA : 0 < (Qm (stf 3) (i + 1) (n - 1 - i) Q j) := by
                            rcases Nat.eq_zero_or_pos ((Qm (stf 3) (i + 1) (n - 1 - i) Q j)) with q | q
                            · exact absurd (by rw [q]; decide) c_21
                            · exact q
                          have hB : v ≤ (Qm (stf 3) (i + 1) (n - 1 - i) Q j) := (nI_leI (by omega) (by omega)).mp c_30
                          have hDq : (Qm (stf 3) (i + 1) (n - 1 - i) Q j) = v := (nI_eq (by omega) (by omega)).mp c_33
                          have hE : 0 < v := by
                            rcases Nat.eq_zero_or_pos v with q | q
                            · exact absurd (by rw [q]; decide) c_34
                            · exact q
                          have hF : 0 < ((mq - cu Q (i + 1) (n - 1 - i) (v - 1))) - cv (Qm (stf 3) (i + 1) (n - 1 - i) Q) (i + 1) (j - (i + 1)) v := by
                            rcases Nat.eq_zero_or_pos (((mq - cu Q (i + 1) (n - 1 - i) (v - 1))) - cv (Qm (stf 3) (i + 1) (n - 1 - i) Q) (i + 1) (j - (i + 1)) v) with q | q
                            · exact absurd (by rw [hx5 hE, q]; decide) c_35
                            · exact q
                          have hoc := OFm_case (fs := stf 3) (Q := Q) (a := i + 1) (y := n - 1 - i) (m := mq) (v := v) (j := j) (by omega) (by omega) hst
                          have hbj : ((1 : Int32) = 1 ∧ OF (Qm (stf 3) (i + 1) (n - 1 - i) Q) (i + 1) (n - 1 - i) mq v j = (Qm (stf 3) (i + 1) (n - 1 - i) Q j)) ∨ ((1 : Int32) = 0 ∧ OF (Qm (stf 3) (i + 1) (n - 1 - i) Q) (i + 1) (n - 1 - i) mq v j = 0) := Or.inl ⟨rfl, by rw [hoc, if_neg (by omega), if_pos ⟨hDq, hE, by omega⟩, hDq]⟩
                          have hxj : 0 < v → x_36 = nI (((mq - cu Q (i + 1) (n - 1 - i) (v - 1))) - cv (Qm (stf 3) (i + 1) (n - 1 - i) Q) (i + 1) (j + 1 - (i + 1)) v) := fun hv0 => by rw [e_36, hx5 hv0, cv_at (by omega), if_pos hDq, show ((mq - cu Q (i + 1) (n - 1 - i) (v - 1))) - cv (Qm (stf 3) (i + 1) (n - 1 - i) Q) (i + 1) (j - (i + 1)) v = (((mq - cu Q (i + 1) (n - 1 - i) (v - 1))) - (cv (Qm (stf 3) (i + 1) (n - 1 - i) Q) (i + 1) (j - (i + 1)) v + 1)) + 1 by omega]; exact pk_m1 _
                          exact jp_121 1 x_36 (hbj) (hxj) _ _ _ (hP.sub [0, 1, 2, 3] rfl) (hD.sub [0, 1, 2, 3] (by decide) rfl) hS (lv_sub hl [3, 4, 5, 6, 7, 0, 8, 2, 1] rfl)
                  · refine lv_iconst (v := 1) hx hb dX12_likeTakes_88 (by decide) ?_
                    refine lv_goto (tgt := 93) hx hb dX12_likeTakes_89 (by decide) ?_
                    refine lv_istore (lv' := [(8, Value.int 1), (7, Value.int (nI (mr (stf 3) (i + 1) (n - 1 - i) j))), (0, Value.ref g0), (1, Value.int (nI i)), (2, Value.int (nI n)), (3, Value.int (nI v)), (4, Value.int (nI mq)), (5, Value.int x5), (6, Value.int (nI j))]) hx hb dX12_likeTakes_93 hl (by decide) rfl (fun ls hl => ?_)
                    refine lv_aload_n hx hb dX12_likeTakes_95 rfl (lv_at hl 2 rfl) ?_
                    refine va_get (D := (dC, dI)) (ci := 12) (v := Value.ref m_likePrice) (C := RX12) (T := TX12) (N := 33) hx hb hts inX12 hown hK hP 0 rfl rfl 31 (by decide) (hts _ (gw kw_748 rfl)) (fun _ h9 => h9) rfl dX12_likeTakes_96 ?_
                    refine lv_iload hx hb dX12_likeTakes_99 (lv_at hl 1 rfl) ?_
                    have h_37 : vp_in (nI (mr (stf 3) (i + 1) (n - 1 - i) j)) 61 := vp_in_nI (by omega) (by omega)
                    refine va_iald hx hb hK hP 3 0 rfl rfl h_37 dX12_likeTakes_101 ?_
                    refine lv_topi (fun x_38 e_38 => ?_)
                    have h9 : x_38 = nI ((Qm (stf 3) (i + 1) (n - 1 - i) Q) j) := by rw [e_38, nI_clamp (by omega)]; exact hq1
                    subst h9
                    refine lv_iload_n hx hb dX12_likeTakes_102 rfl (lv_at hl 5 rfl) ?_
                    refine lv_icmp_ne (tgt := 121) hx hb dX12_likeTakes_103 (by decide) (fun c_39 => ?_) (fun c_39 => ?_)
                    · have hA : 0 < (Qm (stf 3) (i + 1) (n - 1 - i) Q j) := by
                        rcases Nat.eq_zero_or_pos ((Qm (stf 3) (i + 1) (n - 1 - i) Q j)) with q | q
                        · exact absurd (by rw [q]; decide) c_21
                        · exact q
                      have hB : (Qm (stf 3) (i + 1) (n - 1 - i) Q j) < v := by
                        rcases Nat.lt_or_ge ((Qm (stf 3) (i + 1) (n - 1 - i) Q j)) v with q | q
                        · exact q
                        · exact absurd (nI_le q (by omega)) c_30
                      have hDq : ¬ (Qm (stf 3) (i + 1) (n - 1 - i) Q j) = v := fun q => c_39 (by rw [q])
                      have hoc := OFm_case (fs := stf 3) (Q := Q) (a := i + 1) (y := n - 1 - i) (m := mq) (v := v) (j := j) (by omega) (by omega) hst
                      have hbj : ((1 : Int32) = 1 ∧ OF (Qm (stf 3) (i + 1) (n - 1 - i) Q) (i + 1) (n - 1 - i) mq v j = (Qm (stf 3) (i + 1) (n - 1 - i) Q j)) ∨ ((1 : Int32) = 0 ∧ OF (Qm (stf 3) (i + 1) (n - 1 - i) Q) (i + 1) (n - 1 - i) mq v j = 0) := Or.inl ⟨rfl, by rw [hoc, if_pos ⟨hA, hB⟩]⟩
                      have hxj : 0 < v → x5 = nI (((mq - cu Q (i + 1) (n - 1 - i) (v - 1))) - cv (Qm (stf 3) (i + 1) (n - 1 - i) Q) (i + 1) (j + 1 - (i + 1)) v) := fun hv0 => by rw [hx5 hv0, cv_at (by omega)]; congr 1; split <;> omega
                      exact jp_121 1 x5 (hbj) (hxj) _ _ _ (hP.sub [0, 1, 2, 3] rfl) (hD.sub [0, 1, 2, 3] (by decide) rfl) hS (lv_sub hl [2, 3, 4, 5, 6, 7, 8, 1, 0] rfl)
                    · refine lv_iload_n hx hb dX12_likeTakes_106 rfl (lv_at hl 5 rfl) ?_
                      refine lv_if_le (tgt := 121) hx hb dX12_likeTakes_107 (by decide) (fun c_40 => ?_) (fun c_40 => ?_)
                      · have hA : 0 < (Qm (stf 3) (i + 1) (n - 1 - i) Q j) := by
                          rcases Nat.eq_zero_or_pos ((Qm (stf 3) (i + 1) (n - 1 - i) Q j)) with q | q
                          · exact absurd (by rw [q]; decide) c_21
                          · exact q
                        have hB : (Qm (stf 3) (i + 1) (n - 1 - i) Q j) < v := by
                          rcases Nat.lt_or_ge ((Qm (stf 3) (i + 1) (n - 1 - i) Q j)) v with q | q
                          · exact q
                          · exact absurd (nI_le q (by omega)) c_30
                        have hDq : (Qm (stf 3) (i + 1) (n - 1 - i) Q j) = v := (nI_eq (by omega) (by omega)).mp c_39
                        have hE : v = 0 := by have := (nI_leI (a := v) (b := 0) (by omega) (by omega)).mp c_40; omega
                        have hoc := OFm_case (fs := stf 3) (Q := Q) (a := i + 1) (y := n - 1 - i) (m := mq) (v := v) (j := j) (by omega) (by omega) hst
                        have hbj : ((1 : Int32) = 1 ∧ OF (Qm (stf 3) (i + 1) (n - 1 - i) Q) (i + 1) (n - 1 - i) mq v j = (Qm (stf 3) (i + 1) (n - 1 - i) Q j)) ∨ ((1 : Int32) = 0 ∧ OF (Qm (stf 3) (i + 1) (n - 1 - i) Q) (i + 1) (n - 1 - i) mq v j = 0) := Or.inl ⟨rfl, by rw [hoc, if_pos ⟨hA, hB⟩]⟩
                        have hxj : 0 < v → x5 = nI (((mq - cu Q (i + 1) (n - 1 - i) (v - 1))) - cv (Qm (stf 3) (i + 1) (n - 1 - i) Q) (i + 1) (j + 1 - (i + 1)) v) := fun hv0 => by rw [hx5 hv0, cv_at (by omega)]; congr 1; split <;> omega
                        exact jp_121 1 x5 (hbj) (hxj) _ _ _ (hP.sub [0, 1, 2, 3] rfl) (hD.sub [0, 1, 2, 3] (by decide) rfl) hS (lv_sub hl [2, 3, 4, 5, 6, 7, 8, 1, 0] rfl)
                      · refine lv_iload hx hb dX12_likeTakes_110 (lv_at hl 7 rfl) ?_
                        refine lv_if_le (tgt := 121) hx hb dX12_likeTakes_112 (by decide) (fun c_41 => ?_) (fun c_41 => ?_)
                        · have hA : 0 < (Qm (stf 3) (i + 1) (n - 1 - i) Q j) := by
                            rcases Nat.eq_zero_or_pos ((Qm (stf 3) (i + 1) (n - 1 - i) Q j)) with q | q
                            · exact absurd (by rw [q]; decide) c_21
                            · exact q
                          have hB : (Qm (stf 3) (i + 1) (n - 1 - i) Q j) < v := by
                            rcases Nat.lt_or_ge ((Qm (stf 3) (i + 1) (n - 1 - i) Q j)) v with q | q
                            · exact q
                            · exact absurd (nI_le q (by omega)) c_30
                          have hDq : (Qm (stf 3) (i + 1) (n - 1 - i) Q j) = v := (nI_eq (by omega) (by omega)).mp c_39
                          have hE : 0 < v := by
                            rcases Nat.eq_zero_or_pos v with q | q
                            · exact absurd (by rw [q]; decide) c_40
                            · exact q
                          have hF : ((mq - cu Q (i + 1) (n - 1 - i) (v - 1))) - cv (Qm (stf 3) (i + 1) (n - 1 - i) Q) (i + 1) (j - (i + 1)) v = 0 := by have := c_41; rw [hx5 hE] at this; have := (nI_leI (a := ((mq - cu Q (i + 1) (n - 1 - i) (v - 1))) - cv (Qm (stf 3) (i + 1) (n - 1 - i) Q) (i + 1) (j - (i + 1)) v) (b := 0) (by omega) (by omega)).mp this; omega
                          have hoc := OFm_case (fs := stf 3) (Q := Q) (a := i + 1) (y := n - 1 - i) (m := mq) (v := v) (j := j) (by omega) (by omega) hst
                          have hbj : ((1 : Int32) = 1 ∧ OF (Qm (stf 3) (i + 1) (n - 1 - i) Q) (i + 1) (n - 1 - i) mq v j = (Qm (stf 3) (i + 1) (n - 1 - i) Q j)) ∨ ((1 : Int32) = 0 ∧ OF (Qm (stf 3) (i + 1) (n - 1 - i) Q) (i + 1) (n - 1 - i) mq v j = 0) := Or.inl ⟨rfl, by rw [hoc, if_pos ⟨hA, hB⟩]⟩
                          have hxj : 0 < v → x5 = nI (((mq - cu Q (i + 1) (n - 1 - i) (v - 1))) - cv (Qm (stf 3) (i + 1) (n - 1 - i) Q) (i + 1) (j + 1 - (i + 1)) v) := fun hv0 => by rw [hx5 hv0, cv_at (by omega)]; congr 1; split <;> omega
                          exact jp_121 1 x5 (hbj) (hxj) _ _ _ (hP.sub [0, 1, 2, 3] rfl) (hD.sub [0, 1, 2, 3] (by decide) rfl) hS (lv_sub hl [2, 3, 4, 5, 6, 7, 8, 1, 0] rfl)
                        · refine lv_iconst (v := 1) hx hb dX12_likeTakes_115 (by decide) ?_
                          refine lv_istore (lv' := [(8, Value.int 1), (7, Value.int (nI (mr (stf 3) (i + 1) (n - 1 - i) j))), (0, Value.ref g0), (1, Value.int (nI i)), (2, Value.int (nI n)), (3, Value.int (nI v)), (4, Value.int (nI mq)), (5, Value.int x5), (6, Value.int (nI j))]) hx hb dX12_likeTakes_116 hl (by decide) rfl (fun ls hl => ?_)
                          obtain ⟨x_42, e_42⟩ : ∃ y : Int32, y = x5 + (-1) := ⟨_, rfl⟩
                          refine lv_iinc (v := x_42) (lv' := [(5, Value.int x_42), (8, Value.int 1), (7, Value.int (nI (mr (stf 3) (i + 1) (n - 1 - i) j))), (0, Value.ref g0), (1, Value.int (nI i)), (2, Value.int (nI n)), (3, Value.int (nI v)), (4, Value.int (nI mq)), (6, Value.int (nI j))]) hx hb dX12_likeTakes_118 hl (k := 7) rfl (by rw [e_42]; rfl) (by decide) rfl (fun ls hl => ?_)
                          have hA : 0 < (Qm (stf 3) (i + 1) (n - 1 - i) Q j) := by
                            rcases Nat.eq_zero_or_pos ((Qm (stf 3) (i + 1) (n - 1 - i) Q j)) with q | q
                            · exact absurd (by rw [q]; decide) c_21
                            · exact q
                          have hB : (Qm (stf 3) (i + 1) (n - 1 - i) Q j) < v := by
                            rcases Nat.lt_or_ge ((Qm (stf 3) (i + 1) (n - 1 - i) Q j)) v with q | q
                            · exact q
                            · exact absurd (nI_le q (by omega)) c_30
                          have hDq : (Qm (stf 3) (i + 1) (n - 1 - i) Q j) = v := (nI_eq (by omega) (by omega)).mp c_39
                          have hE : 0 < v := by
                            rcases Nat.eq_zero_or_pos v with q | q
                            · exact absurd (by rw [q]; decide) c_40
                            · exact q
                          have hF : 0 < ((mq - cu Q (i + 1) (n - 1 - i) (v - 1))) - cv (Qm (stf 3) (i + 1) (n - 1 - i) Q) (i + 1) (j - (i + 1)) v := by
                            rcases Nat.eq_zero_or_pos (((mq - cu Q (i + 1) (n - 1 - i) (v - 1))) - cv (Qm (stf 3) (i + 1) (n - 1 - i) Q) (i + 1) (j - (i + 1)) v) with q | q
                            · exact absurd (by rw [hx5 hE, q]; decide) c_41
                            · exact q
                          have hoc := OFm_case (fs := stf 3) (Q := Q) (a := i + 1) (y := n - 1 - i) (m := mq) (v := v) (j := j) (by omega) (by omega) hst
                          have hbj : ((1 : Int32) = 1 ∧ OF (Qm (stf 3) (i + 1) (n - 1 - i) Q) (i + 1) (n - 1 - i) mq v j = (Qm (stf 3) (i + 1) (n - 1 - i) Q j)) ∨ ((1 : Int32) = 0 ∧ OF (Qm (stf 3) (i + 1) (n - 1 - i) Q) (i + 1) (n - 1 - i) mq v j = 0) := Or.inl ⟨rfl, by rw [hoc, if_neg (by omega), if_pos ⟨hDq, hE, by omega⟩, hDq]⟩
                          have hxj : 0 < v → x_42 = nI (((mq - cu Q (i + 1) (n - 1 - i) (v - 1))) - cv (Qm (stf 3) (i + 1) (n - 1 - i) Q) (i + 1) (j + 1 - (i + 1)) v) := fun hv0 => by rw [e_42, hx5 hv0, cv_at (by omega), if_pos hDq, show ((mq - cu Q (i + 1) (n - 1 - i) (v - 1))) - cv (Qm (stf 3) (i + 1) (n - 1 - i) Q) (i + 1) (j - (i + 1)) v = (((mq - cu Q (i + 1) (n - 1 - i) (v - 1))) - (cv (Qm (stf 3) (i + 1) (n - 1 - i) Q) (i + 1) (j - (i + 1)) v + 1)) + 1 by omega]; exact pk_m1 _
                          exact jp_121 1 x_42 (hbj) (hxj) _ _ _ (hP.sub [0, 1, 2, 3] rfl) (hD.sub [0, 1, 2, 3] (by decide) rfl) hS (lv_sub hl [3, 4, 5, 6, 7, 0, 8, 2, 1] rfl)
              · refine lv_iload hx hb dX12_likeTakes_54 (lv_at hl 6 rfl) ?_
                refine lv_goto (tgt := 65) hx hb dX12_likeTakes_56 (by decide) ?_
                refine lv_topi (fun x_43 e_43 => ?_)
                have h9 : x_43 = nI (mr (stf 3) (i + 1) (n - 1 - i) j) := by rw [e_43]; congr 1; unfold mr; rw [if_pos c_7]
                subst h9
                refine lv_istore (lv' := [(7, Value.int (nI (mr (stf 3) (i + 1) (n - 1 - i) j))), (0, Value.ref g0), (1, Value.int (nI i)), (2, Value.int (nI n)), (3, Value.int (nI v)), (4, Value.int (nI mq)), (5, Value.int x5), (6, Value.int (nI j))]) hx hb dX12_likeTakes_65 hl (by decide) rfl (fun ls hl => ?_)
                have hmi := mr_in (fs := stf 3) (a := i + 1) (y := n - 1 - i) (q := j) (by omega) (by omega)
                obtain ⟨hq1, hq2⟩ := hQ (mr (stf 3) (i + 1) (n - 1 - i) j) (by omega) (by omega)
                have hq2 : (Qm (stf 3) (i + 1) (n - 1 - i) Q) j ≤ 100 := hq2
                have hq1 : pf (mr (stf 3) (i + 1) (n - 1 - i) j) = nI ((Qm (stf 3) (i + 1) (n - 1 - i) Q) j) := hq1
                have jp_121 : ∀ (b : Int32) (xb : Int32) (hbb : (b = 1 ∧ OF (Qm (stf 3) (i + 1) (n - 1 - i) Q) (i + 1) (n - 1 - i) mq v j = (Qm (stf 3) (i + 1) (n - 1 - i) Q) j) ∨ (b = 0 ∧ OF (Qm (stf 3) (i + 1) (n - 1 - i) Q) (i + 1) (n - 1 - i) mq v j = 0)) (hxx : 0 < v → xb = nI (((mq - cu Q (i + 1) (n - 1 - i) (v - 1))) - cv (Qm (stf 3) (i + 1) (n - 1 - i) Q) (i + 1) (j + 1 - (i + 1)) v)) (H : Heap) (locs : List Loc) (ls : Array Slot), va_P (dC, dI) classes [oX12 g0 m_refused m_kind m_figure m_weight m_got m_setting men msy mdn m_tape m_letter m_letterAt m_told tp mat stm m_kept him ki crs m_price m_offer m_gets m_yes m_buys m_ends m_carried m_row rm m_keptRow m_likeGets m_likePrice m_ahead, cI aC m_setting 5 stf, cI aC m_likeGets 61 gc, cI aC m_likePrice 61 pf] H → va_D A [oX12 g0 m_refused m_kind m_figure m_weight m_got m_setting men msy mdn m_tape m_letter m_letterAt m_told tp mat stm m_kept him ki crs m_price m_offer m_gets m_yes m_buys m_ends m_carried m_row rm m_keptRow m_likeGets m_likePrice m_ahead, cI aC m_setting 5 stf, cI aC m_likeGets 61 gc, cI aC m_likePrice 61 pf] → va_S A s.heap H locs → lv_has ls 9 [(0, Value.ref g0), (1, Value.int (nI i)), (2, Value.int (nI n)), (3, Value.int (nI v)), (4, Value.int (nI mq)), (5, Value.int xb), (6, Value.int (nI j)), (7, Value.int (nI (mr (stf 3) (i + 1) (n - 1 - i) j))), (8, Value.int b)] → W p l e (headSpec (wW yX12_likeTakes cX12_likeTakes 9 (none : Option FieldType)) ({ frames := 1, cells := 0, slots := 0, locals := 25 } : Room)).room s m ([Value.ref g0, Value.int (nI i), Value.int (nI n), Value.int (nI v), Value.int (nI mq)] : List Value).toArray below meth c H locs 0 0 (MQ below (va_Qv (fun (gg : Nat → Int32) => ∀ q, i < q → q < n → gg q = nI (OFm (stf 3) Q (i + 1) (n - 1 - i) mq v q)) (fun (gg : Nat → Int32) (t : State) => va_P (dC, dI) classes [oX12 g0 m_refused m_kind m_figure m_weight m_got m_setting men msy mdn m_tape m_letter m_letterAt m_told tp mat stm m_kept him ki crs m_price m_offer m_gets m_yes m_buys m_ends m_carried m_row rm m_keptRow m_likeGets m_likePrice m_ahead, cI aC m_setting 5 stf, cI aC m_likeGets 61 gg, cI aC m_likePrice 61 pf] t.heap ∧ va_K (dC, dI) classes (TY aC) t ∧ va_D A [oX12 g0 m_refused m_kind m_figure m_weight m_got m_setting men msy mdn m_tape m_letter m_letterAt m_told tp mat stm m_kept him ki crs m_price m_offer m_gets m_yes m_buys m_ends m_carried m_row rm m_keptRow m_likeGets m_likePrice m_ahead, cI aC m_setting 5 stf, cI aC m_likeGets 61 gg, cI aC m_likePrice 61 pf]) A) ([Value.ref g0, Value.int (nI i), Value.int (nI n), Value.int (nI v), Value.int (nI mq)] : List Value).toArray s 0 0 A) (F0 m 121 ls []) := by
                  intro b xb hbb hxx H locs ls hP hD hS hl
                  refine lv_aload_n hx hb dX12_likeTakes_121 rfl (lv_at hl 0 rfl) ?_
                  refine va_get (D := (dC, dI)) (ci := 12) (v := Value.ref m_likeGets) (C := RX12) (T := TX12) (N := 33) hx hb hts inX12 hown hK hP 0 rfl rfl 30 (by decide) (hts _ (gw kw_747 rfl)) (fun _ h9 => h9) rfl dX12_likeTakes_122 ?_
                  refine lv_iload hx hb dX12_likeTakes_125 (lv_at hl 7 rfl) ?_
                  refine lv_iload hx hb dX12_likeTakes_127 (lv_at hl 8 rfl) ?_
                  refine lv_if_eq (tgt := 142) hx hb dX12_likeTakes_129 (by decide) (fun c_44 => ?_) (fun c_44 => ?_)
                  · refine lv_iconst (v := 0) hx hb dX12_likeTakes_142 (by decide) ?_
                    have h_45 : vp_in (nI (mr (stf 3) (i + 1) (n - 1 - i) j)) 61 := vp_in_nI (by omega) (by omega)
                    refine va_iast hx hb hK hP hD hS 2 0 rfl rfl h_45 dX12_likeTakes_143 (fun H locs hP hD hS => ?_)
                    obtain ⟨f_46, e_f_46⟩ : ∃ y : Nat → Int32, y = upd gc (nI (mr (stf 3) (i + 1) (n - 1 - i) j) : Int32).toNatClampNeg 0 := ⟨_, rfl⟩
                    have hpd9 : PDx (dC, dI) classes A H [oX12 g0 m_refused m_kind m_figure m_weight m_got m_setting men msy mdn m_tape m_letter m_letterAt m_told tp mat stm m_kept him ki crs m_price m_offer m_gets m_yes m_buys m_ends m_carried m_row rm m_keptRow m_likeGets m_likePrice m_ahead, cI aC m_setting 5 stf, cI aC m_likeGets 61 f_46, cI aC m_likePrice 61 pf] := by rw [e_f_46]; exact ⟨hP, hD⟩
                    have hP := hpd9.1
                    have hD := hpd9.2
                    clear hpd9
                    have hOF : (0 : Int32) = nI (OF (Qm (stf 3) (i + 1) (n - 1 - i) Q) (i + 1) (n - 1 - i) mq v j) := by
                      rcases hbb with ⟨q1, q2⟩ | ⟨q1, q2⟩
                      · exact absurd (q1.symm.trans c_44) (by decide)
                      · rw [q2]; rfl
                    have hb2 : ∀ q, i < q → q < j + 1 → f_46 (mr (stf 3) (i + 1) (n - 1 - i) q) = nI (OF (Qm (stf 3) (i + 1) (n - 1 - i) Q) (i + 1) (n - 1 - i) mq v q) := fun q h1 h2 => by
                      rw [e_f_46, nI_clamp (by omega)]
                      by_cases e : q = j
                      · rw [e, pk_us]; exact hOF
                      · rw [pk_un (fun z => e (by rw [← mr_mr (fs := stf 3) (a := i + 1) (y := n - 1 - i) (q := q) (by omega) (by omega), z, mr_mr (by omega) (by omega)]))]; exact hgc q h1 (by omega)
                    obtain ⟨x_47, e_47⟩ : ∃ y : Int32, y = (nI j) + 1 := ⟨_, rfl⟩
                    refine lv_iinc (v := x_47) (lv' := [(6, Value.int x_47), (0, Value.ref g0), (1, Value.int (nI i)), (2, Value.int (nI n)), (3, Value.int (nI v)), (4, Value.int (nI mq)), (5, Value.int xb), (7, Value.int (nI (mr (stf 3) (i + 1) (n - 1 - i) j))), (8, Value.int b)]) hx hb dX12_likeTakes_144 hl (k := 6) rfl (by rw [e_47]; rfl) (by decide) rfl (fun ls hl => ?_)
                    have h9 : x_47 = nI (j + 1) := by rw [e_47, nI_1]
                    subst h9
                    refine lv_goto (tgt := 39) hx hb dX12_likeTakes_147 (by decide) ?_
                    exact ih_39 (j + 1) xb f_46 (ms_lt hlt hfu) (by omega) (hxx) (hb2) _ _ _ (hP.sub [0, 1, 2, 3] rfl) (hD.sub [0, 1, 2, 3] (by decide) rfl) hS (lv_sub hl [1, 2, 3, 4, 5, 6, 0] rfl)
                  · refine lv_aload_n hx hb dX12_likeTakes_132 rfl (lv_at hl 0 rfl) ?_
                    refine va_get (D := (dC, dI)) (ci := 12) (v := Value.ref m_likePrice) (C := RX12) (T := TX12) (N := 33) hx hb hts inX12 hown hK hP 0 rfl rfl 31 (by decide) (hts _ (gw kw_748 rfl)) (fun _ h9 => h9) rfl dX12_likeTakes_133 ?_
                    refine lv_iload hx hb dX12_likeTakes_136 (lv_at hl 7 rfl) ?_
                    have h_48 : vp_in (nI (mr (stf 3) (i + 1) (n - 1 - i) j)) 61 := vp_in_nI (by omega) (by omega)
                    refine va_iald hx hb hK hP 3 0 rfl rfl h_48 dX12_likeTakes_138 ?_
                    refine lv_topi (fun x_49 e_49 => ?_)
                    have h9 : x_49 = nI ((Qm (stf 3) (i + 1) (n - 1 - i) Q) j) := by rw [e_49, nI_clamp (by omega)]; exact hq1
                    subst h9
                    refine lv_goto (tgt := 143) hx hb dX12_likeTakes_139 (by decide) ?_
                    have h_50 : vp_in (nI (mr (stf 3) (i + 1) (n - 1 - i) j)) 61 := vp_in_nI (by omega) (by omega)
                    refine va_iast hx hb hK hP hD hS 2 0 rfl rfl h_50 dX12_likeTakes_143 (fun H locs hP hD hS => ?_)
                    obtain ⟨f_51, e_f_51⟩ : ∃ y : Nat → Int32, y = upd gc (nI (mr (stf 3) (i + 1) (n - 1 - i) j) : Int32).toNatClampNeg (nI ((Qm (stf 3) (i + 1) (n - 1 - i) Q) j)) := ⟨_, rfl⟩
                    have hpd9 : PDx (dC, dI) classes A H [oX12 g0 m_refused m_kind m_figure m_weight m_got m_setting men msy mdn m_tape m_letter m_letterAt m_told tp mat stm m_kept him ki crs m_price m_offer m_gets m_yes m_buys m_ends m_carried m_row rm m_keptRow m_likeGets m_likePrice m_ahead, cI aC m_setting 5 stf, cI aC m_likeGets 61 f_51, cI aC m_likePrice 61 pf] := by rw [e_f_51]; exact ⟨hP, hD⟩
                    have hP := hpd9.1
                    have hD := hpd9.2
                    clear hpd9
                    have hOF : nI ((Qm (stf 3) (i + 1) (n - 1 - i) Q j)) = nI (OF (Qm (stf 3) (i + 1) (n - 1 - i) Q) (i + 1) (n - 1 - i) mq v j) := by
                      rcases hbb with ⟨q1, q2⟩ | ⟨q1, q2⟩
                      · rw [q2]
                      · exact absurd q1 c_44
                    have hb2 : ∀ q, i < q → q < j + 1 → f_51 (mr (stf 3) (i + 1) (n - 1 - i) q) = nI (OF (Qm (stf 3) (i + 1) (n - 1 - i) Q) (i + 1) (n - 1 - i) mq v q) := fun q h1 h2 => by
                      rw [e_f_51, nI_clamp (by omega)]
                      by_cases e : q = j
                      · rw [e, pk_us]; exact hOF
                      · rw [pk_un (fun z => e (by rw [← mr_mr (fs := stf 3) (a := i + 1) (y := n - 1 - i) (q := q) (by omega) (by omega), z, mr_mr (by omega) (by omega)]))]; exact hgc q h1 (by omega)
                    obtain ⟨x_52, e_52⟩ : ∃ y : Int32, y = (nI j) + 1 := ⟨_, rfl⟩
                    refine lv_iinc (v := x_52) (lv' := [(6, Value.int x_52), (0, Value.ref g0), (1, Value.int (nI i)), (2, Value.int (nI n)), (3, Value.int (nI v)), (4, Value.int (nI mq)), (5, Value.int xb), (7, Value.int (nI (mr (stf 3) (i + 1) (n - 1 - i) j))), (8, Value.int b)]) hx hb dX12_likeTakes_144 hl (k := 6) rfl (by rw [e_52]; rfl) (by decide) rfl (fun ls hl => ?_)
                    have h9 : x_52 = nI (j + 1) := by rw [e_52, nI_1]
                    subst h9
                    refine lv_goto (tgt := 39) hx hb dX12_likeTakes_147 (by decide) ?_
                    exact ih_39 (j + 1) xb f_51 (ms_lt hlt hfu) (by omega) (hxx) (hb2) _ _ _ (hP.sub [0, 1, 2, 3] rfl) (hD.sub [0, 1, 2, 3] (by decide) rfl) hS (lv_sub hl [1, 2, 3, 4, 5, 6, 0] rfl)
                refine lv_aload_n hx hb dX12_likeTakes_67 rfl (lv_at hl 1 rfl) ?_
                refine va_get (D := (dC, dI)) (ci := 12) (v := Value.ref m_likePrice) (C := RX12) (T := TX12) (N := 33) hx hb hts inX12 hown hK hP 0 rfl rfl 31 (by decide) (hts _ (gw kw_748 rfl)) (fun _ h9 => h9) rfl dX12_likeTakes_68 ?_
                refine lv_iload hx hb dX12_likeTakes_71 (lv_at hl 0 rfl) ?_
                have h_53 : vp_in (nI (mr (stf 3) (i + 1) (n - 1 - i) j)) 61 := vp_in_nI (by omega) (by omega)
                refine va_iald hx hb hK hP 3 0 rfl rfl h_53 dX12_likeTakes_73 ?_
                refine lv_topi (fun x_54 e_54 => ?_)
                have h9 : x_54 = nI ((Qm (stf 3) (i + 1) (n - 1 - i) Q) j) := by rw [e_54, nI_clamp (by omega)]; exact hq1
                subst h9
                refine lv_if_le (tgt := 92) hx hb dX12_likeTakes_74 (by decide) (fun c_55 => ?_) (fun c_55 => ?_)
                · refine lv_iconst (v := 0) hx hb dX12_likeTakes_92 (by decide) ?_
                  refine lv_istore (lv' := [(8, Value.int 0), (7, Value.int (nI (mr (stf 3) (i + 1) (n - 1 - i) j))), (0, Value.ref g0), (1, Value.int (nI i)), (2, Value.int (nI n)), (3, Value.int (nI v)), (4, Value.int (nI mq)), (5, Value.int x5), (6, Value.int (nI j))]) hx hb dX12_likeTakes_93 hl (by decide) rfl (fun ls hl => ?_)
                  refine lv_aload_n hx hb dX12_likeTakes_95 rfl (lv_at hl 2 rfl) ?_
                  refine va_get (D := (dC, dI)) (ci := 12) (v := Value.ref m_likePrice) (C := RX12) (T := TX12) (N := 33) hx hb hts inX12 hown hK hP 0 rfl rfl 31 (by decide) (hts _ (gw kw_748 rfl)) (fun _ h9 => h9) rfl dX12_likeTakes_96 ?_
                  refine lv_iload hx hb dX12_likeTakes_99 (lv_at hl 1 rfl) ?_
                  have h_56 : vp_in (nI (mr (stf 3) (i + 1) (n - 1 - i) j)) 61 := vp_in_nI (by omega) (by omega)
                  refine va_iald hx hb hK hP 3 0 rfl rfl h_56 dX12_likeTakes_101 ?_
                  refine lv_topi (fun x_57 e_57 => ?_)
                  have h9 : x_57 = nI ((Qm (stf 3) (i + 1) (n - 1 - i) Q) j) := by rw [e_57, nI_clamp (by omega)]; exact hq1
                  subst h9
                  refine lv_iload_n hx hb dX12_likeTakes_102 rfl (lv_at hl 5 rfl) ?_
                  refine lv_icmp_ne (tgt := 121) hx hb dX12_likeTakes_103 (by decide) (fun c_58 => ?_) (fun c_58 => ?_)
                  · have hA : (Qm (stf 3) (i + 1) (n - 1 - i) Q j) = 0 := by have := (nI_leI (a := (Qm (stf 3) (i + 1) (n - 1 - i) Q j)) (b := 0) (by omega) (by omega)).mp c_55; omega
                    have hDq : ¬ (Qm (stf 3) (i + 1) (n - 1 - i) Q j) = v := fun q => c_58 (by rw [q])
                    have hoc := OFm_case (fs := stf 3) (Q := Q) (a := i + 1) (y := n - 1 - i) (m := mq) (v := v) (j := j) (by omega) (by omega) hst
                    have hbj : ((0 : Int32) = 1 ∧ OF (Qm (stf 3) (i + 1) (n - 1 - i) Q) (i + 1) (n - 1 - i) mq v j = (Qm (stf 3) (i + 1) (n - 1 - i) Q j)) ∨ ((0 : Int32) = 0 ∧ OF (Qm (stf 3) (i + 1) (n - 1 - i) Q) (i + 1) (n - 1 - i) mq v j = 0) := Or.inr ⟨rfl, by rw [hoc, if_neg (by omega), if_neg (by omega)]⟩
                    have hxj : 0 < v → x5 = nI (((mq - cu Q (i + 1) (n - 1 - i) (v - 1))) - cv (Qm (stf 3) (i + 1) (n - 1 - i) Q) (i + 1) (j + 1 - (i + 1)) v) := fun hv0 => by rw [hx5 hv0, cv_at (by omega)]; congr 1; split <;> omega
                    exact jp_121 0 x5 (hbj) (hxj) _ _ _ (hP.sub [0, 1, 2, 3] rfl) (hD.sub [0, 1, 2, 3] (by decide) rfl) hS (lv_sub hl [2, 3, 4, 5, 6, 7, 8, 1, 0] rfl)
                  · refine lv_iload_n hx hb dX12_likeTakes_106 rfl (lv_at hl 5 rfl) ?_
                    refine lv_if_le (tgt := 121) hx hb dX12_likeTakes_107 (by decide) (fun c_59 => ?_) (fun c_59 => ?_)
                    · have hA : (Qm (stf 3) (i + 1) (n - 1 - i) Q j) = 0 := by have := (nI_leI (a := (Qm (stf 3) (i + 1) (n - 1 - i) Q j)) (b := 0) (by omega) (by omega)).mp c_55; omega
                      have hDq : (Qm (stf 3) (i + 1) (n - 1 - i) Q j) = v := (nI_eq (by omega) (by omega)).mp c_58
                      have hE : v = 0 := by have := (nI_leI (a := v) (b := 0) (by omega) (by omega)).mp c_59; omega
                      have hoc := OFm_case (fs := stf 3) (Q := Q) (a := i + 1) (y := n - 1 - i) (m := mq) (v := v) (j := j) (by omega) (by omega) hst
                      have hbj : ((0 : Int32) = 1 ∧ OF (Qm (stf 3) (i + 1) (n - 1 - i) Q) (i + 1) (n - 1 - i) mq v j = (Qm (stf 3) (i + 1) (n - 1 - i) Q j)) ∨ ((0 : Int32) = 0 ∧ OF (Qm (stf 3) (i + 1) (n - 1 - i) Q) (i + 1) (n - 1 - i) mq v j = 0) := Or.inr ⟨rfl, by rw [hoc, if_neg (by omega), if_neg (by omega)]⟩
                      have hxj : 0 < v → x5 = nI (((mq - cu Q (i + 1) (n - 1 - i) (v - 1))) - cv (Qm (stf 3) (i + 1) (n - 1 - i) Q) (i + 1) (j + 1 - (i + 1)) v) := fun hv0 => by rw [hx5 hv0, cv_at (by omega)]; congr 1; split <;> omega
                      exact jp_121 0 x5 (hbj) (hxj) _ _ _ (hP.sub [0, 1, 2, 3] rfl) (hD.sub [0, 1, 2, 3] (by decide) rfl) hS (lv_sub hl [2, 3, 4, 5, 6, 7, 8, 1, 0] rfl)
                    · refine lv_iload hx hb dX12_likeTakes_110 (lv_at hl 7 rfl) ?_
                      refine lv_if_le (tgt := 121) hx hb dX12_likeTakes_112 (by decide) (fun c_60 => ?_) (fun c_60 => ?_)
                      · have hA : (Qm (stf 3) (i + 1) (n - 1 - i) Q j) = 0 := by have := (nI_leI (a := (Qm (stf 3) (i + 1) (n - 1 - i) Q j)) (b := 0) (by omega) (by omega)).mp c_55; omega
                        have hDq : (Qm (stf 3) (i + 1) (n - 1 - i) Q j) = v := (nI_eq (by omega) (by omega)).mp c_58
                        have hE : 0 < v := by
                          rcases Nat.eq_zero_or_pos v with q | q
                          · exact absurd (by rw [q]; decide) c_59
                          · exact q
                        have hF : ((mq - cu Q (i + 1) (n - 1 - i) (v - 1))) - cv (Qm (stf 3) (i + 1) (n - 1 - i) Q) (i + 1) (j - (i + 1)) v = 0 := by have := c_60; rw [hx5 hE] at this; have := (nI_leI (a := ((mq - cu Q (i + 1) (n - 1 - i) (v - 1))) - cv (Qm (stf 3) (i + 1) (n - 1 - i) Q) (i + 1) (j - (i + 1)) v) (b := 0) (by omega) (by omega)).mp this; omega
                        have hoc := OFm_case (fs := stf 3) (Q := Q) (a := i + 1) (y := n - 1 - i) (m := mq) (v := v) (j := j) (by omega) (by omega) hst
                        have hbj : ((0 : Int32) = 1 ∧ OF (Qm (stf 3) (i + 1) (n - 1 - i) Q) (i + 1) (n - 1 - i) mq v j = (Qm (stf 3) (i + 1) (n - 1 - i) Q j)) ∨ ((0 : Int32) = 0 ∧ OF (Qm (stf 3) (i + 1) (n - 1 - i) Q) (i + 1) (n - 1 - i) mq v j = 0) := Or.inr ⟨rfl, by rw [hoc, if_neg (by omega), if_neg (by omega)]⟩
                        have hxj : 0 < v → x5 = nI (((mq - cu Q (i + 1) (n - 1 - i) (v - 1))) - cv (Qm (stf 3) (i + 1) (n - 1 - i) Q) (i + 1) (j + 1 - (i + 1)) v) := fun hv0 => by rw [hx5 hv0, cv_at (by omega)]; congr 1; split <;> omega
                        exact jp_121 0 x5 (hbj) (hxj) _ _ _ (hP.sub [0, 1, 2, 3] rfl) (hD.sub [0, 1, 2, 3] (by decide) rfl) hS (lv_sub hl [2, 3, 4, 5, 6, 7, 8, 1, 0] rfl)
                      · refine lv_iconst (v := 1) hx hb dX12_likeTakes_115 (by decide) ?_
                        refine lv_istore (lv' := [(8, Value.int 1), (7, Value.int (nI (mr (stf 3) (i + 1) (n - 1 - i) j))), (0, Value.ref g0), (1, Value.int (nI i)), (2, Value.int (nI n)), (3, Value.int (nI v)), (4, Value.int (nI mq)), (5, Value.int x5), (6, Value.int (nI j))]) hx hb dX12_likeTakes_116 hl (by decide) rfl (fun ls hl => ?_)
                        obtain ⟨x_61, e_61⟩ : ∃ y : Int32, y = x5 + (-1) := ⟨_, rfl⟩
                        refine lv_iinc (v := x_61) (lv' := [(5, Value.int x_61), (8, Value.int 1), (7, Value.int (nI (mr (stf 3) (i + 1) (n - 1 - i) j))), (0, Value.ref g0), (1, Value.int (nI i)), (2, Value.int (nI n)), (3, Value.int (nI v)), (4, Value.int (nI mq)), (6, Value.int (nI j))]) hx hb dX12_likeTakes_118 hl (k := 7) rfl (by rw [e_61]; rfl) (by decide) rfl (fun ls hl => ?_)
                        have hA : (Qm (stf 3) (i + 1) (n - 1 - i) Q j) = 0 := by have := (nI_leI (a := (Qm (stf 3) (i + 1) (n - 1 - i) Q j)) (b := 0) (by omega) (by omega)).mp c_55; omega
                        have hDq : (Qm (stf 3) (i + 1) (n - 1 - i) Q j) = v := (nI_eq (by omega) (by omega)).mp c_58
                        have hE : 0 < v := by
                          rcases Nat.eq_zero_or_pos v with q | q
                          · exact absurd (by rw [q]; decide) c_59
                          · exact q
                        have hF : 0 < ((mq - cu Q (i + 1) (n - 1 - i) (v - 1))) - cv (Qm (stf 3) (i + 1) (n - 1 - i) Q) (i + 1) (j - (i + 1)) v := by
                          rcases Nat.eq_zero_or_pos (((mq - cu Q (i + 1) (n - 1 - i) (v - 1))) - cv (Qm (stf 3) (i + 1) (n - 1 - i) Q) (i + 1) (j - (i + 1)) v) with q | q
                          · exact absurd (by rw [hx5 hE, q]; decide) c_60
                          · exact q
                        have hoc := OFm_case (fs := stf 3) (Q := Q) (a := i + 1) (y := n - 1 - i) (m := mq) (v := v) (j := j) (by omega) (by omega) hst
                        have hbj : ((1 : Int32) = 1 ∧ OF (Qm (stf 3) (i + 1) (n - 1 - i) Q) (i + 1) (n - 1 - i) mq v j = (Qm (stf 3) (i + 1) (n - 1 - i) Q j)) ∨ ((1 : Int32) = 0 ∧ OF (Qm (stf 3) (i + 1) (n - 1 - i) Q) (i + 1) (n - 1 - i) mq v j = 0) := Or.inl ⟨rfl, by rw [hoc, if_neg (by omega), if_pos ⟨hDq, hE, by omega⟩, hDq]⟩
                        have hxj : 0 < v → x_61 = nI (((mq - cu Q (i + 1) (n - 1 - i) (v - 1))) - cv (Qm (stf 3) (i + 1) (n - 1 - i) Q) (i + 1) (j + 1 - (i + 1)) v) := fun hv0 => by rw [e_61, hx5 hv0, cv_at (by omega), if_pos hDq, show ((mq - cu Q (i + 1) (n - 1 - i) (v - 1))) - cv (Qm (stf 3) (i + 1) (n - 1 - i) Q) (i + 1) (j - (i + 1)) v = (((mq - cu Q (i + 1) (n - 1 - i) (v - 1))) - (cv (Qm (stf 3) (i + 1) (n - 1 - i) Q) (i + 1) (j - (i + 1)) v + 1)) + 1 by omega]; exact pk_m1 _
                        exact jp_121 1 x_61 (hbj) (hxj) _ _ _ (hP.sub [0, 1, 2, 3] rfl) (hD.sub [0, 1, 2, 3] (by decide) rfl) hS (lv_sub hl [3, 4, 5, 6, 7, 0, 8, 2, 1] rfl)
                · refine lv_aload_n hx hb dX12_likeTakes_77 rfl (lv_at hl 1 rfl) ?_
                  refine va_get (D := (dC, dI)) (ci := 12) (v := Value.ref m_likePrice) (C := RX12) (T := TX12) (N := 33) hx hb hts inX12 hown hK hP 0 rfl rfl 31 (by decide) (hts _ (gw kw_748 rfl)) (fun _ h9 => h9) rfl dX12_likeTakes_78 ?_
                  refine lv_iload hx hb dX12_likeTakes_81 (lv_at hl 0 rfl) ?_
                  have h_62 : vp_in (nI (mr (stf 3) (i + 1) (n - 1 - i) j)) 61 := vp_in_nI (by omega) (by omega)
                  refine va_iald hx hb hK hP 3 0 rfl rfl h_62 dX12_likeTakes_83 ?_
                  refine lv_topi (fun x_63 e_63 => ?_)
                  have h9 : x_63 = nI ((Qm (stf 3) (i + 1) (n - 1 - i) Q) j) := by rw [e_63, nI_clamp (by omega)]; exact hq1
                  subst h9
                  refine lv_iload_n hx hb dX12_likeTakes_84 rfl (lv_at hl 4 rfl) ?_
                  refine lv_icmp_ge (tgt := 92) hx hb dX12_likeTakes_85 (by decide) (fun c_64 => ?_) (fun c_64 => ?_)
                  · refine lv_iconst (v := 0) hx hb dX12_likeTakes_92 (by decide) ?_
                    refine lv_istore (lv' := [(8, Value.int 0), (7, Value.int (nI (mr (stf 3) (i + 1) (n - 1 - i) j))), (0, Value.ref g0), (1, Value.int (nI i)), (2, Value.int (nI n)), (3, Value.int (nI v)), (4, Value.int (nI mq)), (5, Value.int x5), (6, Value.int (nI j))]) hx hb dX12_likeTakes_93 hl (by decide) rfl (fun ls hl => ?_)
                    refine lv_aload_n hx hb dX12_likeTakes_95 rfl (lv_at hl 2 rfl) ?_
                    refine va_get (D := (dC, dI)) (ci := 12) (v := Value.ref m_likePrice) (C := RX12) (T := TX12) (N := 33) hx hb hts inX12 hown hK hP 0 rfl rfl 31 (by decide) (hts _ (gw kw_748 rfl)) (fun _ h9 => h9) rfl dX12_likeTakes_96 ?_
                    refine lv_iload hx hb dX12_likeTakes_99 (lv_at hl 1 rfl) ?_
                    have h_65 : vp_in (nI (mr (stf 3) (i + 1) (n - 1 - i) j)) 61 := vp_in_nI (by omega) (by omega)
                    refine va_iald hx hb hK hP 3 0 rfl rfl h_65 dX12_likeTakes_101 ?_
                    refine lv_topi (fun x_66 e_66 => ?_)
                    have h9 : x_66 = nI ((Qm (stf 3) (i + 1) (n - 1 - i) Q) j) := by rw [e_66, nI_clamp (by omega)]; exact hq1
                    subst h9
                    refine lv_iload_n hx hb dX12_likeTakes_102 rfl (lv_at hl 5 rfl) ?_
                    refine lv_icmp_ne (tgt := 121) hx hb dX12_likeTakes_103 (by decide) (fun c_67 => ?_) (fun c_67 => ?_)
                    · have hA : 0 < (Qm (stf 3) (i + 1) (n - 1 - i) Q j) := by
                        rcases Nat.eq_zero_or_pos ((Qm (stf 3) (i + 1) (n - 1 - i) Q j)) with q | q
                        · exact absurd (by rw [q]; decide) c_55
                        · exact q
                      have hB : v ≤ (Qm (stf 3) (i + 1) (n - 1 - i) Q j) := (nI_leI (by omega) (by omega)).mp c_64
                      have hDq : ¬ (Qm (stf 3) (i + 1) (n - 1 - i) Q j) = v := fun q => c_67 (by rw [q])
                      have hoc := OFm_case (fs := stf 3) (Q := Q) (a := i + 1) (y := n - 1 - i) (m := mq) (v := v) (j := j) (by omega) (by omega) hst
                      have hbj : ((0 : Int32) = 1 ∧ OF (Qm (stf 3) (i + 1) (n - 1 - i) Q) (i + 1) (n - 1 - i) mq v j = (Qm (stf 3) (i + 1) (n - 1 - i) Q j)) ∨ ((0 : Int32) = 0 ∧ OF (Qm (stf 3) (i + 1) (n - 1 - i) Q) (i + 1) (n - 1 - i) mq v j = 0) := Or.inr ⟨rfl, by rw [hoc, if_neg (by omega), if_neg (by omega)]⟩
                      have hxj : 0 < v → x5 = nI (((mq - cu Q (i + 1) (n - 1 - i) (v - 1))) - cv (Qm (stf 3) (i + 1) (n - 1 - i) Q) (i + 1) (j + 1 - (i + 1)) v) := fun hv0 => by rw [hx5 hv0, cv_at (by omega)]; congr 1; split <;> omega
                      exact jp_121 0 x5 (hbj) (hxj) _ _ _ (hP.sub [0, 1, 2, 3] rfl) (hD.sub [0, 1, 2, 3] (by decide) rfl) hS (lv_sub hl [2, 3, 4, 5, 6, 7, 8, 1, 0] rfl)
                    · refine lv_iload_n hx hb dX12_likeTakes_106 rfl (lv_at hl 5 rfl) ?_
                      refine lv_if_le (tgt := 121) hx hb dX12_likeTakes_107 (by decide) (fun c_68 => ?_) (fun c_68 => ?_)
                      · have hA : 0 < (Qm (stf 3) (i + 1) (n - 1 - i) Q j) := by
                          rcases Nat.eq_zero_or_pos ((Qm (stf 3) (i + 1) (n - 1 - i) Q j)) with q | q
                          · exact absurd (by rw [q]; decide) c_55
                          · exact q
                        have hB : v ≤ (Qm (stf 3) (i + 1) (n - 1 - i) Q j) := (nI_leI (by omega) (by omega)).mp c_64
                        have hDq : (Qm (stf 3) (i + 1) (n - 1 - i) Q j) = v := (nI_eq (by omega) (by omega)).mp c_67
                        have hE : v = 0 := by have := (nI_leI (a := v) (b := 0) (by omega) (by omega)).mp c_68; omega
                        have hoc := OFm_case (fs := stf 3) (Q := Q) (a := i + 1) (y := n - 1 - i) (m := mq) (v := v) (j := j) (by omega) (by omega) hst
                        have hbj : ((0 : Int32) = 1 ∧ OF (Qm (stf 3) (i + 1) (n - 1 - i) Q) (i + 1) (n - 1 - i) mq v j = (Qm (stf 3) (i + 1) (n - 1 - i) Q j)) ∨ ((0 : Int32) = 0 ∧ OF (Qm (stf 3) (i + 1) (n - 1 - i) Q) (i + 1) (n - 1 - i) mq v j = 0) := Or.inr ⟨rfl, by rw [hoc, if_neg (by omega), if_neg (by omega)]⟩
                        have hxj : 0 < v → x5 = nI (((mq - cu Q (i + 1) (n - 1 - i) (v - 1))) - cv (Qm (stf 3) (i + 1) (n - 1 - i) Q) (i + 1) (j + 1 - (i + 1)) v) := fun hv0 => by rw [hx5 hv0, cv_at (by omega)]; congr 1; split <;> omega
                        exact jp_121 0 x5 (hbj) (hxj) _ _ _ (hP.sub [0, 1, 2, 3] rfl) (hD.sub [0, 1, 2, 3] (by decide) rfl) hS (lv_sub hl [2, 3, 4, 5, 6, 7, 8, 1, 0] rfl)
                      · refine lv_iload hx hb dX12_likeTakes_110 (lv_at hl 7 rfl) ?_
                        refine lv_if_le (tgt := 121) hx hb dX12_likeTakes_112 (by decide) (fun c_69 => ?_) (fun c_69 => ?_)
                        · have hA : 0 < (Qm (stf 3) (i + 1) (n - 1 - i) Q j) := by
                            rcases Nat.eq_zero_or_pos ((Qm (stf 3) (i + 1) (n - 1 - i) Q j)) with q | q
                            · exact absurd (by rw [q]; decide) c_55
                            · exact q
                          have hB : v ≤ (Qm (stf 3) (i + 1) (n - 1 - i) Q j) := (nI_leI (by omega) (by omega)).mp c_64
                          have hDq : (Qm (stf 3) (i + 1) (n - 1 - i) Q j) = v := (nI_eq (by omega) (by omega)).mp c_67
                          have hE : 0 < v := by
                            rcases Nat.eq_zero_or_pos v with q | q
                            · exact absurd (by rw [q]; decide) c_68
                            · exact q
                          have hF : ((mq - cu Q (i + 1) (n - 1 - i) (v - 1))) - cv (Qm (stf 3) (i + 1) (n - 1 - i) Q) (i + 1) (j - (i + 1)) v = 0 := by have := c_69; rw [hx5 hE] at this; have := (nI_leI (a := ((mq - cu Q (i + 1) (n - 1 - i) (v - 1))) - cv (Qm (stf 3) (i + 1) (n - 1 - i) Q) (i + 1) (j - (i + 1)) v) (b := 0) (by omega) (by omega)).mp this; omega
                          have hoc := OFm_case (fs := stf 3) (Q := Q) (a := i + 1) (y := n - 1 - i) (m := mq) (v := v) (j := j) (by omega) (by omega) hst
                          have hbj : ((0 : Int32) = 1 ∧ OF (Qm (stf 3) (i + 1) (n - 1 - i) Q) (i + 1) (n - 1 - i) mq v j = (Qm (stf 3) (i + 1) (n - 1 - i) Q j)) ∨ ((0 : Int32) = 0 ∧ OF (Qm (stf 3) (i + 1) (n - 1 - i) Q) (i + 1) (n - 1 - i) mq v j = 0) := Or.inr ⟨rfl, by rw [hoc, if_neg (by omega), if_neg (by omega)]⟩
                          have hxj : 0 < v → x5 = nI (((mq - cu Q (i + 1) (n - 1 - i) (v - 1))) - cv (Qm (stf 3) (i + 1) (n - 1 - i) Q) (i + 1) (j + 1 - (i + 1)) v) := fun hv0 => by rw [hx5 hv0, cv_at (by omega)]; congr 1; split <;> omega
                          exact jp_121 0 x5 (hbj) (hxj) _ _ _ (hP.sub [0, 1, 2, 3] rfl) (hD.sub [0, 1, 2, 3] (by decide) rfl) hS (lv_sub hl [2, 3, 4, 5, 6, 7, 8, 1, 0] rfl)
                        · refine lv_iconst (v := 1) hx hb dX12_likeTakes_115 (by decide) ?_
                          refine lv_istore (lv' := [(8, Value.int 1), (7, Value.int (nI (mr (stf 3) (i + 1) (n - 1 - i) j))), (0, Value.ref g0), (1, Value.int (nI i)), (2, Value.int (nI n)), (3, Value.int (nI v)), (4, Value.int (nI mq)), (5, Value.int x5), (6, Value.int (nI j))]) hx hb dX12_likeTakes_116 hl (by decide) rfl (fun ls hl => ?_)
                          obtain ⟨x_70, e_70⟩ : ∃ y : Int32, y = x5 + (-1) := ⟨_, rfl⟩
                          refine lv_iinc (v := x_70) (lv' := [(5, Value.int x_70), (8, Value.int 1), (7, Value.int (nI (mr (stf 3) (i + 1) (n - 1 - i) j))), (0, Value.ref g0), (1, Value.int (nI i)), (2, Value.int (nI n)), (3, Value.int (nI v)), (4, Value.int (nI mq)), (6, Value.int (nI j))]) hx hb dX12_likeTakes_118 hl (k := 7) rfl (by rw [e_70]; rfl) (by decide) rfl (fun ls hl => ?_)
                          have hA : 0 < (Qm (stf 3) (i + 1) (n - 1 - i) Q j) := by
                            rcases Nat.eq_zero_or_pos ((Qm (stf 3) (i + 1) (n - 1 - i) Q j)) with q | q
                            · exact absurd (by rw [q]; decide) c_55
                            · exact q
                          have hB : v ≤ (Qm (stf 3) (i + 1) (n - 1 - i) Q j) := (nI_leI (by omega) (by omega)).mp c_64
                          have hDq : (Qm (stf 3) (i + 1) (n - 1 - i) Q j) = v := (nI_eq (by omega) (by omega)).mp c_67
                          have hE : 0 < v := by
                            rcases Nat.eq_zero_or_pos v with q | q
                            · exact absurd (by rw [q]; decide) c_68
                            · exact q
                          have hF : 0 < ((mq - cu Q (i + 1) (n - 1 - i) (v - 1))) - cv (Qm (stf 3) (i + 1) (n - 1 - i) Q) (i + 1) (j - (i + 1)) v := by
                            rcases Nat.eq_zero_or_pos (((mq - cu Q (i + 1) (n - 1 - i) (v - 1))) - cv (Qm (stf 3) (i + 1) (n - 1 - i) Q) (i + 1) (j - (i + 1)) v) with q | q
                            · exact absurd (by rw [hx5 hE, q]; decide) c_69
                            · exact q
                          have hoc := OFm_case (fs := stf 3) (Q := Q) (a := i + 1) (y := n - 1 - i) (m := mq) (v := v) (j := j) (by omega) (by omega) hst
                          have hbj : ((1 : Int32) = 1 ∧ OF (Qm (stf 3) (i + 1) (n - 1 - i) Q) (i + 1) (n - 1 - i) mq v j = (Qm (stf 3) (i + 1) (n - 1 - i) Q j)) ∨ ((1 : Int32) = 0 ∧ OF (Qm (stf 3) (i + 1) (n - 1 - i) Q) (i + 1) (n - 1 - i) mq v j = 0) := Or.inl ⟨rfl, by rw [hoc, if_neg (by omega), if_pos ⟨hDq, hE, by omega⟩, hDq]⟩
                          have hxj : 0 < v → x_70 = nI (((mq - cu Q (i + 1) (n - 1 - i) (v - 1))) - cv (Qm (stf 3) (i + 1) (n - 1 - i) Q) (i + 1) (j + 1 - (i + 1)) v) := fun hv0 => by rw [e_70, hx5 hv0, cv_at (by omega), if_pos hDq, show ((mq - cu Q (i + 1) (n - 1 - i) (v - 1))) - cv (Qm (stf 3) (i + 1) (n - 1 - i) Q) (i + 1) (j - (i + 1)) v = (((mq - cu Q (i + 1) (n - 1 - i) (v - 1))) - (cv (Qm (stf 3) (i + 1) (n - 1 - i) Q) (i + 1) (j - (i + 1)) v + 1)) + 1 by omega]; exact pk_m1 _
                          exact jp_121 1 x_70 (hbj) (hxj) _ _ _ (hP.sub [0, 1, 2, 3] rfl) (hD.sub [0, 1, 2, 3] (by decide) rfl) hS (lv_sub hl [3, 4, 5, 6, 7, 0, 8, 2, 1] rfl)
                  · refine lv_iconst (v := 1) hx hb dX12_likeTakes_88 (by decide) ?_
                    refine lv_goto (tgt := 93) hx hb dX12_likeTakes_89 (by decide) ?_
                    refine lv_istore (lv' := [(8, Value.int 1), (7, Value.int (nI (mr (stf 3) (i + 1) (n - 1 - i) j))), (0, Value.ref g0), (1, Value.int (nI i)), (2, Value.int (nI n)), (3, Value.int (nI v)), (4, Value.int (nI mq)), (5, Value.int x5), (6, Value.int (nI j))]) hx hb dX12_likeTakes_93 hl (by decide) rfl (fun ls hl => ?_)
                    refine lv_aload_n hx hb dX12_likeTakes_95 rfl (lv_at hl 2 rfl) ?_
                    refine va_get (D := (dC, dI)) (ci := 12) (v := Value.ref m_likePrice) (C := RX12) (T := TX12) (N := 33) hx hb hts inX12 hown hK hP 0 rfl rfl 31 (by decide) (hts _ (gw kw_748 rfl)) (fun _ h9 => h9) rfl dX12_likeTakes_96 ?_
                    refine lv_iload hx hb dX12_likeTakes_99 (lv_at hl 1 rfl) ?_
                    have h_71 : vp_in (nI (mr (stf 3) (i + 1) (n - 1 - i) j)) 61 := vp_in_nI (by omega) (by omega)
                    refine va_iald hx hb hK hP 3 0 rfl rfl h_71 dX12_likeTakes_101 ?_
                    refine lv_topi (fun x_72 e_72 => ?_)
                    have h9 : x_72 = nI ((Qm (stf 3) (i + 1) (n - 1 - i) Q) j) := by rw [e_72, nI_clamp (by omega)]; exact hq1
                    subst h9
                    refine lv_iload_n hx hb dX12_likeTakes_102 rfl (lv_at hl 5 rfl) ?_
                    refine lv_icmp_ne (tgt := 121) hx hb dX12_likeTakes_103 (by decide) (fun c_73 => ?_) (fun c_73 => ?_)
                    · have hA : 0 < (Qm (stf 3) (i + 1) (n - 1 - i) Q j) := by
                        rcases Nat.eq_zero_or_pos ((Qm (stf 3) (i + 1) (n - 1 - i) Q j)) with q | q
                        · exact absurd (by rw [q]; decide) c_55
                        · exact q
                      have hB : (Qm (stf 3) (i + 1) (n - 1 - i) Q j) < v := by
                        rcases Nat.lt_or_ge ((Qm (stf 3) (i + 1) (n - 1 - i) Q j)) v with q | q
                        · exact q
                        · exact absurd (nI_le q (by omega)) c_64
                      have hDq : ¬ (Qm (stf 3) (i + 1) (n - 1 - i) Q j) = v := fun q => c_73 (by rw [q])
                      have hoc := OFm_case (fs := stf 3) (Q := Q) (a := i + 1) (y := n - 1 - i) (m := mq) (v := v) (j := j) (by omega) (by omega) hst
                      have hbj : ((1 : Int32) = 1 ∧ OF (Qm (stf 3) (i + 1) (n - 1 - i) Q) (i + 1) (n - 1 - i) mq v j = (Qm (stf 3) (i + 1) (n - 1 - i) Q j)) ∨ ((1 : Int32) = 0 ∧ OF (Qm (stf 3) (i + 1) (n - 1 - i) Q) (i + 1) (n - 1 - i) mq v j = 0) := Or.inl ⟨rfl, by rw [hoc, if_pos ⟨hA, hB⟩]⟩
                      have hxj : 0 < v → x5 = nI (((mq - cu Q (i + 1) (n - 1 - i) (v - 1))) - cv (Qm (stf 3) (i + 1) (n - 1 - i) Q) (i + 1) (j + 1 - (i + 1)) v) := fun hv0 => by rw [hx5 hv0, cv_at (by omega)]; congr 1; split <;> omega
                      exact jp_121 1 x5 (hbj) (hxj) _ _ _ (hP.sub [0, 1, 2, 3] rfl) (hD.sub [0, 1, 2, 3] (by decide) rfl) hS (lv_sub hl [2, 3, 4, 5, 6, 7, 8, 1, 0] rfl)
                    · refine lv_iload_n hx hb dX12_likeTakes_106 rfl (lv_at hl 5 rfl) ?_
                      refine lv_if_le (tgt := 121) hx hb dX12_likeTakes_107 (by decide) (fun c_74 => ?_) (fun c_74 => ?_)
                      · have hA : 0 < (Qm (stf 3) (i + 1) (n - 1 - i) Q j) := by
                          rcases Nat.eq_zero_or_pos ((Qm (stf 3) (i + 1) (n - 1 - i) Q j)) with q | q
                          · exact absurd (by rw [q]; decide) c_55
                          · exact q
                        have hB : (Qm (stf 3) (i + 1) (n - 1 - i) Q j) < v := by
                          rcases Nat.lt_or_ge ((Qm (stf 3) (i + 1) (n - 1 - i) Q j)) v with q | q
                          · exact q
                          · exact absurd (nI_le q (by omega)) c_64
                        have hDq : (Qm (stf 3) (i + 1) (n - 1 - i) Q j) = v := (nI_eq (by omega) (by omega)).mp c_73
                        have hE : v = 0 := by have := (nI_leI (a := v) (b := 0) (by omega) (by omega)).mp c_74; omega
                        have hoc := OFm_case (fs := stf 3) (Q := Q) (a := i + 1) (y := n - 1 - i) (m := mq) (v := v) (j := j) (by omega) (by omega) hst
                        have hbj : ((1 : Int32) = 1 ∧ OF (Qm (stf 3) (i + 1) (n - 1 - i) Q) (i + 1) (n - 1 - i) mq v j = (Qm (stf 3) (i + 1) (n - 1 - i) Q j)) ∨ ((1 : Int32) = 0 ∧ OF (Qm (stf 3) (i + 1) (n - 1 - i) Q) (i + 1) (n - 1 - i) mq v j = 0) := Or.inl ⟨rfl, by rw [hoc, if_pos ⟨hA, hB⟩]⟩
                        have hxj : 0 < v → x5 = nI (((mq - cu Q (i + 1) (n - 1 - i) (v - 1))) - cv (Qm (stf 3) (i + 1) (n - 1 - i) Q) (i + 1) (j + 1 - (i + 1)) v) := fun hv0 => by rw [hx5 hv0, cv_at (by omega)]; congr 1; split <;> omega
                        exact jp_121 1 x5 (hbj) (hxj) _ _ _ (hP.sub [0, 1, 2, 3] rfl) (hD.sub [0, 1, 2, 3] (by decide) rfl) hS (lv_sub hl [2, 3, 4, 5, 6, 7, 8, 1, 0] rfl)
                      · refine lv_iload hx hb dX12_likeTakes_110 (lv_at hl 7 rfl) ?_
                        refine lv_if_le (tgt := 121) hx hb dX12_likeTakes_112 (by decide) (fun c_75 => ?_) (fun c_75 => ?_)
                        · have hA : 0 < (Qm (stf 3) (i + 1) (n - 1 - i) Q j) := by
                            rcases Nat.eq_zero_or_pos ((Qm (stf 3) (i + 1) (n - 1 - i) Q j)) with q | q
                            · exact absurd (by rw [q]; decide) c_55
                            · exact q
                          have hB : (Qm (stf 3) (i + 1) (n - 1 - i) Q j) < v := by
                            rcases Nat.lt_or_ge ((Qm (stf 3) (i + 1) (n - 1 - i) Q j)) v with q | q
                            · exact q
                            · exact absurd (nI_le q (by omega)) c_64
                          have hDq : (Qm (stf 3) (i + 1) (n - 1 - i) Q j) = v := (nI_eq (by omega) (by omega)).mp c_73
                          have hE : 0 < v := by
                            rcases Nat.eq_zero_or_pos v with q | q
                            · exact absurd (by rw [q]; decide) c_74
                            · exact q
                          have hF : ((mq - cu Q (i + 1) (n - 1 - i) (v - 1))) - cv (Qm (stf 3) (i + 1) (n - 1 - i) Q) (i + 1) (j - (i + 1)) v = 0 := by have := c_75; rw [hx5 hE] at this; have := (nI_leI (a := ((mq - cu Q (i + 1) (n - 1 - i) (v - 1))) - cv (Qm (stf 3) (i + 1) (n - 1 - i) Q) (i + 1) (j - (i + 1)) v) (b := 0) (by omega) (by omega)).mp this; omega
                          have hoc := OFm_case (fs := stf 3) (Q := Q) (a := i + 1) (y := n - 1 - i) (m := mq) (v := v) (j := j) (by omega) (by omega) hst
                          have hbj : ((1 : Int32) = 1 ∧ OF (Qm (stf 3) (i + 1) (n - 1 - i) Q) (i + 1) (n - 1 - i) mq v j = (Qm (stf 3) (i + 1) (n - 1 - i) Q j)) ∨ ((1 : Int32) = 0 ∧ OF (Qm (stf 3) (i + 1) (n - 1 - i) Q) (i + 1) (n - 1 - i) mq v j = 0) := Or.inl ⟨rfl, by rw [hoc, if_pos ⟨hA, hB⟩]⟩
                          have hxj : 0 < v → x5 = nI (((mq - cu Q (i + 1) (n - 1 - i) (v - 1))) - cv (Qm (stf 3) (i + 1) (n - 1 - i) Q) (i + 1) (j + 1 - (i + 1)) v) := fun hv0 => by rw [hx5 hv0, cv_at (by omega)]; congr 1; split <;> omega
                          exact jp_121 1 x5 (hbj) (hxj) _ _ _ (hP.sub [0, 1, 2, 3] rfl) (hD.sub [0, 1, 2, 3] (by decide) rfl) hS (lv_sub hl [2, 3, 4, 5, 6, 7, 8, 1, 0] rfl)
                        · refine lv_iconst (v := 1) hx hb dX12_likeTakes_115 (by decide) ?_
                          refine lv_istore (lv' := [(8, Value.int 1), (7, Value.int (nI (mr (stf 3) (i + 1) (n - 1 - i) j))), (0, Value.ref g0), (1, Value.int (nI i)), (2, Value.int (nI n)), (3, Value.int (nI v)), (4, Value.int (nI mq)), (5, Value.int x5), (6, Value.int (nI j))]) hx hb dX12_likeTakes_116 hl (by decide) rfl (fun ls hl => ?_)
                          obtain ⟨x_76, e_76⟩ : ∃ y : Int32, y = x5 + (-1) := ⟨_, rfl⟩
                          refine lv_iinc (v := x_76) (lv' := [(5, Value.int x_76), (8, Value.int 1), (7, Value.int (nI (mr (stf 3) (i + 1) (n - 1 - i) j))), (0, Value.ref g0), (1, Value.int (nI i)), (2, Value.int (nI n)), (3, Value.int (nI v)), (4, Value.int (nI mq)), (6, Value.int (nI j))]) hx hb dX12_likeTakes_118 hl (k := 7) rfl (by rw [e_76]; rfl) (by decide) rfl (fun ls hl => ?_)
                          have hA : 0 < (Qm (stf 3) (i + 1) (n - 1 - i) Q j) := by
                            rcases Nat.eq_zero_or_pos ((Qm (stf 3) (i + 1) (n - 1 - i) Q j)) with q | q
                            · exact absurd (by rw [q]; decide) c_55
                            · exact q
                          have hB : (Qm (stf 3) (i + 1) (n - 1 - i) Q j) < v := by
                            rcases Nat.lt_or_ge ((Qm (stf 3) (i + 1) (n - 1 - i) Q j)) v with q | q
                            · exact q
                            · exact absurd (nI_le q (by omega)) c_64
                          have hDq : (Qm (stf 3) (i + 1) (n - 1 - i) Q j) = v := (nI_eq (by omega) (by omega)).mp c_73
                          have hE : 0 < v := by
                            rcases Nat.eq_zero_or_pos v with q | q
                            · exact absurd (by rw [q]; decide) c_74
                            · exact q
                          have hF : 0 < ((mq - cu Q (i + 1) (n - 1 - i) (v - 1))) - cv (Qm (stf 3) (i + 1) (n - 1 - i) Q) (i + 1) (j - (i + 1)) v := by
                            rcases Nat.eq_zero_or_pos (((mq - cu Q (i + 1) (n - 1 - i) (v - 1))) - cv (Qm (stf 3) (i + 1) (n - 1 - i) Q) (i + 1) (j - (i + 1)) v) with q | q
                            · exact absurd (by rw [hx5 hE, q]; decide) c_75
                            · exact q
                          have hoc := OFm_case (fs := stf 3) (Q := Q) (a := i + 1) (y := n - 1 - i) (m := mq) (v := v) (j := j) (by omega) (by omega) hst
                          have hbj : ((1 : Int32) = 1 ∧ OF (Qm (stf 3) (i + 1) (n - 1 - i) Q) (i + 1) (n - 1 - i) mq v j = (Qm (stf 3) (i + 1) (n - 1 - i) Q j)) ∨ ((1 : Int32) = 0 ∧ OF (Qm (stf 3) (i + 1) (n - 1 - i) Q) (i + 1) (n - 1 - i) mq v j = 0) := Or.inl ⟨rfl, by rw [hoc, if_neg (by omega), if_pos ⟨hDq, hE, by omega⟩, hDq]⟩
                          have hxj : 0 < v → x_76 = nI (((mq - cu Q (i + 1) (n - 1 - i) (v - 1))) - cv (Qm (stf 3) (i + 1) (n - 1 - i) Q) (i + 1) (j + 1 - (i + 1)) v) := fun hv0 => by rw [e_76, hx5 hv0, cv_at (by omega), if_pos hDq, show ((mq - cu Q (i + 1) (n - 1 - i) (v - 1))) - cv (Qm (stf 3) (i + 1) (n - 1 - i) Q) (i + 1) (j - (i + 1)) v = (((mq - cu Q (i + 1) (n - 1 - i) (v - 1))) - (cv (Qm (stf 3) (i + 1) (n - 1 - i) Q) (i + 1) (j - (i + 1)) v + 1)) + 1 by omega]; exact pk_m1 _
                          exact jp_121 1 x_76 (hbj) (hxj) _ _ _ (hP.sub [0, 1, 2, 3] rfl) (hD.sub [0, 1, 2, 3] (by decide) rfl) hS (lv_sub hl [3, 4, 5, 6, 7, 0, 8, 2, 1] rfl)
        exact lp_39 ((n - (i + 1)) + 1) (i + 1) (iI ((mq : Int) - cu Q (i + 1) (n - 1 - i) (pp - 1))) gf (Nat.lt_succ_self _) (by omega) (hx50) (fun q h1 h2 => by omega) _ _ _ (hP.sub [0, 1, 2, 3] rfl) (hD.sub [0, 1, 2, 3] (by decide) rfl) hS (lv_sub hl [1, 2, 3, 4, 5, 6, 0] rfl)
      · have hpv : pp < v := by
          rcases Nat.lt_or_ge pp v with q | q
          · exact q
          · exact absurd (nI_le q (by omega)) c_2
        refine lv_iload hx hb dX12_likeTakes_13 (lv_at hl 5 rfl) ?_
        refine lv_aload_n hx hb dX12_likeTakes_15 rfl (lv_at hl 0 rfl) ?_
        refine lv_iload_n hx hb dX12_likeTakes_16 rfl (lv_at hl 1 rfl) ?_
        refine lv_iconst (v := 1) hx hb dX12_likeTakes_17 (by decide) ?_
        refine lv_iadd hx hb dX12_likeTakes_18 ?_
        refine lv_topi (fun x_77 e_77 => ?_)
        have h9 : x_77 = nI (i + 1) := by rw [e_77, nI_1]
        subst h9
        refine lv_iload_n hx hb dX12_likeTakes_19 rfl (lv_at hl 2 rfl) ?_
        refine lv_iload hx hb dX12_likeTakes_20 (lv_at hl 6 rfl) ?_
        have hpd9 := pdf_N (cx := [oX12 g0 m_refused m_kind m_figure m_weight m_got m_setting men msy mdn m_tape m_letter m_letterAt m_told tp mat stm m_kept him ki crs m_price m_offer m_gets m_yes m_buys m_ends m_carried m_row rm m_keptRow m_likeGets m_likePrice m_ahead, cI aC m_likePrice 61 pf]) hP hD hS hA [0, 3] (by decide) rfl
        have hPc := hpd9.1
        have hDc := hpd9.2.1
        have hFc := hpd9.2.2
        clear hpd9
        refine va_calli (va_runV (As := [Value.int (nI (i + 1)), Value.int (nI n), Value.int (nI pp)]) (rest := [Value.int (iI ((mq : Int) - cu Q (i + 1) (n - 1 - i) (pp - 1)))]) ⟨hx, hb, hml, hown, hts⟩ (c_X12_withPrice l dC dI aC H.size g0 m_refused m_kind m_figure m_weight m_got m_setting m_tape m_letter m_letterAt m_told m_kept m_price m_offer m_gets m_yes m_buys m_ends m_carried m_row m_keptRow m_likeGets m_likePrice m_ahead men msy mdn tp mat stm him ki crs rm Q pf i n pp (hn) (hQ) (by omega)) ⟨(callB_of 3 hts (gG kw_1030) rfl rfl rfl (hts _ (gw kw_13 rfl)) (hts _ (gw kw_1027 rfl)) hd_X12_withPrice ⟨Nat.le_of_ble_eq_true rfl, Nat.le_of_ble_eq_true rfl⟩), (hts _ (gw kw_1029 rfl)), (hts _ (gw ks_63 rfl))⟩ ⟨fb_std, va_recv (q := (RX12, TX12, 33)) hK hPc (ci := 12) (q0 := 0) rfl rfl, pre_std hPc hK hDc hN⟩ rfl rfl hl.1 rfl (lv_room (Nat.le_of_ble_eq_true rfl)) dX12_likeTakes_22 ⟨Nat.le_of_ble_eq_true rfl, Nat.le_of_ble_eq_true rfl⟩) hS (fun q _ h => hFc q h) hFc (fun x_78 u9 t9 H1 locs ht hvm hw_78 hB hz1 hk1 hS => ?_)
        obtain ⟨hP1, hK1, hD1⟩ := hB
        rw [ht] at hP1
        clear hK1
        try dsimp only at hw_78
        have hpd9 : PDx (dC, dI) classes A H1 [cI aC m_setting 5 stf, cI aC m_likeGets 61 gf, oX12 g0 m_refused m_kind m_figure m_weight m_got m_setting men msy mdn m_tape m_letter m_letterAt m_told tp mat stm m_kept him ki crs m_price m_offer m_gets m_yes m_buys m_ends m_carried m_row rm m_keptRow m_likeGets m_likePrice m_ahead, cI aC m_likePrice 61 pf] := jn_N (wr := [cI aC m_setting 5 stf, cI aC m_likeGets 61 gf]) hFc hk1 hP1 hD1 hP hD [0, 3] [1, 2] rfl rfl (by decide) (by decide)
        have hP := hpd9.1
        have hD := hpd9.2
        clear hpd9
        generalize H1 = H at hP hS ⊢
        clear hPc hDc hFc hz1 hk1 hP1 hD1 ht hvm
        refine lv_isub hx hb dX12_likeTakes_25 ?_
        refine lv_topi (fun x_79 e_79 => ?_)
        have h9 : x_79 = iI ((mq : Int) - cu Q (i + 1) (n - 1 - i) pp) := by rw [e_79, hw_78, nI_iI, iI_sub]; congr 1; have := cu_pred (Q := Q) (a := i + 1) (y := n - 1 - i) hp1; omega
        subst h9
        refine lv_istore (lv' := [(5, Value.int (iI ((mq : Int) - cu Q (i + 1) (n - 1 - i) pp))), (0, Value.ref g0), (1, Value.int (nI i)), (2, Value.int (nI n)), (3, Value.int (nI v)), (4, Value.int (nI mq)), (6, Value.int (nI pp))]) hx hb dX12_likeTakes_26 hl (by decide) rfl (fun ls hl => ?_)
        obtain ⟨x_80, e_80⟩ : ∃ y : Int32, y = (nI pp) + 1 := ⟨_, rfl⟩
        refine lv_iinc (v := x_80) (lv' := [(6, Value.int x_80), (5, Value.int (iI ((mq : Int) - cu Q (i + 1) (n - 1 - i) pp))), (0, Value.ref g0), (1, Value.int (nI i)), (2, Value.int (nI n)), (3, Value.int (nI v)), (4, Value.int (nI mq))]) hx hb dX12_likeTakes_28 hl (k := 6) rfl (by rw [e_80]; rfl) (by decide) rfl (fun ls hl => ?_)
        have h9 : x_80 = nI (pp + 1) := by rw [e_80, nI_1]
        subst h9
        refine lv_goto (tgt := 7) hx hb dX12_likeTakes_31 (by decide) ?_
        exact ih_7 (pp + 1) (by omega) (by omega) (by omega) _ _ _ (hP.sub [2, 0, 1, 3] rfl) (hD.sub [2, 0, 1, 3] (by decide) rfl) hS (lv_sub hl [2, 3, 4, 5, 6, 1, 0] rfl)
  exact lp_7 ((101 - 1) + 1) 1 (Nat.lt_succ_self _) (Nat.le_refl 1) (by omega) _ _ _ (hP.sub [0, 1, 2, 3] rfl) (hD.sub [0, 1, 2, 3] (by decide) rfl) hS (lv_sub hl [2, 3, 4, 5, 6, 1, 0] rfl)

set_option maxHeartbeats 1000000 in
set_option maxRecDepth 100000 in
/-- X12_likeSays -/
theorem c_X12_likeSays (l : Launch) (dC : Nat → ClassId) (dI : Nat → Nat → Nat) (aC : Nat → ClassId) (sz : Nat) (g0 : Nat) (m_refused : Nat) (m_kind : Nat) (m_figure : Nat) (m_weight : Nat) (m_got : Nat) (m_setting : Nat) (m_tape : Nat) (m_letter : Nat) (m_letterAt : Nat) (m_told : Nat) (m_kept : Nat) (m_price : Nat) (m_offer : Nat) (m_gets : Nat) (m_yes : Nat) (m_buys : Nat) (m_ends : Nat) (m_carried : Nat) (m_row : Nat) (m_keptRow : Nat) (m_likeGets : Nat) (m_likePrice : Nat) (m_ahead : Nat) (men : Int32) (msy : Int32) (mdn : Int32) (tp : Int32) (mat : Int32) (stm : Int32) (him : Int32) (ki : Int32) (crs : Int32) (rm : Int32) (stf : Nat → Int32) (gf : Nat → Int32) (pf : Nat → Int32) (S : Nat → Int) (i : Nat) (n : Nat) (cq : Nat) (hn : i < n ∧ n ≤ 60) (hc : cq ≤ 99) (hSj : ∀ j, i < j → j < n → gf j = iI (S j) ∧ -1 ≤ S j ∧ S j ≤ 99) : Met l yX12_likeSays (wW yX12_likeSays cX12_likeSays 10 (some .boolean)) ({ frames := 2, cells := 0, slots := 0, locals := 53 } : Room) (va_Pc [Value.ref g0, Value.int (nI i), Value.int (nI n), Value.int (nI cq)] (fun U => U.heap.size = sz ∧ va_P (dC, dI) classes [oX12 g0 m_refused m_kind m_figure m_weight m_got m_setting men msy mdn m_tape m_letter m_letterAt m_told tp mat stm m_kept him ki crs m_price m_offer m_gets m_yes m_buys m_ends m_carried m_row rm m_keptRow m_likeGets m_likePrice m_ahead, cI aC m_setting 5 stf, cI aC m_likeGets 61 gf, cI aC m_likePrice 61 pf] U.heap ∧ va_K (dC, dI) classes (TY aC) U ∧ va_D (fun _ => True) [oX12 g0 m_refused m_kind m_figure m_weight m_got m_setting men msy mdn m_tape m_letter m_letterAt m_told tp mat stm m_kept him ki crs m_price m_offer m_gets m_yes m_buys m_ends m_carried m_row rm m_keptRow m_likeGets m_likePrice m_ahead, cI aC m_setting 5 stf, cI aC m_likeGets 61 gf, cI aC m_likePrice 61 pf] ∧ NX U)) (va_Qi (fun (r : Int32) (u : (Nat → Int32) × (Nat → Int32)) => match u with | (gg, pg) => (r = 1 ∧ (cc1 (stf 1) (fun j => ask (stf 2) (S j)) cq n i) ≤ cq ∧ ∀ j, i ≤ j → j < n → gg j = iI (STGm (stf 1) (stf 2) (stf 3) cq n i S j)) ∨ (r = 0 ∧ ¬ (cc1 (stf 1) (fun j => ask (stf 2) (S j)) cq n i) ≤ cq ∧ gg = gf)) (fun (u : (Nat → Int32) × (Nat → Int32)) (t : State) => match u with | (gg, pg) => va_P (dC, dI) classes [oX12 g0 m_refused m_kind m_figure m_weight m_got m_setting men msy mdn m_tape m_letter m_letterAt m_told tp mat stm m_kept him ki crs m_price m_offer m_gets m_yes m_buys m_ends m_carried m_row rm m_keptRow m_likeGets m_likePrice m_ahead, cI aC m_setting 5 stf, cI aC m_likeGets 61 gg, cI aC m_likePrice 61 pg] t.heap ∧ va_K (dC, dI) classes (TY aC) t ∧ va_D (va_A [oX12 g0 m_refused m_kind m_figure m_weight m_got m_setting men msy mdn m_tape m_letter m_letterAt m_told tp mat stm m_kept him ki crs m_price m_offer m_gets m_yes m_buys m_ends m_carried m_row rm m_keptRow m_likeGets m_likePrice m_ahead, cI aC m_setting 5 stf, cI aC m_likeGets 61 gf, cI aC m_likePrice 61 pf] sz) [oX12 g0 m_refused m_kind m_figure m_weight m_got m_setting men msy mdn m_tape m_letter m_letterAt m_told tp mat stm m_kept him ki crs m_price m_offer m_gets m_yes m_buys m_ends m_carried m_row rm m_keptRow m_likeGets m_likePrice m_ahead, cI aC m_setting 5 stf, cI aC m_likeGets 61 gg, cI aC m_likePrice 61 pg]) (va_A [oX12 g0 m_refused m_kind m_figure m_weight m_got m_setting men msy mdn m_tape m_letter m_letterAt m_told tp mat stm m_kept him ki crs m_price m_offer m_gets m_yes m_buys m_ends m_carried m_row rm m_keptRow m_likeGets m_likePrice m_ahead, cI aC m_setting 5 stf, cI aC m_likeGets 61 gf, cI aC m_likePrice 61 pf] sz)) 0 0 (va_A [oX12 g0 m_refused m_kind m_figure m_weight m_got m_setting men msy mdn m_tape m_letter m_letterAt m_told tp mat stm m_kept him ki crs m_price m_offer m_gets m_yes m_buys m_ends m_carried m_row rm m_keptRow m_likeGets m_likePrice m_ahead, cI aC m_setting 5 stf, cI aC m_likeGets 61 gf, cI aC m_likePrice 61 pf] sz) := by
  refine Met.ofW (cc := cX12_likeSays) (maxL := 10) (ret := (some .boolean)) (by decide) rfl ?_
  intro p e s m args below meth c s₁ B hml hv
  obtain ⟨rfl, hsz, hP, hK, hD0, hN⟩ := hv
  have hx := B.exec
  have hb := B.bytes
  have hr := B.returns
  have hts0 := atoms_spec (ws := (wW yX12_likeSays cX12_likeSays 10 (some .boolean))) B.pre
  have hts : ∀ w9 ∈ lw_G, w9.before ([Value.ref g0, Value.int (nI i), Value.int (nI n), Value.int (nI cq)] : List Value).toArray s = true := fun w9 h9 => hts0 w9 (List.mem_cons_of_mem _ h9)
  have hown : s.vm.findClass RX12 = some m.cls := findClass_of_methodNamed (x := yX12_likeSays) B.named
  have hlocks := B.notSynchronized
  subst hsz
  have hD := hD0.self (sz := s.heap.size)
  generalize hAe : va_A [oX12 g0 m_refused m_kind m_figure m_weight m_got m_setting men msy mdn m_tape m_letter m_letterAt m_told tp mat stm m_kept him ki crs m_price m_offer m_gets m_yes m_buys m_ends m_carried m_row rm m_keptRow m_likeGets m_likePrice m_ahead, cI aC m_setting 5 stf, cI aC m_likeGets 61 gf, cI aC m_likePrice 61 pf] s.heap.size = A at hD ⊢
  have hA : ∀ q : Nat, s.heap.size ≤ q → A q := fun q h => by rw [← hAe]; exact Or.inr h
  obtain ⟨H, hHe⟩ : ∃ H : Heap, H = s.heap := ⟨_, rfl⟩
  have hS : va_S A s.heap H [] := by rw [hHe]; exact va_S.rf
  have hP : va_P (dC, dI) classes [oX12 g0 m_refused m_kind m_figure m_weight m_got m_setting men msy mdn m_tape m_letter m_letterAt m_told tp mat stm m_kept him ki crs m_price m_offer m_gets m_yes m_buys m_ends m_carried m_row rm m_keptRow m_likeGets m_likePrice m_ahead, cI aC m_setting 5 stf, cI aC m_likeGets 61 gf, cI aC m_likePrice 61 pf] H := by rw [hHe]; exact hP
  have hl := lv_entry ([Value.ref g0, Value.int (nI i), Value.int (nI n), Value.int (nI cq)]) (n := 10) (Nat.le_of_ble_eq_true rfl)
  rw [lg_entry_eq]
  generalize (lg_sl ([Value.ref g0, Value.int (nI i), Value.int (nI n), Value.int (nI cq)]) ++ List.replicate (10 - (lg_sl ([Value.ref g0, Value.int (nI i), Value.int (nI n), Value.int (nI cq)])).length) Slot.unset).toArray = ls at hl ⊢
  have hl : lv_has ls 10 [(0, Value.ref g0), (1, Value.int (nI i)), (2, Value.int (nI n)), (3, Value.int (nI cq))] := hl
  rw [← hHe]
  refine lv_aload_n hx hb dX12_likeSays_0 rfl (lv_at hl 0 rfl) ?_
  refine lv_iload_n hx hb dX12_likeSays_1 rfl (lv_at hl 2 rfl) ?_
  refine lv_iload_n hx hb dX12_likeSays_2 rfl (lv_at hl 1 rfl) ?_
  refine lv_isub hx hb dX12_likeSays_3 ?_
  refine lv_topi (fun x_1 e_1 => ?_)
  have h9 : x_1 = nI (n - i) := by rw [e_1]; exact pk_sub (by omega)
  subst h9
  have hpd9 := pdf_N (cx := [oX12 g0 m_refused m_kind m_figure m_weight m_got m_setting men msy mdn m_tape m_letter m_letterAt m_told tp mat stm m_kept him ki crs m_price m_offer m_gets m_yes m_buys m_ends m_carried m_row rm m_keptRow m_likeGets m_likePrice m_ahead, cI aC m_setting 5 stf]) hP hD hS hA [0, 1] (by decide) rfl
  have hPc := hpd9.1
  have hDc := hpd9.2.1
  have hFc := hpd9.2.2
  clear hpd9
  refine va_calli (va_runV (As := [Value.int (nI (n - i))]) (rest := []) ⟨hx, hb, hml, hown, hts⟩ (c_X12_enough l dC dI aC H.size g0 m_refused m_kind m_figure m_weight m_got m_setting m_tape m_letter m_letterAt m_told m_kept m_price m_offer m_gets m_yes m_buys m_ends m_carried m_row m_keptRow m_likeGets m_likePrice m_ahead men msy mdn tp mat stm him ki crs rm stf (n - i) (by omega)) ⟨(callB_of 1 hts (gG kw_1026) rfl rfl rfl (hts _ (gw kw_13 rfl)) (hts _ (gw kw_1023 rfl)) hd_X12_enough ⟨Nat.le_of_ble_eq_true rfl, Nat.le_of_ble_eq_true rfl⟩), (hts _ (gw kw_1025 rfl)), (hts _ (gw ks_62 rfl))⟩ ⟨fb_std, va_recv (q := (RX12, TX12, 33)) hK hPc (ci := 12) (q0 := 0) rfl rfl, pre_std hPc hK hDc hN⟩ rfl rfl hl.1 rfl (lv_room (Nat.le_of_ble_eq_true rfl)) dX12_likeSays_4 ⟨Nat.le_of_ble_eq_true rfl, Nat.le_of_ble_eq_true rfl⟩) hS (fun q _ h => hFc q h) hFc (fun x_2 u9 t9 H1 locs ht hvm hw_2 hB hz1 hk1 hS => ?_)
  obtain ⟨hP1, hK1, hD1⟩ := hB
  rw [ht] at hP1
  clear hK1
  try dsimp only at hw_2
  have hpd9 : PDx (dC, dI) classes A H1 [cI aC m_likeGets 61 gf, cI aC m_likePrice 61 pf, oX12 g0 m_refused m_kind m_figure m_weight m_got m_setting men msy mdn m_tape m_letter m_letterAt m_told tp mat stm m_kept him ki crs m_price m_offer m_gets m_yes m_buys m_ends m_carried m_row rm m_keptRow m_likeGets m_likePrice m_ahead, cI aC m_setting 5 stf] := jn_N (wr := [cI aC m_likeGets 61 gf, cI aC m_likePrice 61 pf]) hFc hk1 hP1 hD1 hP hD [0, 1] [2, 3] rfl rfl (by decide) (by decide)
  have hP := hpd9.1
  have hD := hpd9.2
  clear hpd9
  generalize H1 = H at hP hS ⊢
  clear hPc hDc hFc hz1 hk1 hP1 hD1 ht hvm
  have h9 : x_2 = nI (nd (stf 1) (n - i)) := hw_2
  subst h9
  refine lv_iconst (v := 1) hx hb dX12_likeSays_7 (by decide) ?_
  refine lv_isub hx hb dX12_likeSays_8 ?_
  refine lv_topi (fun x_3 e_3 => ?_)
  have h9 : x_3 = iI (((nd (stf 1) (n - i)) : Int) - 1) := by rw [e_3, nI_iI, ← iI_1, iI_sub]
  subst h9
  refine lv_istore (lv' := [(4, Value.int (iI (((nd (stf 1) (n - i)) : Int) - 1))), (0, Value.ref g0), (1, Value.int (nI i)), (2, Value.int (nI n)), (3, Value.int (nI cq))]) hx hb dX12_likeSays_9 hl (by decide) rfl (fun ls hl => ?_)
  refine lv_iload_n hx hb dX12_likeSays_11 rfl (lv_at hl 2 rfl) ?_
  refine lv_iconst (v := 1) hx hb dX12_likeSays_12 (by decide) ?_
  refine lv_iadd hx hb dX12_likeSays_13 ?_
  refine lv_topi (fun x_4 e_4 => ?_)
  refine lv_istore (lv' := [(5, Value.int x_4), (4, Value.int (iI (((nd (stf 1) (n - i)) : Int) - 1))), (0, Value.ref g0), (1, Value.int (nI i)), (2, Value.int (nI n)), (3, Value.int (nI cq))]) hx hb dX12_likeSays_14 hl (by decide) rfl (fun ls hl => ?_)
  have h9 : x_4 = nI (i + 1) := by rw [e_4, nI_1]
  subst h9
  have lp_16 : ∀ (fu : Nat) (j : Nat) (pc : Nat → Int32) (hfu : n - j < fu) (hj : i < j ∧ j ≤ n) (hpc : ∀ q, i < q → q < j → pc q = nI (ask (stf 2) (S q))) (H : Heap) (locs : List Loc) (ls : Array Slot), va_P (dC, dI) classes [cI aC m_likeGets 61 gf, cI aC m_likePrice 61 pc, oX12 g0 m_refused m_kind m_figure m_weight m_got m_setting men msy mdn m_tape m_letter m_letterAt m_told tp mat stm m_kept him ki crs m_price m_offer m_gets m_yes m_buys m_ends m_carried m_row rm m_keptRow m_likeGets m_likePrice m_ahead, cI aC m_setting 5 stf] H → va_D A [cI aC m_likeGets 61 gf, cI aC m_likePrice 61 pc, oX12 g0 m_refused m_kind m_figure m_weight m_got m_setting men msy mdn m_tape m_letter m_letterAt m_told tp mat stm m_kept him ki crs m_price m_offer m_gets m_yes m_buys m_ends m_carried m_row rm m_keptRow m_likeGets m_likePrice m_ahead, cI aC m_setting 5 stf] → va_S A s.heap H locs → lv_has ls 10 [(0, Value.ref g0), (1, Value.int (nI i)), (2, Value.int (nI n)), (3, Value.int (nI cq)), (4, Value.int (iI (((nd (stf 1) (n - i)) : Int) - 1))), (5, Value.int (nI j))] → W p l e (headSpec (wW yX12_likeSays cX12_likeSays 10 (some .boolean)) ({ frames := 2, cells := 0, slots := 0, locals := 53 } : Room)).room s m ([Value.ref g0, Value.int (nI i), Value.int (nI n), Value.int (nI cq)] : List Value).toArray below meth c H locs 0 0 (MQ below (va_Qi (fun (r : Int32) (u : (Nat → Int32) × (Nat → Int32)) => match u with | (gg, pg) => (r = 1 ∧ (cc1 (stf 1) (fun j => ask (stf 2) (S j)) cq n i) ≤ cq ∧ ∀ j, i ≤ j → j < n → gg j = iI (STGm (stf 1) (stf 2) (stf 3) cq n i S j)) ∨ (r = 0 ∧ ¬ (cc1 (stf 1) (fun j => ask (stf 2) (S j)) cq n i) ≤ cq ∧ gg = gf)) (fun (u : (Nat → Int32) × (Nat → Int32)) (t : State) => match u with | (gg, pg) => va_P (dC, dI) classes [oX12 g0 m_refused m_kind m_figure m_weight m_got m_setting men msy mdn m_tape m_letter m_letterAt m_told tp mat stm m_kept him ki crs m_price m_offer m_gets m_yes m_buys m_ends m_carried m_row rm m_keptRow m_likeGets m_likePrice m_ahead, cI aC m_setting 5 stf, cI aC m_likeGets 61 gg, cI aC m_likePrice 61 pg] t.heap ∧ va_K (dC, dI) classes (TY aC) t ∧ va_D A [oX12 g0 m_refused m_kind m_figure m_weight m_got m_setting men msy mdn m_tape m_letter m_letterAt m_told tp mat stm m_kept him ki crs m_price m_offer m_gets m_yes m_buys m_ends m_carried m_row rm m_keptRow m_likeGets m_likePrice m_ahead, cI aC m_setting 5 stf, cI aC m_likeGets 61 gg, cI aC m_likePrice 61 pg]) A) ([Value.ref g0, Value.int (nI i), Value.int (nI n), Value.int (nI cq)] : List Value).toArray s 0 0 A) (F0 m 16 ls []) := by
    intro fu
    induction fu with
    | zero => intro j pc hfu; exact absurd hfu (Nat.not_lt_zero _)
    | succ fu ih_16 =>
      intro j pc hfu hj hpc H locs ls hP hD hS hl
      refine lv_iload hx hb dX12_likeSays_16 (lv_at hl 5 rfl) ?_
      refine lv_iload_n hx hb dX12_likeSays_18 rfl (lv_at hl 2 rfl) ?_
      refine lv_icmp_ge (tgt := 67) hx hb dX12_likeSays_19 (by decide) (fun c_5 => ?_) (fun c_5 => ?_)
      · have hjn : j = n := by
          rcases Nat.lt_or_ge j n with q | q
          · exact absurd c_5 (nI_ge q (by omega))
          · omega
        have hQQ : ∀ q, i < q → q < n → pc q = nI ((fun j => ask (stf 2) (S j)) q) ∧ (fun j => ask (stf 2) (S j)) q ≤ 100 := fun q q1 q2 => ⟨hpc q q1 (by omega), ask_le (hSj q q1 q2).2.2⟩
        have hcv0 := cv_le (Q := (fun j => ask (stf 2) (S j))) (a := i + 1) (y := n - 1 - i) (v := 0)
        have hndl := nd_le (law := stf 1) (left := n - i) (by omega)
        have hmm := mm_le (law := stf 1) (Q := (fun j => ask (stf 2) (S j))) (n := n) (i := i) (by omega) (fun q q1 q2 => (hQQ q q1 q2).2)
        have hme : (mm (stf 1) (fun j => ask (stf 2) (S j)) n i) = (nd (stf 1) (n - i)) - (1 + (cv (fun j => ask (stf 2) (S j)) (i + 1) (n - 1 - i) 0)) := rfl
        refine lv_iload hx hb dX12_likeSays_67 (lv_at hl 4 rfl) ?_
        refine lv_aload_n hx hb dX12_likeSays_69 rfl (lv_at hl 0 rfl) ?_
        refine lv_iload_n hx hb dX12_likeSays_70 rfl (lv_at hl 1 rfl) ?_
        refine lv_iconst (v := 1) hx hb dX12_likeSays_71 (by decide) ?_
        refine lv_iadd hx hb dX12_likeSays_72 ?_
        refine lv_topi (fun x_6 e_6 => ?_)
        have h9 : x_6 = nI (i + 1) := by rw [e_6, nI_1]
        subst h9
        refine lv_iload_n hx hb dX12_likeSays_73 rfl (lv_at hl 2 rfl) ?_
        refine lv_iconst (v := 0) hx hb dX12_likeSays_74 (by decide) ?_
        have hpd9 := pdf_N (cx := [oX12 g0 m_refused m_kind m_figure m_weight m_got m_setting men msy mdn m_tape m_letter m_letterAt m_told tp mat stm m_kept him ki crs m_price m_offer m_gets m_yes m_buys m_ends m_carried m_row rm m_keptRow m_likeGets m_likePrice m_ahead, cI aC m_likePrice 61 pc]) hP hD hS hA [2, 1] (by decide) rfl
        have hPc := hpd9.1
        have hDc := hpd9.2.1
        have hFc := hpd9.2.2
        clear hpd9
        refine va_calli (va_runV (As := [Value.int (nI (i + 1)), Value.int (nI n), Value.int 0]) (rest := [Value.int (iI (((nd (stf 1) (n - i)) : Int) - 1))]) ⟨hx, hb, hml, hown, hts⟩ (c_X12_withPrice l dC dI aC H.size g0 m_refused m_kind m_figure m_weight m_got m_setting m_tape m_letter m_letterAt m_told m_kept m_price m_offer m_gets m_yes m_buys m_ends m_carried m_row m_keptRow m_likeGets m_likePrice m_ahead men msy mdn tp mat stm him ki crs rm (fun j => ask (stf 2) (S j)) pc i n 0 (hn) (hQQ) (by omega)) ⟨(callB_of 3 hts (gG kw_1030) rfl rfl rfl (hts _ (gw kw_13 rfl)) (hts _ (gw kw_1027 rfl)) hd_X12_withPrice ⟨Nat.le_of_ble_eq_true rfl, Nat.le_of_ble_eq_true rfl⟩), (hts _ (gw kw_1029 rfl)), (hts _ (gw ks_63 rfl))⟩ ⟨fb_std, va_recv (q := (RX12, TX12, 33)) hK hPc (ci := 12) (q0 := 0) rfl rfl, pre_std hPc hK hDc hN⟩ rfl rfl hl.1 rfl (lv_room (Nat.le_of_ble_eq_true rfl)) dX12_likeSays_75 ⟨Nat.le_of_ble_eq_true rfl, Nat.le_of_ble_eq_true rfl⟩) hS (fun q _ h => hFc q h) hFc (fun x_7 u9 t9 H1 locs ht hvm hw_7 hB hz1 hk1 hS => ?_)
        obtain ⟨hP1, hK1, hD1⟩ := hB
        rw [ht] at hP1
        clear hK1
        try dsimp only at hw_7
        have hpd9 : PDx (dC, dI) classes A H1 [cI aC m_likeGets 61 gf, cI aC m_setting 5 stf, oX12 g0 m_refused m_kind m_figure m_weight m_got m_setting men msy mdn m_tape m_letter m_letterAt m_told tp mat stm m_kept him ki crs m_price m_offer m_gets m_yes m_buys m_ends m_carried m_row rm m_keptRow m_likeGets m_likePrice m_ahead, cI aC m_likePrice 61 pc] := jn_N (wr := [cI aC m_likeGets 61 gf, cI aC m_setting 5 stf]) hFc hk1 hP1 hD1 hP hD [2, 1] [0, 3] rfl rfl (by decide) (by decide)
        have hP := hpd9.1
        have hD := hpd9.2
        clear hpd9
        generalize H1 = H at hP hS ⊢
        clear hPc hDc hFc hz1 hk1 hP1 hD1 ht hvm
        have h9 : x_7 = nI (cv (fun j => ask (stf 2) (S j)) (i + 1) (n - 1 - i) 0) := hw_7
        subst h9
        refine lv_isub hx hb dX12_likeSays_78 ?_
        refine lv_topi (fun x_8 e_8 => ?_)
        have h9 : x_8 = iI (((nd (stf 1) (n - i)) : Int) - 1 - (cv (fun j => ask (stf 2) (S j)) (i + 1) (n - 1 - i) 0)) := by rw [e_8, nI_iI, iI_sub]
        subst h9
        refine lv_istore (lv' := [(4, Value.int (iI (((nd (stf 1) (n - i)) : Int) - 1 - (cv (fun j => ask (stf 2) (S j)) (i + 1) (n - 1 - i) 0)))), (0, Value.ref g0), (1, Value.int (nI i)), (2, Value.int (nI n)), (3, Value.int (nI cq)), (5, Value.int (nI j))]) hx hb dX12_likeSays_79 hl (by decide) rfl (fun ls hl => ?_)
        refine lv_iconst (v := 0) hx hb dX12_likeSays_81 (by decide) ?_
        refine lv_istore (lv' := [(5, Value.int 0), (4, Value.int (iI (((nd (stf 1) (n - i)) : Int) - 1 - (cv (fun j => ask (stf 2) (S j)) (i + 1) (n - 1 - i) 0)))), (0, Value.ref g0), (1, Value.int (nI i)), (2, Value.int (nI n)), (3, Value.int (nI cq))]) hx hb dX12_likeSays_82 hl (by decide) rfl (fun ls hl => ?_)
        refine lv_iconst (v := 0) hx hb dX12_likeSays_84 (by decide) ?_
        refine lv_istore (lv' := [(6, Value.int 0), (5, Value.int 0), (4, Value.int (iI (((nd (stf 1) (n - i)) : Int) - 1 - (cv (fun j => ask (stf 2) (S j)) (i + 1) (n - 1 - i) 0)))), (0, Value.ref g0), (1, Value.int (nI i)), (2, Value.int (nI n)), (3, Value.int (nI cq))]) hx hb dX12_likeSays_85 hl (by decide) rfl (fun ls hl => ?_)
        refine lv_iload hx hb dX12_likeSays_87 (lv_at hl 2 rfl) ?_
        have hpd9 := pdf_N (cx := []) hP hD hS hA [] (by decide) rfl
        have hPc := hpd9.1
        have hDc := hpd9.2.1
        have hFc := hpd9.2.2
        clear hpd9
        refine va_calli (va_runS (As := [Value.int (iI (((nd (stf 1) (n - i)) : Int) - 1 - (cv (fun j => ask (stf 2) (S j)) (i + 1) (n - 1 - i) 0)))]) (rest := []) ⟨hx, hb, hml, hown, hts⟩ (c_X12_above_z l dC dI aC H.size (((nd (stf 1) (n - i)) : Int) - 1 - (cv (fun j => ask (stf 2) (S j)) (i + 1) (n - 1 - i) 0)) (by unfold sm; omega)) ⟨(callB_of 1 hts (gG kw_907) rfl rfl rfl (hts _ (gw kw_13 rfl)) (hts _ (gw kw_905 rfl)) hd_X12_above ⟨Nat.le_of_ble_eq_true rfl, Nat.le_of_ble_eq_true rfl⟩), (hts _ (gw kw_906 rfl))⟩ ⟨fb_std, pre_std hPc hK hDc hN⟩ rfl rfl hl.1 rfl (lv_room (Nat.le_of_ble_eq_true rfl)) dX12_likeSays_89 ⟨Nat.le_of_ble_eq_true rfl, Nat.le_of_ble_eq_true rfl⟩) hS (fun q _ h => hFc q h) hFc (fun x_9 u9 t9 H1 locs ht hvm hw_9 hB hz1 hk1 hS => ?_)
        obtain ⟨hP1, hK1, hD1⟩ := hB
        rw [ht] at hP1
        clear hK1
        try dsimp only at hw_9
        have hpd9 : PDx (dC, dI) classes A H1 [cI aC m_likeGets 61 gf, cI aC m_setting 5 stf, oX12 g0 m_refused m_kind m_figure m_weight m_got m_setting men msy mdn m_tape m_letter m_letterAt m_told tp mat stm m_kept him ki crs m_price m_offer m_gets m_yes m_buys m_ends m_carried m_row rm m_keptRow m_likeGets m_likePrice m_ahead, cI aC m_likePrice 61 pc] := jn_N (wr := [cI aC m_likeGets 61 gf, cI aC m_setting 5 stf, oX12 g0 m_refused m_kind m_figure m_weight m_got m_setting men msy mdn m_tape m_letter m_letterAt m_told tp mat stm m_kept him ki crs m_price m_offer m_gets m_yes m_buys m_ends m_carried m_row rm m_keptRow m_likeGets m_likePrice m_ahead, cI aC m_likePrice 61 pc]) hFc hk1 hP1 hD1 hP hD [] [0, 1, 2, 3] rfl rfl (by decide) (by decide)
        have hP := hpd9.1
        have hD := hpd9.2
        clear hpd9
        generalize H1 = H at hP hS ⊢
        clear hPc hDc hFc hz1 hk1 hP1 hD1 ht hvm
        have h9 : x_9 = nI (mm (stf 1) (fun j => ask (stf 2) (S j)) n i) := by rw [hw_9]; congr 1; omega
        subst h9
        refine lv_istore (lv' := [(7, Value.int (nI (mm (stf 1) (fun j => ask (stf 2) (S j)) n i))), (6, Value.int 0), (5, Value.int 0), (4, Value.int (iI (((nd (stf 1) (n - i)) : Int) - 1 - (cv (fun j => ask (stf 2) (S j)) (i + 1) (n - 1 - i) 0)))), (0, Value.ref g0), (1, Value.int (nI i)), (2, Value.int (nI n)), (3, Value.int (nI cq))]) hx hb dX12_likeSays_92 hl (by decide) rfl (fun ls hl => ?_)
        have lp_94 : ∀ (fu : Nat) (v : Nat) (hfu : 101 - v < fu) (hv : v ≤ 100) (hst : ∀ u, u < v → stp (fun j => ask (stf 2) (S j)) (i + 1) (n - 1 - i) (mm (stf 1) (fun j => ask (stf 2) (S j)) n i) cq u = false) (hco : co (fun j => ask (stf 2) (S j)) (i + 1) (n - 1 - i) (mm (stf 1) (fun j => ask (stf 2) (S j)) n i) v ≤ 70000) (H : Heap) (locs : List Loc) (ls : Array Slot), va_P (dC, dI) classes [cI aC m_likeGets 61 gf, cI aC m_setting 5 stf, oX12 g0 m_refused m_kind m_figure m_weight m_got m_setting men msy mdn m_tape m_letter m_letterAt m_told tp mat stm m_kept him ki crs m_price m_offer m_gets m_yes m_buys m_ends m_carried m_row rm m_keptRow m_likeGets m_likePrice m_ahead, cI aC m_likePrice 61 pc] H → va_D A [cI aC m_likeGets 61 gf, cI aC m_setting 5 stf, oX12 g0 m_refused m_kind m_figure m_weight m_got m_setting men msy mdn m_tape m_letter m_letterAt m_told tp mat stm m_kept him ki crs m_price m_offer m_gets m_yes m_buys m_ends m_carried m_row rm m_keptRow m_likeGets m_likePrice m_ahead, cI aC m_likePrice 61 pc] → va_S A s.heap H locs → lv_has ls 10 [(0, Value.ref g0), (1, Value.int (nI i)), (2, Value.int (nI n)), (3, Value.int (nI cq)), (4, Value.int (iI (((nd (stf 1) (n - i)) : Int) - 1 - (cv (fun j => ask (stf 2) (S j)) (i + 1) (n - 1 - i) 0)))), (5, Value.int (nI (co (fun j => ask (stf 2) (S j)) (i + 1) (n - 1 - i) (mm (stf 1) (fun j => ask (stf 2) (S j)) n i) v))), (6, Value.int (nI v)), (7, Value.int (nI ((mm (stf 1) (fun j => ask (stf 2) (S j)) n i) - cu (fun j => ask (stf 2) (S j)) (i + 1) (n - 1 - i) v)))] → W p l e (headSpec (wW yX12_likeSays cX12_likeSays 10 (some .boolean)) ({ frames := 2, cells := 0, slots := 0, locals := 53 } : Room)).room s m ([Value.ref g0, Value.int (nI i), Value.int (nI n), Value.int (nI cq)] : List Value).toArray below meth c H locs 0 0 (MQ below (va_Qi (fun (r : Int32) (u : (Nat → Int32) × (Nat → Int32)) => match u with | (gg, pg) => (r = 1 ∧ (cc1 (stf 1) (fun j => ask (stf 2) (S j)) cq n i) ≤ cq ∧ ∀ j, i ≤ j → j < n → gg j = iI (STGm (stf 1) (stf 2) (stf 3) cq n i S j)) ∨ (r = 0 ∧ ¬ (cc1 (stf 1) (fun j => ask (stf 2) (S j)) cq n i) ≤ cq ∧ gg = gf)) (fun (u : (Nat → Int32) × (Nat → Int32)) (t : State) => match u with | (gg, pg) => va_P (dC, dI) classes [oX12 g0 m_refused m_kind m_figure m_weight m_got m_setting men msy mdn m_tape m_letter m_letterAt m_told tp mat stm m_kept him ki crs m_price m_offer m_gets m_yes m_buys m_ends m_carried m_row rm m_keptRow m_likeGets m_likePrice m_ahead, cI aC m_setting 5 stf, cI aC m_likeGets 61 gg, cI aC m_likePrice 61 pg] t.heap ∧ va_K (dC, dI) classes (TY aC) t ∧ va_D A [oX12 g0 m_refused m_kind m_figure m_weight m_got m_setting men msy mdn m_tape m_letter m_letterAt m_told tp mat stm m_kept him ki crs m_price m_offer m_gets m_yes m_buys m_ends m_carried m_row rm m_keptRow m_likeGets m_likePrice m_ahead, cI aC m_setting 5 stf, cI aC m_likeGets 61 gg, cI aC m_likePrice 61 pg]) A) ([Value.ref g0, Value.int (nI i), Value.int (nI n), Value.int (nI cq)] : List Value).toArray s 0 0 A) (F0 m 94 ls []) := by
          intro fu
          induction fu with
          | zero => intro v hfu; exact absurd hfu (Nat.not_lt_zero _)
          | succ fu ih_94 =>
            intro v hfu hv hst hco H locs ls hP hD hS hl
            refine lv_iload hx hb dX12_likeSays_94 (lv_at hl 7 rfl) ?_
            refine lv_if_le (tgt := 165) hx hb dX12_likeSays_96 (by decide) (fun c_10 => ?_) (fun c_10 => ?_)
            · have hstop : stp (fun j => ask (stf 2) (S j)) (i + 1) (n - 1 - i) (mm (stf 1) (fun j => ask (stf 2) (S j)) n i) cq v = true := stp_t.mpr (Or.inl (by
                have := (nI_leI (a := (mm (stf 1) (fun j => ask (stf 2) (S j)) n i) - cu (fun j => ask (stf 2) (S j)) (i + 1) (n - 1 - i) v) (b := 0) (by omega) (by omega)).mp c_10
                omega))
              have hvv := vv_eq (law := stf 1) (Q := (fun j => ask (stf 2) (S j))) hstop hst hv
              have hcce : (cc1 (stf 1) (fun j => ask (stf 2) (S j)) cq n i) = co (fun j => ask (stf 2) (S j)) (i + 1) (n - 1 - i) (mm (stf 1) (fun j => ask (stf 2) (S j)) n i) v := by show co _ _ _ _ (vv _ _ _ _ _) = _; rw [hvv]
              refine lv_iload hx hb dX12_likeSays_165 (lv_at hl 5 rfl) ?_
              refine lv_iload_n hx hb dX12_likeSays_167 rfl (lv_at hl 3 rfl) ?_
              refine lv_icmp_le (tgt := 173) hx hb dX12_likeSays_168 (by decide) (fun c_11 => ?_) (fun c_11 => ?_)
              · have hok : co (fun j => ask (stf 2) (S j)) (i + 1) (n - 1 - i) (mm (stf 1) (fun j => ask (stf 2) (S j)) n i) v ≤ cq := (nI_leI (by omega) (by omega)).mp c_11
                refine lv_aload_n hx hb dX12_likeSays_173 rfl (lv_at hl 0 rfl) ?_
                refine lv_iload_n hx hb dX12_likeSays_174 rfl (lv_at hl 1 rfl) ?_
                refine lv_iload_n hx hb dX12_likeSays_175 rfl (lv_at hl 2 rfl) ?_
                refine lv_iload hx hb dX12_likeSays_176 (lv_at hl 6 rfl) ?_
                refine lv_iload hx hb dX12_likeSays_178 (lv_at hl 4 rfl) ?_
                have hpd9 := pdf_N (cx := []) hP hD hS hA [] (by decide) rfl
                have hPc := hpd9.1
                have hDc := hpd9.2.1
                have hFc := hpd9.2.2
                clear hpd9
                refine va_calli (va_runS (As := [Value.int (iI (((nd (stf 1) (n - i)) : Int) - 1 - (cv (fun j => ask (stf 2) (S j)) (i + 1) (n - 1 - i) 0)))]) (rest := [Value.int (nI v), Value.int (nI n), Value.int (nI i), Value.ref g0]) ⟨hx, hb, hml, hown, hts⟩ (c_X12_above_z l dC dI aC H.size (((nd (stf 1) (n - i)) : Int) - 1 - (cv (fun j => ask (stf 2) (S j)) (i + 1) (n - 1 - i) 0)) (by unfold sm; omega)) ⟨(callB_of 1 hts (gG kw_907) rfl rfl rfl (hts _ (gw kw_13 rfl)) (hts _ (gw kw_905 rfl)) hd_X12_above ⟨Nat.le_of_ble_eq_true rfl, Nat.le_of_ble_eq_true rfl⟩), (hts _ (gw kw_906 rfl))⟩ ⟨fb_std, pre_std hPc hK hDc hN⟩ rfl rfl hl.1 rfl (lv_room (Nat.le_of_ble_eq_true rfl)) dX12_likeSays_180 ⟨Nat.le_of_ble_eq_true rfl, Nat.le_of_ble_eq_true rfl⟩) hS (fun q _ h => hFc q h) hFc (fun x_12 u9 t9 H1 locs ht hvm hw_12 hB hz1 hk1 hS => ?_)
                obtain ⟨hP1, hK1, hD1⟩ := hB
                rw [ht] at hP1
                clear hK1
                try dsimp only at hw_12
                have hpd9 : PDx (dC, dI) classes A H1 [cI aC m_likeGets 61 gf, cI aC m_setting 5 stf, oX12 g0 m_refused m_kind m_figure m_weight m_got m_setting men msy mdn m_tape m_letter m_letterAt m_told tp mat stm m_kept him ki crs m_price m_offer m_gets m_yes m_buys m_ends m_carried m_row rm m_keptRow m_likeGets m_likePrice m_ahead, cI aC m_likePrice 61 pc] := jn_N (wr := [cI aC m_likeGets 61 gf, cI aC m_setting 5 stf, oX12 g0 m_refused m_kind m_figure m_weight m_got m_setting men msy mdn m_tape m_letter m_letterAt m_told tp mat stm m_kept him ki crs m_price m_offer m_gets m_yes m_buys m_ends m_carried m_row rm m_keptRow m_likeGets m_likePrice m_ahead, cI aC m_likePrice 61 pc]) hFc hk1 hP1 hD1 hP hD [] [0, 1, 2, 3] rfl rfl (by decide) (by decide)
                have hP := hpd9.1
                have hD := hpd9.2
                clear hpd9
                generalize H1 = H at hP hS ⊢
                clear hPc hDc hFc hz1 hk1 hP1 hD1 ht hvm
                have h9 : x_12 = nI (mm (stf 1) (fun j => ask (stf 2) (S j)) n i) := by rw [hw_12]; congr 1; omega
                subst h9
                have hpd9 := pdf_N (cx := [oX12 g0 m_refused m_kind m_figure m_weight m_got m_setting men msy mdn m_tape m_letter m_letterAt m_told tp mat stm m_kept him ki crs m_price m_offer m_gets m_yes m_buys m_ends m_carried m_row rm m_keptRow m_likeGets m_likePrice m_ahead, cI aC m_setting 5 stf, cI aC m_likeGets 61 gf, cI aC m_likePrice 61 pc]) hP hD hS hA [2, 1, 0, 3] (by decide) rfl
                have hPc := hpd9.1
                have hDc := hpd9.2.1
                have hFc := hpd9.2.2
                clear hpd9
                refine va_callv (va_runV (As := [Value.int (nI i), Value.int (nI n), Value.int (nI v), Value.int (nI (mm (stf 1) (fun j => ask (stf 2) (S j)) n i))]) (rest := []) ⟨hx, hb, hml, hown, hts⟩ (c_X12_likeTakes l dC dI aC H.size g0 m_refused m_kind m_figure m_weight m_got m_setting m_tape m_letter m_letterAt m_told m_kept m_price m_offer m_gets m_yes m_buys m_ends m_carried m_row m_keptRow m_likeGets m_likePrice m_ahead men msy mdn tp mat stm him ki crs rm stf gf pc (fun j => ask (stf 2) (S j)) i n v (mm (stf 1) (fun j => ask (stf 2) (S j)) n i) (hn) (hQQ) (hv) (by omega) (fun u hu => (stp_f.mp (hst u hu)).1)) ⟨(callB_of 4 hts (gG kw_1034) rfl rfl rfl (hts _ (gw kw_13 rfl)) (hts _ (gw kw_1031 rfl)) hd_X12_likeTakes ⟨Nat.le_of_ble_eq_true rfl, Nat.le_of_ble_eq_true rfl⟩), (hts _ (gw kw_1033 rfl)), (hts _ (gw ks_64 rfl))⟩ ⟨fb_std, va_recv (q := (RX12, TX12, 33)) hK hPc (ci := 12) (q0 := 0) rfl rfl, pre_std hPc hK hDc hN⟩ rfl rfl hl.1 rfl (lv_room (Nat.le_of_ble_eq_true rfl)) dX12_likeSays_183 ⟨Nat.le_of_ble_eq_true rfl, Nat.le_of_ble_eq_true rfl⟩) hS (fun q _ h => hFc q h) hFc (fun u9 t9 H1 locs ht hvm hw_13 hB hz1 hk1 hS => ?_)
                obtain ⟨u_14, rfl⟩ : ∃ z, z = u9 := ⟨_, rfl⟩
                obtain ⟨hP1, hK1, hD1⟩ := hB
                rw [ht] at hP1
                clear hK1
                try dsimp only at hw_13
                have hpd9 : PDx (dC, dI) classes A H1 [oX12 g0 m_refused m_kind m_figure m_weight m_got m_setting men msy mdn m_tape m_letter m_letterAt m_told tp mat stm m_kept him ki crs m_price m_offer m_gets m_yes m_buys m_ends m_carried m_row rm m_keptRow m_likeGets m_likePrice m_ahead, cI aC m_setting 5 stf, cI aC m_likeGets 61 u_14, cI aC m_likePrice 61 pc] := jn_N (wr := []) hFc hk1 hP1 hD1 hP hD [2, 1, 0, 3] [] rfl rfl (by decide) (by decide)
                have hP := hpd9.1
                have hD := hpd9.2
                clear hpd9
                generalize H1 = H at hP hS ⊢
                clear hPc hDc hFc hz1 hk1 hP1 hD1 ht hvm
                have htk := hw_13
                refine lv_aload_n hx hb dX12_likeSays_186 rfl (lv_at hl 0 rfl) ?_
                refine va_get (D := (dC, dI)) (ci := 12) (v := Value.ref m_likeGets) (C := RX12) (T := TX12) (N := 33) hx hb hts inX12 hown hK hP 0 rfl rfl 30 (by decide) (hts _ (gw kw_747 rfl)) (fun _ h9 => h9) rfl dX12_likeSays_187 ?_
                refine lv_iload_n hx hb dX12_likeSays_190 rfl (lv_at hl 1 rfl) ?_
                refine lv_iload_n hx hb dX12_likeSays_191 rfl (lv_at hl 3 rfl) ?_
                refine lv_iload hx hb dX12_likeSays_192 (lv_at hl 5 rfl) ?_
                refine lv_isub hx hb dX12_likeSays_194 ?_
                refine lv_topi (fun x_15 e_15 => ?_)
                have h_16 : vp_in (nI i) 61 := vp_in_nI (by omega) (by omega)
                refine va_iast hx hb hK hP hD hS 2 0 rfl rfl h_16 dX12_likeSays_195 (fun H locs hP hD hS => ?_)
                obtain ⟨f_17, e_f_17⟩ : ∃ y : Nat → Int32, y = upd u_14 (nI i : Int32).toNatClampNeg x_15 := ⟨_, rfl⟩
                have hpd9 : PDx (dC, dI) classes A H [oX12 g0 m_refused m_kind m_figure m_weight m_got m_setting men msy mdn m_tape m_letter m_letterAt m_told tp mat stm m_kept him ki crs m_price m_offer m_gets m_yes m_buys m_ends m_carried m_row rm m_keptRow m_likeGets m_likePrice m_ahead, cI aC m_setting 5 stf, cI aC m_likeGets 61 f_17, cI aC m_likePrice 61 pc] := by rw [e_f_17]; exact ⟨hP, hD⟩
                have hP := hpd9.1
                have hD := hpd9.2
                clear hpd9
                have hres : ∀ q, i ≤ q → q < n → f_17 q = iI (STGm (stf 1) (stf 2) (stf 3) cq n i S q) := fun q q1 q2 => by
                  unfold STGm
                  rw [if_pos (by rw [hcce]; exact hok), e_f_17, nI_clamp (by omega)]
                  by_cases e : q = i
                  · rw [e, pk_us, if_pos rfl, e_15, nI_iI, nI_iI, iI_sub, hcce]
                  · rw [pk_un e, if_neg e, htk q (by omega) q2, nI_iI, hvv]
                refine lv_iconst (v := 1) hx hb dX12_likeSays_196 (by decide) ?_
                have hpd9 := pd_N (cx := [oX12 g0 m_refused m_kind m_figure m_weight m_got m_setting men msy mdn m_tape m_letter m_letterAt m_told tp mat stm m_kept him ki crs m_price m_offer m_gets m_yes m_buys m_ends m_carried m_row rm m_keptRow m_likeGets m_likePrice m_ahead, cI aC m_setting 5 stf, cI aC m_likeGets 61 f_17, cI aC m_likePrice 61 pc]) hP hD [0, 1, 2, 3] (by decide) rfl
                have hP9 := hpd9.1
                have hD9 := hpd9.2
                refine W.widen (k := 0) (n := 0) (by omega) (by omega) ?_
                exact W.zret (v := 1) hx hb hr rfl (fun t ht hW => ⟨⟨1, (f_17, pc), rfl, Or.inl ⟨rfl, by rw [hcce]; exact hok, hres⟩, by rw [ht]; exact hP9, va_K.moved hW.alike hK, hD9⟩, hS.F ht⟩) hS.2.2 dX12_likeSays_197
              · refine lv_iconst (v := 0) hx hb dX12_likeSays_171 (by decide) ?_
                have hpd9 := pd_N (cx := [oX12 g0 m_refused m_kind m_figure m_weight m_got m_setting men msy mdn m_tape m_letter m_letterAt m_told tp mat stm m_kept him ki crs m_price m_offer m_gets m_yes m_buys m_ends m_carried m_row rm m_keptRow m_likeGets m_likePrice m_ahead, cI aC m_setting 5 stf, cI aC m_likeGets 61 gf, cI aC m_likePrice 61 pc]) hP hD [2, 1, 0, 3] (by decide) rfl
                have hP9 := hpd9.1
                have hD9 := hpd9.2
                refine W.widen (k := 0) (n := 0) (by omega) (by omega) ?_
                exact W.zret (v := 0) hx hb hr rfl (fun t ht hW => ⟨⟨0, (gf, pc), rfl, Or.inr ⟨rfl, by rw [hcce]; exact fun q => c_11 ((nI_leI (by omega) (by omega)).mpr q), rfl⟩, by rw [ht]; exact hP9, va_K.moved hW.alike hK, hD9⟩, hS.F ht⟩) hS.2.2 dX12_likeSays_172
            · refine lv_iload hx hb dX12_likeSays_99 (lv_at hl 5 rfl) ?_
              refine lv_iload_n hx hb dX12_likeSays_101 rfl (lv_at hl 3 rfl) ?_
              refine lv_icmp_gt (tgt := 165) hx hb dX12_likeSays_102 (by decide) (fun c_18 => ?_) (fun c_18 => ?_)
              · have hstop : stp (fun j => ask (stf 2) (S j)) (i + 1) (n - 1 - i) (mm (stf 1) (fun j => ask (stf 2) (S j)) n i) cq v = true := stp_t.mpr (Or.inr ((nI_ltI (by omega) (by omega)).mp c_18))
                have hvv := vv_eq (law := stf 1) (Q := (fun j => ask (stf 2) (S j))) hstop hst hv
                have hcce : (cc1 (stf 1) (fun j => ask (stf 2) (S j)) cq n i) = co (fun j => ask (stf 2) (S j)) (i + 1) (n - 1 - i) (mm (stf 1) (fun j => ask (stf 2) (S j)) n i) v := by show co _ _ _ _ (vv _ _ _ _ _) = _; rw [hvv]
                refine lv_iload hx hb dX12_likeSays_165 (lv_at hl 5 rfl) ?_
                refine lv_iload_n hx hb dX12_likeSays_167 rfl (lv_at hl 3 rfl) ?_
                refine lv_icmp_le (tgt := 173) hx hb dX12_likeSays_168 (by decide) (fun c_19 => ?_) (fun c_19 => ?_)
                · have hok : co (fun j => ask (stf 2) (S j)) (i + 1) (n - 1 - i) (mm (stf 1) (fun j => ask (stf 2) (S j)) n i) v ≤ cq := (nI_leI (by omega) (by omega)).mp c_19
                  refine lv_aload_n hx hb dX12_likeSays_173 rfl (lv_at hl 0 rfl) ?_
                  refine lv_iload_n hx hb dX12_likeSays_174 rfl (lv_at hl 1 rfl) ?_
                  refine lv_iload_n hx hb dX12_likeSays_175 rfl (lv_at hl 2 rfl) ?_
                  refine lv_iload hx hb dX12_likeSays_176 (lv_at hl 6 rfl) ?_
                  refine lv_iload hx hb dX12_likeSays_178 (lv_at hl 4 rfl) ?_
                  have hpd9 := pdf_N (cx := []) hP hD hS hA [] (by decide) rfl
                  have hPc := hpd9.1
                  have hDc := hpd9.2.1
                  have hFc := hpd9.2.2
                  clear hpd9
                  refine va_calli (va_runS (As := [Value.int (iI (((nd (stf 1) (n - i)) : Int) - 1 - (cv (fun j => ask (stf 2) (S j)) (i + 1) (n - 1 - i) 0)))]) (rest := [Value.int (nI v), Value.int (nI n), Value.int (nI i), Value.ref g0]) ⟨hx, hb, hml, hown, hts⟩ (c_X12_above_z l dC dI aC H.size (((nd (stf 1) (n - i)) : Int) - 1 - (cv (fun j => ask (stf 2) (S j)) (i + 1) (n - 1 - i) 0)) (by unfold sm; omega)) ⟨(callB_of 1 hts (gG kw_907) rfl rfl rfl (hts _ (gw kw_13 rfl)) (hts _ (gw kw_905 rfl)) hd_X12_above ⟨Nat.le_of_ble_eq_true rfl, Nat.le_of_ble_eq_true rfl⟩), (hts _ (gw kw_906 rfl))⟩ ⟨fb_std, pre_std hPc hK hDc hN⟩ rfl rfl hl.1 rfl (lv_room (Nat.le_of_ble_eq_true rfl)) dX12_likeSays_180 ⟨Nat.le_of_ble_eq_true rfl, Nat.le_of_ble_eq_true rfl⟩) hS (fun q _ h => hFc q h) hFc (fun x_20 u9 t9 H1 locs ht hvm hw_20 hB hz1 hk1 hS => ?_)
                  obtain ⟨hP1, hK1, hD1⟩ := hB
                  rw [ht] at hP1
                  clear hK1
                  try dsimp only at hw_20
                  have hpd9 : PDx (dC, dI) classes A H1 [cI aC m_likeGets 61 gf, cI aC m_setting 5 stf, oX12 g0 m_refused m_kind m_figure m_weight m_got m_setting men msy mdn m_tape m_letter m_letterAt m_told tp mat stm m_kept him ki crs m_price m_offer m_gets m_yes m_buys m_ends m_carried m_row rm m_keptRow m_likeGets m_likePrice m_ahead, cI aC m_likePrice 61 pc] := jn_N (wr := [cI aC m_likeGets 61 gf, cI aC m_setting 5 stf, oX12 g0 m_refused m_kind m_figure m_weight m_got m_setting men msy mdn m_tape m_letter m_letterAt m_told tp mat stm m_kept him ki crs m_price m_offer m_gets m_yes m_buys m_ends m_carried m_row rm m_keptRow m_likeGets m_likePrice m_ahead, cI aC m_likePrice 61 pc]) hFc hk1 hP1 hD1 hP hD [] [0, 1, 2, 3] rfl rfl (by decide) (by decide)
                  have hP := hpd9.1
                  have hD := hpd9.2
                  clear hpd9
                  generalize H1 = H at hP hS ⊢
                  clear hPc hDc hFc hz1 hk1 hP1 hD1 ht hvm
                  have h9 : x_20 = nI (mm (stf 1) (fun j => ask (stf 2) (S j)) n i) := by rw [hw_20]; congr 1; omega
                  subst h9
                  have hpd9 := pdf_N (cx := [oX12 g0 m_refused m_kind m_figure m_weight m_got m_setting men msy mdn m_tape m_letter m_letterAt m_told tp mat stm m_kept him ki crs m_price m_offer m_gets m_yes m_buys m_ends m_carried m_row rm m_keptRow m_likeGets m_likePrice m_ahead, cI aC m_setting 5 stf, cI aC m_likeGets 61 gf, cI aC m_likePrice 61 pc]) hP hD hS hA [2, 1, 0, 3] (by decide) rfl
                  have hPc := hpd9.1
                  have hDc := hpd9.2.1
                  have hFc := hpd9.2.2
                  clear hpd9
                  refine va_callv (va_runV (As := [Value.int (nI i), Value.int (nI n), Value.int (nI v), Value.int (nI (mm (stf 1) (fun j => ask (stf 2) (S j)) n i))]) (rest := []) ⟨hx, hb, hml, hown, hts⟩ (c_X12_likeTakes l dC dI aC H.size g0 m_refused m_kind m_figure m_weight m_got m_setting m_tape m_letter m_letterAt m_told m_kept m_price m_offer m_gets m_yes m_buys m_ends m_carried m_row m_keptRow m_likeGets m_likePrice m_ahead men msy mdn tp mat stm him ki crs rm stf gf pc (fun j => ask (stf 2) (S j)) i n v (mm (stf 1) (fun j => ask (stf 2) (S j)) n i) (hn) (hQQ) (hv) (by omega) (fun u hu => (stp_f.mp (hst u hu)).1)) ⟨(callB_of 4 hts (gG kw_1034) rfl rfl rfl (hts _ (gw kw_13 rfl)) (hts _ (gw kw_1031 rfl)) hd_X12_likeTakes ⟨Nat.le_of_ble_eq_true rfl, Nat.le_of_ble_eq_true rfl⟩), (hts _ (gw kw_1033 rfl)), (hts _ (gw ks_64 rfl))⟩ ⟨fb_std, va_recv (q := (RX12, TX12, 33)) hK hPc (ci := 12) (q0 := 0) rfl rfl, pre_std hPc hK hDc hN⟩ rfl rfl hl.1 rfl (lv_room (Nat.le_of_ble_eq_true rfl)) dX12_likeSays_183 ⟨Nat.le_of_ble_eq_true rfl, Nat.le_of_ble_eq_true rfl⟩) hS (fun q _ h => hFc q h) hFc (fun u9 t9 H1 locs ht hvm hw_21 hB hz1 hk1 hS => ?_)
                  obtain ⟨u_22, rfl⟩ : ∃ z, z = u9 := ⟨_, rfl⟩
                  obtain ⟨hP1, hK1, hD1⟩ := hB
                  rw [ht] at hP1
                  clear hK1
                  try dsimp only at hw_21
                  have hpd9 : PDx (dC, dI) classes A H1 [oX12 g0 m_refused m_kind m_figure m_weight m_got m_setting men msy mdn m_tape m_letter m_letterAt m_told tp mat stm m_kept him ki crs m_price m_offer m_gets m_yes m_buys m_ends m_carried m_row rm m_keptRow m_likeGets m_likePrice m_ahead, cI aC m_setting 5 stf, cI aC m_likeGets 61 u_22, cI aC m_likePrice 61 pc] := jn_N (wr := []) hFc hk1 hP1 hD1 hP hD [2, 1, 0, 3] [] rfl rfl (by decide) (by decide)
                  have hP := hpd9.1
                  have hD := hpd9.2
                  clear hpd9
                  generalize H1 = H at hP hS ⊢
                  clear hPc hDc hFc hz1 hk1 hP1 hD1 ht hvm
                  have htk := hw_21
                  refine lv_aload_n hx hb dX12_likeSays_186 rfl (lv_at hl 0 rfl) ?_
                  refine va_get (D := (dC, dI)) (ci := 12) (v := Value.ref m_likeGets) (C := RX12) (T := TX12) (N := 33) hx hb hts inX12 hown hK hP 0 rfl rfl 30 (by decide) (hts _ (gw kw_747 rfl)) (fun _ h9 => h9) rfl dX12_likeSays_187 ?_
                  refine lv_iload_n hx hb dX12_likeSays_190 rfl (lv_at hl 1 rfl) ?_
                  refine lv_iload_n hx hb dX12_likeSays_191 rfl (lv_at hl 3 rfl) ?_
                  refine lv_iload hx hb dX12_likeSays_192 (lv_at hl 5 rfl) ?_
                  refine lv_isub hx hb dX12_likeSays_194 ?_
                  refine lv_topi (fun x_23 e_23 => ?_)
                  have h_24 : vp_in (nI i) 61 := vp_in_nI (by omega) (by omega)
                  refine va_iast hx hb hK hP hD hS 2 0 rfl rfl h_24 dX12_likeSays_195 (fun H locs hP hD hS => ?_)
                  obtain ⟨f_25, e_f_25⟩ : ∃ y : Nat → Int32, y = upd u_22 (nI i : Int32).toNatClampNeg x_23 := ⟨_, rfl⟩
                  have hpd9 : PDx (dC, dI) classes A H [oX12 g0 m_refused m_kind m_figure m_weight m_got m_setting men msy mdn m_tape m_letter m_letterAt m_told tp mat stm m_kept him ki crs m_price m_offer m_gets m_yes m_buys m_ends m_carried m_row rm m_keptRow m_likeGets m_likePrice m_ahead, cI aC m_setting 5 stf, cI aC m_likeGets 61 f_25, cI aC m_likePrice 61 pc] := by rw [e_f_25]; exact ⟨hP, hD⟩
                  have hP := hpd9.1
                  have hD := hpd9.2
                  clear hpd9
                  have hres : ∀ q, i ≤ q → q < n → f_25 q = iI (STGm (stf 1) (stf 2) (stf 3) cq n i S q) := fun q q1 q2 => by
                    unfold STGm
                    rw [if_pos (by rw [hcce]; exact hok), e_f_25, nI_clamp (by omega)]
                    by_cases e : q = i
                    · rw [e, pk_us, if_pos rfl, e_23, nI_iI, nI_iI, iI_sub, hcce]
                    · rw [pk_un e, if_neg e, htk q (by omega) q2, nI_iI, hvv]
                  refine lv_iconst (v := 1) hx hb dX12_likeSays_196 (by decide) ?_
                  have hpd9 := pd_N (cx := [oX12 g0 m_refused m_kind m_figure m_weight m_got m_setting men msy mdn m_tape m_letter m_letterAt m_told tp mat stm m_kept him ki crs m_price m_offer m_gets m_yes m_buys m_ends m_carried m_row rm m_keptRow m_likeGets m_likePrice m_ahead, cI aC m_setting 5 stf, cI aC m_likeGets 61 f_25, cI aC m_likePrice 61 pc]) hP hD [0, 1, 2, 3] (by decide) rfl
                  have hP9 := hpd9.1
                  have hD9 := hpd9.2
                  refine W.widen (k := 0) (n := 0) (by omega) (by omega) ?_
                  exact W.zret (v := 1) hx hb hr rfl (fun t ht hW => ⟨⟨1, (f_25, pc), rfl, Or.inl ⟨rfl, by rw [hcce]; exact hok, hres⟩, by rw [ht]; exact hP9, va_K.moved hW.alike hK, hD9⟩, hS.F ht⟩) hS.2.2 dX12_likeSays_197
                · refine lv_iconst (v := 0) hx hb dX12_likeSays_171 (by decide) ?_
                  have hpd9 := pd_N (cx := [oX12 g0 m_refused m_kind m_figure m_weight m_got m_setting men msy mdn m_tape m_letter m_letterAt m_told tp mat stm m_kept him ki crs m_price m_offer m_gets m_yes m_buys m_ends m_carried m_row rm m_keptRow m_likeGets m_likePrice m_ahead, cI aC m_setting 5 stf, cI aC m_likeGets 61 gf, cI aC m_likePrice 61 pc]) hP hD [2, 1, 0, 3] (by decide) rfl
                  have hP9 := hpd9.1
                  have hD9 := hpd9.2
                  refine W.widen (k := 0) (n := 0) (by omega) (by omega) ?_
                  exact W.zret (v := 0) hx hb hr rfl (fun t ht hW => ⟨⟨0, (gf, pc), rfl, Or.inr ⟨rfl, by rw [hcce]; exact fun q => c_19 ((nI_leI (by omega) (by omega)).mpr q), rfl⟩, by rw [ht]; exact hP9, va_K.moved hW.alike hK, hD9⟩, hS.F ht⟩) hS.2.2 dX12_likeSays_172
              · have hrest : cu (fun j => ask (stf 2) (S j)) (i + 1) (n - 1 - i) v < (mm (stf 1) (fun j => ask (stf 2) (S j)) n i) := by
                  rcases Nat.lt_or_ge (cu (fun j => ask (stf 2) (S j)) (i + 1) (n - 1 - i) v) (mm (stf 1) (fun j => ask (stf 2) (S j)) n i) with q | q
                  · exact q
                  · exact absurd ((nI_leI (a := (mm (stf 1) (fun j => ask (stf 2) (S j)) n i) - cu (fun j => ask (stf 2) (S j)) (i + 1) (n - 1 - i) v) (b := 0) (by omega) (by omega)).mpr (by omega)) c_10
                have hcc : co (fun j => ask (stf 2) (S j)) (i + 1) (n - 1 - i) (mm (stf 1) (fun j => ask (stf 2) (S j)) n i) v ≤ cq := by
                  rcases Nat.lt_or_ge cq (co (fun j => ask (stf 2) (S j)) (i + 1) (n - 1 - i) (mm (stf 1) (fun j => ask (stf 2) (S j)) n i) v) with q | q
                  · exact absurd (nI_lt q (by omega)) c_18
                  · exact q
                have hv1 : v < 100 := by
                  rcases Nat.lt_or_ge v 100 with q | q
                  · exact q
                  · have : v = 100 := by omega
                    subst this
                    omega
                have hcv1 := cv_le (Q := (fun j => ask (stf 2) (S j))) (a := i + 1) (y := n - 1 - i) (v := v + 1)
                have hcs : cu (fun j => ask (stf 2) (S j)) (i + 1) (n - 1 - i) (v + 1) = cu (fun j => ask (stf 2) (S j)) (i + 1) (n - 1 - i) v + cv (fun j => ask (stf 2) (S j)) (i + 1) (n - 1 - i) (v + 1) := rfl
                obtain ⟨x_26, e_26⟩ : ∃ y : Int32, y = (nI v) + 1 := ⟨_, rfl⟩
                refine lv_iinc (v := x_26) (lv' := [(6, Value.int x_26), (0, Value.ref g0), (1, Value.int (nI i)), (2, Value.int (nI n)), (3, Value.int (nI cq)), (4, Value.int (iI (((nd (stf 1) (n - i)) : Int) - 1 - (cv (fun j => ask (stf 2) (S j)) (i + 1) (n - 1 - i) 0)))), (5, Value.int (nI (co (fun j => ask (stf 2) (S j)) (i + 1) (n - 1 - i) (mm (stf 1) (fun j => ask (stf 2) (S j)) n i) v))), (7, Value.int (nI ((mm (stf 1) (fun j => ask (stf 2) (S j)) n i) - cu (fun j => ask (stf 2) (S j)) (i + 1) (n - 1 - i) v)))]) hx hb dX12_likeSays_105 hl (k := 6) rfl (by rw [e_26]; rfl) (by decide) rfl (fun ls hl => ?_)
                have h9 : x_26 = nI (v + 1) := by rw [e_26, nI_1]
                subst h9
                refine lv_aload_n hx hb dX12_likeSays_108 rfl (lv_at hl 1 rfl) ?_
                refine lv_iload_n hx hb dX12_likeSays_109 rfl (lv_at hl 2 rfl) ?_
                refine lv_iconst (v := 1) hx hb dX12_likeSays_110 (by decide) ?_
                refine lv_iadd hx hb dX12_likeSays_111 ?_
                refine lv_topi (fun x_27 e_27 => ?_)
                have h9 : x_27 = nI (i + 1) := by rw [e_27, nI_1]
                subst h9
                refine lv_iload_n hx hb dX12_likeSays_112 rfl (lv_at hl 3 rfl) ?_
                refine lv_iload hx hb dX12_likeSays_113 (lv_at hl 0 rfl) ?_
                have hpd9 := pdf_N (cx := [oX12 g0 m_refused m_kind m_figure m_weight m_got m_setting men msy mdn m_tape m_letter m_letterAt m_told tp mat stm m_kept him ki crs m_price m_offer m_gets m_yes m_buys m_ends m_carried m_row rm m_keptRow m_likeGets m_likePrice m_ahead, cI aC m_likePrice 61 pc]) hP hD hS hA [2, 3] (by decide) rfl
                have hPc := hpd9.1
                have hDc := hpd9.2.1
                have hFc := hpd9.2.2
                clear hpd9
                refine va_calli (va_runV (As := [Value.int (nI (i + 1)), Value.int (nI n), Value.int (nI (v + 1))]) (rest := []) ⟨hx, hb, hml, hown, hts⟩ (c_X12_withPrice l dC dI aC H.size g0 m_refused m_kind m_figure m_weight m_got m_setting m_tape m_letter m_letterAt m_told m_kept m_price m_offer m_gets m_yes m_buys m_ends m_carried m_row m_keptRow m_likeGets m_likePrice m_ahead men msy mdn tp mat stm him ki crs rm (fun j => ask (stf 2) (S j)) pc i n (v + 1) (hn) (hQQ) (by omega)) ⟨(callB_of 3 hts (gG kw_1030) rfl rfl rfl (hts _ (gw kw_13 rfl)) (hts _ (gw kw_1027 rfl)) hd_X12_withPrice ⟨Nat.le_of_ble_eq_true rfl, Nat.le_of_ble_eq_true rfl⟩), (hts _ (gw kw_1029 rfl)), (hts _ (gw ks_63 rfl))⟩ ⟨fb_std, va_recv (q := (RX12, TX12, 33)) hK hPc (ci := 12) (q0 := 0) rfl rfl, pre_std hPc hK hDc hN⟩ rfl rfl hl.1 rfl (lv_room (Nat.le_of_ble_eq_true rfl)) dX12_likeSays_115 ⟨Nat.le_of_ble_eq_true rfl, Nat.le_of_ble_eq_true rfl⟩) hS (fun q _ h => hFc q h) hFc (fun x_28 u9 t9 H1 locs ht hvm hw_28 hB hz1 hk1 hS => ?_)
                obtain ⟨hP1, hK1, hD1⟩ := hB
                rw [ht] at hP1
                clear hK1
                try dsimp only at hw_28
                have hpd9 : PDx (dC, dI) classes A H1 [cI aC m_likeGets 61 gf, cI aC m_setting 5 stf, oX12 g0 m_refused m_kind m_figure m_weight m_got m_setting men msy mdn m_tape m_letter m_letterAt m_told tp mat stm m_kept him ki crs m_price m_offer m_gets m_yes m_buys m_ends m_carried m_row rm m_keptRow m_likeGets m_likePrice m_ahead, cI aC m_likePrice 61 pc] := jn_N (wr := [cI aC m_likeGets 61 gf, cI aC m_setting 5 stf]) hFc hk1 hP1 hD1 hP hD [2, 3] [0, 1] rfl rfl (by decide) (by decide)
                have hP := hpd9.1
                have hD := hpd9.2
                clear hpd9
                generalize H1 = H at hP hS ⊢
                clear hPc hDc hFc hz1 hk1 hP1 hD1 ht hvm
                have h9 : x_28 = nI (cv (fun j => ask (stf 2) (S j)) (i + 1) (n - 1 - i) (v + 1)) := hw_28
                subst h9
                refine lv_istore (lv' := [(8, Value.int (nI (cv (fun j => ask (stf 2) (S j)) (i + 1) (n - 1 - i) (v + 1)))), (6, Value.int (nI (v + 1))), (0, Value.ref g0), (1, Value.int (nI i)), (2, Value.int (nI n)), (3, Value.int (nI cq)), (4, Value.int (iI (((nd (stf 1) (n - i)) : Int) - 1 - (cv (fun j => ask (stf 2) (S j)) (i + 1) (n - 1 - i) 0)))), (5, Value.int (nI (co (fun j => ask (stf 2) (S j)) (i + 1) (n - 1 - i) (mm (stf 1) (fun j => ask (stf 2) (S j)) n i) v))), (7, Value.int (nI ((mm (stf 1) (fun j => ask (stf 2) (S j)) n i) - cu (fun j => ask (stf 2) (S j)) (i + 1) (n - 1 - i) v)))]) hx hb dX12_likeSays_118 hl (by decide) rfl (fun ls hl => ?_)
                refine lv_iload hx hb dX12_likeSays_120 (lv_at hl 0 rfl) ?_
                refine lv_iload hx hb dX12_likeSays_122 (lv_at hl 8 rfl) ?_
                refine lv_icmp_ge (tgt := 132) hx hb dX12_likeSays_124 (by decide) (fun c_29 => ?_) (fun c_29 => ?_)
                · refine lv_iload hx hb dX12_likeSays_132 (lv_at hl 8 rfl) ?_
                  refine lv_topi (fun x_30 e_30 => ?_)
                  have h9 : x_30 = nI (min (cv (fun j => ask (stf 2) (S j)) (i + 1) (n - 1 - i) (v + 1)) ((mm (stf 1) (fun j => ask (stf 2) (S j)) n i) - cu (fun j => ask (stf 2) (S j)) (i + 1) (n - 1 - i) v)) := by rw [e_30]; congr 1; have := (nI_leI (by omega) (by omega)).mp c_29; omega
                  subst h9
                  refine lv_istore (lv' := [(9, Value.int (nI (min (cv (fun j => ask (stf 2) (S j)) (i + 1) (n - 1 - i) (v + 1)) ((mm (stf 1) (fun j => ask (stf 2) (S j)) n i) - cu (fun j => ask (stf 2) (S j)) (i + 1) (n - 1 - i) v)))), (8, Value.int (nI (cv (fun j => ask (stf 2) (S j)) (i + 1) (n - 1 - i) (v + 1)))), (6, Value.int (nI (v + 1))), (0, Value.ref g0), (1, Value.int (nI i)), (2, Value.int (nI n)), (3, Value.int (nI cq)), (4, Value.int (iI (((nd (stf 1) (n - i)) : Int) - 1 - (cv (fun j => ask (stf 2) (S j)) (i + 1) (n - 1 - i) 0)))), (5, Value.int (nI (co (fun j => ask (stf 2) (S j)) (i + 1) (n - 1 - i) (mm (stf 1) (fun j => ask (stf 2) (S j)) n i) v))), (7, Value.int (nI ((mm (stf 1) (fun j => ask (stf 2) (S j)) n i) - cu (fun j => ask (stf 2) (S j)) (i + 1) (n - 1 - i) v)))]) hx hb dX12_likeSays_134 hl (by decide) rfl (fun ls hl => ?_)
                  refine lv_iload hx hb dX12_likeSays_136 (lv_at hl 8 rfl) ?_
                  refine lv_iload hx hb dX12_likeSays_138 (lv_at hl 2 rfl) ?_
                  refine lv_iload hx hb dX12_likeSays_140 (lv_at hl 0 rfl) ?_
                  refine lv_imul hx hb dX12_likeSays_142 ?_
                  refine lv_topi (fun x_31 e_31 => ?_)
                  have h9 : x_31 = nI ((v + 1) * (min (cv (fun j => ask (stf 2) (S j)) (i + 1) (n - 1 - i) (v + 1)) ((mm (stf 1) (fun j => ask (stf 2) (S j)) n i) - cu (fun j => ask (stf 2) (S j)) (i + 1) (n - 1 - i) v))) := by rw [e_31, pk_mul]
                  subst h9
                  refine lv_iadd hx hb dX12_likeSays_143 ?_
                  refine lv_topi (fun x_32 e_32 => ?_)
                  have h9 : x_32 = nI (co (fun j => ask (stf 2) (S j)) (i + 1) (n - 1 - i) (mm (stf 1) (fun j => ask (stf 2) (S j)) n i) (v + 1)) := by rw [e_32, nI_add]; rfl
                  subst h9
                  refine lv_istore (lv' := [(5, Value.int (nI (co (fun j => ask (stf 2) (S j)) (i + 1) (n - 1 - i) (mm (stf 1) (fun j => ask (stf 2) (S j)) n i) (v + 1)))), (9, Value.int (nI (min (cv (fun j => ask (stf 2) (S j)) (i + 1) (n - 1 - i) (v + 1)) ((mm (stf 1) (fun j => ask (stf 2) (S j)) n i) - cu (fun j => ask (stf 2) (S j)) (i + 1) (n - 1 - i) v)))), (8, Value.int (nI (cv (fun j => ask (stf 2) (S j)) (i + 1) (n - 1 - i) (v + 1)))), (6, Value.int (nI (v + 1))), (0, Value.ref g0), (1, Value.int (nI i)), (2, Value.int (nI n)), (3, Value.int (nI cq)), (4, Value.int (iI (((nd (stf 1) (n - i)) : Int) - 1 - (cv (fun j => ask (stf 2) (S j)) (i + 1) (n - 1 - i) 0)))), (7, Value.int (nI ((mm (stf 1) (fun j => ask (stf 2) (S j)) n i) - cu (fun j => ask (stf 2) (S j)) (i + 1) (n - 1 - i) v)))]) hx hb dX12_likeSays_144 hl (by decide) rfl (fun ls hl => ?_)
                  refine lv_iload hx hb dX12_likeSays_146 (lv_at hl 9 rfl) ?_
                  refine lv_iload hx hb dX12_likeSays_148 (lv_at hl 1 rfl) ?_
                  refine lv_isub hx hb dX12_likeSays_150 ?_
                  refine lv_topi (fun x_33 e_33 => ?_)
                  have h9 : x_33 = nI ((mm (stf 1) (fun j => ask (stf 2) (S j)) n i) - cu (fun j => ask (stf 2) (S j)) (i + 1) (n - 1 - i) (v + 1)) := by rw [e_33, pk_sub (by omega)]; congr 1; omega
                  subst h9
                  refine lv_istore (lv' := [(7, Value.int (nI ((mm (stf 1) (fun j => ask (stf 2) (S j)) n i) - cu (fun j => ask (stf 2) (S j)) (i + 1) (n - 1 - i) (v + 1)))), (5, Value.int (nI (co (fun j => ask (stf 2) (S j)) (i + 1) (n - 1 - i) (mm (stf 1) (fun j => ask (stf 2) (S j)) n i) (v + 1)))), (9, Value.int (nI (min (cv (fun j => ask (stf 2) (S j)) (i + 1) (n - 1 - i) (v + 1)) ((mm (stf 1) (fun j => ask (stf 2) (S j)) n i) - cu (fun j => ask (stf 2) (S j)) (i + 1) (n - 1 - i) v)))), (8, Value.int (nI (cv (fun j => ask (stf 2) (S j)) (i + 1) (n - 1 - i) (v + 1)))), (6, Value.int (nI (v + 1))), (0, Value.ref g0), (1, Value.int (nI i)), (2, Value.int (nI n)), (3, Value.int (nI cq)), (4, Value.int (iI (((nd (stf 1) (n - i)) : Int) - 1 - (cv (fun j => ask (stf 2) (S j)) (i + 1) (n - 1 - i) 0))))]) hx hb dX12_likeSays_151 hl (by decide) rfl (fun ls hl => ?_)
                  refine lv_iload hx hb dX12_likeSays_153 (lv_at hl 4 rfl) ?_
                  refine lv_bipush (v := 100) hx hb dX12_likeSays_155 (by decide) ?_
                  refine lv_icmp_le (tgt := 162) hx hb dX12_likeSays_157 (by decide) (fun c_34 => ?_) (fun c_34 => ?_)
                  · have hb2 : ∀ u, u < v + 1 → stp (fun j => ask (stf 2) (S j)) (i + 1) (n - 1 - i) (mm (stf 1) (fun j => ask (stf 2) (S j)) n i) cq u = false := fun u hu => by
                      by_cases h : u < v
                      · exact hst u h
                      · have : u = v := by omega
                        subst this
                        exact stp_f.mpr ⟨hrest, hcc⟩
                    have hb4 : co (fun j => ask (stf 2) (S j)) (i + 1) (n - 1 - i) (mm (stf 1) (fun j => ask (stf 2) (S j)) n i) (v + 1) ≤ 70000 := by
                      show co (fun j => ask (stf 2) (S j)) (i + 1) (n - 1 - i) (mm (stf 1) (fun j => ask (stf 2) (S j)) n i) v + (v + 1) * (min (cv (fun j => ask (stf 2) (S j)) (i + 1) (n - 1 - i) (v + 1)) ((mm (stf 1) (fun j => ask (stf 2) (S j)) n i) - cu (fun j => ask (stf 2) (S j)) (i + 1) (n - 1 - i) v)) ≤ 70000
                      have := mul_le_60 (w := v + 1) (t := min (cv (fun j => ask (stf 2) (S j)) (i + 1) (n - 1 - i) (v + 1)) ((mm (stf 1) (fun j => ask (stf 2) (S j)) n i) - cu (fun j => ask (stf 2) (S j)) (i + 1) (n - 1 - i) v)) (by omega) (by omega)
                      omega
                    refine lv_goto (tgt := 94) hx hb dX12_likeSays_162 (by decide) ?_
                    exact ih_94 (v + 1) (by omega) (by omega) (hb2) (hb4) _ _ _ (hP.sub [0, 1, 2, 3] rfl) (hD.sub [0, 1, 2, 3] (by decide) rfl) hS (lv_sub hl [5, 6, 7, 8, 9, 1, 4, 0] rfl)
                  · exact absurd ((nI_leI (a := v + 1) (b := 100) (by omega) (by omega)).mpr (by omega)) c_34
                · refine lv_iload hx hb dX12_likeSays_127 (lv_at hl 0 rfl) ?_
                  refine lv_goto (tgt := 134) hx hb dX12_likeSays_129 (by decide) ?_
                  refine lv_topi (fun x_35 e_35 => ?_)
                  have h9 : x_35 = nI (min (cv (fun j => ask (stf 2) (S j)) (i + 1) (n - 1 - i) (v + 1)) ((mm (stf 1) (fun j => ask (stf 2) (S j)) n i) - cu (fun j => ask (stf 2) (S j)) (i + 1) (n - 1 - i) v)) := by rw [e_35]; congr 1; have h7 : ¬ ((mm (stf 1) (fun j => ask (stf 2) (S j)) n i) - cu (fun j => ask (stf 2) (S j)) (i + 1) (n - 1 - i) v ≤ cv (fun j => ask (stf 2) (S j)) (i + 1) (n - 1 - i) (v + 1)) := fun q => c_29 ((nI_leI (by omega) (by omega)).mpr q); omega
                  subst h9
                  refine lv_istore (lv' := [(9, Value.int (nI (min (cv (fun j => ask (stf 2) (S j)) (i + 1) (n - 1 - i) (v + 1)) ((mm (stf 1) (fun j => ask (stf 2) (S j)) n i) - cu (fun j => ask (stf 2) (S j)) (i + 1) (n - 1 - i) v)))), (8, Value.int (nI (cv (fun j => ask (stf 2) (S j)) (i + 1) (n - 1 - i) (v + 1)))), (6, Value.int (nI (v + 1))), (0, Value.ref g0), (1, Value.int (nI i)), (2, Value.int (nI n)), (3, Value.int (nI cq)), (4, Value.int (iI (((nd (stf 1) (n - i)) : Int) - 1 - (cv (fun j => ask (stf 2) (S j)) (i + 1) (n - 1 - i) 0)))), (5, Value.int (nI (co (fun j => ask (stf 2) (S j)) (i + 1) (n - 1 - i) (mm (stf 1) (fun j => ask (stf 2) (S j)) n i) v))), (7, Value.int (nI ((mm (stf 1) (fun j => ask (stf 2) (S j)) n i) - cu (fun j => ask (stf 2) (S j)) (i + 1) (n - 1 - i) v)))]) hx hb dX12_likeSays_134 hl (by decide) rfl (fun ls hl => ?_)
                  refine lv_iload hx hb dX12_likeSays_136 (lv_at hl 8 rfl) ?_
                  refine lv_iload hx hb dX12_likeSays_138 (lv_at hl 2 rfl) ?_
                  refine lv_iload hx hb dX12_likeSays_140 (lv_at hl 0 rfl) ?_
                  refine lv_imul hx hb dX12_likeSays_142 ?_
                  refine lv_topi (fun x_36 e_36 => ?_)
                  have h9 : x_36 = nI ((v + 1) * (min (cv (fun j => ask (stf 2) (S j)) (i + 1) (n - 1 - i) (v + 1)) ((mm (stf 1) (fun j => ask (stf 2) (S j)) n i) - cu (fun j => ask (stf 2) (S j)) (i + 1) (n - 1 - i) v))) := by rw [e_36, pk_mul]
                  subst h9
                  refine lv_iadd hx hb dX12_likeSays_143 ?_
                  refine lv_topi (fun x_37 e_37 => ?_)
                  have h9 : x_37 = nI (co (fun j => ask (stf 2) (S j)) (i + 1) (n - 1 - i) (mm (stf 1) (fun j => ask (stf 2) (S j)) n i) (v + 1)) := by rw [e_37, nI_add]; rfl
                  subst h9
                  refine lv_istore (lv' := [(5, Value.int (nI (co (fun j => ask (stf 2) (S j)) (i + 1) (n - 1 - i) (mm (stf 1) (fun j => ask (stf 2) (S j)) n i) (v + 1)))), (9, Value.int (nI (min (cv (fun j => ask (stf 2) (S j)) (i + 1) (n - 1 - i) (v + 1)) ((mm (stf 1) (fun j => ask (stf 2) (S j)) n i) - cu (fun j => ask (stf 2) (S j)) (i + 1) (n - 1 - i) v)))), (8, Value.int (nI (cv (fun j => ask (stf 2) (S j)) (i + 1) (n - 1 - i) (v + 1)))), (6, Value.int (nI (v + 1))), (0, Value.ref g0), (1, Value.int (nI i)), (2, Value.int (nI n)), (3, Value.int (nI cq)), (4, Value.int (iI (((nd (stf 1) (n - i)) : Int) - 1 - (cv (fun j => ask (stf 2) (S j)) (i + 1) (n - 1 - i) 0)))), (7, Value.int (nI ((mm (stf 1) (fun j => ask (stf 2) (S j)) n i) - cu (fun j => ask (stf 2) (S j)) (i + 1) (n - 1 - i) v)))]) hx hb dX12_likeSays_144 hl (by decide) rfl (fun ls hl => ?_)
                  refine lv_iload hx hb dX12_likeSays_146 (lv_at hl 9 rfl) ?_
                  refine lv_iload hx hb dX12_likeSays_148 (lv_at hl 1 rfl) ?_
                  refine lv_isub hx hb dX12_likeSays_150 ?_
                  refine lv_topi (fun x_38 e_38 => ?_)
                  have h9 : x_38 = nI ((mm (stf 1) (fun j => ask (stf 2) (S j)) n i) - cu (fun j => ask (stf 2) (S j)) (i + 1) (n - 1 - i) (v + 1)) := by rw [e_38, pk_sub (by omega)]; congr 1; omega
                  subst h9
                  refine lv_istore (lv' := [(7, Value.int (nI ((mm (stf 1) (fun j => ask (stf 2) (S j)) n i) - cu (fun j => ask (stf 2) (S j)) (i + 1) (n - 1 - i) (v + 1)))), (5, Value.int (nI (co (fun j => ask (stf 2) (S j)) (i + 1) (n - 1 - i) (mm (stf 1) (fun j => ask (stf 2) (S j)) n i) (v + 1)))), (9, Value.int (nI (min (cv (fun j => ask (stf 2) (S j)) (i + 1) (n - 1 - i) (v + 1)) ((mm (stf 1) (fun j => ask (stf 2) (S j)) n i) - cu (fun j => ask (stf 2) (S j)) (i + 1) (n - 1 - i) v)))), (8, Value.int (nI (cv (fun j => ask (stf 2) (S j)) (i + 1) (n - 1 - i) (v + 1)))), (6, Value.int (nI (v + 1))), (0, Value.ref g0), (1, Value.int (nI i)), (2, Value.int (nI n)), (3, Value.int (nI cq)), (4, Value.int (iI (((nd (stf 1) (n - i)) : Int) - 1 - (cv (fun j => ask (stf 2) (S j)) (i + 1) (n - 1 - i) 0))))]) hx hb dX12_likeSays_151 hl (by decide) rfl (fun ls hl => ?_)
                  refine lv_iload hx hb dX12_likeSays_153 (lv_at hl 4 rfl) ?_
                  refine lv_bipush (v := 100) hx hb dX12_likeSays_155 (by decide) ?_
                  refine lv_icmp_le (tgt := 162) hx hb dX12_likeSays_157 (by decide) (fun c_39 => ?_) (fun c_39 => ?_)
                  · have hb2 : ∀ u, u < v + 1 → stp (fun j => ask (stf 2) (S j)) (i + 1) (n - 1 - i) (mm (stf 1) (fun j => ask (stf 2) (S j)) n i) cq u = false := fun u hu => by
                      by_cases h : u < v
                      · exact hst u h
                      · have : u = v := by omega
                        subst this
                        exact stp_f.mpr ⟨hrest, hcc⟩
                    have hb4 : co (fun j => ask (stf 2) (S j)) (i + 1) (n - 1 - i) (mm (stf 1) (fun j => ask (stf 2) (S j)) n i) (v + 1) ≤ 70000 := by
                      show co (fun j => ask (stf 2) (S j)) (i + 1) (n - 1 - i) (mm (stf 1) (fun j => ask (stf 2) (S j)) n i) v + (v + 1) * (min (cv (fun j => ask (stf 2) (S j)) (i + 1) (n - 1 - i) (v + 1)) ((mm (stf 1) (fun j => ask (stf 2) (S j)) n i) - cu (fun j => ask (stf 2) (S j)) (i + 1) (n - 1 - i) v)) ≤ 70000
                      have := mul_le_60 (w := v + 1) (t := min (cv (fun j => ask (stf 2) (S j)) (i + 1) (n - 1 - i) (v + 1)) ((mm (stf 1) (fun j => ask (stf 2) (S j)) n i) - cu (fun j => ask (stf 2) (S j)) (i + 1) (n - 1 - i) v)) (by omega) (by omega)
                      omega
                    refine lv_goto (tgt := 94) hx hb dX12_likeSays_162 (by decide) ?_
                    exact ih_94 (v + 1) (by omega) (by omega) (hb2) (hb4) _ _ _ (hP.sub [0, 1, 2, 3] rfl) (hD.sub [0, 1, 2, 3] (by decide) rfl) hS (lv_sub hl [5, 6, 7, 8, 9, 1, 4, 0] rfl)
                  · exact absurd ((nI_leI (a := v + 1) (b := 100) (by omega) (by omega)).mpr (by omega)) c_39
        exact lp_94 ((101 - 0) + 1) 0 (Nat.lt_succ_self _) (by omega) (fun u h => absurd h (Nat.not_lt_zero u)) (by show 0 ≤ 70000; omega) _ _ _ (hP.sub [0, 1, 2, 3] rfl) (hD.sub [0, 1, 2, 3] (by decide) rfl) hS (lv_sub hl [4, 5, 6, 7, 3, 2, 1, 0] rfl)
      · have hlt : j < n := by
          rcases Nat.lt_or_ge j n with q | q
          · exact q
          · exact absurd (nI_le q (by omega)) c_5
        obtain ⟨hs1, hs2⟩ := hSj j hj.1 hlt
        refine lv_aload_n hx hb dX12_likeSays_22 rfl (lv_at hl 0 rfl) ?_
        refine va_get (D := (dC, dI)) (ci := 12) (v := Value.ref m_likePrice) (C := RX12) (T := TX12) (N := 33) hx hb hts inX12 hown hK hP 2 rfl rfl 31 (by decide) (hts _ (gw kw_748 rfl)) (fun _ h9 => h9) rfl dX12_likeSays_23 ?_
        refine lv_iload hx hb dX12_likeSays_26 (lv_at hl 5 rfl) ?_
        refine lv_aload_n hx hb dX12_likeSays_28 rfl (lv_at hl 0 rfl) ?_
        refine va_get (D := (dC, dI)) (ci := 12) (v := Value.ref m_setting) (C := RX12) (T := TX12) (N := 33) hx hb hts inX12 hown hK hP 2 rfl rfl 5 (by decide) (hts _ (gw kw_722 rfl)) (fun _ h9 => h9) rfl dX12_likeSays_29 ?_
        refine lv_iconst (v := 2) hx hb dX12_likeSays_32 (by decide) ?_
        have h_40 : vp_in 2 5 := by unfold vp_in; decide
        refine va_iald hx hb hK hP 3 0 rfl rfl h_40 dX12_likeSays_33 ?_
        refine lv_topi (fun x_41 e_41 => ?_)
        have h9 : x_41 = (stf 2) := by rw [e_41]; rfl
        subst h9
        refine lv_iconst (v := 1) hx hb dX12_likeSays_34 (by decide) ?_
        refine lv_icmp_ne (tgt := 48) hx hb dX12_likeSays_35 (by decide) (fun c_42 => ?_) (fun c_42 => ?_)
        · refine lv_aload_n hx hb dX12_likeSays_48 rfl (lv_at hl 0 rfl) ?_
          refine va_get (D := (dC, dI)) (ci := 12) (v := Value.ref m_likeGets) (C := RX12) (T := TX12) (N := 33) hx hb hts inX12 hown hK hP 2 rfl rfl 30 (by decide) (hts _ (gw kw_747 rfl)) (fun _ h9 => h9) rfl dX12_likeSays_49 ?_
          refine lv_iload hx hb dX12_likeSays_52 (lv_at hl 5 rfl) ?_
          have h_43 : vp_in (nI j) 61 := vp_in_nI (by omega) (by omega)
          refine va_iald hx hb hK hP 0 0 rfl rfl h_43 dX12_likeSays_54 ?_
          refine lv_topi (fun x_44 e_44 => ?_)
          have h9 : x_44 = iI (S j) := by rw [e_44, nI_clamp (by omega)]; exact hs1
          subst h9
          refine lv_iconst (v := 1) hx hb dX12_likeSays_55 (by decide) ?_
          refine lv_iadd hx hb dX12_likeSays_56 ?_
          refine lv_topi (fun x_45 e_45 => ?_)
          have h9 : x_45 = iI (S j + 1) := by rw [e_45, ← iI_1, iI_add]
          subst h9
          have hpd9 := pdf_N (cx := []) hP hD hS hA [] (by decide) rfl
          have hPc := hpd9.1
          have hDc := hpd9.2.1
          have hFc := hpd9.2.2
          clear hpd9
          refine va_calli (va_runS (As := [Value.int (iI (S j + 1))]) (rest := [Value.int (nI j), Value.ref m_likePrice]) ⟨hx, hb, hml, hown, hts⟩ (c_X12_above_z l dC dI aC H.size (S j + 1) (by unfold sm; omega)) ⟨(callB_of 1 hts (gG kw_907) rfl rfl rfl (hts _ (gw kw_13 rfl)) (hts _ (gw kw_905 rfl)) hd_X12_above ⟨Nat.le_of_ble_eq_true rfl, Nat.le_of_ble_eq_true rfl⟩), (hts _ (gw kw_906 rfl))⟩ ⟨fb_std, pre_std hPc hK hDc hN⟩ rfl rfl hl.1 rfl (lv_room (Nat.le_of_ble_eq_true rfl)) dX12_likeSays_57 ⟨Nat.le_of_ble_eq_true rfl, Nat.le_of_ble_eq_true rfl⟩) hS (fun q _ h => hFc q h) hFc (fun x_46 u9 t9 H1 locs ht hvm hw_46 hB hz1 hk1 hS => ?_)
          obtain ⟨hP1, hK1, hD1⟩ := hB
          rw [ht] at hP1
          clear hK1
          try dsimp only at hw_46
          have hpd9 : PDx (dC, dI) classes A H1 [cI aC m_likeGets 61 gf, cI aC m_likePrice 61 pc, oX12 g0 m_refused m_kind m_figure m_weight m_got m_setting men msy mdn m_tape m_letter m_letterAt m_told tp mat stm m_kept him ki crs m_price m_offer m_gets m_yes m_buys m_ends m_carried m_row rm m_keptRow m_likeGets m_likePrice m_ahead, cI aC m_setting 5 stf] := jn_N (wr := [cI aC m_likeGets 61 gf, cI aC m_likePrice 61 pc, oX12 g0 m_refused m_kind m_figure m_weight m_got m_setting men msy mdn m_tape m_letter m_letterAt m_told tp mat stm m_kept him ki crs m_price m_offer m_gets m_yes m_buys m_ends m_carried m_row rm m_keptRow m_likeGets m_likePrice m_ahead, cI aC m_setting 5 stf]) hFc hk1 hP1 hD1 hP hD [] [0, 1, 2, 3] rfl rfl (by decide) (by decide)
          have hP := hpd9.1
          have hD := hpd9.2
          clear hpd9
          generalize H1 = H at hP hS ⊢
          clear hPc hDc hFc hz1 hk1 hP1 hD1 ht hvm
          have h9 : x_46 = nI (ask (stf 2) (S j)) := by rw [hw_46]; unfold ask; rw [if_neg c_42]
          subst h9
          have h_47 : vp_in (nI j) 61 := vp_in_nI (by omega) (by omega)
          refine va_iast hx hb hK hP hD hS 1 0 rfl rfl h_47 dX12_likeSays_60 (fun H locs hP hD hS => ?_)
          obtain ⟨f_48, e_f_48⟩ : ∃ y : Nat → Int32, y = upd pc (nI j : Int32).toNatClampNeg (nI (ask (stf 2) (S j))) := ⟨_, rfl⟩
          have hpd9 : PDx (dC, dI) classes A H [cI aC m_likeGets 61 gf, cI aC m_likePrice 61 f_48, oX12 g0 m_refused m_kind m_figure m_weight m_got m_setting men msy mdn m_tape m_letter m_letterAt m_told tp mat stm m_kept him ki crs m_price m_offer m_gets m_yes m_buys m_ends m_carried m_row rm m_keptRow m_likeGets m_likePrice m_ahead, cI aC m_setting 5 stf] := by rw [e_f_48]; exact ⟨hP, hD⟩
          have hP := hpd9.1
          have hD := hpd9.2
          clear hpd9
          have hb2 : ∀ q, i < q → q < j + 1 → f_48 q = nI (ask (stf 2) (S q)) := fun q h1 h2 => by
            rw [e_f_48, nI_clamp (by omega)]
            by_cases e : q = j
            · rw [e, pk_us]
            · rw [pk_un e]; exact hpc q h1 (by omega)
          obtain ⟨x_49, e_49⟩ : ∃ y : Int32, y = (nI j) + 1 := ⟨_, rfl⟩
          refine lv_iinc (v := x_49) (lv' := [(5, Value.int x_49), (0, Value.ref g0), (1, Value.int (nI i)), (2, Value.int (nI n)), (3, Value.int (nI cq)), (4, Value.int (iI (((nd (stf 1) (n - i)) : Int) - 1)))]) hx hb dX12_likeSays_61 hl (k := 5) rfl (by rw [e_49]; rfl) (by decide) rfl (fun ls hl => ?_)
          have h9 : x_49 = nI (j + 1) := by rw [e_49, nI_1]
          subst h9
          refine lv_goto (tgt := 16) hx hb dX12_likeSays_64 (by decide) ?_
          exact ih_16 (j + 1) f_48 (ms_lt hlt hfu) (by omega) (hb2) _ _ _ (hP.sub [0, 1, 2, 3] rfl) (hD.sub [0, 1, 2, 3] (by decide) rfl) hS (lv_sub hl [1, 2, 3, 4, 5, 0] rfl)
        · refine lv_aload_n hx hb dX12_likeSays_38 rfl (lv_at hl 0 rfl) ?_
          refine va_get (D := (dC, dI)) (ci := 12) (v := Value.ref m_likeGets) (C := RX12) (T := TX12) (N := 33) hx hb hts inX12 hown hK hP 2 rfl rfl 30 (by decide) (hts _ (gw kw_747 rfl)) (fun _ h9 => h9) rfl dX12_likeSays_39 ?_
          refine lv_iload hx hb dX12_likeSays_42 (lv_at hl 5 rfl) ?_
          have h_50 : vp_in (nI j) 61 := vp_in_nI (by omega) (by omega)
          refine va_iald hx hb hK hP 0 0 rfl rfl h_50 dX12_likeSays_44 ?_
          refine lv_topi (fun x_51 e_51 => ?_)
          have h9 : x_51 = iI (S j) := by rw [e_51, nI_clamp (by omega)]; exact hs1
          subst h9
          refine lv_goto (tgt := 57) hx hb dX12_likeSays_45 (by decide) ?_
          have hpd9 := pdf_N (cx := []) hP hD hS hA [] (by decide) rfl
          have hPc := hpd9.1
          have hDc := hpd9.2.1
          have hFc := hpd9.2.2
          clear hpd9
          refine va_calli (va_runS (As := [Value.int (iI (S j))]) (rest := [Value.int (nI j), Value.ref m_likePrice]) ⟨hx, hb, hml, hown, hts⟩ (c_X12_above_z l dC dI aC H.size (S j) (by unfold sm; omega)) ⟨(callB_of 1 hts (gG kw_907) rfl rfl rfl (hts _ (gw kw_13 rfl)) (hts _ (gw kw_905 rfl)) hd_X12_above ⟨Nat.le_of_ble_eq_true rfl, Nat.le_of_ble_eq_true rfl⟩), (hts _ (gw kw_906 rfl))⟩ ⟨fb_std, pre_std hPc hK hDc hN⟩ rfl rfl hl.1 rfl (lv_room (Nat.le_of_ble_eq_true rfl)) dX12_likeSays_57 ⟨Nat.le_of_ble_eq_true rfl, Nat.le_of_ble_eq_true rfl⟩) hS (fun q _ h => hFc q h) hFc (fun x_52 u9 t9 H1 locs ht hvm hw_52 hB hz1 hk1 hS => ?_)
          obtain ⟨hP1, hK1, hD1⟩ := hB
          rw [ht] at hP1
          clear hK1
          try dsimp only at hw_52
          have hpd9 : PDx (dC, dI) classes A H1 [cI aC m_likeGets 61 gf, cI aC m_likePrice 61 pc, oX12 g0 m_refused m_kind m_figure m_weight m_got m_setting men msy mdn m_tape m_letter m_letterAt m_told tp mat stm m_kept him ki crs m_price m_offer m_gets m_yes m_buys m_ends m_carried m_row rm m_keptRow m_likeGets m_likePrice m_ahead, cI aC m_setting 5 stf] := jn_N (wr := [cI aC m_likeGets 61 gf, cI aC m_likePrice 61 pc, oX12 g0 m_refused m_kind m_figure m_weight m_got m_setting men msy mdn m_tape m_letter m_letterAt m_told tp mat stm m_kept him ki crs m_price m_offer m_gets m_yes m_buys m_ends m_carried m_row rm m_keptRow m_likeGets m_likePrice m_ahead, cI aC m_setting 5 stf]) hFc hk1 hP1 hD1 hP hD [] [0, 1, 2, 3] rfl rfl (by decide) (by decide)
          have hP := hpd9.1
          have hD := hpd9.2
          clear hpd9
          generalize H1 = H at hP hS ⊢
          clear hPc hDc hFc hz1 hk1 hP1 hD1 ht hvm
          have h9 : x_52 = nI (ask (stf 2) (S j)) := by rw [hw_52]; unfold ask; rw [if_pos c_42]
          subst h9
          have h_53 : vp_in (nI j) 61 := vp_in_nI (by omega) (by omega)
          refine va_iast hx hb hK hP hD hS 1 0 rfl rfl h_53 dX12_likeSays_60 (fun H locs hP hD hS => ?_)
          obtain ⟨f_54, e_f_54⟩ : ∃ y : Nat → Int32, y = upd pc (nI j : Int32).toNatClampNeg (nI (ask (stf 2) (S j))) := ⟨_, rfl⟩
          have hpd9 : PDx (dC, dI) classes A H [cI aC m_likeGets 61 gf, cI aC m_likePrice 61 f_54, oX12 g0 m_refused m_kind m_figure m_weight m_got m_setting men msy mdn m_tape m_letter m_letterAt m_told tp mat stm m_kept him ki crs m_price m_offer m_gets m_yes m_buys m_ends m_carried m_row rm m_keptRow m_likeGets m_likePrice m_ahead, cI aC m_setting 5 stf] := by rw [e_f_54]; exact ⟨hP, hD⟩
          have hP := hpd9.1
          have hD := hpd9.2
          clear hpd9
          have hb2 : ∀ q, i < q → q < j + 1 → f_54 q = nI (ask (stf 2) (S q)) := fun q h1 h2 => by
            rw [e_f_54, nI_clamp (by omega)]
            by_cases e : q = j
            · rw [e, pk_us]
            · rw [pk_un e]; exact hpc q h1 (by omega)
          obtain ⟨x_55, e_55⟩ : ∃ y : Int32, y = (nI j) + 1 := ⟨_, rfl⟩
          refine lv_iinc (v := x_55) (lv' := [(5, Value.int x_55), (0, Value.ref g0), (1, Value.int (nI i)), (2, Value.int (nI n)), (3, Value.int (nI cq)), (4, Value.int (iI (((nd (stf 1) (n - i)) : Int) - 1)))]) hx hb dX12_likeSays_61 hl (k := 5) rfl (by rw [e_55]; rfl) (by decide) rfl (fun ls hl => ?_)
          have h9 : x_55 = nI (j + 1) := by rw [e_55, nI_1]
          subst h9
          refine lv_goto (tgt := 16) hx hb dX12_likeSays_64 (by decide) ?_
          exact ih_16 (j + 1) f_54 (ms_lt hlt hfu) (by omega) (hb2) _ _ _ (hP.sub [0, 1, 2, 3] rfl) (hD.sub [0, 1, 2, 3] (by decide) rfl) hS (lv_sub hl [1, 2, 3, 4, 5, 0] rfl)
  exact lp_16 ((n - (i + 1)) + 1) (i + 1) pf (Nat.lt_succ_self _) (by omega) (fun q h1 h2 => by omega) _ _ _ (hP.sub [0, 1, 2, 3] rfl) (hD.sub [0, 1, 2, 3] (by decide) rfl) hS (lv_sub hl [2, 3, 4, 5, 1, 0] rfl)

set_option maxHeartbeats 1000000 in
set_option maxRecDepth 100000 in
/-- X12_alike -/
theorem c_X12_alike (l : Launch) (dC : Nat → ClassId) (dI : Nat → Nat → Nat) (aC : Nat → ClassId) (sz : Nat) (g0 : Nat) (m_refused : Nat) (m_kind : Nat) (m_figure : Nat) (m_weight : Nat) (m_got : Nat) (m_setting : Nat) (m_tape : Nat) (m_letter : Nat) (m_letterAt : Nat) (m_told : Nat) (m_kept : Nat) (m_price : Nat) (m_offer : Nat) (m_gets : Nat) (m_yes : Nat) (m_buys : Nat) (m_ends : Nat) (m_carried : Nat) (m_row : Nat) (m_keptRow : Nat) (m_likeGets : Nat) (m_likePrice : Nat) (m_ahead : Nat) (men : Int32) (msy : Int32) (mdn : Int32) (tp : Int32) (mat : Int32) (stm : Int32) (him : Int32) (ki : Int32) (crs : Int32) (rm : Int32) (mr : Nat → Int32) (stf : Nat → Int32) (gf : Nat → Int32) (pf : Nat → Int32) (a1 : Int32) (a2 : Int32) (a3 : Int32) (a4 : Int32)  : Met l yX12_alike (wW yX12_alike cX12_alike 8 (some .int)) ({ frames := 3, cells := 0, slots := 0, locals := 82 } : Room) (va_Pc [Value.ref g0, Value.int a1, Value.int a2, Value.int a3, Value.int a4] (fun U => U.heap.size = sz ∧ va_P (dC, dI) classes [oX12 g0 m_refused m_kind m_figure m_weight m_got m_setting men msy mdn m_tape m_letter m_letterAt m_told tp mat stm m_kept him ki crs m_price m_offer m_gets m_yes m_buys m_ends m_carried m_row rm m_keptRow m_likeGets m_likePrice m_ahead, cI aC m_setting 5 stf, cI aC m_likeGets 61 gf, cI aC m_likePrice 61 pf, cI aC m_refused 7 mr] U.heap ∧ va_K (dC, dI) classes (TY aC) U ∧ va_D (fun _ => True) [oX12 g0 m_refused m_kind m_figure m_weight m_got m_setting men msy mdn m_tape m_letter m_letterAt m_told tp mat stm m_kept him ki crs m_price m_offer m_gets m_yes m_buys m_ends m_carried m_row rm m_keptRow m_likeGets m_likePrice m_ahead, cI aC m_setting 5 stf, cI aC m_likeGets 61 gf, cI aC m_likePrice 61 pf, cI aC m_refused 7 mr] ∧ NX U)) (va_Qi (fun (r : Int32) (u : (Nat → Int32) × (Nat → Int32) × (Nat → Int32)) => match u with | (lgg, lpg, mr2) => r = ALK stf a1 a2 a3 a4) (fun (u : (Nat → Int32) × (Nat → Int32) × (Nat → Int32)) (t : State) => match u with | (lgg, lpg, mr2) => va_P (dC, dI) classes [oX12 g0 m_refused m_kind m_figure m_weight m_got m_setting men msy mdn m_tape m_letter m_letterAt m_told tp mat stm m_kept him ki crs m_price m_offer m_gets m_yes m_buys m_ends m_carried m_row rm m_keptRow m_likeGets m_likePrice m_ahead, cI aC m_setting 5 stf, cI aC m_likeGets 61 lgg, cI aC m_likePrice 61 lpg, cI aC m_refused 7 mr2] t.heap ∧ va_K (dC, dI) classes (TY aC) t ∧ va_D (va_A [oX12 g0 m_refused m_kind m_figure m_weight m_got m_setting men msy mdn m_tape m_letter m_letterAt m_told tp mat stm m_kept him ki crs m_price m_offer m_gets m_yes m_buys m_ends m_carried m_row rm m_keptRow m_likeGets m_likePrice m_ahead, cI aC m_setting 5 stf, cI aC m_likeGets 61 gf, cI aC m_likePrice 61 pf, cI aC m_refused 7 mr] sz) [oX12 g0 m_refused m_kind m_figure m_weight m_got m_setting men msy mdn m_tape m_letter m_letterAt m_told tp mat stm m_kept him ki crs m_price m_offer m_gets m_yes m_buys m_ends m_carried m_row rm m_keptRow m_likeGets m_likePrice m_ahead, cI aC m_setting 5 stf, cI aC m_likeGets 61 lgg, cI aC m_likePrice 61 lpg, cI aC m_refused 7 mr2]) (va_A [oX12 g0 m_refused m_kind m_figure m_weight m_got m_setting men msy mdn m_tape m_letter m_letterAt m_told tp mat stm m_kept him ki crs m_price m_offer m_gets m_yes m_buys m_ends m_carried m_row rm m_keptRow m_likeGets m_likePrice m_ahead, cI aC m_setting 5 stf, cI aC m_likeGets 61 gf, cI aC m_likePrice 61 pf, cI aC m_refused 7 mr] sz)) 0 0 (va_A [oX12 g0 m_refused m_kind m_figure m_weight m_got m_setting men msy mdn m_tape m_letter m_letterAt m_told tp mat stm m_kept him ki crs m_price m_offer m_gets m_yes m_buys m_ends m_carried m_row rm m_keptRow m_likeGets m_likePrice m_ahead, cI aC m_setting 5 stf, cI aC m_likeGets 61 gf, cI aC m_likePrice 61 pf, cI aC m_refused 7 mr] sz) := by
  refine Met.ofW (cc := cX12_alike) (maxL := 8) (ret := (some .int)) (by decide) rfl ?_
  intro p e s m args below meth c s₁ B hml hv
  obtain ⟨rfl, hsz, hP, hK, hD0, hN⟩ := hv
  have hx := B.exec
  have hb := B.bytes
  have hr := B.returns
  have hts0 := atoms_spec (ws := (wW yX12_alike cX12_alike 8 (some .int))) B.pre
  have hts : ∀ w9 ∈ lw_G, w9.before ([Value.ref g0, Value.int a1, Value.int a2, Value.int a3, Value.int a4] : List Value).toArray s = true := fun w9 h9 => hts0 w9 (List.mem_cons_of_mem _ h9)
  have hown : s.vm.findClass RX12 = some m.cls := findClass_of_methodNamed (x := yX12_alike) B.named
  have hlocks := B.notSynchronized
  subst hsz
  have hD := hD0.self (sz := s.heap.size)
  generalize hAe : va_A [oX12 g0 m_refused m_kind m_figure m_weight m_got m_setting men msy mdn m_tape m_letter m_letterAt m_told tp mat stm m_kept him ki crs m_price m_offer m_gets m_yes m_buys m_ends m_carried m_row rm m_keptRow m_likeGets m_likePrice m_ahead, cI aC m_setting 5 stf, cI aC m_likeGets 61 gf, cI aC m_likePrice 61 pf, cI aC m_refused 7 mr] s.heap.size = A at hD ⊢
  have hA : ∀ q : Nat, s.heap.size ≤ q → A q := fun q h => by rw [← hAe]; exact Or.inr h
  obtain ⟨H, hHe⟩ : ∃ H : Heap, H = s.heap := ⟨_, rfl⟩
  have hS : va_S A s.heap H [] := by rw [hHe]; exact va_S.rf
  have hP : va_P (dC, dI) classes [oX12 g0 m_refused m_kind m_figure m_weight m_got m_setting men msy mdn m_tape m_letter m_letterAt m_told tp mat stm m_kept him ki crs m_price m_offer m_gets m_yes m_buys m_ends m_carried m_row rm m_keptRow m_likeGets m_likePrice m_ahead, cI aC m_setting 5 stf, cI aC m_likeGets 61 gf, cI aC m_likePrice 61 pf, cI aC m_refused 7 mr] H := by rw [hHe]; exact hP
  have hl := lv_entry ([Value.ref g0, Value.int a1, Value.int a2, Value.int a3, Value.int a4]) (n := 8) (Nat.le_of_ble_eq_true rfl)
  rw [lg_entry_eq]
  generalize (lg_sl ([Value.ref g0, Value.int a1, Value.int a2, Value.int a3, Value.int a4]) ++ List.replicate (8 - (lg_sl ([Value.ref g0, Value.int a1, Value.int a2, Value.int a3, Value.int a4])).length) Slot.unset).toArray = ls at hl ⊢
  have hl : lv_has ls 8 [(0, Value.ref g0), (1, Value.int a1), (2, Value.int a2), (3, Value.int a3), (4, Value.int a4)] := hl
  rw [← hHe]
  refine lv_iload_n hx hb dX12_alike_0 rfl (lv_at hl 1 rfl) ?_
  refine lv_iconst (v := 1) hx hb dX12_alike_1 (by decide) ?_
  refine lv_icmp_lt (tgt := 13) hx hb dX12_alike_2 (by decide) (fun c_1 => ?_) (fun c_1 => ?_)
  · refine lv_bipush (v := -4) hx hb dX12_alike_13 (by decide) ?_
    refine lv_goto (tgt := 41) hx hb dX12_alike_15 (by decide) ?_
    refine lv_istore (lv' := [(5, Value.int (-4)), (0, Value.ref g0), (1, Value.int a1), (2, Value.int a2), (3, Value.int a3), (4, Value.int a4)]) hx hb dX12_alike_41 hl (by decide) rfl (fun ls hl => ?_)
    refine lv_iload hx hb dX12_alike_43 (lv_at hl 0 rfl) ?_
    refine lv_if_eq (tgt := 55) hx hb dX12_alike_45 (by decide) (fun c_2 => ?_) (fun c_2 => ?_)
    · exact absurd c_2 (by decide)
    · refine lv_aload_n hx hb dX12_alike_48 rfl (lv_at hl 1 rfl) ?_
      refine lv_iload hx hb dX12_alike_49 (lv_at hl 0 rfl) ?_
      have hpd9 := pdf_N (cx := [oX12 g0 m_refused m_kind m_figure m_weight m_got m_setting men msy mdn m_tape m_letter m_letterAt m_told tp mat stm m_kept him ki crs m_price m_offer m_gets m_yes m_buys m_ends m_carried m_row rm m_keptRow m_likeGets m_likePrice m_ahead, cI aC m_refused 7 mr]) hP hD hS hA [0, 4] (by decide) rfl
      have hPc := hpd9.1
      have hDc := hpd9.2.1
      have hFc := hpd9.2.2
      clear hpd9
      refine va_calli (va_runV (As := [Value.int (-4)]) (rest := []) ⟨hx, hb, hml, hown, hts⟩ (c_X12_lower l dC dI aC H.size g0 m_refused m_kind m_figure m_weight m_got m_setting m_tape m_letter m_letterAt m_told m_kept m_price m_offer m_gets m_yes m_buys m_ends m_carried m_row m_keptRow m_likeGets m_likePrice m_ahead men msy mdn tp mat stm him ki crs rm (-4) 4 mr (by decide) (by unfold vp_in; decide)) ⟨(callB_of 1 hts (gG kw_973) rfl rfl rfl (hts _ (gw kw_13 rfl)) (hts _ (gw kw_970 rfl)) hd_X12_lower ⟨Nat.le_of_ble_eq_true rfl, Nat.le_of_ble_eq_true rfl⟩), (hts _ (gw kw_972 rfl)), (hts _ (gw ks_57 rfl))⟩ ⟨fb_std, va_recv (q := (RX12, TX12, 33)) hK hPc (ci := 12) (q0 := 0) rfl rfl, pre_std hPc hK hDc hN⟩ rfl rfl hl.1 rfl (lv_room (Nat.le_of_ble_eq_true rfl)) dX12_alike_51 ⟨Nat.le_of_ble_eq_true rfl, Nat.le_of_ble_eq_true rfl⟩) hS (fun q _ h => hFc q h) hFc (fun x_3 u9 t9 H1 locs ht hvm hw_3 hB hz1 hk1 hS => ?_)
      obtain ⟨u_4, rfl⟩ : ∃ z, z = u9 := ⟨_, rfl⟩
      obtain ⟨hP1, hK1, hD1⟩ := hB
      rw [ht] at hP1
      clear hK1
      try dsimp only at hw_3
      have hpd9 : PDx (dC, dI) classes A H1 [cI aC m_setting 5 stf, cI aC m_likeGets 61 gf, cI aC m_likePrice 61 pf, oX12 g0 m_refused m_kind m_figure m_weight m_got m_setting men msy mdn m_tape m_letter m_letterAt m_told tp mat stm m_kept him ki crs m_price m_offer m_gets m_yes m_buys m_ends m_carried m_row rm m_keptRow m_likeGets m_likePrice m_ahead, cI aC m_refused 7 u_4] := jn_N (wr := [cI aC m_setting 5 stf, cI aC m_likeGets 61 gf, cI aC m_likePrice 61 pf]) hFc hk1 hP1 hD1 hP hD [0, 4] [1, 2, 3] rfl rfl (by decide) (by decide)
      have hP := hpd9.1
      have hD := hpd9.2
      clear hpd9
      generalize H1 = H at hP hS ⊢
      clear hPc hDc hFc hz1 hk1 hP1 hD1 ht hvm
      obtain ⟨hv9, -⟩ := hw_3
      have hpd9 := pd_N (cx := [oX12 g0 m_refused m_kind m_figure m_weight m_got m_setting men msy mdn m_tape m_letter m_letterAt m_told tp mat stm m_kept him ki crs m_price m_offer m_gets m_yes m_buys m_ends m_carried m_row rm m_keptRow m_likeGets m_likePrice m_ahead, cI aC m_setting 5 stf, cI aC m_likeGets 61 gf, cI aC m_likePrice 61 pf, cI aC m_refused 7 u_4]) hP hD [3, 0, 1, 2, 4] (by decide) rfl
      have hP9 := hpd9.1
      have hD9 := hpd9.2
      refine W.widen (k := 0) (n := 0) (by omega) (by omega) ?_
      exact W.iret (v := x_3) hx hb hr (fun t ht hW => ⟨⟨x_3, (gf, pf, u_4), rfl, by rw [hv9, alk_4 (Or.inl c_1)]; rfl, by rw [ht]; exact hP9, va_K.moved hW.alike hK, hD9⟩, hS.F ht⟩) hS.2.2 dX12_alike_54
  · refine lv_iload_n hx hb dX12_alike_5 rfl (lv_at hl 2 rfl) ?_
    refine lv_if_lt (tgt := 13) hx hb dX12_alike_6 (by decide) (fun c_5 => ?_) (fun c_5 => ?_)
    · refine lv_bipush (v := -4) hx hb dX12_alike_13 (by decide) ?_
      refine lv_goto (tgt := 41) hx hb dX12_alike_15 (by decide) ?_
      refine lv_istore (lv' := [(5, Value.int (-4)), (0, Value.ref g0), (1, Value.int a1), (2, Value.int a2), (3, Value.int a3), (4, Value.int a4)]) hx hb dX12_alike_41 hl (by decide) rfl (fun ls hl => ?_)
      refine lv_iload hx hb dX12_alike_43 (lv_at hl 0 rfl) ?_
      refine lv_if_eq (tgt := 55) hx hb dX12_alike_45 (by decide) (fun c_6 => ?_) (fun c_6 => ?_)
      · exact absurd c_6 (by decide)
      · refine lv_aload_n hx hb dX12_alike_48 rfl (lv_at hl 1 rfl) ?_
        refine lv_iload hx hb dX12_alike_49 (lv_at hl 0 rfl) ?_
        have hpd9 := pdf_N (cx := [oX12 g0 m_refused m_kind m_figure m_weight m_got m_setting men msy mdn m_tape m_letter m_letterAt m_told tp mat stm m_kept him ki crs m_price m_offer m_gets m_yes m_buys m_ends m_carried m_row rm m_keptRow m_likeGets m_likePrice m_ahead, cI aC m_refused 7 mr]) hP hD hS hA [0, 4] (by decide) rfl
        have hPc := hpd9.1
        have hDc := hpd9.2.1
        have hFc := hpd9.2.2
        clear hpd9
        refine va_calli (va_runV (As := [Value.int (-4)]) (rest := []) ⟨hx, hb, hml, hown, hts⟩ (c_X12_lower l dC dI aC H.size g0 m_refused m_kind m_figure m_weight m_got m_setting m_tape m_letter m_letterAt m_told m_kept m_price m_offer m_gets m_yes m_buys m_ends m_carried m_row m_keptRow m_likeGets m_likePrice m_ahead men msy mdn tp mat stm him ki crs rm (-4) 4 mr (by decide) (by unfold vp_in; decide)) ⟨(callB_of 1 hts (gG kw_973) rfl rfl rfl (hts _ (gw kw_13 rfl)) (hts _ (gw kw_970 rfl)) hd_X12_lower ⟨Nat.le_of_ble_eq_true rfl, Nat.le_of_ble_eq_true rfl⟩), (hts _ (gw kw_972 rfl)), (hts _ (gw ks_57 rfl))⟩ ⟨fb_std, va_recv (q := (RX12, TX12, 33)) hK hPc (ci := 12) (q0 := 0) rfl rfl, pre_std hPc hK hDc hN⟩ rfl rfl hl.1 rfl (lv_room (Nat.le_of_ble_eq_true rfl)) dX12_alike_51 ⟨Nat.le_of_ble_eq_true rfl, Nat.le_of_ble_eq_true rfl⟩) hS (fun q _ h => hFc q h) hFc (fun x_7 u9 t9 H1 locs ht hvm hw_7 hB hz1 hk1 hS => ?_)
        obtain ⟨u_8, rfl⟩ : ∃ z, z = u9 := ⟨_, rfl⟩
        obtain ⟨hP1, hK1, hD1⟩ := hB
        rw [ht] at hP1
        clear hK1
        try dsimp only at hw_7
        have hpd9 : PDx (dC, dI) classes A H1 [cI aC m_setting 5 stf, cI aC m_likeGets 61 gf, cI aC m_likePrice 61 pf, oX12 g0 m_refused m_kind m_figure m_weight m_got m_setting men msy mdn m_tape m_letter m_letterAt m_told tp mat stm m_kept him ki crs m_price m_offer m_gets m_yes m_buys m_ends m_carried m_row rm m_keptRow m_likeGets m_likePrice m_ahead, cI aC m_refused 7 u_8] := jn_N (wr := [cI aC m_setting 5 stf, cI aC m_likeGets 61 gf, cI aC m_likePrice 61 pf]) hFc hk1 hP1 hD1 hP hD [0, 4] [1, 2, 3] rfl rfl (by decide) (by decide)
        have hP := hpd9.1
        have hD := hpd9.2
        clear hpd9
        generalize H1 = H at hP hS ⊢
        clear hPc hDc hFc hz1 hk1 hP1 hD1 ht hvm
        obtain ⟨hv9, -⟩ := hw_7
        have hpd9 := pd_N (cx := [oX12 g0 m_refused m_kind m_figure m_weight m_got m_setting men msy mdn m_tape m_letter m_letterAt m_told tp mat stm m_kept him ki crs m_price m_offer m_gets m_yes m_buys m_ends m_carried m_row rm m_keptRow m_likeGets m_likePrice m_ahead, cI aC m_setting 5 stf, cI aC m_likeGets 61 gf, cI aC m_likePrice 61 pf, cI aC m_refused 7 u_8]) hP hD [3, 0, 1, 2, 4] (by decide) rfl
        have hP9 := hpd9.1
        have hD9 := hpd9.2
        refine W.widen (k := 0) (n := 0) (by omega) (by omega) ?_
        exact W.iret (v := x_7) hx hb hr (fun t ht hW => ⟨⟨x_7, (gf, pf, u_8), rfl, by rw [hv9, alk_4 (Or.inr (Or.inl c_5))]; rfl, by rw [ht]; exact hP9, va_K.moved hW.alike hK, hD9⟩, hS.F ht⟩) hS.2.2 dX12_alike_54
    · refine lv_iload_n hx hb dX12_alike_9 rfl (lv_at hl 3 rfl) ?_
      refine lv_if_ge (tgt := 18) hx hb dX12_alike_10 (by decide) (fun c_9 => ?_) (fun c_9 => ?_)
      · refine lv_iload_n hx hb dX12_alike_18 rfl (lv_at hl 1 rfl) ?_
        refine lv_bipush (v := 60) hx hb dX12_alike_19 (by decide) ?_
        refine lv_icmp_gt (tgt := 35) hx hb dX12_alike_21 (by decide) (fun c_10 => ?_) (fun c_10 => ?_)
        · refine lv_bipush (v := -6) hx hb dX12_alike_35 (by decide) ?_
          refine lv_goto (tgt := 41) hx hb dX12_alike_37 (by decide) ?_
          refine lv_istore (lv' := [(5, Value.int (-6)), (0, Value.ref g0), (1, Value.int a1), (2, Value.int a2), (3, Value.int a3), (4, Value.int a4)]) hx hb dX12_alike_41 hl (by decide) rfl (fun ls hl => ?_)
          refine lv_iload hx hb dX12_alike_43 (lv_at hl 0 rfl) ?_
          refine lv_if_eq (tgt := 55) hx hb dX12_alike_45 (by decide) (fun c_11 => ?_) (fun c_11 => ?_)
          · exact absurd c_11 (by decide)
          · refine lv_aload_n hx hb dX12_alike_48 rfl (lv_at hl 1 rfl) ?_
            refine lv_iload hx hb dX12_alike_49 (lv_at hl 0 rfl) ?_
            have hpd9 := pdf_N (cx := [oX12 g0 m_refused m_kind m_figure m_weight m_got m_setting men msy mdn m_tape m_letter m_letterAt m_told tp mat stm m_kept him ki crs m_price m_offer m_gets m_yes m_buys m_ends m_carried m_row rm m_keptRow m_likeGets m_likePrice m_ahead, cI aC m_refused 7 mr]) hP hD hS hA [0, 4] (by decide) rfl
            have hPc := hpd9.1
            have hDc := hpd9.2.1
            have hFc := hpd9.2.2
            clear hpd9
            refine va_calli (va_runV (As := [Value.int (-6)]) (rest := []) ⟨hx, hb, hml, hown, hts⟩ (c_X12_lower l dC dI aC H.size g0 m_refused m_kind m_figure m_weight m_got m_setting m_tape m_letter m_letterAt m_told m_kept m_price m_offer m_gets m_yes m_buys m_ends m_carried m_row m_keptRow m_likeGets m_likePrice m_ahead men msy mdn tp mat stm him ki crs rm (-6) 6 mr (by decide) (by unfold vp_in; decide)) ⟨(callB_of 1 hts (gG kw_973) rfl rfl rfl (hts _ (gw kw_13 rfl)) (hts _ (gw kw_970 rfl)) hd_X12_lower ⟨Nat.le_of_ble_eq_true rfl, Nat.le_of_ble_eq_true rfl⟩), (hts _ (gw kw_972 rfl)), (hts _ (gw ks_57 rfl))⟩ ⟨fb_std, va_recv (q := (RX12, TX12, 33)) hK hPc (ci := 12) (q0 := 0) rfl rfl, pre_std hPc hK hDc hN⟩ rfl rfl hl.1 rfl (lv_room (Nat.le_of_ble_eq_true rfl)) dX12_alike_51 ⟨Nat.le_of_ble_eq_true rfl, Nat.le_of_ble_eq_true rfl⟩) hS (fun q _ h => hFc q h) hFc (fun x_12 u9 t9 H1 locs ht hvm hw_12 hB hz1 hk1 hS => ?_)
            obtain ⟨u_13, rfl⟩ : ∃ z, z = u9 := ⟨_, rfl⟩
            obtain ⟨hP1, hK1, hD1⟩ := hB
            rw [ht] at hP1
            clear hK1
            try dsimp only at hw_12
            have hpd9 : PDx (dC, dI) classes A H1 [cI aC m_setting 5 stf, cI aC m_likeGets 61 gf, cI aC m_likePrice 61 pf, oX12 g0 m_refused m_kind m_figure m_weight m_got m_setting men msy mdn m_tape m_letter m_letterAt m_told tp mat stm m_kept him ki crs m_price m_offer m_gets m_yes m_buys m_ends m_carried m_row rm m_keptRow m_likeGets m_likePrice m_ahead, cI aC m_refused 7 u_13] := jn_N (wr := [cI aC m_setting 5 stf, cI aC m_likeGets 61 gf, cI aC m_likePrice 61 pf]) hFc hk1 hP1 hD1 hP hD [0, 4] [1, 2, 3] rfl rfl (by decide) (by decide)
            have hP := hpd9.1
            have hD := hpd9.2
            clear hpd9
            generalize H1 = H at hP hS ⊢
            clear hPc hDc hFc hz1 hk1 hP1 hD1 ht hvm
            obtain ⟨hv9, -⟩ := hw_12
            have hpd9 := pd_N (cx := [oX12 g0 m_refused m_kind m_figure m_weight m_got m_setting men msy mdn m_tape m_letter m_letterAt m_told tp mat stm m_kept him ki crs m_price m_offer m_gets m_yes m_buys m_ends m_carried m_row rm m_keptRow m_likeGets m_likePrice m_ahead, cI aC m_setting 5 stf, cI aC m_likeGets 61 gf, cI aC m_likePrice 61 pf, cI aC m_refused 7 u_13]) hP hD [3, 0, 1, 2, 4] (by decide) rfl
            have hP9 := hpd9.1
            have hD9 := hpd9.2
            refine W.widen (k := 0) (n := 0) (by omega) (by omega) ?_
            exact W.iret (v := x_12) hx hb hr (fun t ht hW => ⟨⟨x_12, (gf, pf, u_13), rfl, by rw [hv9, alk_6 c_1 c_5 c_9 (Or.inl c_10)]; rfl, by rw [ht]; exact hP9, va_K.moved hW.alike hK, hD9⟩, hS.F ht⟩) hS.2.2 dX12_alike_54
        · refine lv_iload_n hx hb dX12_alike_24 rfl (lv_at hl 2 rfl) ?_
          refine lv_bipush (v := 99) hx hb dX12_alike_25 (by decide) ?_
          refine lv_icmp_gt (tgt := 35) hx hb dX12_alike_27 (by decide) (fun c_14 => ?_) (fun c_14 => ?_)
          · refine lv_bipush (v := -6) hx hb dX12_alike_35 (by decide) ?_
            refine lv_goto (tgt := 41) hx hb dX12_alike_37 (by decide) ?_
            refine lv_istore (lv' := [(5, Value.int (-6)), (0, Value.ref g0), (1, Value.int a1), (2, Value.int a2), (3, Value.int a3), (4, Value.int a4)]) hx hb dX12_alike_41 hl (by decide) rfl (fun ls hl => ?_)
            refine lv_iload hx hb dX12_alike_43 (lv_at hl 0 rfl) ?_
            refine lv_if_eq (tgt := 55) hx hb dX12_alike_45 (by decide) (fun c_15 => ?_) (fun c_15 => ?_)
            · exact absurd c_15 (by decide)
            · refine lv_aload_n hx hb dX12_alike_48 rfl (lv_at hl 1 rfl) ?_
              refine lv_iload hx hb dX12_alike_49 (lv_at hl 0 rfl) ?_
              have hpd9 := pdf_N (cx := [oX12 g0 m_refused m_kind m_figure m_weight m_got m_setting men msy mdn m_tape m_letter m_letterAt m_told tp mat stm m_kept him ki crs m_price m_offer m_gets m_yes m_buys m_ends m_carried m_row rm m_keptRow m_likeGets m_likePrice m_ahead, cI aC m_refused 7 mr]) hP hD hS hA [0, 4] (by decide) rfl
              have hPc := hpd9.1
              have hDc := hpd9.2.1
              have hFc := hpd9.2.2
              clear hpd9
              refine va_calli (va_runV (As := [Value.int (-6)]) (rest := []) ⟨hx, hb, hml, hown, hts⟩ (c_X12_lower l dC dI aC H.size g0 m_refused m_kind m_figure m_weight m_got m_setting m_tape m_letter m_letterAt m_told m_kept m_price m_offer m_gets m_yes m_buys m_ends m_carried m_row m_keptRow m_likeGets m_likePrice m_ahead men msy mdn tp mat stm him ki crs rm (-6) 6 mr (by decide) (by unfold vp_in; decide)) ⟨(callB_of 1 hts (gG kw_973) rfl rfl rfl (hts _ (gw kw_13 rfl)) (hts _ (gw kw_970 rfl)) hd_X12_lower ⟨Nat.le_of_ble_eq_true rfl, Nat.le_of_ble_eq_true rfl⟩), (hts _ (gw kw_972 rfl)), (hts _ (gw ks_57 rfl))⟩ ⟨fb_std, va_recv (q := (RX12, TX12, 33)) hK hPc (ci := 12) (q0 := 0) rfl rfl, pre_std hPc hK hDc hN⟩ rfl rfl hl.1 rfl (lv_room (Nat.le_of_ble_eq_true rfl)) dX12_alike_51 ⟨Nat.le_of_ble_eq_true rfl, Nat.le_of_ble_eq_true rfl⟩) hS (fun q _ h => hFc q h) hFc (fun x_16 u9 t9 H1 locs ht hvm hw_16 hB hz1 hk1 hS => ?_)
              obtain ⟨u_17, rfl⟩ : ∃ z, z = u9 := ⟨_, rfl⟩
              obtain ⟨hP1, hK1, hD1⟩ := hB
              rw [ht] at hP1
              clear hK1
              try dsimp only at hw_16
              have hpd9 : PDx (dC, dI) classes A H1 [cI aC m_setting 5 stf, cI aC m_likeGets 61 gf, cI aC m_likePrice 61 pf, oX12 g0 m_refused m_kind m_figure m_weight m_got m_setting men msy mdn m_tape m_letter m_letterAt m_told tp mat stm m_kept him ki crs m_price m_offer m_gets m_yes m_buys m_ends m_carried m_row rm m_keptRow m_likeGets m_likePrice m_ahead, cI aC m_refused 7 u_17] := jn_N (wr := [cI aC m_setting 5 stf, cI aC m_likeGets 61 gf, cI aC m_likePrice 61 pf]) hFc hk1 hP1 hD1 hP hD [0, 4] [1, 2, 3] rfl rfl (by decide) (by decide)
              have hP := hpd9.1
              have hD := hpd9.2
              clear hpd9
              generalize H1 = H at hP hS ⊢
              clear hPc hDc hFc hz1 hk1 hP1 hD1 ht hvm
              obtain ⟨hv9, -⟩ := hw_16
              have hpd9 := pd_N (cx := [oX12 g0 m_refused m_kind m_figure m_weight m_got m_setting men msy mdn m_tape m_letter m_letterAt m_told tp mat stm m_kept him ki crs m_price m_offer m_gets m_yes m_buys m_ends m_carried m_row rm m_keptRow m_likeGets m_likePrice m_ahead, cI aC m_setting 5 stf, cI aC m_likeGets 61 gf, cI aC m_likePrice 61 pf, cI aC m_refused 7 u_17]) hP hD [3, 0, 1, 2, 4] (by decide) rfl
              have hP9 := hpd9.1
              have hD9 := hpd9.2
              refine W.widen (k := 0) (n := 0) (by omega) (by omega) ?_
              exact W.iret (v := x_16) hx hb hr (fun t ht hW => ⟨⟨x_16, (gf, pf, u_17), rfl, by rw [hv9, alk_6 c_1 c_5 c_9 (Or.inr (Or.inl c_14))]; rfl, by rw [ht]; exact hP9, va_K.moved hW.alike hK, hD9⟩, hS.F ht⟩) hS.2.2 dX12_alike_54
          · refine lv_iload_n hx hb dX12_alike_30 rfl (lv_at hl 3 rfl) ?_
            refine lv_iload_n hx hb dX12_alike_31 rfl (lv_at hl 1 rfl) ?_
            refine lv_icmp_lt (tgt := 40) hx hb dX12_alike_32 (by decide) (fun c_18 => ?_) (fun c_18 => ?_)
            · refine lv_iconst (v := 0) hx hb dX12_alike_40 (by decide) ?_
              refine lv_istore (lv' := [(5, Value.int 0), (0, Value.ref g0), (1, Value.int a1), (2, Value.int a2), (3, Value.int a3), (4, Value.int a4)]) hx hb dX12_alike_41 hl (by decide) rfl (fun ls hl => ?_)
              refine lv_iload hx hb dX12_alike_43 (lv_at hl 0 rfl) ?_
              refine lv_if_eq (tgt := 55) hx hb dX12_alike_45 (by decide) (fun c_19 => ?_) (fun c_19 => ?_)
              · obtain ⟨n, hn2, hn3⟩ := al_of (x := a1) (M := 60) (N := 60) rfl (lt1_0 c_1) c_10
                subst hn3
                have hn1 := al_n c_1 hn2
                obtain ⟨cq, hc, hc3⟩ := al_of (x := a2) (M := 99) (N := 99) rfl c_5 c_14
                subst hc3
                obtain ⟨k, hk1, hk3⟩ := nI_of (x := a3) (Int32.not_lt.mpr c_9)
                subst hk3
                have hk : k < n := (nI_ltI hk1 (by omega)).mp c_18
                refine lv_iconst (v := 0) hx hb dX12_alike_55 (by decide) ?_
                refine lv_istore (lv' := [(6, Value.int 0), (5, Value.int 0), (0, Value.ref g0), (1, Value.int (nI n)), (2, Value.int (nI cq)), (3, Value.int (nI k)), (4, Value.int a4)]) hx hb dX12_alike_56 hl (by decide) rfl (fun ls hl => ?_)
                refine lv_iload_n hx hb dX12_alike_58 rfl (lv_at hl 3 rfl) ?_
                refine lv_iconst (v := 1) hx hb dX12_alike_59 (by decide) ?_
                refine lv_isub hx hb dX12_alike_60 ?_
                refine lv_topi (fun x_20 e_20 => ?_)
                refine lv_istore (lv' := [(7, Value.int x_20), (6, Value.int 0), (5, Value.int 0), (0, Value.ref g0), (1, Value.int (nI n)), (2, Value.int (nI cq)), (3, Value.int (nI k)), (4, Value.int a4)]) hx hb dX12_alike_61 hl (by decide) rfl (fun ls hl => ?_)
                have lp_63 : ∀ (fu : Nat) (kk : Nat) (x6 : Int32) (x7 : Int32) (gc : Nat → Int32) (pc : Nat → Int32) (hfu : kk < fu) (hkk : kk ≤ n) (hx7 : x7 = iI ((kk : Int) - 1)) (hgc : ∀ j, kk ≤ j → j < n → gc j = iI (FSm (stf 1) (stf 2) (stf 3) cq n (n - kk) j)) (his : kk < n → (x6 = 1 ∧ ¬ FSm (stf 1) (stf 2) (stf 3) cq n (n - kk) kk = -1) ∨ (x6 = 0 ∧ FSm (stf 1) (stf 2) (stf 3) cq n (n - kk) kk = -1)) (H : Heap) (locs : List Loc) (ls : Array Slot), va_P (dC, dI) classes [oX12 g0 m_refused m_kind m_figure m_weight m_got m_setting men msy mdn m_tape m_letter m_letterAt m_told tp mat stm m_kept him ki crs m_price m_offer m_gets m_yes m_buys m_ends m_carried m_row rm m_keptRow m_likeGets m_likePrice m_ahead, cI aC m_setting 5 stf, cI aC m_likeGets 61 gc, cI aC m_likePrice 61 pc, cI aC m_refused 7 mr] H → va_D A [oX12 g0 m_refused m_kind m_figure m_weight m_got m_setting men msy mdn m_tape m_letter m_letterAt m_told tp mat stm m_kept him ki crs m_price m_offer m_gets m_yes m_buys m_ends m_carried m_row rm m_keptRow m_likeGets m_likePrice m_ahead, cI aC m_setting 5 stf, cI aC m_likeGets 61 gc, cI aC m_likePrice 61 pc, cI aC m_refused 7 mr] → va_S A s.heap H locs → lv_has ls 8 [(0, Value.ref g0), (1, Value.int (nI n)), (2, Value.int (nI cq)), (3, Value.int (nI k)), (4, Value.int a4), (6, Value.int x6), (7, Value.int x7)] → W p l e (headSpec (wW yX12_alike cX12_alike 8 (some .int)) ({ frames := 3, cells := 0, slots := 0, locals := 82 } : Room)).room s m ([Value.ref g0, Value.int (nI n), Value.int (nI cq), Value.int (nI k), Value.int a4] : List Value).toArray below meth c H locs 0 0 (MQ below (va_Qi (fun (r : Int32) (u : (Nat → Int32) × (Nat → Int32) × (Nat → Int32)) => match u with | (lgg, lpg, mr2) => r = ALK stf (nI n) (nI cq) (nI k) a4) (fun (u : (Nat → Int32) × (Nat → Int32) × (Nat → Int32)) (t : State) => match u with | (lgg, lpg, mr2) => va_P (dC, dI) classes [oX12 g0 m_refused m_kind m_figure m_weight m_got m_setting men msy mdn m_tape m_letter m_letterAt m_told tp mat stm m_kept him ki crs m_price m_offer m_gets m_yes m_buys m_ends m_carried m_row rm m_keptRow m_likeGets m_likePrice m_ahead, cI aC m_setting 5 stf, cI aC m_likeGets 61 lgg, cI aC m_likePrice 61 lpg, cI aC m_refused 7 mr2] t.heap ∧ va_K (dC, dI) classes (TY aC) t ∧ va_D A [oX12 g0 m_refused m_kind m_figure m_weight m_got m_setting men msy mdn m_tape m_letter m_letterAt m_told tp mat stm m_kept him ki crs m_price m_offer m_gets m_yes m_buys m_ends m_carried m_row rm m_keptRow m_likeGets m_likePrice m_ahead, cI aC m_setting 5 stf, cI aC m_likeGets 61 lgg, cI aC m_likePrice 61 lpg, cI aC m_refused 7 mr2]) A) ([Value.ref g0, Value.int (nI n), Value.int (nI cq), Value.int (nI k), Value.int a4] : List Value).toArray s 0 0 A) (F0 m 63 ls []) := by
                  intro fu
                  induction fu with
                  | zero => intro kk x6 x7 gc pc hfu; exact absurd hfu (Nat.not_lt_zero _)
                  | succ fu ih_63 =>
                    intro kk x6 x7 gc pc hfu hkk hx7 hgc his H locs ls hP hD hS hl
                    refine lv_iload hx hb dX12_alike_63 (lv_at hl 6 rfl) ?_
                    refine lv_if_lt (tgt := 97) hx hb dX12_alike_65 (by decide) (fun c_21 => ?_) (fun c_21 => ?_)
                    · have hk0 : kk = 0 := by
                        rcases Nat.eq_zero_or_pos kk with q | q
                        · exact q
                        · exfalso
                          have h8 := c_21
                          rw [hx7, ← iI_0, iI_lt (by unfold sm; omega) sm0] at h8
                          omega
                      subst hk0
                      have his0 := his (by omega)
                      rw [Nat.sub_zero] at his0
                      have hgc0 : ∀ j, j < n → gc j = iI (FSm (stf 1) (stf 2) (stf 3) cq n n j) := fun j hj => by have := hgc j (Nat.zero_le j) hj; rw [Nat.sub_zero] at this; exact this
                      refine lv_iload hx hb dX12_alike_97 (lv_at hl 4 rfl) ?_
                      refine lv_if_eq (tgt := 115) hx hb dX12_alike_99 (by decide) (fun c_22 => ?_) (fun c_22 => ?_)
                      · refine lv_aload_n hx hb dX12_alike_115 rfl (lv_at hl 0 rfl) ?_
                        refine va_get (D := (dC, dI)) (ci := 12) (v := Value.ref m_likeGets) (C := RX12) (T := TX12) (N := 33) hx hb hts inX12 hown hK hP 0 rfl rfl 30 (by decide) (hts _ (gw kw_747 rfl)) (fun _ h9 => h9) rfl dX12_alike_116 ?_
                        refine lv_iload_n hx hb dX12_alike_119 rfl (lv_at hl 3 rfl) ?_
                        have h_23 : vp_in (nI k) 61 := vp_in_nI (by omega) (by omega)
                        refine va_iald hx hb hK hP 2 0 rfl rfl h_23 dX12_alike_120 ?_
                        refine lv_topi (fun x_24 e_24 => ?_)
                        have hpd9 := pd_N (cx := [oX12 g0 m_refused m_kind m_figure m_weight m_got m_setting men msy mdn m_tape m_letter m_letterAt m_told tp mat stm m_kept him ki crs m_price m_offer m_gets m_yes m_buys m_ends m_carried m_row rm m_keptRow m_likeGets m_likePrice m_ahead, cI aC m_setting 5 stf, cI aC m_likeGets 61 gc, cI aC m_likePrice 61 pc, cI aC m_refused 7 mr]) hP hD [0, 1, 2, 3, 4] (by decide) rfl
                        have hP9 := hpd9.1
                        have hD9 := hpd9.2
                        refine W.widen (k := 0) (n := 0) (by omega) (by omega) ?_
                        exact W.iret (v := x_24) hx hb hr (fun t ht hW => ⟨⟨x_24, (gc, pc, mr), rfl, by rw [ALK_in hn1 hn2 hc hk, if_pos c_22, e_24, nI_clamp (by omega)]; exact hgc0 k hk, by rw [ht]; exact hP9, va_K.moved hW.alike hK, hD9⟩, hS.F ht⟩) hS.2.2 dX12_alike_121
                      · refine lv_iload hx hb dX12_alike_102 (lv_at hl 5 rfl) ?_
                        refine lv_if_eq (tgt := 111) hx hb dX12_alike_104 (by decide) (fun c_25 => ?_) (fun c_25 => ?_)
                        · refine lv_iconst (v := 0) hx hb dX12_alike_111 (by decide) ?_
                          refine lv_goto (tgt := 121) hx hb dX12_alike_112 (by decide) ?_
                          have hpd9 := pd_N (cx := [oX12 g0 m_refused m_kind m_figure m_weight m_got m_setting men msy mdn m_tape m_letter m_letterAt m_told tp mat stm m_kept him ki crs m_price m_offer m_gets m_yes m_buys m_ends m_carried m_row rm m_keptRow m_likeGets m_likePrice m_ahead, cI aC m_setting 5 stf, cI aC m_likeGets 61 gc, cI aC m_likePrice 61 pc, cI aC m_refused 7 mr]) hP hD [0, 1, 2, 3, 4] (by decide) rfl
                          have hP9 := hpd9.1
                          have hD9 := hpd9.2
                          refine W.widen (k := 0) (n := 0) (by omega) (by omega) ?_
                          exact W.iret (v := 0) hx hb hr (fun t ht hW => ⟨⟨0, (gc, pc, mr), rfl, by rw [ALK_in hn1 hn2 hc hk, if_neg c_22]; rcases his0 with ⟨q1, q2⟩ | ⟨q1, q2⟩ <;> first | exact absurd (q1.symm.trans c_25) (by decide) | rw [if_pos q2], by rw [ht]; exact hP9, va_K.moved hW.alike hK, hD9⟩, hS.F ht⟩) hS.2.2 dX12_alike_121
                        · refine lv_iconst (v := 1) hx hb dX12_alike_107 (by decide) ?_
                          refine lv_goto (tgt := 121) hx hb dX12_alike_108 (by decide) ?_
                          have hpd9 := pd_N (cx := [oX12 g0 m_refused m_kind m_figure m_weight m_got m_setting men msy mdn m_tape m_letter m_letterAt m_told tp mat stm m_kept him ki crs m_price m_offer m_gets m_yes m_buys m_ends m_carried m_row rm m_keptRow m_likeGets m_likePrice m_ahead, cI aC m_setting 5 stf, cI aC m_likeGets 61 gc, cI aC m_likePrice 61 pc, cI aC m_refused 7 mr]) hP hD [0, 1, 2, 3, 4] (by decide) rfl
                          have hP9 := hpd9.1
                          have hD9 := hpd9.2
                          refine W.widen (k := 0) (n := 0) (by omega) (by omega) ?_
                          exact W.iret (v := 1) hx hb hr (fun t ht hW => ⟨⟨1, (gc, pc, mr), rfl, by rw [ALK_in hn1 hn2 hc hk, if_neg c_22]; rcases his0 with ⟨q1, q2⟩ | ⟨q1, q2⟩ <;> first | exact absurd q1 c_25 | rw [if_neg q2], by rw [ht]; exact hP9, va_K.moved hW.alike hK, hD9⟩, hS.F ht⟩) hS.2.2 dX12_alike_121
                    · have hk9 : 1 ≤ kk := by
                        rcases Nat.eq_zero_or_pos kk with q | q
                        · subst q; exact absurd (by rw [hx7]; decide) c_21
                        · exact q
                      obtain ⟨i, hki⟩ : ∃ i, kk = i + 1 := ⟨kk - 1, by omega⟩
                      subst hki
                      have h9 : x7 = nI i := by rw [hx7, nI_iI]; congr 1; omega
                      subst h9
                      refine lv_aload_n hx hb dX12_alike_68 rfl (lv_at hl 0 rfl) ?_
                      refine lv_iload hx hb dX12_alike_69 (lv_at hl 6 rfl) ?_
                      refine lv_iload_n hx hb dX12_alike_71 rfl (lv_at hl 1 rfl) ?_
                      refine lv_iload_n hx hb dX12_alike_72 rfl (lv_at hl 2 rfl) ?_
                      have hpd9 := pdf_N (cx := [oX12 g0 m_refused m_kind m_figure m_weight m_got m_setting men msy mdn m_tape m_letter m_letterAt m_told tp mat stm m_kept him ki crs m_price m_offer m_gets m_yes m_buys m_ends m_carried m_row rm m_keptRow m_likeGets m_likePrice m_ahead, cI aC m_setting 5 stf, cI aC m_likeGets 61 gc, cI aC m_likePrice 61 pc]) hP hD hS hA [0, 1, 2, 3] (by decide) rfl
                      have hPc := hpd9.1
                      have hDc := hpd9.2.1
                      have hFc := hpd9.2.2
                      clear hpd9
                      refine va_calli (va_runV (As := [Value.int (nI i), Value.int (nI n), Value.int (nI cq)]) (rest := []) ⟨hx, hb, hml, hown, hts⟩ (c_X12_likeSays l dC dI aC H.size g0 m_refused m_kind m_figure m_weight m_got m_setting m_tape m_letter m_letterAt m_told m_kept m_price m_offer m_gets m_yes m_buys m_ends m_carried m_row m_keptRow m_likeGets m_likePrice m_ahead men msy mdn tp mat stm him ki crs rm stf gc pc (FSm (stf 1) (stf 2) (stf 3) cq n (n - (i + 1))) i n cq (by omega) (hc) (fun j q1 q2 => ⟨hgc j (by omega) q2, FSm_rng hc _ (by omega) j (by omega) q2⟩)) ⟨(callB_of 3 hts (gG kw_1022) rfl rfl rfl (hts _ (gw kw_13 rfl)) (hts _ (gw kw_1019 rfl)) hd_X12_likeSays ⟨Nat.le_of_ble_eq_true rfl, Nat.le_of_ble_eq_true rfl⟩), (hts _ (gw kw_1021 rfl)), (hts _ (gw ks_61 rfl))⟩ ⟨fb_std, va_recv (q := (RX12, TX12, 33)) hK hPc (ci := 12) (q0 := 0) rfl rfl, pre_std hPc hK hDc hN⟩ rfl rfl hl.1 rfl (lv_room (Nat.le_of_ble_eq_true rfl)) dX12_alike_73 ⟨Nat.le_of_ble_eq_true rfl, Nat.le_of_ble_eq_true rfl⟩) hS (fun q _ h => hFc q h) hFc (fun x_26 u9 t9 H1 locs ht hvm hw_26 hB hz1 hk1 hS => ?_)
                      obtain ⟨u_27, u_28⟩ := u9
                      obtain ⟨hP1, hK1, hD1⟩ := hB
                      rw [ht] at hP1
                      clear hK1
                      try dsimp only at hw_26
                      have hpd9 : PDx (dC, dI) classes A H1 [cI aC m_refused 7 mr, oX12 g0 m_refused m_kind m_figure m_weight m_got m_setting men msy mdn m_tape m_letter m_letterAt m_told tp mat stm m_kept him ki crs m_price m_offer m_gets m_yes m_buys m_ends m_carried m_row rm m_keptRow m_likeGets m_likePrice m_ahead, cI aC m_setting 5 stf, cI aC m_likeGets 61 u_27, cI aC m_likePrice 61 u_28] := jn_N (wr := [cI aC m_refused 7 mr]) hFc hk1 hP1 hD1 hP hD [0, 1, 2, 3] [4] rfl rfl (by decide) (by decide)
                      have hP := hpd9.1
                      have hD := hpd9.2
                      clear hpd9
                      generalize H1 = H at hP hS ⊢
                      clear hPc hDc hFc hz1 hk1 hP1 hD1 ht hvm
                      have hls := hw_26
                      have hb01 : x_26 = 1 ∨ x_26 = 0 := hls.imp (fun h => h.1) (fun h => h.1)
                      refine lv_istore (lv' := [(6, Value.int x_26), (0, Value.ref g0), (1, Value.int (nI n)), (2, Value.int (nI cq)), (3, Value.int (nI k)), (4, Value.int a4), (7, Value.int (nI i))]) hx hb dX12_alike_76 hl (by decide) rfl (fun ls hl => ?_)
                      refine lv_iload hx hb dX12_alike_78 (lv_at hl 0 rfl) ?_
                      refine lv_if_ne (tgt := 91) hx hb dX12_alike_80 (by decide) (fun c_29 => ?_) (fun c_29 => ?_)
                      · obtain ⟨hl1, hl2, hl3⟩ := hls.resolve_right (fun h => c_29 h.1)
                        have hb2 : ∀ j, i ≤ j → j < n → u_27 j = iI (FSm (stf 1) (stf 2) (stf 3) cq n (n - i) j) := fun j q1 q2 => by rw [FSm_suc (by omega)]; exact hl3 j q1 q2
                        have hb3 : i < n → (x_26 = 1 ∧ ¬ FSm (stf 1) (stf 2) (stf 3) cq n (n - i) i = -1) ∨ (x_26 = 0 ∧ FSm (stf 1) (stf 2) (stf 3) cq n (n - i) i = -1) := fun h => Or.inl ⟨hl1, lsm_ok h hl2⟩
                        obtain ⟨x_30, e_30⟩ : ∃ y : Int32, y = (nI i) + (-1) := ⟨_, rfl⟩
                        refine lv_iinc (v := x_30) (lv' := [(7, Value.int x_30), (6, Value.int x_26), (0, Value.ref g0), (1, Value.int (nI n)), (2, Value.int (nI cq)), (3, Value.int (nI k)), (4, Value.int a4)]) hx hb dX12_alike_91 hl (k := 6) rfl (by rw [e_30]; rfl) (by decide) rfl (fun ls hl => ?_)
                        refine lv_goto (tgt := 63) hx hb dX12_alike_94 (by decide) ?_
                        exact ih_63 i x_26 x_30 u_27 u_28 (by omega) (by omega) (by rw [e_30, nI_iI, show (-1 : Int32) = iI (-1) from rfl, iI_add]; rfl) (hb2) (hb3) _ _ _ (hP.sub [1, 2, 3, 4, 0] rfl) (hD.sub [1, 2, 3, 4, 0] (by decide) rfl) hS (lv_sub hl [2, 3, 4, 5, 6, 1, 0] rfl)
                      · refine lv_aload_n hx hb dX12_alike_83 rfl (lv_at hl 1 rfl) ?_
                        refine va_get (D := (dC, dI)) (ci := 12) (v := Value.ref m_likeGets) (C := RX12) (T := TX12) (N := 33) hx hb hts inX12 hown hK hP 1 rfl rfl 30 (by decide) (hts _ (gw kw_747 rfl)) (fun _ h9 => h9) rfl dX12_alike_84 ?_
                        refine lv_iload hx hb dX12_alike_87 (lv_at hl 6 rfl) ?_
                        refine lv_iconst (v := -1) hx hb dX12_alike_89 (by decide) ?_
                        have h_31 : vp_in (nI i) 61 := vp_in_nI (by omega) (by omega)
                        refine va_iast hx hb hK hP hD hS 3 0 rfl rfl h_31 dX12_alike_90 (fun H locs hP hD hS => ?_)
                        obtain ⟨f_32, e_f_32⟩ : ∃ y : Nat → Int32, y = upd u_27 (nI i : Int32).toNatClampNeg (-1) := ⟨_, rfl⟩
                        have hpd9 : PDx (dC, dI) classes A H [cI aC m_refused 7 mr, oX12 g0 m_refused m_kind m_figure m_weight m_got m_setting men msy mdn m_tape m_letter m_letterAt m_told tp mat stm m_kept him ki crs m_price m_offer m_gets m_yes m_buys m_ends m_carried m_row rm m_keptRow m_likeGets m_likePrice m_ahead, cI aC m_setting 5 stf, cI aC m_likeGets 61 f_32, cI aC m_likePrice 61 u_28] := by rw [e_f_32]; exact ⟨hP, hD⟩
                        have hP := hpd9.1
                        have hD := hpd9.2
                        clear hpd9
                        obtain ⟨hl1, hl2, hl3⟩ := hls.resolve_left (fun h => absurd (h.1.symm.trans c_29) (by decide))
                        have hb9 := lsm_no (f := f_32) (by omega) hl2 (fun j q1 q2 => hgc j q1 q2) (by rw [e_f_32, nI_clamp (by omega), hl3])
                        have hb2 := hb9.1
                        have hb3 : i < n → (x_26 = 1 ∧ ¬ FSm (stf 1) (stf 2) (stf 3) cq n (n - i) i = -1) ∨ (x_26 = 0 ∧ FSm (stf 1) (stf 2) (stf 3) cq n (n - i) i = -1) := fun h => Or.inr ⟨hl1, hb9.2⟩
                        obtain ⟨x_33, e_33⟩ : ∃ y : Int32, y = (nI i) + (-1) := ⟨_, rfl⟩
                        refine lv_iinc (v := x_33) (lv' := [(7, Value.int x_33), (6, Value.int x_26), (0, Value.ref g0), (1, Value.int (nI n)), (2, Value.int (nI cq)), (3, Value.int (nI k)), (4, Value.int a4)]) hx hb dX12_alike_91 hl (k := 6) rfl (by rw [e_33]; rfl) (by decide) rfl (fun ls hl => ?_)
                        refine lv_goto (tgt := 63) hx hb dX12_alike_94 (by decide) ?_
                        exact ih_63 i x_26 x_33 f_32 u_28 (by omega) (by omega) (by rw [e_33, nI_iI, show (-1 : Int32) = iI (-1) from rfl, iI_add]; rfl) (hb2) (hb3) _ _ _ (hP.sub [1, 2, 3, 4, 0] rfl) (hD.sub [1, 2, 3, 4, 0] (by decide) rfl) hS (lv_sub hl [2, 3, 4, 5, 6, 1, 0] rfl)
                exact lp_63 (n + 1) n 0 x_20 gf pf (Nat.lt_succ_self _) (Nat.le_refl n) (by rw [e_20, nI_iI, ← iI_1, iI_sub]) (fun j q1 q2 => by omega) (fun h => by omega) _ _ _ (hP.sub [0, 1, 2, 3, 4] rfl) (hD.sub [0, 1, 2, 3, 4] (by decide) rfl) hS (lv_sub hl [3, 4, 5, 6, 7, 1, 0] rfl)
              · exact absurd rfl c_19
            · refine lv_bipush (v := -6) hx hb dX12_alike_35 (by decide) ?_
              refine lv_goto (tgt := 41) hx hb dX12_alike_37 (by decide) ?_
              refine lv_istore (lv' := [(5, Value.int (-6)), (0, Value.ref g0), (1, Value.int a1), (2, Value.int a2), (3, Value.int a3), (4, Value.int a4)]) hx hb dX12_alike_41 hl (by decide) rfl (fun ls hl => ?_)
              refine lv_iload hx hb dX12_alike_43 (lv_at hl 0 rfl) ?_
              refine lv_if_eq (tgt := 55) hx hb dX12_alike_45 (by decide) (fun c_34 => ?_) (fun c_34 => ?_)
              · exact absurd c_34 (by decide)
              · refine lv_aload_n hx hb dX12_alike_48 rfl (lv_at hl 1 rfl) ?_
                refine lv_iload hx hb dX12_alike_49 (lv_at hl 0 rfl) ?_
                have hpd9 := pdf_N (cx := [oX12 g0 m_refused m_kind m_figure m_weight m_got m_setting men msy mdn m_tape m_letter m_letterAt m_told tp mat stm m_kept him ki crs m_price m_offer m_gets m_yes m_buys m_ends m_carried m_row rm m_keptRow m_likeGets m_likePrice m_ahead, cI aC m_refused 7 mr]) hP hD hS hA [0, 4] (by decide) rfl
                have hPc := hpd9.1
                have hDc := hpd9.2.1
                have hFc := hpd9.2.2
                clear hpd9
                refine va_calli (va_runV (As := [Value.int (-6)]) (rest := []) ⟨hx, hb, hml, hown, hts⟩ (c_X12_lower l dC dI aC H.size g0 m_refused m_kind m_figure m_weight m_got m_setting m_tape m_letter m_letterAt m_told m_kept m_price m_offer m_gets m_yes m_buys m_ends m_carried m_row m_keptRow m_likeGets m_likePrice m_ahead men msy mdn tp mat stm him ki crs rm (-6) 6 mr (by decide) (by unfold vp_in; decide)) ⟨(callB_of 1 hts (gG kw_973) rfl rfl rfl (hts _ (gw kw_13 rfl)) (hts _ (gw kw_970 rfl)) hd_X12_lower ⟨Nat.le_of_ble_eq_true rfl, Nat.le_of_ble_eq_true rfl⟩), (hts _ (gw kw_972 rfl)), (hts _ (gw ks_57 rfl))⟩ ⟨fb_std, va_recv (q := (RX12, TX12, 33)) hK hPc (ci := 12) (q0 := 0) rfl rfl, pre_std hPc hK hDc hN⟩ rfl rfl hl.1 rfl (lv_room (Nat.le_of_ble_eq_true rfl)) dX12_alike_51 ⟨Nat.le_of_ble_eq_true rfl, Nat.le_of_ble_eq_true rfl⟩) hS (fun q _ h => hFc q h) hFc (fun x_35 u9 t9 H1 locs ht hvm hw_35 hB hz1 hk1 hS => ?_)
                obtain ⟨u_36, rfl⟩ : ∃ z, z = u9 := ⟨_, rfl⟩
                obtain ⟨hP1, hK1, hD1⟩ := hB
                rw [ht] at hP1
                clear hK1
                try dsimp only at hw_35
                have hpd9 : PDx (dC, dI) classes A H1 [cI aC m_setting 5 stf, cI aC m_likeGets 61 gf, cI aC m_likePrice 61 pf, oX12 g0 m_refused m_kind m_figure m_weight m_got m_setting men msy mdn m_tape m_letter m_letterAt m_told tp mat stm m_kept him ki crs m_price m_offer m_gets m_yes m_buys m_ends m_carried m_row rm m_keptRow m_likeGets m_likePrice m_ahead, cI aC m_refused 7 u_36] := jn_N (wr := [cI aC m_setting 5 stf, cI aC m_likeGets 61 gf, cI aC m_likePrice 61 pf]) hFc hk1 hP1 hD1 hP hD [0, 4] [1, 2, 3] rfl rfl (by decide) (by decide)
                have hP := hpd9.1
                have hD := hpd9.2
                clear hpd9
                generalize H1 = H at hP hS ⊢
                clear hPc hDc hFc hz1 hk1 hP1 hD1 ht hvm
                obtain ⟨hv9, -⟩ := hw_35
                have hpd9 := pd_N (cx := [oX12 g0 m_refused m_kind m_figure m_weight m_got m_setting men msy mdn m_tape m_letter m_letterAt m_told tp mat stm m_kept him ki crs m_price m_offer m_gets m_yes m_buys m_ends m_carried m_row rm m_keptRow m_likeGets m_likePrice m_ahead, cI aC m_setting 5 stf, cI aC m_likeGets 61 gf, cI aC m_likePrice 61 pf, cI aC m_refused 7 u_36]) hP hD [3, 0, 1, 2, 4] (by decide) rfl
                have hP9 := hpd9.1
                have hD9 := hpd9.2
                refine W.widen (k := 0) (n := 0) (by omega) (by omega) ?_
                exact W.iret (v := x_35) hx hb hr (fun t ht hW => ⟨⟨x_35, (gf, pf, u_36), rfl, by rw [hv9, alk_6 c_1 c_5 c_9 (Or.inr (Or.inr (Int32.not_lt.mp c_18)))]; rfl, by rw [ht]; exact hP9, va_K.moved hW.alike hK, hD9⟩, hS.F ht⟩) hS.2.2 dX12_alike_54
      · refine lv_bipush (v := -4) hx hb dX12_alike_13 (by decide) ?_
        refine lv_goto (tgt := 41) hx hb dX12_alike_15 (by decide) ?_
        refine lv_istore (lv' := [(5, Value.int (-4)), (0, Value.ref g0), (1, Value.int a1), (2, Value.int a2), (3, Value.int a3), (4, Value.int a4)]) hx hb dX12_alike_41 hl (by decide) rfl (fun ls hl => ?_)
        refine lv_iload hx hb dX12_alike_43 (lv_at hl 0 rfl) ?_
        refine lv_if_eq (tgt := 55) hx hb dX12_alike_45 (by decide) (fun c_37 => ?_) (fun c_37 => ?_)
        · exact absurd c_37 (by decide)
        · refine lv_aload_n hx hb dX12_alike_48 rfl (lv_at hl 1 rfl) ?_
          refine lv_iload hx hb dX12_alike_49 (lv_at hl 0 rfl) ?_
          have hpd9 := pdf_N (cx := [oX12 g0 m_refused m_kind m_figure m_weight m_got m_setting men msy mdn m_tape m_letter m_letterAt m_told tp mat stm m_kept him ki crs m_price m_offer m_gets m_yes m_buys m_ends m_carried m_row rm m_keptRow m_likeGets m_likePrice m_ahead, cI aC m_refused 7 mr]) hP hD hS hA [0, 4] (by decide) rfl
          have hPc := hpd9.1
          have hDc := hpd9.2.1
          have hFc := hpd9.2.2
          clear hpd9
          refine va_calli (va_runV (As := [Value.int (-4)]) (rest := []) ⟨hx, hb, hml, hown, hts⟩ (c_X12_lower l dC dI aC H.size g0 m_refused m_kind m_figure m_weight m_got m_setting m_tape m_letter m_letterAt m_told m_kept m_price m_offer m_gets m_yes m_buys m_ends m_carried m_row m_keptRow m_likeGets m_likePrice m_ahead men msy mdn tp mat stm him ki crs rm (-4) 4 mr (by decide) (by unfold vp_in; decide)) ⟨(callB_of 1 hts (gG kw_973) rfl rfl rfl (hts _ (gw kw_13 rfl)) (hts _ (gw kw_970 rfl)) hd_X12_lower ⟨Nat.le_of_ble_eq_true rfl, Nat.le_of_ble_eq_true rfl⟩), (hts _ (gw kw_972 rfl)), (hts _ (gw ks_57 rfl))⟩ ⟨fb_std, va_recv (q := (RX12, TX12, 33)) hK hPc (ci := 12) (q0 := 0) rfl rfl, pre_std hPc hK hDc hN⟩ rfl rfl hl.1 rfl (lv_room (Nat.le_of_ble_eq_true rfl)) dX12_alike_51 ⟨Nat.le_of_ble_eq_true rfl, Nat.le_of_ble_eq_true rfl⟩) hS (fun q _ h => hFc q h) hFc (fun x_38 u9 t9 H1 locs ht hvm hw_38 hB hz1 hk1 hS => ?_)
          obtain ⟨u_39, rfl⟩ : ∃ z, z = u9 := ⟨_, rfl⟩
          obtain ⟨hP1, hK1, hD1⟩ := hB
          rw [ht] at hP1
          clear hK1
          try dsimp only at hw_38
          have hpd9 : PDx (dC, dI) classes A H1 [cI aC m_setting 5 stf, cI aC m_likeGets 61 gf, cI aC m_likePrice 61 pf, oX12 g0 m_refused m_kind m_figure m_weight m_got m_setting men msy mdn m_tape m_letter m_letterAt m_told tp mat stm m_kept him ki crs m_price m_offer m_gets m_yes m_buys m_ends m_carried m_row rm m_keptRow m_likeGets m_likePrice m_ahead, cI aC m_refused 7 u_39] := jn_N (wr := [cI aC m_setting 5 stf, cI aC m_likeGets 61 gf, cI aC m_likePrice 61 pf]) hFc hk1 hP1 hD1 hP hD [0, 4] [1, 2, 3] rfl rfl (by decide) (by decide)
          have hP := hpd9.1
          have hD := hpd9.2
          clear hpd9
          generalize H1 = H at hP hS ⊢
          clear hPc hDc hFc hz1 hk1 hP1 hD1 ht hvm
          obtain ⟨hv9, -⟩ := hw_38
          have hpd9 := pd_N (cx := [oX12 g0 m_refused m_kind m_figure m_weight m_got m_setting men msy mdn m_tape m_letter m_letterAt m_told tp mat stm m_kept him ki crs m_price m_offer m_gets m_yes m_buys m_ends m_carried m_row rm m_keptRow m_likeGets m_likePrice m_ahead, cI aC m_setting 5 stf, cI aC m_likeGets 61 gf, cI aC m_likePrice 61 pf, cI aC m_refused 7 u_39]) hP hD [3, 0, 1, 2, 4] (by decide) rfl
          have hP9 := hpd9.1
          have hD9 := hpd9.2
          refine W.widen (k := 0) (n := 0) (by omega) (by omega) ?_
          exact W.iret (v := x_38) hx hb hr (fun t ht hW => ⟨⟨x_38, (gf, pf, u_39), rfl, by rw [hv9, alk_4 (Or.inr (Or.inr (Int32.not_le.mp c_9)))]; rfl, by rw [ht]; exact hP9, va_K.moved hW.alike hK, hD9⟩, hS.F ht⟩) hS.2.2 dX12_alike_54
