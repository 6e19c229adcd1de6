set_option maxHeartbeats 1000000 in
set_option maxRecDepth 100000 in
/-- X12_buysBy -/
theorem c_X12_buysBy (l : Launch) (dC : Nat → ClassId) (dI : Nat → Nat → Nat) (aC : Nat → ClassId) (sz : Nat) (g0 : Nat) (m_refused : Nat) (m_kind : Nat) (m_figure : Nat) (m_weight : Nat) (m_got : Nat) (m_setting : Nat) (m_tape : Nat) (m_letter : Nat) (m_letterAt : Nat) (m_told : Nat) (m_kept : Nat) (m_price : Nat) (m_offer : Nat) (m_gets : Nat) (m_yes : Nat) (m_buys : Nat) (m_ends : Nat) (m_carried : Nat) (m_row : Nat) (m_keptRow : Nat) (m_likeGets : Nat) (m_likePrice : Nat) (m_ahead : Nat) (msy : Int32) (mdn : Int32) (tp : Int32) (mat : Int32) (stm : Int32) (him : Int32) (ki : Int32) (crs : Int32) (rm : Int32) (n : Nat) (wf : Nat → Int32) (stf : Nat → Int32) (pf : Nat → Int32) (W0 : Nat → Nat) (Pq : Nat → Nat) (cq : Nat) (i : Nat) (hw : n ≤ 8 ∧ ∀ j, j < n → wf j = nI (W0 j) ∧ W0 j ≤ 9) (hi : i < n ∧ n ≤ 8) (hPq : ∀ q, i < q → q < n → pf (9 * i + q) = nI (Pq q) ∧ Pq q ≤ 110) (hcq : stf 0 = nI cq ∧ cq ≤ 99) : Met l yX12_buysBy (wW yX12_buysBy cX12_buysBy 6 (some .int)) ({ frames := 1, cells := 0, slots := 0, locals := 25 } : Room) (va_Pc [Value.ref g0, Value.int (nI i)] (fun U => U.heap.size = sz ∧ va_P (dC, dI) classes [oX12 g0 m_refused m_kind m_figure m_weight m_got m_setting (nI n) msy mdn m_tape m_letter m_letterAt m_told tp mat stm m_kept him ki crs m_price m_offer m_gets m_yes m_buys m_ends m_carried m_row rm m_keptRow m_likeGets m_likePrice m_ahead, cI aC m_weight 9 wf, cI aC m_setting 5 stf, cI aC m_price 81 pf] U.heap ∧ va_K (dC, dI) classes (TY aC) U ∧ va_D (fun _ => True) [oX12 g0 m_refused m_kind m_figure m_weight m_got m_setting (nI n) msy mdn m_tape m_letter m_letterAt m_told tp mat stm m_kept him ki crs m_price m_offer m_gets m_yes m_buys m_ends m_carried m_row rm m_keptRow m_likeGets m_likePrice m_ahead, cI aC m_weight 9 wf, cI aC m_setting 5 stf, cI aC m_price 81 pf] ∧ NX U)) (va_Qi (fun (r : Int32) (_ : Unit) => BYR n W0 cq (stf 1) (stf 3) i Pq r) (fun (_ : Unit) (t : State) => va_P (dC, dI) classes [oX12 g0 m_refused m_kind m_figure m_weight m_got m_setting (nI n) msy mdn m_tape m_letter m_letterAt m_told tp mat stm m_kept him ki crs m_price m_offer m_gets m_yes m_buys m_ends m_carried m_row rm m_keptRow m_likeGets m_likePrice m_ahead, cI aC m_weight 9 wf, cI aC m_setting 5 stf, cI aC m_price 81 pf] t.heap ∧ va_K (dC, dI) classes (TY aC) t ∧ va_D (va_A [oX12 g0 m_refused m_kind m_figure m_weight m_got m_setting (nI n) msy mdn m_tape m_letter m_letterAt m_told tp mat stm m_kept him ki crs m_price m_offer m_gets m_yes m_buys m_ends m_carried m_row rm m_keptRow m_likeGets m_likePrice m_ahead, cI aC m_weight 9 wf, cI aC m_setting 5 stf, cI aC m_price 81 pf] sz) [oX12 g0 m_refused m_kind m_figure m_weight m_got m_setting (nI n) msy mdn m_tape m_letter m_letterAt m_told tp mat stm m_kept him ki crs m_price m_offer m_gets m_yes m_buys m_ends m_carried m_row rm m_keptRow m_likeGets m_likePrice m_ahead, cI aC m_weight 9 wf, cI aC m_setting 5 stf, cI aC m_price 81 pf]) (va_A [oX12 g0 m_refused m_kind m_figure m_weight m_got m_setting (nI n) msy mdn m_tape m_letter m_letterAt m_told tp mat stm m_kept him ki crs m_price m_offer m_gets m_yes m_buys m_ends m_carried m_row rm m_keptRow m_likeGets m_likePrice m_ahead, cI aC m_weight 9 wf, cI aC m_setting 5 stf, cI aC m_price 81 pf] sz)) 0 0 (va_A [oX12 g0 m_refused m_kind m_figure m_weight m_got m_setting (nI n) msy mdn m_tape m_letter m_letterAt m_told tp mat stm m_kept him ki crs m_price m_offer m_gets m_yes m_buys m_ends m_carried m_row rm m_keptRow m_likeGets m_likePrice m_ahead, cI aC m_weight 9 wf, cI aC m_setting 5 stf, cI aC m_price 81 pf] sz) := by
  refine Met.ofW (cc := cX12_buysBy) (maxL := 6) (ret := (some .int)) (by decide) rfl ?_
  intro p e s m args below meth c s₁ B hml hv
  obtain ⟨rfl, hsz, hP, hK, hD0, hN⟩ := hv
  have hx := B.exec
  have hb := B.bytes
  have hr := B.returns
  have hts0 := atoms_spec (ws := (wW yX12_buysBy cX12_buysBy 6 (some .int))) B.pre
  have hts : ∀ w9 ∈ lw_G, w9.before ([Value.ref g0, Value.int (nI i)] : List Value).toArray s = true := fun w9 h9 => hts0 w9 (List.mem_cons_of_mem _ h9)
  have hown : s.vm.findClass RX12 = some m.cls := findClass_of_methodNamed (x := yX12_buysBy) B.named
  have hlocks := B.notSynchronized
  subst hsz
  have hD := hD0.self (sz := s.heap.size)
  generalize hAe : va_A [oX12 g0 m_refused m_kind m_figure m_weight m_got m_setting (nI n) msy mdn m_tape m_letter m_letterAt m_told tp mat stm m_kept him ki crs m_price m_offer m_gets m_yes m_buys m_ends m_carried m_row rm m_keptRow m_likeGets m_likePrice m_ahead, cI aC m_weight 9 wf, cI aC m_setting 5 stf, cI aC m_price 81 pf] s.heap.size = A at hD ⊢
  have hA : ∀ q : Nat, s.heap.size ≤ q → A q := fun q h => by rw [← hAe]; exact Or.inr h
  obtain ⟨H, hHe⟩ : ∃ H : Heap, H = s.heap := ⟨_, rfl⟩
  have hS : va_S A s.heap H [] := by rw [hHe]; exact va_S.rf
  have hP : va_P (dC, dI) classes [oX12 g0 m_refused m_kind m_figure m_weight m_got m_setting (nI n) msy mdn m_tape m_letter m_letterAt m_told tp mat stm m_kept him ki crs m_price m_offer m_gets m_yes m_buys m_ends m_carried m_row rm m_keptRow m_likeGets m_likePrice m_ahead, cI aC m_weight 9 wf, cI aC m_setting 5 stf, cI aC m_price 81 pf] H := by rw [hHe]; exact hP
  have hl := lv_entry ([Value.ref g0, Value.int (nI i)]) (n := 6) (Nat.le_of_ble_eq_true rfl)
  rw [lg_entry_eq]
  generalize (lg_sl ([Value.ref g0, Value.int (nI i)]) ++ List.replicate (6 - (lg_sl ([Value.ref g0, Value.int (nI i)])).length) Slot.unset).toArray = ls at hl ⊢
  have hl : lv_has ls 6 [(0, Value.ref g0), (1, Value.int (nI i))] := hl
  rw [← hHe]
  have h256 := p28 hi.2
  have hs9 := w_le (W := W0) (a := i) (k := n - i) (fun j q => (hw.2 j q).2) (by omega) hw.1
  refine lv_aload_n hx hb dX12_buysBy_0 rfl (lv_at hl 0 rfl) ?_
  refine lv_iload_n hx hb dX12_buysBy_1 rfl (lv_at hl 1 rfl) ?_
  have hpd9 := pdf_N (cx := [oX12 g0 m_refused m_kind m_figure m_weight m_got m_setting (nI n) msy mdn m_tape m_letter m_letterAt m_told tp mat stm m_kept him ki crs m_price m_offer m_gets m_yes m_buys m_ends m_carried m_row rm m_keptRow m_likeGets m_likePrice m_ahead]) hP hD hS hA [0] (by decide) rfl
  have hPc := hpd9.1
  have hDc := hpd9.2.1
  have hFc := hpd9.2.2
  clear hpd9
  refine va_calli (va_runV (As := [Value.int (nI i)]) (rest := []) ⟨hx, hb, hml, hown, hts⟩ (c_X12_leftFrom l dC dI aC H.size g0 m_refused m_kind m_figure m_weight m_got m_setting m_tape m_letter m_letterAt m_told m_kept m_price m_offer m_gets m_yes m_buys m_ends m_carried m_row m_keptRow m_likeGets m_likePrice m_ahead msy mdn tp mat stm him ki crs rm n i (by omega)) ⟨(callB_of 1 hts (gG kw_922) rfl rfl rfl (hts _ (gw kw_13 rfl)) (hts _ (gw kw_919 rfl)) hd_X12_leftFrom ⟨Nat.le_of_ble_eq_true rfl, Nat.le_of_ble_eq_true rfl⟩), (hts _ (gw kw_921 rfl)), (hts _ (gw ks_50 rfl))⟩ ⟨fb_std, va_recv (q := (RX12, TX12, 33)) hK hPc (ci := 12) (q0 := 0) rfl rfl, pre_std hPc hK hDc hN⟩ rfl rfl hl.1 rfl (lv_room (Nat.le_of_ble_eq_true rfl)) dX12_buysBy_2 ⟨Nat.le_of_ble_eq_true rfl, Nat.le_of_ble_eq_true rfl⟩) hS (fun q _ h => hFc q h) hFc (fun x_1 u9 t9 H1 locs ht hvm hw_1 hB hz1 hk1 hS => ?_)
  obtain ⟨hP1, hK1, hD1⟩ := hB
  rw [ht] at hP1
  clear hK1
  try dsimp only at hw_1
  have hpd9 : PDx (dC, dI) classes A H1 [cI aC m_weight 9 wf, cI aC m_setting 5 stf, cI aC m_price 81 pf, oX12 g0 m_refused m_kind m_figure m_weight m_got m_setting (nI n) msy mdn m_tape m_letter m_letterAt m_told tp mat stm m_kept him ki crs m_price m_offer m_gets m_yes m_buys m_ends m_carried m_row rm m_keptRow m_likeGets m_likePrice m_ahead] := jn_N (wr := [cI aC m_weight 9 wf, cI aC m_setting 5 stf, cI aC m_price 81 pf]) hFc hk1 hP1 hD1 hP hD [0] [1, 2, 3] rfl rfl (by decide) (by decide)
  have hP := hpd9.1
  have hD := hpd9.2
  clear hpd9
  generalize H1 = H at hP hS ⊢
  clear hPc hDc hFc hz1 hk1 hP1 hD1 ht hvm
  refine lv_iconst (v := 1) hx hb dX12_buysBy_5 (by decide) ?_
  refine lv_iload_n hx hb dX12_buysBy_6 rfl (lv_at hl 1 rfl) ?_
  refine lv_ishl hx hb dX12_buysBy_7 ?_
  refine lv_topi (fun x_2 e_2 => ?_)
  refine lv_iconst (v := -1) hx hb dX12_buysBy_8 (by decide) ?_
  refine lv_ixor hx hb dX12_buysBy_9 ?_
  refine lv_topi (fun x_3 e_3 => ?_)
  refine lv_iand hx hb dX12_buysBy_10 ?_
  refine lv_topi (fun x_4 e_4 => ?_)
  refine lv_istore_n (lv' := [(2, Value.int x_4), (0, Value.ref g0), (1, Value.int (nI i))]) hx hb dX12_buysBy_11 rfl hl (by decide) rfl (fun ls hl => ?_)
  have hyg : ∀ b, b < 32 → bt x_4 b = decide (i < b ∧ b < n) := fun b hb => by rw [e_4, e_3, e_2]; exact yng_bits hi hw_1 b hb
  refine lv_bipush (v := -9) hx hb dX12_buysBy_12 (by decide) ?_
  refine lv_istore_n (lv' := [(3, Value.int (-9)), (2, Value.int x_4), (0, Value.ref g0), (1, Value.int (nI i))]) hx hb dX12_buysBy_14 rfl hl (by decide) rfl (fun ls hl => ?_)
  refine lv_iconst (v := 0) hx hb dX12_buysBy_15 (by decide) ?_
  refine lv_istore (lv' := [(4, Value.int 0), (3, Value.int (-9)), (2, Value.int x_4), (0, Value.ref g0), (1, Value.int (nI i))]) hx hb dX12_buysBy_16 hl (by decide) rfl (fun ls hl => ?_)
  have lp_18 : ∀ (fu : Nat) (x : Nat) (bl : Int32) (hfu : 2 ^ n - x < fu) (hxx : x ≤ 2 ^ n) (hbl : BSM (CM n W0 (stf 1) (stf 3) i Pq) (cstm Pq n i) (us (stf 3) n i) x bl) (H : Heap) (locs : List Loc) (ls : Array Slot), va_P (dC, dI) classes [cI aC m_weight 9 wf, cI aC m_setting 5 stf, cI aC m_price 81 pf, oX12 g0 m_refused m_kind m_figure m_weight m_got m_setting (nI n) msy mdn m_tape m_letter m_letterAt m_told tp mat stm m_kept him ki crs m_price m_offer m_gets m_yes m_buys m_ends m_carried m_row rm m_keptRow m_likeGets m_likePrice m_ahead] H → va_D A [cI aC m_weight 9 wf, cI aC m_setting 5 stf, cI aC m_price 81 pf, oX12 g0 m_refused m_kind m_figure m_weight m_got m_setting (nI n) msy mdn m_tape m_letter m_letterAt m_told tp mat stm m_kept him ki crs m_price m_offer m_gets m_yes m_buys m_ends m_carried m_row rm m_keptRow m_likeGets m_likePrice m_ahead] → va_S A s.heap H locs → lv_has ls 6 [(0, Value.ref g0), (1, Value.int (nI i)), (2, Value.int x_4), (3, Value.int bl), (4, Value.int (nI x))] → W p l e (headSpec (wW yX12_buysBy cX12_buysBy 6 (some .int)) ({ frames := 1, cells := 0, slots := 0, locals := 25 } : Room)).room s m ([Value.ref g0, Value.int (nI i)] : List Value).toArray below meth c H locs 0 0 (MQ below (va_Qi (fun (r : Int32) (_ : Unit) => BYR n W0 cq (stf 1) (stf 3) i Pq r) (fun (_ : Unit) (t : State) => va_P (dC, dI) classes [oX12 g0 m_refused m_kind m_figure m_weight m_got m_setting (nI n) msy mdn m_tape m_letter m_letterAt m_told tp mat stm m_kept him ki crs m_price m_offer m_gets m_yes m_buys m_ends m_carried m_row rm m_keptRow m_likeGets m_likePrice m_ahead, cI aC m_weight 9 wf, cI aC m_setting 5 stf, cI aC m_price 81 pf] t.heap ∧ va_K (dC, dI) classes (TY aC) t ∧ va_D A [oX12 g0 m_refused m_kind m_figure m_weight m_got m_setting (nI n) msy mdn m_tape m_letter m_letterAt m_told tp mat stm m_kept him ki crs m_price m_offer m_gets m_yes m_buys m_ends m_carried m_row rm m_keptRow m_likeGets m_likePrice m_ahead, cI aC m_weight 9 wf, cI aC m_setting 5 stf, cI aC m_price 81 pf]) A) ([Value.ref g0, Value.int (nI i)] : List Value).toArray s 0 0 A) (F0 m 18 ls []) := by
    intro fu
    induction fu with
    | zero => intro x bl hfu; exact absurd hfu (Nat.not_lt_zero _)
    | succ fu ih_18 =>
      intro x bl hfu hxx hbl H locs ls hP hD hS hl
      refine lv_iload hx hb dX12_buysBy_18 (lv_at hl 4 rfl) ?_
      refine lv_iconst (v := 1) hx hb dX12_buysBy_20 (by decide) ?_
      refine lv_aload_n hx hb dX12_buysBy_21 rfl (lv_at hl 0 rfl) ?_
      refine va_get (D := (dC, dI)) (ci := 12) (v := Value.int (nI n)) (C := RX12) (T := TX12) (N := 33) hx hb hts inX12 hown hK hP 3 rfl rfl 6 (by decide) (hts _ (gw kw_723 rfl)) (fun _ h9 => h9) rfl dX12_buysBy_22 ?_
      refine lv_ishl hx hb dX12_buysBy_25 ?_
      refine lv_topi (fun x_5 e_5 => ?_)
      have h9 : x_5 = nI (2 ^ n) := by rw [e_5]; exact sh1 n (by omega)
      subst h9
      refine lv_icmp_ge (tgt := 131) hx hb dX12_buysBy_26 (by decide) (fun c_6 => ?_) (fun c_6 => ?_)
      · have hxe : x = 2 ^ n := by
          rcases Nat.lt_or_ge x (2 ^ n) with q | q
          · exact absurd c_6 (nI_ge q (by omega))
          · omega
        subst hxe
        have hfin := bm_fin hi.1 hi.2 hbl
        refine lv_iload_n hx hb dX12_buysBy_131 rfl (lv_at hl 3 rfl) ?_
        refine lv_if_lt (tgt := 154) hx hb dX12_buysBy_132 (by decide) (fun c_7 => ?_) (fun c_7 => ?_)
        · refine lv_bipush (v := -9) hx hb dX12_buysBy_154 (by decide) ?_
          have hpd9 := pd_N (cx := [oX12 g0 m_refused m_kind m_figure m_weight m_got m_setting (nI n) msy mdn m_tape m_letter m_letterAt m_told tp mat stm m_kept him ki crs m_price m_offer m_gets m_yes m_buys m_ends m_carried m_row rm m_keptRow m_likeGets m_likePrice m_ahead, cI aC m_weight 9 wf, cI aC m_setting 5 stf, cI aC m_price 81 pf]) hP hD [3, 0, 1, 2] (by decide) rfl
          have hP9 := hpd9.1
          have hD9 := hpd9.2
          refine W.widen (k := 0) (n := 0) (by omega) (by omega) ?_
          exact W.iret (v := -9) hx hb hr (fun t ht hW => ⟨⟨(-9), (), rfl, Or.inl ⟨rfl, _, (hfin.resolve_right (fun ⟨b, q1, q2, _⟩ => absurd c_7 (by rw [q2]; exact nI_pos (by omega)))).2, Or.inl rfl⟩, by rw [ht]; exact hP9, va_K.moved hW.alike hK, hD9⟩, hS.F ht⟩) hS.2.2 dX12_buysBy_156
        · obtain ⟨b, hb1, hb2, hb3, hb4⟩ := hfin.resolve_left (fun h => c_7 (by rw [h.1]; decide))
          have h9 : bl = nI b := hb2
          subst h9
          have hc2 := cstm_le (Pq := Pq) (n := n) (i := i) (s := b) hi.2 (fun q h1 h2 => (hPq q h1 h2).2)
          refine lv_aload_n hx hb dX12_buysBy_135 rfl (lv_at hl 0 rfl) ?_
          refine lv_iload_n hx hb dX12_buysBy_136 rfl (lv_at hl 1 rfl) ?_
          refine lv_iload_n hx hb dX12_buysBy_137 rfl (lv_at hl 3 rfl) ?_
          have hpd9 := pdf_N (cx := [oX12 g0 m_refused m_kind m_figure m_weight m_got m_setting (nI n) msy mdn m_tape m_letter m_letterAt m_told tp mat stm m_kept him ki crs m_price m_offer m_gets m_yes m_buys m_ends m_carried m_row rm m_keptRow m_likeGets m_likePrice m_ahead, cI aC m_price 81 pf]) hP hD hS hA [3, 2] (by decide) rfl
          have hPc := hpd9.1
          have hDc := hpd9.2.1
          have hFc := hpd9.2.2
          clear hpd9
          refine va_calli (va_runV (As := [Value.int (nI i), Value.int (nI b)]) (rest := []) ⟨hx, hb, hml, hown, hts⟩ (c_X12_costOf l dC dI aC H.size g0 m_refused m_kind m_figure m_weight m_got m_setting m_tape m_letter m_letterAt m_told m_kept m_price m_offer m_gets m_yes m_buys m_ends m_carried m_row m_keptRow m_likeGets m_likePrice m_ahead msy mdn tp mat stm him ki crs rm n pf Pq i (nI b) (hi) (hPq)) ⟨(callB_of 2 hts (gG kw_937) rfl rfl rfl (hts _ (gw kw_13 rfl)) (hts _ (gw kw_934 rfl)) hd_X12_costOf ⟨Nat.le_of_ble_eq_true rfl, Nat.le_of_ble_eq_true rfl⟩), (hts _ (gw kw_936 rfl)), (hts _ (gw ks_53 rfl))⟩ ⟨fb_std, va_recv (q := (RX12, TX12, 33)) hK hPc (ci := 12) (q0 := 0) rfl rfl, pre_std hPc hK hDc hN⟩ rfl rfl hl.1 rfl (lv_room (Nat.le_of_ble_eq_true rfl)) dX12_buysBy_138 ⟨Nat.le_of_ble_eq_true rfl, Nat.le_of_ble_eq_true rfl⟩) hS (fun q _ h => hFc q h) hFc (fun x_8 u9 t9 H1 locs ht hvm hw_8 hB hz1 hk1 hS => ?_)
          obtain ⟨hP1, hK1, hD1⟩ := hB
          rw [ht] at hP1
          clear hK1
          try dsimp only at hw_8
          have hpd9 : PDx (dC, dI) classes A H1 [cI aC m_weight 9 wf, cI aC m_setting 5 stf, oX12 g0 m_refused m_kind m_figure m_weight m_got m_setting (nI n) msy mdn m_tape m_letter m_letterAt m_told tp mat stm m_kept him ki crs m_price m_offer m_gets m_yes m_buys m_ends m_carried m_row rm m_keptRow m_likeGets m_likePrice m_ahead, cI aC m_price 81 pf] := jn_N (wr := [cI aC m_weight 9 wf, cI aC m_setting 5 stf]) hFc hk1 hP1 hD1 hP hD [3, 2] [0, 1] rfl rfl (by decide) (by decide)
          have hP := hpd9.1
          have hD := hpd9.2
          clear hpd9
          generalize H1 = H at hP hS ⊢
          clear hPc hDc hFc hz1 hk1 hP1 hD1 ht hvm
          have h9 : x_8 = nI (cstm Pq n i b) := by rw [hw_8, yw_cstm hi.2 hi.1 hb1]
          subst h9
          refine lv_aload_n hx hb dX12_buysBy_141 rfl (lv_at hl 0 rfl) ?_
          refine va_get (D := (dC, dI)) (ci := 12) (v := Value.ref m_setting) (C := RX12) (T := TX12) (N := 33) hx hb hts inX12 hown hK hP 2 rfl rfl 5 (by decide) (hts _ (gw kw_722 rfl)) (fun _ h9 => h9) rfl dX12_buysBy_142 ?_
          refine lv_iconst (v := 0) hx hb dX12_buysBy_145 (by decide) ?_
          have h_9 : vp_in 0 5 := by unfold vp_in; decide
          refine va_iald hx hb hK hP 1 0 rfl rfl h_9 dX12_buysBy_146 ?_
          refine lv_topi (fun x_10 e_10 => ?_)
          have h9 : x_10 = nI cq := by rw [e_10]; exact hcq.1
          subst h9
          refine lv_icmp_gt (tgt := 154) hx hb dX12_buysBy_147 (by decide) (fun c_11 => ?_) (fun c_11 => ?_)
          · refine lv_bipush (v := -9) hx hb dX12_buysBy_154 (by decide) ?_
            have hpd9 := pd_N (cx := [oX12 g0 m_refused m_kind m_figure m_weight m_got m_setting (nI n) msy mdn m_tape m_letter m_letterAt m_told tp mat stm m_kept him ki crs m_price m_offer m_gets m_yes m_buys m_ends m_carried m_row rm m_keptRow m_likeGets m_likePrice m_ahead, cI aC m_weight 9 wf, cI aC m_setting 5 stf, cI aC m_price 81 pf]) hP hD [2, 0, 1, 3] (by decide) rfl
            have hP9 := hpd9.1
            have hD9 := hpd9.2
            refine W.widen (k := 0) (n := 0) (by omega) (by omega) ?_
            exact W.iret (v := -9) hx hb hr (fun t ht hW => ⟨⟨(-9), (), rfl, Or.inl ⟨rfl, _, hb4, Or.inr ⟨_, us_lt, rfl, by rw [cst_us hi.1 hi.2]; exact (nI_ltI (by omega) (by omega)).mp c_11⟩⟩, by rw [ht]; exact hP9, va_K.moved hW.alike hK, hD9⟩, hS.F ht⟩) hS.2.2 dX12_buysBy_156
          · refine lv_iload_n hx hb dX12_buysBy_150 rfl (lv_at hl 3 rfl) ?_
            refine lv_goto (tgt := 156) hx hb dX12_buysBy_151 (by decide) ?_
            have hpd9 := pd_N (cx := [oX12 g0 m_refused m_kind m_figure m_weight m_got m_setting (nI n) msy mdn m_tape m_letter m_letterAt m_told tp mat stm m_kept him ki crs m_price m_offer m_gets m_yes m_buys m_ends m_carried m_row rm m_keptRow m_likeGets m_likePrice m_ahead, cI aC m_weight 9 wf, cI aC m_setting 5 stf, cI aC m_price 81 pf]) hP hD [2, 0, 1, 3] (by decide) rfl
            have hP9 := hpd9.1
            have hD9 := hpd9.2
            refine W.widen (k := 0) (n := 0) (by omega) (by omega) ?_
            exact W.iret (v := nI b) hx hb hr (fun t ht hW => ⟨⟨(nI b), (), rfl, Or.inr ⟨b, hb1, rfl, hb3, hb4, by rcases Nat.lt_or_ge cq (cstm Pq n i b) with q | q <;> first | exact q | exact absurd (nI_lt q (by omega)) c_11⟩, by rw [ht]; exact hP9, va_K.moved hW.alike hK, hD9⟩, hS.F ht⟩) hS.2.2 dX12_buysBy_156
      · have hlx : x < 2 ^ n := by
          rcases Nat.lt_or_ge x (2 ^ n) with q | q
          · exact q
          · exact absurd (nI_le q (by omega)) c_6
        refine lv_iload hx hb dX12_buysBy_29 (lv_at hl 4 rfl) ?_
        refine lv_iload_n hx hb dX12_buysBy_31 rfl (lv_at hl 2 rfl) ?_
        refine lv_iconst (v := -1) hx hb dX12_buysBy_32 (by decide) ?_
        refine lv_ixor hx hb dX12_buysBy_33 ?_
        refine lv_topi (fun x_12 e_12 => ?_)
        refine lv_iand hx hb dX12_buysBy_34 ?_
        refine lv_topi (fun x_13 e_13 => ?_)
        refine lv_if_ne (tgt := 125) hx hb dX12_buysBy_35 (by decide) (fun c_14 => ?_) (fun c_14 => ?_)
        · have hbn := BSM_no (x := x) hbl (fun q => c_14 (by rw [e_13, e_12]; exact (bnd_mask hi hlx hyg).mpr q.1))
          obtain ⟨x_15, e_15⟩ : ∃ y : Int32, y = (nI x) + 1 := ⟨_, rfl⟩
          refine lv_iinc (v := x_15) (lv' := [(4, Value.int x_15), (0, Value.ref g0), (1, Value.int (nI i)), (2, Value.int x_4), (3, Value.int bl)]) hx hb dX12_buysBy_125 hl (k := 4) rfl (by rw [e_15]; rfl) (by decide) rfl (fun ls hl => ?_)
          have h9 : x_15 = nI (x + 1) := by rw [e_15, nI_1]
          subst h9
          refine lv_goto (tgt := 18) hx hb dX12_buysBy_128 (by decide) ?_
          exact ih_18 (x + 1) bl (by omega) (by omega) (hbn) _ _ _ (hP.sub [0, 1, 2, 3] rfl) (hD.sub [0, 1, 2, 3] (by decide) rfl) hS (lv_sub hl [1, 2, 3, 4, 0] rfl)
        · have hB : BND n i x := (bnd_mask hi hlx hyg).mp (by rw [← e_12, ← e_13]; exact c_14)
          refine lv_aload_n hx hb dX12_buysBy_38 rfl (lv_at hl 0 rfl) ?_
          refine va_get (D := (dC, dI)) (ci := 12) (v := Value.ref m_setting) (C := RX12) (T := TX12) (N := 33) hx hb hts inX12 hown hK hP 3 rfl rfl 5 (by decide) (hts _ (gw kw_722 rfl)) (fun _ h9 => h9) rfl dX12_buysBy_39 ?_
          refine lv_iconst (v := 1) hx hb dX12_buysBy_42 (by decide) ?_
          have h_16 : vp_in 1 5 := by unfold vp_in; decide
          refine va_iald hx hb hK hP 1 0 rfl rfl h_16 dX12_buysBy_43 ?_
          refine lv_topi (fun x_17 e_17 => ?_)
          have h9 : x_17 = (stf 1) := by rw [e_17]; rfl
          subst h9
          refine lv_aload_n hx hb dX12_buysBy_44 rfl (lv_at hl 0 rfl) ?_
          refine lv_iload hx hb dX12_buysBy_45 (lv_at hl 4 rfl) ?_
          refine lv_aload_n hx hb dX12_buysBy_47 rfl (lv_at hl 0 rfl) ?_
          refine lv_iload_n hx hb dX12_buysBy_48 rfl (lv_at hl 1 rfl) ?_
          have hpd9 := pdf_N (cx := [oX12 g0 m_refused m_kind m_figure m_weight m_got m_setting (nI n) msy mdn m_tape m_letter m_letterAt m_told tp mat stm m_kept him ki crs m_price m_offer m_gets m_yes m_buys m_ends m_carried m_row rm m_keptRow m_likeGets m_likePrice m_ahead, cI aC m_price 81 pf]) hP hD hS hA [3, 2] (by decide) rfl
          have hPc := hpd9.1
          have hDc := hpd9.2.1
          have hFc := hpd9.2.2
          clear hpd9
          refine va_calli (va_runV (As := [Value.int (nI i)]) (rest := [Value.int (nI x), Value.ref g0, Value.int (stf 1)]) ⟨hx, hb, hml, hown, hts⟩ (c_X12_unbought l dC dI aC H.size g0 m_refused m_kind m_figure m_weight m_got m_setting m_tape m_letter m_letterAt m_told m_kept m_price m_offer m_gets m_yes m_buys m_ends m_carried m_row m_keptRow m_likeGets m_likePrice m_ahead msy mdn tp mat stm him ki crs rm n pf Pq i (hi) (hPq)) ⟨(callB_of 1 hts (gG kw_926) rfl rfl rfl (hts _ (gw kw_13 rfl)) (hts _ (gw kw_923 rfl)) hd_X12_unbought ⟨Nat.le_of_ble_eq_true rfl, Nat.le_of_ble_eq_true rfl⟩), (hts _ (gw kw_925 rfl)), (hts _ (gw ks_51 rfl))⟩ ⟨fb_std, va_recv (q := (RX12, TX12, 33)) hK hPc (ci := 12) (q0 := 0) rfl rfl, pre_std hPc hK hDc hN⟩ rfl rfl hl.1 rfl (lv_room (Nat.le_of_ble_eq_true rfl)) dX12_buysBy_49 ⟨Nat.le_of_ble_eq_true rfl, Nat.le_of_ble_eq_true rfl⟩) hS (fun q _ h => hFc q h) hFc (fun x_18 u9 t9 H1 locs ht hvm hw_18 hB hz1 hk1 hS => ?_)
          obtain ⟨hP1, hK1, hD1⟩ := hB
          rw [ht] at hP1
          clear hK1
          try dsimp only at hw_18
          have hpd9 : PDx (dC, dI) classes A H1 [cI aC m_weight 9 wf, cI aC m_setting 5 stf, oX12 g0 m_refused m_kind m_figure m_weight m_got m_setting (nI n) msy mdn m_tape m_letter m_letterAt m_told tp mat stm m_kept him ki crs m_price m_offer m_gets m_yes m_buys m_ends m_carried m_row rm m_keptRow m_likeGets m_likePrice m_ahead, cI aC m_price 81 pf] := jn_N (wr := [cI aC m_weight 9 wf, cI aC m_setting 5 stf]) hFc hk1 hP1 hD1 hP hD [3, 2] [0, 1] rfl rfl (by decide) (by decide)
          have hP := hpd9.1
          have hD := hpd9.2
          clear hpd9
          generalize H1 = H at hP hS ⊢
          clear hPc hDc hFc hz1 hk1 hP1 hD1 ht hvm
          refine lv_ior hx hb dX12_buysBy_52 ?_
          refine lv_topi (fun x_19 e_19 => ?_)
          refine lv_iconst (v := 1) hx hb dX12_buysBy_53 (by decide) ?_
          refine lv_iload_n hx hb dX12_buysBy_54 rfl (lv_at hl 1 rfl) ?_
          refine lv_ishl hx hb dX12_buysBy_55 ?_
          refine lv_topi (fun x_20 e_20 => ?_)
          refine lv_ior hx hb dX12_buysBy_56 ?_
          refine lv_topi (fun x_21 e_21 => ?_)
          have hWT := wt_us (W := W0) (fst := stf 3) hi.1 hi.2 hB (wx_bits hi hlx hw_18 (e_21.trans (by rw [e_20, e_19])))
          have hy9 := yw_le (W := W0) (y := x_21) (a := 0) (k := n) (fun j q => (hw.2 j q).2) (by omega) hw.1
          rw [hWT] at hy9
          have hpd9 := pdf_N (cx := [oX12 g0 m_refused m_kind m_figure m_weight m_got m_setting (nI n) msy mdn m_tape m_letter m_letterAt m_told tp mat stm m_kept him ki crs m_price m_offer m_gets m_yes m_buys m_ends m_carried m_row rm m_keptRow m_likeGets m_likePrice m_ahead, cI aC m_weight 9 wf]) hP hD hS hA [2, 0] (by decide) rfl
          have hPc := hpd9.1
          have hDc := hpd9.2.1
          have hFc := hpd9.2.2
          clear hpd9
          refine va_calli (va_runV (As := [Value.int x_21]) (rest := [Value.int (stf 1)]) ⟨hx, hb, hml, hown, hts⟩ (c_X12_weightOf l dC dI aC H.size g0 m_refused m_kind m_figure m_weight m_got m_setting m_tape m_letter m_letterAt m_told m_kept m_price m_offer m_gets m_yes m_buys m_ends m_carried m_row m_keptRow m_likeGets m_likePrice m_ahead msy mdn tp mat stm him ki crs rm n wf W0 x_21 (hw)) ⟨(callB_of 1 hts (gG kw_930) rfl rfl rfl (hts _ (gw kw_13 rfl)) (hts _ (gw kw_927 rfl)) hd_X12_weightOf ⟨Nat.le_of_ble_eq_true rfl, Nat.le_of_ble_eq_true rfl⟩), (hts _ (gw kw_929 rfl)), (hts _ (gw ks_52 rfl))⟩ ⟨fb_std, va_recv (q := (RX12, TX12, 33)) hK hPc (ci := 12) (q0 := 0) rfl rfl, pre_std hPc hK hDc hN⟩ rfl rfl hl.1 rfl (lv_room (Nat.le_of_ble_eq_true rfl)) dX12_buysBy_57 ⟨Nat.le_of_ble_eq_true rfl, Nat.le_of_ble_eq_true rfl⟩) hS (fun q _ h => hFc q h) hFc (fun x_22 u9 t9 H1 locs ht hvm hw_22 hB hz1 hk1 hS => ?_)
          obtain ⟨hP1, hK1, hD1⟩ := hB
          rw [ht] at hP1
          clear hK1
          try dsimp only at hw_22
          have hpd9 : PDx (dC, dI) classes A H1 [cI aC m_setting 5 stf, cI aC m_price 81 pf, oX12 g0 m_refused m_kind m_figure m_weight m_got m_setting (nI n) msy mdn m_tape m_letter m_letterAt m_told tp mat stm m_kept him ki crs m_price m_offer m_gets m_yes m_buys m_ends m_carried m_row rm m_keptRow m_likeGets m_likePrice m_ahead, cI aC m_weight 9 wf] := jn_N (wr := [cI aC m_setting 5 stf, cI aC m_price 81 pf]) hFc hk1 hP1 hD1 hP hD [2, 0] [1, 3] rfl rfl (by decide) (by decide)
          have hP := hpd9.1
          have hD := hpd9.2
          clear hpd9
          generalize H1 = H at hP hS ⊢
          clear hPc hDc hFc hz1 hk1 hP1 hD1 ht hvm
          have h9 : x_22 = nI (W0 i + sumr (frf (stf 3) n i Pq W0) 0 (n - 1 - i) + cst (uwf (stf 3) n i Pq W0) (us (stf 3) n i x)) := by rw [hw_22, hWT]
          subst h9
          refine lv_aload_n hx hb dX12_buysBy_60 rfl (lv_at hl 0 rfl) ?_
          refine lv_aload_n hx hb dX12_buysBy_61 rfl (lv_at hl 0 rfl) ?_
          refine lv_iload_n hx hb dX12_buysBy_62 rfl (lv_at hl 1 rfl) ?_
          have hpd9 := pdf_N (cx := [oX12 g0 m_refused m_kind m_figure m_weight m_got m_setting (nI n) msy mdn m_tape m_letter m_letterAt m_told tp mat stm m_kept him ki crs m_price m_offer m_gets m_yes m_buys m_ends m_carried m_row rm m_keptRow m_likeGets m_likePrice m_ahead]) hP hD hS hA [2] (by decide) rfl
          have hPc := hpd9.1
          have hDc := hpd9.2.1
          have hFc := hpd9.2.2
          clear hpd9
          refine va_calli (va_runV (As := [Value.int (nI i)]) (rest := [Value.ref g0, Value.int (nI (W0 i + sumr (frf (stf 3) n i Pq W0) 0 (n - 1 - i) + cst (uwf (stf 3) n i Pq W0) (us (stf 3) n i x))), Value.int (stf 1)]) ⟨hx, hb, hml, hown, hts⟩ (c_X12_leftFrom l dC dI aC H.size g0 m_refused m_kind m_figure m_weight m_got m_setting m_tape m_letter m_letterAt m_told m_kept m_price m_offer m_gets m_yes m_buys m_ends m_carried m_row m_keptRow m_likeGets m_likePrice m_ahead msy mdn tp mat stm him ki crs rm n i (by omega)) ⟨(callB_of 1 hts (gG kw_922) rfl rfl rfl (hts _ (gw kw_13 rfl)) (hts _ (gw kw_919 rfl)) hd_X12_leftFrom ⟨Nat.le_of_ble_eq_true rfl, Nat.le_of_ble_eq_true rfl⟩), (hts _ (gw kw_921 rfl)), (hts _ (gw ks_50 rfl))⟩ ⟨fb_std, va_recv (q := (RX12, TX12, 33)) hK hPc (ci := 12) (q0 := 0) rfl rfl, pre_std hPc hK hDc hN⟩ rfl rfl hl.1 rfl (lv_room (Nat.le_of_ble_eq_true rfl)) dX12_buysBy_63 ⟨Nat.le_of_ble_eq_true rfl, Nat.le_of_ble_eq_true rfl⟩) hS (fun q _ h => hFc q h) hFc (fun x_23 u9 t9 H1 locs ht hvm hw_23 hB hz1 hk1 hS => ?_)
          obtain ⟨hP1, hK1, hD1⟩ := hB
          rw [ht] at hP1
          clear hK1
          try dsimp only at hw_23
          have hpd9 : PDx (dC, dI) classes A H1 [cI aC m_setting 5 stf, cI aC m_price 81 pf, cI aC m_weight 9 wf, oX12 g0 m_refused m_kind m_figure m_weight m_got m_setting (nI n) msy mdn m_tape m_letter m_letterAt m_told tp mat stm m_kept him ki crs m_price m_offer m_gets m_yes m_buys m_ends m_carried m_row rm m_keptRow m_likeGets m_likePrice m_ahead] := jn_N (wr := [cI aC m_setting 5 stf, cI aC m_price 81 pf, cI aC m_weight 9 wf]) hFc hk1 hP1 hD1 hP hD [2] [0, 1, 3] rfl rfl (by decide) (by decide)
          have hP := hpd9.1
          have hD := hpd9.2
          clear hpd9
          generalize H1 = H at hP hS ⊢
          clear hPc hDc hFc hz1 hk1 hP1 hD1 ht hvm
          have hpd9 := pdf_N (cx := [oX12 g0 m_refused m_kind m_figure m_weight m_got m_setting (nI n) msy mdn m_tape m_letter m_letterAt m_told tp mat stm m_kept him ki crs m_price m_offer m_gets m_yes m_buys m_ends m_carried m_row rm m_keptRow m_likeGets m_likePrice m_ahead, cI aC m_weight 9 wf]) hP hD hS hA [3, 2] (by decide) rfl
          have hPc := hpd9.1
          have hDc := hpd9.2.1
          have hFc := hpd9.2.2
          clear hpd9
          refine va_calli (va_runV (As := [Value.int x_23]) (rest := [Value.int (nI (W0 i + sumr (frf (stf 3) n i Pq W0) 0 (n - 1 - i) + cst (uwf (stf 3) n i Pq W0) (us (stf 3) n i x))), Value.int (stf 1)]) ⟨hx, hb, hml, hown, hts⟩ (c_X12_weightOf l dC dI aC H.size g0 m_refused m_kind m_figure m_weight m_got m_setting m_tape m_letter m_letterAt m_told m_kept m_price m_offer m_gets m_yes m_buys m_ends m_carried m_row m_keptRow m_likeGets m_likePrice m_ahead msy mdn tp mat stm him ki crs rm n wf W0 x_23 (hw)) ⟨(callB_of 1 hts (gG kw_930) rfl rfl rfl (hts _ (gw kw_13 rfl)) (hts _ (gw kw_927 rfl)) hd_X12_weightOf ⟨Nat.le_of_ble_eq_true rfl, Nat.le_of_ble_eq_true rfl⟩), (hts _ (gw kw_929 rfl)), (hts _ (gw ks_52 rfl))⟩ ⟨fb_std, va_recv (q := (RX12, TX12, 33)) hK hPc (ci := 12) (q0 := 0) rfl rfl, pre_std hPc hK hDc hN⟩ rfl rfl hl.1 rfl (lv_room (Nat.le_of_ble_eq_true rfl)) dX12_buysBy_66 ⟨Nat.le_of_ble_eq_true rfl, Nat.le_of_ble_eq_true rfl⟩) hS (fun q _ h => hFc q h) hFc (fun x_24 u9 t9 H1 locs ht hvm hw_24 hB hz1 hk1 hS => ?_)
          obtain ⟨hP1, hK1, hD1⟩ := hB
          rw [ht] at hP1
          clear hK1
          try dsimp only at hw_24
          have hpd9 : PDx (dC, dI) classes A H1 [cI aC m_setting 5 stf, cI aC m_price 81 pf, oX12 g0 m_refused m_kind m_figure m_weight m_got m_setting (nI n) msy mdn m_tape m_letter m_letterAt m_told tp mat stm m_kept him ki crs m_price m_offer m_gets m_yes m_buys m_ends m_carried m_row rm m_keptRow m_likeGets m_likePrice m_ahead, cI aC m_weight 9 wf] := jn_N (wr := [cI aC m_setting 5 stf, cI aC m_price 81 pf]) hFc hk1 hP1 hD1 hP hD [3, 2] [0, 1] rfl rfl (by decide) (by decide)
          have hP := hpd9.1
          have hD := hpd9.2
          clear hpd9
          generalize H1 = H at hP hS ⊢
          clear hPc hDc hFc hz1 hk1 hP1 hD1 ht hvm
          have h9 : x_24 = nI (sumr W0 i (n - i)) := by rw [hw_24, yw_left (by omega) hi.2 hw_23]
          subst h9
          have hpd9 := pdf_N (cx := []) hP hD hS hA [] (by decide) rfl
          have hPc := hpd9.1
          have hDc := hpd9.2.1
          have hFc := hpd9.2.2
          clear hpd9
          refine va_calli (va_runS (As := [Value.int (stf 1), Value.int (nI (W0 i + sumr (frf (stf 3) n i Pq W0) 0 (n - 1 - i) + cst (uwf (stf 3) n i Pq W0) (us (stf 3) n i x))), Value.int (nI (sumr W0 i (n - i)))]) (rest := []) ⟨hx, hb, hml, hown, hts⟩ (c_X12_isCarried l dC dI aC H.size (stf 1) (W0 i + sumr (frf (stf 3) n i Pq W0) 0 (n - 1 - i) + cst (uwf (stf 3) n i Pq W0) (us (stf 3) n i x)) (sumr W0 i (n - i)) (by omega) (by omega)) ⟨(callB_of 3 hts (gG kw_933) rfl rfl rfl (hts _ (gw kw_13 rfl)) (hts _ (gw kw_931 rfl)) hd_X12_isCarried ⟨Nat.le_of_ble_eq_true rfl, Nat.le_of_ble_eq_true rfl⟩), (hts _ (gw kw_932 rfl))⟩ ⟨fb_std, pre_std hPc hK hDc hN⟩ rfl rfl hl.1 rfl (lv_room (Nat.le_of_ble_eq_true rfl)) dX12_buysBy_69 ⟨Nat.le_of_ble_eq_true rfl, Nat.le_of_ble_eq_true rfl⟩) hS (fun q _ h => hFc q h) hFc (fun x_25 u9 t9 H1 locs ht hvm hw_25 hB hz1 hk1 hS => ?_)
          obtain ⟨hP1, hK1, hD1⟩ := hB
          rw [ht] at hP1
          clear hK1
          try dsimp only at hw_25
          have hpd9 : PDx (dC, dI) classes A H1 [cI aC m_setting 5 stf, cI aC m_price 81 pf, oX12 g0 m_refused m_kind m_figure m_weight m_got m_setting (nI n) msy mdn m_tape m_letter m_letterAt m_told tp mat stm m_kept him ki crs m_price m_offer m_gets m_yes m_buys m_ends m_carried m_row rm m_keptRow m_likeGets m_likePrice m_ahead, cI aC m_weight 9 wf] := jn_N (wr := [cI aC m_setting 5 stf, cI aC m_price 81 pf, oX12 g0 m_refused m_kind m_figure m_weight m_got m_setting (nI n) msy mdn m_tape m_letter m_letterAt m_told tp mat stm m_kept him ki crs m_price m_offer m_gets m_yes m_buys m_ends m_carried m_row rm m_keptRow m_likeGets m_likePrice m_ahead, cI aC m_weight 9 wf]) hFc hk1 hP1 hD1 hP hD [] [0, 1, 2, 3] rfl rfl (by decide) (by decide)
          have hP := hpd9.1
          have hD := hpd9.2
          clear hpd9
          generalize H1 = H at hP hS ⊢
          clear hPc hDc hFc hz1 hk1 hP1 hD1 ht hvm
          have hz_69 := hw_25
          refine lv_if_ne (tgt := 78) hx hb dX12_buysBy_72 (by decide) (fun c_26 => ?_) (fun c_26 => ?_)
          · have hC : (CM n W0 (stf 1) (stf 3) i Pq) x := ⟨hB, by
              by_cases q : nd (stf 1) (sumr W0 i (n - i)) ≤ (W0 i + sumr (frf (stf 3) n i Pq W0) 0 (n - 1 - i) + cst (uwf (stf 3) n i Pq W0) (us (stf 3) n i x))
              · exact q
              · exact absurd (by rw [hz_69, if_neg q]) c_26⟩
            refine lv_iload_n hx hb dX12_buysBy_78 rfl (lv_at hl 3 rfl) ?_
            refine lv_if_ge (tgt := 86) hx hb dX12_buysBy_79 (by decide) (fun c_27 => ?_) (fun c_27 => ?_)
            · obtain ⟨b, hb1, hb2, hb3, hb4⟩ := hbl.resolve_left (fun h => absurd c_27 (by rw [h.1]; decide))
              have h9 : bl = nI b := hb2
              subst h9
              have hc1 := cstm_le (Pq := Pq) (n := n) (i := i) (s := x) hi.2 (fun q h1 h2 => (hPq q h1 h2).2)
              have hc2 := cstm_le (Pq := Pq) (n := n) (i := i) (s := b) hi.2 (fun q h1 h2 => (hPq q h1 h2).2)
              refine lv_aload_n hx hb dX12_buysBy_86 rfl (lv_at hl 0 rfl) ?_
              refine lv_iload_n hx hb dX12_buysBy_87 rfl (lv_at hl 1 rfl) ?_
              refine lv_iload hx hb dX12_buysBy_88 (lv_at hl 4 rfl) ?_
              have hpd9 := pdf_N (cx := [oX12 g0 m_refused m_kind m_figure m_weight m_got m_setting (nI n) msy mdn m_tape m_letter m_letterAt m_told tp mat stm m_kept him ki crs m_price m_offer m_gets m_yes m_buys m_ends m_carried m_row rm m_keptRow m_likeGets m_likePrice m_ahead, cI aC m_price 81 pf]) hP hD hS hA [2, 1] (by decide) rfl
              have hPc := hpd9.1
              have hDc := hpd9.2.1
              have hFc := hpd9.2.2
              clear hpd9
              refine va_calli (va_runV (As := [Value.int (nI i), Value.int (nI x)]) (rest := []) ⟨hx, hb, hml, hown, hts⟩ (c_X12_costOf l dC dI aC H.size g0 m_refused m_kind m_figure m_weight m_got m_setting m_tape m_letter m_letterAt m_told m_kept m_price m_offer m_gets m_yes m_buys m_ends m_carried m_row m_keptRow m_likeGets m_likePrice m_ahead msy mdn tp mat stm him ki crs rm n pf Pq i (nI x) (hi) (hPq)) ⟨(callB_of 2 hts (gG kw_937) rfl rfl rfl (hts _ (gw kw_13 rfl)) (hts _ (gw kw_934 rfl)) hd_X12_costOf ⟨Nat.le_of_ble_eq_true rfl, Nat.le_of_ble_eq_true rfl⟩), (hts _ (gw kw_936 rfl)), (hts _ (gw ks_53 rfl))⟩ ⟨fb_std, va_recv (q := (RX12, TX12, 33)) hK hPc (ci := 12) (q0 := 0) rfl rfl, pre_std hPc hK hDc hN⟩ rfl rfl hl.1 rfl (lv_room (Nat.le_of_ble_eq_true rfl)) dX12_buysBy_90 ⟨Nat.le_of_ble_eq_true rfl, Nat.le_of_ble_eq_true rfl⟩) hS (fun q _ h => hFc q h) hFc (fun x_28 u9 t9 H1 locs ht hvm hw_28 hB hz1 hk1 hS => ?_)
              obtain ⟨hP1, hK1, hD1⟩ := hB
              rw [ht] at hP1
              clear hK1
              try dsimp only at hw_28
              have hpd9 : PDx (dC, dI) classes A H1 [cI aC m_setting 5 stf, cI aC m_weight 9 wf, oX12 g0 m_refused m_kind m_figure m_weight m_got m_setting (nI n) msy mdn m_tape m_letter m_letterAt m_told tp mat stm m_kept him ki crs m_price m_offer m_gets m_yes m_buys m_ends m_carried m_row rm m_keptRow m_likeGets m_likePrice m_ahead, cI aC m_price 81 pf] := jn_N (wr := [cI aC m_setting 5 stf, cI aC m_weight 9 wf]) hFc hk1 hP1 hD1 hP hD [2, 1] [0, 3] rfl rfl (by decide) (by decide)
              have hP := hpd9.1
              have hD := hpd9.2
              clear hpd9
              generalize H1 = H at hP hS ⊢
              clear hPc hDc hFc hz1 hk1 hP1 hD1 ht hvm
              have h9 : x_28 = nI (cstm Pq n i x) := by rw [hw_28, yw_cstm hi.2 hi.1 hlx]
              subst h9
              refine lv_aload_n hx hb dX12_buysBy_93 rfl (lv_at hl 0 rfl) ?_
              refine lv_iload_n hx hb dX12_buysBy_94 rfl (lv_at hl 1 rfl) ?_
              refine lv_iload_n hx hb dX12_buysBy_95 rfl (lv_at hl 3 rfl) ?_
              have hpd9 := pdf_N (cx := [oX12 g0 m_refused m_kind m_figure m_weight m_got m_setting (nI n) msy mdn m_tape m_letter m_letterAt m_told tp mat stm m_kept him ki crs m_price m_offer m_gets m_yes m_buys m_ends m_carried m_row rm m_keptRow m_likeGets m_likePrice m_ahead, cI aC m_price 81 pf]) hP hD hS hA [2, 3] (by decide) rfl
              have hPc := hpd9.1
              have hDc := hpd9.2.1
              have hFc := hpd9.2.2
              clear hpd9
              refine va_calli (va_runV (As := [Value.int (nI i), Value.int (nI b)]) (rest := [Value.int (nI (cstm Pq n i x))]) ⟨hx, hb, hml, hown, hts⟩ (c_X12_costOf l dC dI aC H.size g0 m_refused m_kind m_figure m_weight m_got m_setting m_tape m_letter m_letterAt m_told m_kept m_price m_offer m_gets m_yes m_buys m_ends m_carried m_row m_keptRow m_likeGets m_likePrice m_ahead msy mdn tp mat stm him ki crs rm n pf Pq i (nI b) (hi) (hPq)) ⟨(callB_of 2 hts (gG kw_937) rfl rfl rfl (hts _ (gw kw_13 rfl)) (hts _ (gw kw_934 rfl)) hd_X12_costOf ⟨Nat.le_of_ble_eq_true rfl, Nat.le_of_ble_eq_true rfl⟩), (hts _ (gw kw_936 rfl)), (hts _ (gw ks_53 rfl))⟩ ⟨fb_std, va_recv (q := (RX12, TX12, 33)) hK hPc (ci := 12) (q0 := 0) rfl rfl, pre_std hPc hK hDc hN⟩ rfl rfl hl.1 rfl (lv_room (Nat.le_of_ble_eq_true rfl)) dX12_buysBy_96 ⟨Nat.le_of_ble_eq_true rfl, Nat.le_of_ble_eq_true rfl⟩) hS (fun q _ h => hFc q h) hFc (fun x_29 u9 t9 H1 locs ht hvm hw_29 hB hz1 hk1 hS => ?_)
              obtain ⟨hP1, hK1, hD1⟩ := hB
              rw [ht] at hP1
              clear hK1
              try dsimp only at hw_29
              have hpd9 : PDx (dC, dI) classes A H1 [cI aC m_setting 5 stf, cI aC m_weight 9 wf, oX12 g0 m_refused m_kind m_figure m_weight m_got m_setting (nI n) msy mdn m_tape m_letter m_letterAt m_told tp mat stm m_kept him ki crs m_price m_offer m_gets m_yes m_buys m_ends m_carried m_row rm m_keptRow m_likeGets m_likePrice m_ahead, cI aC m_price 81 pf] := jn_N (wr := [cI aC m_setting 5 stf, cI aC m_weight 9 wf]) hFc hk1 hP1 hD1 hP hD [2, 3] [0, 1] rfl rfl (by decide) (by decide)
              have hP := hpd9.1
              have hD := hpd9.2
              clear hpd9
              generalize H1 = H at hP hS ⊢
              clear hPc hDc hFc hz1 hk1 hP1 hD1 ht hvm
              have h9 : x_29 = nI (cstm Pq n i b) := by rw [hw_29, yw_cstm hi.2 hi.1 (by omega)]
              subst h9
              refine lv_isub hx hb dX12_buysBy_99 ?_
              refine lv_topi (fun x_30 e_30 => ?_)
              have h9 : x_30 = iI ((cstm Pq n i x : Int) - cstm Pq n i b) := by rw [e_30, nI_iI, nI_iI, iI_sub]
              subst h9
              refine lv_istore (lv' := [(5, Value.int (iI ((cstm Pq n i x : Int) - cstm Pq n i b))), (0, Value.ref g0), (1, Value.int (nI i)), (2, Value.int x_4), (3, Value.int (nI b)), (4, Value.int (nI x))]) hx hb dX12_buysBy_100 hl (by decide) rfl (fun ls hl => ?_)
              refine lv_iload hx hb dX12_buysBy_102 (lv_at hl 0 rfl) ?_
              refine lv_if_lt (tgt := 122) hx hb dX12_buysBy_104 (by decide) (fun c_31 => ?_) (fun c_31 => ?_)
              · refine lv_iload hx hb dX12_buysBy_122 (lv_at hl 5 rfl) ?_
                refine lv_istore_n (lv' := [(3, Value.int (nI x)), (5, Value.int (iI ((cstm Pq n i x : Int) - cstm Pq n i b))), (0, Value.ref g0), (1, Value.int (nI i)), (2, Value.int x_4), (4, Value.int (nI x))]) hx hb dX12_buysBy_124 rfl hl (by decide) rfl (fun ls hl => ?_)
                have hd1 : cstm Pq n i x < cstm Pq n i b := by have h9 := c_31; rw [← iI_0, iI_lt (by unfold sm; omega) sm0] at h9; omega
                have hbn := BSM_take hb4 hC (Or.inl hd1)
                obtain ⟨x_32, e_32⟩ : ∃ y : Int32, y = (nI x) + 1 := ⟨_, rfl⟩
                refine lv_iinc (v := x_32) (lv' := [(4, Value.int x_32), (3, Value.int (nI x)), (5, Value.int (iI ((cstm Pq n i x : Int) - cstm Pq n i b))), (0, Value.ref g0), (1, Value.int (nI i)), (2, Value.int x_4)]) hx hb dX12_buysBy_125 hl (k := 5) rfl (by rw [e_32]; rfl) (by decide) rfl (fun ls hl => ?_)
                have h9 : x_32 = nI (x + 1) := by rw [e_32, nI_1]
                subst h9
                refine lv_goto (tgt := 18) hx hb dX12_buysBy_128 (by decide) ?_
                exact ih_18 (x + 1) (nI x) (by omega) (by omega) (hbn) _ _ _ (hP.sub [1, 0, 3, 2] rfl) (hD.sub [1, 0, 3, 2] (by decide) rfl) hS (lv_sub hl [3, 4, 5, 1, 0] rfl)
              · refine lv_iload hx hb dX12_buysBy_107 (lv_at hl 0 rfl) ?_
                refine lv_if_ne (tgt := 125) hx hb dX12_buysBy_109 (by decide) (fun c_33 => ?_) (fun c_33 => ?_)
                · have hd1 : ¬ cstm Pq n i x < cstm Pq n i b := by have h9 := c_31; rw [← iI_0, iI_lt (by unfold sm; omega) sm0] at h9; omega
                  have hd2 : ¬ cstm Pq n i x = cstm Pq n i b := fun q => c_33 (by rw [q, Int.sub_self]; rfl)
                  have hbn := BSM_dear (bl := nI b) hb1 rfl hb3 hb4 (Or.inl (by omega))
                  obtain ⟨x_34, e_34⟩ : ∃ y : Int32, y = (nI x) + 1 := ⟨_, rfl⟩
                  refine lv_iinc (v := x_34) (lv' := [(4, Value.int x_34), (5, Value.int (iI ((cstm Pq n i x : Int) - cstm Pq n i b))), (0, Value.ref g0), (1, Value.int (nI i)), (2, Value.int x_4), (3, Value.int (nI b))]) hx hb dX12_buysBy_125 hl (k := 5) rfl (by rw [e_34]; rfl) (by decide) rfl (fun ls hl => ?_)
                  have h9 : x_34 = nI (x + 1) := by rw [e_34, nI_1]
                  subst h9
                  refine lv_goto (tgt := 18) hx hb dX12_buysBy_128 (by decide) ?_
                  exact ih_18 (x + 1) (nI b) (by omega) (by omega) (hbn) _ _ _ (hP.sub [1, 0, 3, 2] rfl) (hD.sub [1, 0, 3, 2] (by decide) rfl) hS (lv_sub hl [2, 3, 4, 5, 0] rfl)
                · refine lv_aload_n hx hb dX12_buysBy_112 rfl (lv_at hl 1 rfl) ?_
                  refine lv_iload hx hb dX12_buysBy_113 (lv_at hl 5 rfl) ?_
                  refine lv_iload_n hx hb dX12_buysBy_115 rfl (lv_at hl 4 rfl) ?_
                  have hpd9 := pdf_N (cx := [oX12 g0 m_refused m_kind m_figure m_weight m_got m_setting (nI n) msy mdn m_tape m_letter m_letterAt m_told tp mat stm m_kept him ki crs m_price m_offer m_gets m_yes m_buys m_ends m_carried m_row rm m_keptRow m_likeGets m_likePrice m_ahead, cI aC m_setting 5 stf]) hP hD hS hA [2, 0] (by decide) rfl
                  have hPc := hpd9.1
                  have hDc := hpd9.2.1
                  have hFc := hpd9.2.2
                  clear hpd9
                  refine va_calli (va_runV (As := [Value.int (nI x), Value.int (nI b)]) (rest := []) ⟨hx, hb, hml, hown, hts⟩ (c_X12_isAhead l dC dI aC H.size g0 m_refused m_kind m_figure m_weight m_got m_setting m_tape m_letter m_letterAt m_told m_kept m_price m_offer m_gets m_yes m_buys m_ends m_carried m_row m_keptRow m_likeGets m_likePrice m_ahead msy mdn tp mat stm him ki crs rm n stf i x b (hi) (⟨hlx, hB⟩) (⟨by omega, hb3.1⟩)) ⟨(callB_of 2 hts (gG kw_941) rfl rfl rfl (hts _ (gw kw_13 rfl)) (hts _ (gw kw_938 rfl)) hd_X12_isAhead ⟨Nat.le_of_ble_eq_true rfl, Nat.le_of_ble_eq_true rfl⟩), (hts _ (gw kw_940 rfl)), (hts _ (gw ks_54 rfl))⟩ ⟨fb_std, va_recv (q := (RX12, TX12, 33)) hK hPc (ci := 12) (q0 := 0) rfl rfl, pre_std hPc hK hDc hN⟩ rfl rfl hl.1 rfl (lv_room (Nat.le_of_ble_eq_true rfl)) dX12_buysBy_116 ⟨Nat.le_of_ble_eq_true rfl, Nat.le_of_ble_eq_true rfl⟩) hS (fun q _ h => hFc q h) hFc (fun x_35 u9 t9 H1 locs ht hvm hw_35 hB hz1 hk1 hS => ?_)
                  obtain ⟨hP1, hK1, hD1⟩ := hB
                  rw [ht] at hP1
                  clear hK1
                  try dsimp only at hw_35
                  have hpd9 : PDx (dC, dI) classes A H1 [cI aC m_weight 9 wf, cI aC m_price 81 pf, oX12 g0 m_refused m_kind m_figure m_weight m_got m_setting (nI n) msy mdn m_tape m_letter m_letterAt m_told tp mat stm m_kept him ki crs m_price m_offer m_gets m_yes m_buys m_ends m_carried m_row rm m_keptRow m_likeGets m_likePrice m_ahead, cI aC m_setting 5 stf] := jn_N (wr := [cI aC m_weight 9 wf, cI aC m_price 81 pf]) hFc hk1 hP1 hD1 hP hD [2, 0] [1, 3] rfl rfl (by decide) (by decide)
                  have hP := hpd9.1
                  have hD := hpd9.2
                  clear hpd9
                  generalize H1 = H at hP hS ⊢
                  clear hPc hDc hFc hz1 hk1 hP1 hD1 ht hvm
                  have hz_116 := hw_35
                  refine lv_if_eq (tgt := 125) hx hb dX12_buysBy_119 (by decide) (fun c_36 => ?_) (fun c_36 => ?_)
                  · have hd1 : ¬ cstm Pq n i x < cstm Pq n i b := by have h9 := c_31; rw [← iI_0, iI_lt (by unfold sm; omega) sm0] at h9; omega
                    have hd2 : cstm Pq n i x = cstm Pq n i b := by have h9 := c_33; rw [← iI_0, iI_eq (by unfold sm; omega) sm0] at h9; omega
                    have hd3 : ¬ us (stf 3) n i b < us (stf 3) n i x := fun q => absurd (hz_116.symm.trans c_36) (by rw [if_pos q]; decide)
                    have hbn := BSM_dear (bl := nI b) hb1 rfl hb3 hb4 (Or.inr ⟨hd2.symm, by omega⟩)
                    obtain ⟨x_37, e_37⟩ : ∃ y : Int32, y = (nI x) + 1 := ⟨_, rfl⟩
                    refine lv_iinc (v := x_37) (lv' := [(4, Value.int x_37), (5, Value.int (iI ((cstm Pq n i x : Int) - cstm Pq n i b))), (0, Value.ref g0), (1, Value.int (nI i)), (2, Value.int x_4), (3, Value.int (nI b))]) hx hb dX12_buysBy_125 hl (k := 5) rfl (by rw [e_37]; rfl) (by decide) rfl (fun ls hl => ?_)
                    have h9 : x_37 = nI (x + 1) := by rw [e_37, nI_1]
                    subst h9
                    refine lv_goto (tgt := 18) hx hb dX12_buysBy_128 (by decide) ?_
                    exact ih_18 (x + 1) (nI b) (by omega) (by omega) (hbn) _ _ _ (hP.sub [0, 3, 1, 2] rfl) (hD.sub [0, 3, 1, 2] (by decide) rfl) hS (lv_sub hl [2, 3, 4, 5, 0] rfl)
                  · refine lv_iload hx hb dX12_buysBy_122 (lv_at hl 5 rfl) ?_
                    refine lv_istore_n (lv' := [(3, Value.int (nI x)), (5, Value.int (iI ((cstm Pq n i x : Int) - cstm Pq n i b))), (0, Value.ref g0), (1, Value.int (nI i)), (2, Value.int x_4), (4, Value.int (nI x))]) hx hb dX12_buysBy_124 rfl hl (by decide) rfl (fun ls hl => ?_)
                    have hd1 : ¬ cstm Pq n i x < cstm Pq n i b := by have h9 := c_31; rw [← iI_0, iI_lt (by unfold sm; omega) sm0] at h9; omega
                    have hd2 : cstm Pq n i x = cstm Pq n i b := by have h9 := c_33; rw [← iI_0, iI_eq (by unfold sm; omega) sm0] at h9; omega
                    have hd3 : us (stf 3) n i b < us (stf 3) n i x := by
                      by_cases q : us (stf 3) n i b < us (stf 3) n i x
                      · exact q
                      · exact absurd (by rw [hz_116, if_neg q]) c_36
                    have hbn := BSM_take hb4 hC (Or.inr ⟨hd2, by omega⟩)
                    obtain ⟨x_38, e_38⟩ : ∃ y : Int32, y = (nI x) + 1 := ⟨_, rfl⟩
                    refine lv_iinc (v := x_38) (lv' := [(4, Value.int x_38), (3, Value.int (nI x)), (5, Value.int (iI ((cstm Pq n i x : Int) - cstm Pq n i b))), (0, Value.ref g0), (1, Value.int (nI i)), (2, Value.int x_4)]) hx hb dX12_buysBy_125 hl (k := 5) rfl (by rw [e_38]; rfl) (by decide) rfl (fun ls hl => ?_)
                    have h9 : x_38 = nI (x + 1) := by rw [e_38, nI_1]
                    subst h9
                    refine lv_goto (tgt := 18) hx hb dX12_buysBy_128 (by decide) ?_
                    exact ih_18 (x + 1) (nI x) (by omega) (by omega) (hbn) _ _ _ (hP.sub [0, 3, 1, 2] rfl) (hD.sub [0, 3, 1, 2] (by decide) rfl) hS (lv_sub hl [3, 4, 5, 1, 0] rfl)
            · have hb0 := hbl.resolve_right (fun ⟨b, q1, q2, _⟩ => c_27 (by rw [q2]; exact nI_pos' (by omega)))
              refine lv_iconst (v := -1) hx hb dX12_buysBy_82 (by decide) ?_
              refine lv_goto (tgt := 100) hx hb dX12_buysBy_83 (by decide) ?_
              refine lv_istore (lv' := [(5, Value.int (-1)), (0, Value.ref g0), (1, Value.int (nI i)), (2, Value.int x_4), (3, Value.int bl), (4, Value.int (nI x))]) hx hb dX12_buysBy_100 hl (by decide) rfl (fun ls hl => ?_)
              refine lv_iload hx hb dX12_buysBy_102 (lv_at hl 0 rfl) ?_
              refine lv_if_lt (tgt := 122) hx hb dX12_buysBy_104 (by decide) (fun c_39 => ?_) (fun c_39 => ?_)
              · refine lv_iload hx hb dX12_buysBy_122 (lv_at hl 5 rfl) ?_
                refine lv_istore_n (lv' := [(3, Value.int (nI x)), (5, Value.int (-1)), (0, Value.ref g0), (1, Value.int (nI i)), (2, Value.int x_4), (4, Value.int (nI x))]) hx hb dX12_buysBy_124 rfl hl (by decide) rfl (fun ls hl => ?_)
                have hbn := BSM_first (ct := cstm Pq n i) (u := us (stf 3) n i) hb0.2 hC
                obtain ⟨x_40, e_40⟩ : ∃ y : Int32, y = (nI x) + 1 := ⟨_, rfl⟩
                refine lv_iinc (v := x_40) (lv' := [(4, Value.int x_40), (3, Value.int (nI x)), (5, Value.int (-1)), (0, Value.ref g0), (1, Value.int (nI i)), (2, Value.int x_4)]) hx hb dX12_buysBy_125 hl (k := 5) rfl (by rw [e_40]; rfl) (by decide) rfl (fun ls hl => ?_)
                have h9 : x_40 = nI (x + 1) := by rw [e_40, nI_1]
                subst h9
                refine lv_goto (tgt := 18) hx hb dX12_buysBy_128 (by decide) ?_
                exact ih_18 (x + 1) (nI x) (by omega) (by omega) (hbn) _ _ _ (hP.sub [3, 0, 1, 2] rfl) (hD.sub [3, 0, 1, 2] (by decide) rfl) hS (lv_sub hl [3, 4, 5, 1, 0] rfl)
              · exact absurd (by decide) c_39
          · refine lv_goto (tgt := 125) hx hb dX12_buysBy_75 (by decide) ?_
            have hbn := BSM_no (x := x) hbl (fun q => absurd (hz_69.symm.trans c_26) (by rw [if_pos (show nd (stf 1) (sumr W0 i (n - i)) ≤ (W0 i + sumr (frf (stf 3) n i Pq W0) 0 (n - 1 - i) + cst (uwf (stf 3) n i Pq W0) (us (stf 3) n i x)) from q.2)]; decide))
            obtain ⟨x_41, e_41⟩ : ∃ y : Int32, y = (nI x) + 1 := ⟨_, rfl⟩
            refine lv_iinc (v := x_41) (lv' := [(4, Value.int x_41), (0, Value.ref g0), (1, Value.int (nI i)), (2, Value.int x_4), (3, Value.int bl)]) hx hb dX12_buysBy_125 hl (k := 4) rfl (by rw [e_41]; rfl) (by decide) rfl (fun ls hl => ?_)
            have h9 : x_41 = nI (x + 1) := by rw [e_41, nI_1]
            subst h9
            refine lv_goto (tgt := 18) hx hb dX12_buysBy_128 (by decide) ?_
            exact ih_18 (x + 1) bl (by omega) (by omega) (hbn) _ _ _ (hP.sub [3, 0, 1, 2] rfl) (hD.sub [3, 0, 1, 2] (by decide) rfl) hS (lv_sub hl [1, 2, 3, 4, 0] rfl)
  exact lp_18 ((2 ^ n - 0) + 1) 0 (-9) (Nat.lt_succ_self _) (Nat.zero_le _) (BSM_0) _ _ _ (hP.sub [0, 1, 2, 3] rfl) (hD.sub [0, 1, 2, 3] (by decide) rfl) hS (lv_sub hl [3, 4, 2, 1, 0] rfl)

set_option maxHeartbeats 1000000 in
set_option maxRecDepth 100000 in
/-- X12_offersEach -/
theorem c_X12_offersEach (l : Launch) (dC : Nat → ClassId) (dI : Nat → Nat → Nat) (aC : Nat → ClassId) (sz : Nat) (g0 : Nat) (m_refused : Nat) (m_kind : Nat) (m_figure : Nat) (m_weight : Nat) (m_got : Nat) (m_setting : Nat) (m_tape : Nat) (m_letter : Nat) (m_letterAt : Nat) (m_told : Nat) (m_kept : Nat) (m_price : Nat) (m_offer : Nat) (m_gets : Nat) (m_yes : Nat) (m_buys : Nat) (m_ends : Nat) (m_carried : Nat) (m_row : Nat) (m_keptRow : Nat) (m_likeGets : Nat) (m_likePrice : Nat) (m_ahead : Nat) (msy : Int32) (mdn : Int32) (tp : Int32) (mat : Int32) (stm : Int32) (him : Int32) (ki : Int32) (crs : Int32) (rm : Int32) (n : Nat) (of : Nat → Int32) (i : Nat) (j : Nat) (v : Nat) (a0 : Nat) (hij : i < j ∧ j < 8) (ha : of (9 * i + i) = nI a0) (hv : v ≤ a0 ∧ a0 ≤ 99) : Met l yX12_offersEach (wW yX12_offersEach cX12_offersEach 4 (none : Option FieldType)) ({ frames := 0, cells := 0, slots := 0, locals := 0 } : Room) (va_Pc [Value.ref g0, Value.int (nI i), Value.int (nI j), Value.int (nI v)] (fun U => U.heap.size = sz ∧ va_P (dC, dI) classes [oX12 g0 m_refused m_kind m_figure m_weight m_got m_setting (nI n) msy mdn m_tape m_letter m_letterAt m_told tp mat stm m_kept him ki crs m_price m_offer m_gets m_yes m_buys m_ends m_carried m_row rm m_keptRow m_likeGets m_likePrice m_ahead, cI aC m_offer 81 of] U.heap ∧ va_K (dC, dI) classes (TY aC) U ∧ va_D (fun _ => True) [oX12 g0 m_refused m_kind m_figure m_weight m_got m_setting (nI n) msy mdn m_tape m_letter m_letterAt m_told tp mat stm m_kept him ki crs m_price m_offer m_gets m_yes m_buys m_ends m_carried m_row rm m_keptRow m_likeGets m_likePrice m_ahead, cI aC m_offer 81 of] ∧ NX U)) (va_Qv (fun (of2 : Nat → Int32) => of2 = upd (upd of (9 * i + j) (nI v)) (9 * i + i) (nI (a0 - v))) (fun (of2 : Nat → Int32) (t : State) => va_P (dC, dI) classes [oX12 g0 m_refused m_kind m_figure m_weight m_got m_setting (nI n) msy mdn m_tape m_letter m_letterAt m_told tp mat stm m_kept him ki crs m_price m_offer m_gets m_yes m_buys m_ends m_carried m_row rm m_keptRow m_likeGets m_likePrice m_ahead, cI aC m_offer 81 of2] t.heap ∧ va_K (dC, dI) classes (TY aC) t ∧ va_D (va_A [oX12 g0 m_refused m_kind m_figure m_weight m_got m_setting (nI n) msy mdn m_tape m_letter m_letterAt m_told tp mat stm m_kept him ki crs m_price m_offer m_gets m_yes m_buys m_ends m_carried m_row rm m_keptRow m_likeGets m_likePrice m_ahead, cI aC m_offer 81 of] sz) [oX12 g0 m_refused m_kind m_figure m_weight m_got m_setting (nI n) msy mdn m_tape m_letter m_letterAt m_told tp mat stm m_kept him ki crs m_price m_offer m_gets m_yes m_buys m_ends m_carried m_row rm m_keptRow m_likeGets m_likePrice m_ahead, cI aC m_offer 81 of2]) (va_A [oX12 g0 m_refused m_kind m_figure m_weight m_got m_setting (nI n) msy mdn m_tape m_letter m_letterAt m_told tp mat stm m_kept him ki crs m_price m_offer m_gets m_yes m_buys m_ends m_carried m_row rm m_keptRow m_likeGets m_likePrice m_ahead, cI aC m_offer 81 of] sz)) 0 0 (va_A [oX12 g0 m_refused m_kind m_figure m_weight m_got m_setting (nI n) msy mdn m_tape m_letter m_letterAt m_told tp mat stm m_kept him ki crs m_price m_offer m_gets m_yes m_buys m_ends m_carried m_row rm m_keptRow m_likeGets m_likePrice m_ahead, cI aC m_offer 81 of] sz) := by
  refine Met.ofW (cc := cX12_offersEach) (maxL := 4) (ret := (none : Option FieldType)) (by decide) rfl ?_
  intro p e s m args below meth c s₁ B hml hv
  obtain ⟨rfl, hsz, hP, hK, hD0, hN⟩ := hv
  have hx := B.exec
  have hb := B.bytes
  have hr := B.returns
  have hts0 := atoms_spec (ws := (wW yX12_offersEach cX12_offersEach 4 (none : Option FieldType))) B.pre
  have hts : ∀ w9 ∈ lw_G, w9.before ([Value.ref g0, Value.int (nI i), Value.int (nI j), Value.int (nI v)] : List Value).toArray s = true := fun w9 h9 => hts0 w9 (List.mem_cons_of_mem _ h9)
  have hown : s.vm.findClass RX12 = some m.cls := findClass_of_methodNamed (x := yX12_offersEach) B.named
  have hlocks := B.notSynchronized
  subst hsz
  have hD := hD0.self (sz := s.heap.size)
  generalize hAe : va_A [oX12 g0 m_refused m_kind m_figure m_weight m_got m_setting (nI n) msy mdn m_tape m_letter m_letterAt m_told tp mat stm m_kept him ki crs m_price m_offer m_gets m_yes m_buys m_ends m_carried m_row rm m_keptRow m_likeGets m_likePrice m_ahead, cI aC m_offer 81 of] s.heap.size = A at hD ⊢
  have hA : ∀ q : Nat, s.heap.size ≤ q → A q := fun q h => by rw [← hAe]; exact Or.inr h
  obtain ⟨H, hHe⟩ : ∃ H : Heap, H = s.heap := ⟨_, rfl⟩
  have hS : va_S A s.heap H [] := by rw [hHe]; exact va_S.rf
  have hP : va_P (dC, dI) classes [oX12 g0 m_refused m_kind m_figure m_weight m_got m_setting (nI n) msy mdn m_tape m_letter m_letterAt m_told tp mat stm m_kept him ki crs m_price m_offer m_gets m_yes m_buys m_ends m_carried m_row rm m_keptRow m_likeGets m_likePrice m_ahead, cI aC m_offer 81 of] H := by rw [hHe]; exact hP
  have hl := lv_entry ([Value.ref g0, Value.int (nI i), Value.int (nI j), Value.int (nI v)]) (n := 4) (Nat.le_of_ble_eq_true rfl)
  rw [lg_entry_eq]
  generalize (lg_sl ([Value.ref g0, Value.int (nI i), Value.int (nI j), Value.int (nI v)]) ++ List.replicate (4 - (lg_sl ([Value.ref g0, Value.int (nI i), Value.int (nI j), Value.int (nI v)])).length) Slot.unset).toArray = ls at hl ⊢
  have hl : lv_has ls 4 [(0, Value.ref g0), (1, Value.int (nI i)), (2, Value.int (nI j)), (3, Value.int (nI v))] := hl
  rw [← hHe]
  refine lv_aload_n hx hb dX12_offersEach_0 rfl (lv_at hl 0 rfl) ?_
  refine va_get (D := (dC, dI)) (ci := 12) (v := Value.ref m_offer) (C := RX12) (T := TX12) (N := 33) hx hb hts inX12 hown hK hP 0 rfl rfl 21 (by decide) (hts _ (gw kw_738 rfl)) (fun _ h9 => h9) rfl dX12_offersEach_1 ?_
  refine lv_bipush (v := 9) hx hb dX12_offersEach_4 (by decide) ?_
  refine lv_iload_n hx hb dX12_offersEach_6 rfl (lv_at hl 1 rfl) ?_
  refine lv_imul hx hb dX12_offersEach_7 ?_
  refine lv_topi (fun x_1 e_1 => ?_)
  have h9 : x_1 = nI (9 * i) := by rw [e_1]; exact pk_mul 9 i
  subst h9
  refine lv_iload_n hx hb dX12_offersEach_8 rfl (lv_at hl 2 rfl) ?_
  refine lv_iadd hx hb dX12_offersEach_9 ?_
  refine lv_topi (fun x_2 e_2 => ?_)
  have h9 : x_2 = nI (9 * i + j) := by rw [e_2, nI_add]
  subst h9
  refine lv_iload_n hx hb dX12_offersEach_10 rfl (lv_at hl 3 rfl) ?_
  have h_3 : vp_in (nI (9 * i + j)) 81 := by first | exact vp_in_nI (by omega) (by omega) | (unfold vp_in; decide) | (subst_vars; first | (unfold vp_in; decide) | exact vp_in_nI (by omega) (by omega))
  refine va_iast hx hb hK hP hD hS 1 0 rfl rfl h_3 dX12_offersEach_11 (fun H locs hP hD hS => ?_)
  obtain ⟨f_4, e_f_4⟩ : ∃ y : Nat → Int32, y = upd of (nI (9 * i + j) : Int32).toNatClampNeg (nI v) := ⟨_, rfl⟩
  have hpd9 : PDx (dC, dI) classes A H [oX12 g0 m_refused m_kind m_figure m_weight m_got m_setting (nI n) msy mdn m_tape m_letter m_letterAt m_told tp mat stm m_kept him ki crs m_price m_offer m_gets m_yes m_buys m_ends m_carried m_row rm m_keptRow m_likeGets m_likePrice m_ahead, cI aC m_offer 81 f_4] := by rw [e_f_4]; exact ⟨hP, hD⟩
  have hP := hpd9.1
  have hD := hpd9.2
  clear hpd9
  refine lv_aload_n hx hb dX12_offersEach_12 rfl (lv_at hl 0 rfl) ?_
  refine va_get (D := (dC, dI)) (ci := 12) (v := Value.ref m_offer) (C := RX12) (T := TX12) (N := 33) hx hb hts inX12 hown hK hP 0 rfl rfl 21 (by decide) (hts _ (gw kw_738 rfl)) (fun _ h9 => h9) rfl dX12_offersEach_13 ?_
  refine lv_bipush (v := 9) hx hb dX12_offersEach_16 (by decide) ?_
  refine lv_iload_n hx hb dX12_offersEach_18 rfl (lv_at hl 1 rfl) ?_
  refine lv_imul hx hb dX12_offersEach_19 ?_
  refine lv_topi (fun x_5 e_5 => ?_)
  have h9 : x_5 = nI (9 * i) := by rw [e_5]; exact pk_mul 9 i
  subst h9
  refine lv_iload_n hx hb dX12_offersEach_20 rfl (lv_at hl 1 rfl) ?_
  refine lv_iadd hx hb dX12_offersEach_21 ?_
  refine lv_topi (fun x_6 e_6 => ?_)
  have h9 : x_6 = nI (9 * i + i) := by rw [e_6, nI_add]
  subst h9
  refine lv_dup2_11 hx hb dX12_offersEach_22 rfl rfl ?_
  have h_7 : vp_in (nI (9 * i + i)) 81 := by first | exact vp_in_nI (by omega) (by omega) | (unfold vp_in; decide) | (subst_vars; first | (unfold vp_in; decide) | exact vp_in_nI (by omega) (by omega))
  refine va_iald hx hb hK hP 1 0 rfl rfl h_7 dX12_offersEach_23 ?_
  refine lv_topi (fun x_8 e_8 => ?_)
  have h9 : x_8 = nI a0 := by rw [e_8, e_f_4, nI_clamp (by omega), nI_clamp (by omega), pk_un (by omega)]; exact ha
  subst h9
  refine lv_iload_n hx hb dX12_offersEach_24 rfl (lv_at hl 3 rfl) ?_
  refine lv_isub hx hb dX12_offersEach_25 ?_
  refine lv_topi (fun x_9 e_9 => ?_)
  have h9 : x_9 = nI (a0 - v) := by rw [e_9]; exact pk_sub hv.1
  subst h9
  have h_10 : vp_in (nI (9 * i + i)) 81 := by first | exact vp_in_nI (by omega) (by omega) | (unfold vp_in; decide) | (subst_vars; first | (unfold vp_in; decide) | exact vp_in_nI (by omega) (by omega))
  refine va_iast hx hb hK hP hD hS 1 0 rfl rfl h_10 dX12_offersEach_26 (fun H locs hP hD hS => ?_)
  obtain ⟨f_11, e_f_11⟩ : ∃ y : Nat → Int32, y = upd f_4 (nI (9 * i + i) : Int32).toNatClampNeg (nI (a0 - v)) := ⟨_, rfl⟩
  have hpd9 : PDx (dC, dI) classes A H [oX12 g0 m_refused m_kind m_figure m_weight m_got m_setting (nI n) msy mdn m_tape m_letter m_letterAt m_told tp mat stm m_kept him ki crs m_price m_offer m_gets m_yes m_buys m_ends m_carried m_row rm m_keptRow m_likeGets m_likePrice m_ahead, cI aC m_offer 81 f_11] := by rw [e_f_11]; exact ⟨hP, hD⟩
  have hP := hpd9.1
  have hD := hpd9.2
  clear hpd9
  have hpd9 := pd_N (cx := [oX12 g0 m_refused m_kind m_figure m_weight m_got m_setting (nI n) msy mdn m_tape m_letter m_letterAt m_told tp mat stm m_kept him ki crs m_price m_offer m_gets m_yes m_buys m_ends m_carried m_row rm m_keptRow m_likeGets m_likePrice m_ahead, cI aC m_offer 81 f_11]) hP hD [0, 1] (by decide) rfl
  have hP9 := hpd9.1
  have hD9 := hpd9.2
  refine W.widen (k := 0) (n := 0) (by omega) (by omega) ?_
  exact W.vret hx hb hr (fun t ht hW => ⟨⟨(f_11), rfl, by rw [e_f_11, e_f_4, nI_clamp (by omega), nI_clamp (by omega)], by rw [ht]; exact hP9, va_K.moved hW.alike hK, hD9⟩, hS.F ht⟩) hS.2.2 dX12_offersEach_27

set_option maxHeartbeats 1000000 in
set_option maxRecDepth 100000 in
/-- X12_offersFools_0 -/
theorem c_X12_offersFools_0 (l : Launch) (dC : Nat → ClassId) (dI : Nat → Nat → Nat) (aC : Nat → ClassId) (sz : Nat) (g0 : Nat) (m_refused : Nat) (m_kind : Nat) (m_figure : Nat) (m_weight : Nat) (m_got : Nat) (m_setting : Nat) (m_tape : Nat) (m_letter : Nat) (m_letterAt : Nat) (m_told : Nat) (m_kept : Nat) (m_price : Nat) (m_offer : Nat) (m_gets : Nat) (m_yes : Nat) (m_buys : Nat) (m_ends : Nat) (m_carried : Nat) (m_row : Nat) (m_keptRow : Nat) (m_likeGets : Nat) (m_likePrice : Nat) (m_ahead : Nat) (msy : Int32) (mdn : Int32) (tp : Int32) (mat : Int32) (stm : Int32) (him : Int32) (ki : Int32) (crs : Int32) (rm : Int32) (n : Nat) (ff : Nat → Int32) (of : Nat → Int32) (i : Nat) (cf : Nat) (O : Nat → Nat) (hi : i < n ∧ n ≤ 8) (hf : ff i = nI cf) (hc : cf ≤ 99) (hO : ∀ q, q < n → of (9 * i + q) = nI (O q)) (hO9 : ∀ q, O q ≤ 99) : Met l yX12_offersFools (wW yX12_offersFools cX12_offersFools 4 (none : Option FieldType)) ({ frames := 1, cells := 0, slots := 0, locals := 23 } : Room) (va_Pc [Value.ref g0, Value.int (nI i), Value.int 0] (fun U => U.heap.size = sz ∧ va_P (dC, dI) classes [oX12 g0 m_refused m_kind m_figure m_weight m_got m_setting (nI n) msy mdn m_tape m_letter m_letterAt m_told tp mat stm m_kept him ki crs m_price m_offer m_gets m_yes m_buys m_ends m_carried m_row rm m_keptRow m_likeGets m_likePrice m_ahead, cI aC m_figure 9 ff, cI aC m_offer 81 of] U.heap ∧ va_K (dC, dI) classes (TY aC) U ∧ va_D (fun _ => True) [oX12 g0 m_refused m_kind m_figure m_weight m_got m_setting (nI n) msy mdn m_tape m_letter m_letterAt m_told tp mat stm m_kept him ki crs m_price m_offer m_gets m_yes m_buys m_ends m_carried m_row rm m_keptRow m_likeGets m_likePrice m_ahead, cI aC m_figure 9 ff, cI aC m_offer 81 of] ∧ NX U)) (va_Qv (fun (of2 : Nat → Int32) => (∀ q, q < n → of2 (9 * i + q) = nI ((sE O i cf (n - 1 - i)) q)) ∧ ∀ k, k < 9 * i ∨ 9 * i + 9 ≤ k → of2 k = of k) (fun (of2 : Nat → Int32) (t : State) => va_P (dC, dI) classes [oX12 g0 m_refused m_kind m_figure m_weight m_got m_setting (nI n) msy mdn m_tape m_letter m_letterAt m_told tp mat stm m_kept him ki crs m_price m_offer m_gets m_yes m_buys m_ends m_carried m_row rm m_keptRow m_likeGets m_likePrice m_ahead, cI aC m_figure 9 ff, cI aC m_offer 81 of2] t.heap ∧ va_K (dC, dI) classes (TY aC) t ∧ va_D (va_A [oX12 g0 m_refused m_kind m_figure m_weight m_got m_setting (nI n) msy mdn m_tape m_letter m_letterAt m_told tp mat stm m_kept him ki crs m_price m_offer m_gets m_yes m_buys m_ends m_carried m_row rm m_keptRow m_likeGets m_likePrice m_ahead, cI aC m_figure 9 ff, cI aC m_offer 81 of] sz) [oX12 g0 m_refused m_kind m_figure m_weight m_got m_setting (nI n) msy mdn m_tape m_letter m_letterAt m_told tp mat stm m_kept him ki crs m_price m_offer m_gets m_yes m_buys m_ends m_carried m_row rm m_keptRow m_likeGets m_likePrice m_ahead, cI aC m_figure 9 ff, cI aC m_offer 81 of2]) (va_A [oX12 g0 m_refused m_kind m_figure m_weight m_got m_setting (nI n) msy mdn m_tape m_letter m_letterAt m_told tp mat stm m_kept him ki crs m_price m_offer m_gets m_yes m_buys m_ends m_carried m_row rm m_keptRow m_likeGets m_likePrice m_ahead, cI aC m_figure 9 ff, cI aC m_offer 81 of] sz)) 0 0 (va_A [oX12 g0 m_refused m_kind m_figure m_weight m_got m_setting (nI n) msy mdn m_tape m_letter m_letterAt m_told tp mat stm m_kept him ki crs m_price m_offer m_gets m_yes m_buys m_ends m_carried m_row rm m_keptRow m_likeGets m_likePrice m_ahead, cI aC m_figure 9 ff, cI aC m_offer 81 of] sz) := by
  refine Met.ofW (cc := cX12_offersFools) (maxL := 4) (ret := (none : Option FieldType)) (by decide) rfl ?_
  intro p e s m args below meth c s₁ B hml hv
  obtain ⟨rfl, hsz, hP, hK, hD0, hN⟩ := hv
  have hx := B.exec
  have hb := B.bytes
  have hr := B.returns
  have hts0 := atoms_spec (ws := (wW yX12_offersFools cX12_offersFools 4 (none : Option FieldType))) B.pre
  have hts : ∀ w9 ∈ lw_G, w9.before ([Value.ref g0, Value.int (nI i), Value.int 0] : List Value).toArray s = true := fun w9 h9 => hts0 w9 (List.mem_cons_of_mem _ h9)
  have hown : s.vm.findClass RX12 = some m.cls := findClass_of_methodNamed (x := yX12_offersFools) B.named
  have hlocks := B.notSynchronized
  subst hsz
  have hD := hD0.self (sz := s.heap.size)
  generalize hAe : va_A [oX12 g0 m_refused m_kind m_figure m_weight m_got m_setting (nI n) msy mdn m_tape m_letter m_letterAt m_told tp mat stm m_kept him ki crs m_price m_offer m_gets m_yes m_buys m_ends m_carried m_row rm m_keptRow m_likeGets m_likePrice m_ahead, cI aC m_figure 9 ff, cI aC m_offer 81 of] s.heap.size = A at hD ⊢
  have hA : ∀ q : Nat, s.heap.size ≤ q → A q := fun q h => by rw [← hAe]; exact Or.inr h
  obtain ⟨H, hHe⟩ : ∃ H : Heap, H = s.heap := ⟨_, rfl⟩
  have hS : va_S A s.heap H [] := by rw [hHe]; exact va_S.rf
  have hP : va_P (dC, dI) classes [oX12 g0 m_refused m_kind m_figure m_weight m_got m_setting (nI n) msy mdn m_tape m_letter m_letterAt m_told tp mat stm m_kept him ki crs m_price m_offer m_gets m_yes m_buys m_ends m_carried m_row rm m_keptRow m_likeGets m_likePrice m_ahead, cI aC m_figure 9 ff, cI aC m_offer 81 of] H := by rw [hHe]; exact hP
  have hl := lv_entry ([Value.ref g0, Value.int (nI i), Value.int 0]) (n := 4) (Nat.le_of_ble_eq_true rfl)
  rw [lg_entry_eq]
  generalize (lg_sl ([Value.ref g0, Value.int (nI i), Value.int 0]) ++ List.replicate (4 - (lg_sl ([Value.ref g0, Value.int (nI i), Value.int 0])).length) Slot.unset).toArray = ls at hl ⊢
  have hl : lv_has ls 4 [(0, Value.ref g0), (1, Value.int (nI i)), (2, Value.int 0)] := hl
  rw [← hHe]
  refine lv_iload_n hx hb dX12_offersFools_0 rfl (lv_at hl 1 rfl) ?_
  refine lv_iconst (v := 1) hx hb dX12_offersFools_1 (by decide) ?_
  refine lv_iadd hx hb dX12_offersFools_2 ?_
  refine lv_topi (fun x_1 e_1 => ?_)
  refine lv_istore_n (lv' := [(3, Value.int x_1), (0, Value.ref g0), (1, Value.int (nI i)), (2, Value.int 0)]) hx hb dX12_offersFools_3 rfl hl (by decide) rfl (fun ls hl => ?_)
  have h9 : x_1 = nI (i + 1) := by rw [e_1, nI_1]
  subst h9
  have lp_4 : ∀ (fu : Nat) (k : Nat) (oc : Nat → Int32) (hfu : n - k < fu) (hk : i < k ∧ k ≤ n) (hrow : ∀ q, q < n → oc (9 * i + q) = nI ((sE O i cf (k - (i + 1))) q)) (hfr : ∀ k, k < 9 * i ∨ 9 * i + 9 ≤ k → oc k = of k) (H : Heap) (locs : List Loc) (ls : Array Slot), va_P (dC, dI) classes [oX12 g0 m_refused m_kind m_figure m_weight m_got m_setting (nI n) msy mdn m_tape m_letter m_letterAt m_told tp mat stm m_kept him ki crs m_price m_offer m_gets m_yes m_buys m_ends m_carried m_row rm m_keptRow m_likeGets m_likePrice m_ahead, cI aC m_figure 9 ff, cI aC m_offer 81 oc] H → va_D A [oX12 g0 m_refused m_kind m_figure m_weight m_got m_setting (nI n) msy mdn m_tape m_letter m_letterAt m_told tp mat stm m_kept him ki crs m_price m_offer m_gets m_yes m_buys m_ends m_carried m_row rm m_keptRow m_likeGets m_likePrice m_ahead, cI aC m_figure 9 ff, cI aC m_offer 81 oc] → va_S A s.heap H locs → lv_has ls 4 [(0, Value.ref g0), (1, Value.int (nI i)), (2, Value.int 0), (3, Value.int (nI k))] → W p l e (headSpec (wW yX12_offersFools cX12_offersFools 4 (none : Option FieldType)) ({ frames := 1, cells := 0, slots := 0, locals := 23 } : Room)).room s m ([Value.ref g0, Value.int (nI i), Value.int 0] : List Value).toArray below meth c H locs 0 0 (MQ below (va_Qv (fun (of2 : Nat → Int32) => (∀ q, q < n → of2 (9 * i + q) = nI ((sE O i cf (n - 1 - i)) q)) ∧ ∀ k, k < 9 * i ∨ 9 * i + 9 ≤ k → of2 k = of k) (fun (of2 : Nat → Int32) (t : State) => va_P (dC, dI) classes [oX12 g0 m_refused m_kind m_figure m_weight m_got m_setting (nI n) msy mdn m_tape m_letter m_letterAt m_told tp mat stm m_kept him ki crs m_price m_offer m_gets m_yes m_buys m_ends m_carried m_row rm m_keptRow m_likeGets m_likePrice m_ahead, cI aC m_figure 9 ff, cI aC m_offer 81 of2] t.heap ∧ va_K (dC, dI) classes (TY aC) t ∧ va_D A [oX12 g0 m_refused m_kind m_figure m_weight m_got m_setting (nI n) msy mdn m_tape m_letter m_letterAt m_told tp mat stm m_kept him ki crs m_price m_offer m_gets m_yes m_buys m_ends m_carried m_row rm m_keptRow m_likeGets m_likePrice m_ahead, cI aC m_figure 9 ff, cI aC m_offer 81 of2]) A) ([Value.ref g0, Value.int (nI i), Value.int 0] : List Value).toArray s 0 0 A) (F0 m 4 ls []) := by
    intro fu
    induction fu with
    | zero => intro k oc hfu; exact absurd hfu (Nat.not_lt_zero _)
    | succ fu ih_4 =>
      intro k oc hfu hk hrow hfr H locs ls hP hD hS hl
      refine lv_iload_n hx hb dX12_offersFools_4 rfl (lv_at hl 3 rfl) ?_
      refine lv_aload_n hx hb dX12_offersFools_5 rfl (lv_at hl 0 rfl) ?_
      refine va_get (D := (dC, dI)) (ci := 12) (v := Value.int (nI n)) (C := RX12) (T := TX12) (N := 33) hx hb hts inX12 hown hK hP 0 rfl rfl 6 (by decide) (hts _ (gw kw_723 rfl)) (fun _ h9 => h9) rfl dX12_offersFools_6 ?_
      refine lv_icmp_ge (tgt := 66) hx hb dX12_offersFools_9 (by decide) (fun c_2 => ?_) (fun c_2 => ?_)
      · have hkn : k = n := by
          rcases Nat.lt_or_ge k n with q | q
          · exact absurd c_2 (nI_ge q (by omega))
          · omega
        have hpd9 := pd_N (cx := [oX12 g0 m_refused m_kind m_figure m_weight m_got m_setting (nI n) msy mdn m_tape m_letter m_letterAt m_told tp mat stm m_kept him ki crs m_price m_offer m_gets m_yes m_buys m_ends m_carried m_row rm m_keptRow m_likeGets m_likePrice m_ahead, cI aC m_figure 9 ff, cI aC m_offer 81 oc]) hP hD [0, 1, 2] (by decide) rfl
        have hP9 := hpd9.1
        have hD9 := hpd9.2
        refine W.widen (k := 0) (n := 0) (by omega) (by omega) ?_
        exact W.vret hx hb hr (fun t ht hW => ⟨⟨(oc), rfl, ⟨fun q hq => by rw [hrow q hq, hkn, show n - (i + 1) = n - 1 - i by omega], hfr⟩, by rw [ht]; exact hP9, va_K.moved hW.alike hK, hD9⟩, hS.F ht⟩) hS.2.2 dX12_offersFools_66
      · have hlt : k < n := by
          rcases Nat.lt_or_ge k n with q | q
          · exact q
          · exact absurd (nI_le q (by omega)) c_2
        have hsl := sE_le (i := i) hc hO9 (k - (i + 1)) i
        refine lv_aload_n hx hb dX12_offersFools_12 rfl (lv_at hl 0 rfl) ?_
        refine va_get (D := (dC, dI)) (ci := 12) (v := Value.ref m_offer) (C := RX12) (T := TX12) (N := 33) hx hb hts inX12 hown hK hP 0 rfl rfl 21 (by decide) (hts _ (gw kw_738 rfl)) (fun _ h9 => h9) rfl dX12_offersFools_13 ?_
        refine lv_bipush (v := 9) hx hb dX12_offersFools_16 (by decide) ?_
        refine lv_iload_n hx hb dX12_offersFools_18 rfl (lv_at hl 1 rfl) ?_
        refine lv_imul hx hb dX12_offersFools_19 ?_
        refine lv_topi (fun x_3 e_3 => ?_)
        have h9 : x_3 = nI (9 * i) := by rw [e_3]; exact pk_mul 9 i
        subst h9
        refine lv_iload_n hx hb dX12_offersFools_20 rfl (lv_at hl 1 rfl) ?_
        refine lv_iadd hx hb dX12_offersFools_21 ?_
        refine lv_topi (fun x_4 e_4 => ?_)
        have h9 : x_4 = nI (9 * i + i) := by rw [e_4, nI_add]
        subst h9
        have h_5 : vp_in (nI (9 * i + i)) 81 := by first | exact vp_in_nI (by omega) (by omega) | (unfold vp_in; decide) | (subst_vars; first | (unfold vp_in; decide) | exact vp_in_nI (by omega) (by omega))
        refine va_iald hx hb hK hP 2 0 rfl rfl h_5 dX12_offersFools_22 ?_
        refine lv_topi (fun x_6 e_6 => ?_)
        have h9 : x_6 = nI (sE O i cf (k - (i + 1)) i) := by rw [e_6, nI_clamp (by omega)]; exact hrow i (by omega)
        subst h9
        refine lv_aload_n hx hb dX12_offersFools_23 rfl (lv_at hl 0 rfl) ?_
        refine va_get (D := (dC, dI)) (ci := 12) (v := Value.ref m_figure) (C := RX12) (T := TX12) (N := 33) hx hb hts inX12 hown hK hP 0 rfl rfl 2 (by decide) (hts _ (gw kw_719 rfl)) (fun _ h9 => h9) rfl dX12_offersFools_24 ?_
        refine lv_iload_n hx hb dX12_offersFools_27 rfl (lv_at hl 1 rfl) ?_
        have h_7 : vp_in (nI i) 9 := by first | exact vp_in_nI (by omega) (by omega) | (unfold vp_in; decide) | (subst_vars; first | (unfold vp_in; decide) | exact vp_in_nI (by omega) (by omega))
        refine va_iald hx hb hK hP 1 0 rfl rfl h_7 dX12_offersFools_28 ?_
        refine lv_topi (fun x_8 e_8 => ?_)
        have h9 : x_8 = nI cf := by rw [e_8, nI_clamp (by omega)]; exact hf
        subst h9
        refine lv_icmp_ge (tgt := 33) hx hb dX12_offersFools_29 (by decide) (fun c_9 => ?_) (fun c_9 => ?_)
        · have hce : cf ≤ sE O i cf (k - (i + 1)) i := by
            rcases Nat.lt_or_ge (sE O i cf (k - (i + 1)) i) cf with q | q
            · exact absurd c_9 (nI_ge q (by omega))
            · exact q
          refine lv_aload_n hx hb dX12_offersFools_33 rfl (lv_at hl 0 rfl) ?_
          refine lv_iload_n hx hb dX12_offersFools_34 rfl (lv_at hl 1 rfl) ?_
          refine lv_iload_n hx hb dX12_offersFools_35 rfl (lv_at hl 2 rfl) ?_
          refine lv_if_eq (tgt := 50) hx hb dX12_offersFools_36 (by decide) (fun c_10 => ?_) (fun c_10 => ?_)
          · refine lv_iload_n hx hb dX12_offersFools_50 rfl (lv_at hl 3 rfl) ?_
            refine lv_aload_n hx hb dX12_offersFools_51 rfl (lv_at hl 0 rfl) ?_
            refine va_get (D := (dC, dI)) (ci := 12) (v := Value.ref m_figure) (C := RX12) (T := TX12) (N := 33) hx hb hts inX12 hown hK hP 0 rfl rfl 2 (by decide) (hts _ (gw kw_719 rfl)) (fun _ h9 => h9) rfl dX12_offersFools_52 ?_
            refine lv_iload_n hx hb dX12_offersFools_55 rfl (lv_at hl 1 rfl) ?_
            have h_11 : vp_in (nI i) 9 := by first | exact vp_in_nI (by omega) (by omega) | (unfold vp_in; decide) | (subst_vars; first | (unfold vp_in; decide) | exact vp_in_nI (by omega) (by omega))
            refine va_iald hx hb hK hP 1 0 rfl rfl h_11 dX12_offersFools_56 ?_
            refine lv_topi (fun x_12 e_12 => ?_)
            have h9 : x_12 = nI cf := by rw [e_12, nI_clamp (by omega)]; exact hf
            subst h9
            have hpd9 := pdf_N (cx := [oX12 g0 m_refused m_kind m_figure m_weight m_got m_setting (nI n) msy mdn m_tape m_letter m_letterAt m_told tp mat stm m_kept him ki crs m_price m_offer m_gets m_yes m_buys m_ends m_carried m_row rm m_keptRow m_likeGets m_likePrice m_ahead, cI aC m_offer 81 oc]) hP hD hS hA [0, 2] (by decide) rfl
            have hPc := hpd9.1
            have hDc := hpd9.2.1
            have hFc := hpd9.2.2
            clear hpd9
            refine va_callv (va_runV (As := [Value.int (nI i), Value.int (nI k), Value.int (nI cf)]) (rest := []) ⟨hx, hb, hml, hown, hts⟩ (c_X12_offersEach l dC dI aC H.size g0 m_refused m_kind m_figure m_weight m_got m_setting m_tape m_letter m_letterAt m_told m_kept m_price m_offer m_gets m_yes m_buys m_ends m_carried m_row m_keptRow m_likeGets m_likePrice m_ahead msy mdn tp mat stm him ki crs rm n oc i k cf (sE O i cf (k - (i + 1)) i) (by omega) (hrow i (by omega)) (⟨hce, hsl⟩)) ⟨(callB_of 3 hts (gG kw_945) rfl rfl rfl (hts _ (gw kw_13 rfl)) (hts _ (gw kw_942 rfl)) hd_X12_offersEach ⟨Nat.le_of_ble_eq_true rfl, Nat.le_of_ble_eq_true rfl⟩), (hts _ (gw kw_944 rfl)), (hts _ (gw ks_55 rfl))⟩ ⟨fb_std, va_recv (q := (RX12, TX12, 33)) hK hPc (ci := 12) (q0 := 0) rfl rfl, pre_std hPc hK hDc hN⟩ rfl rfl hl.1 rfl (lv_room (Nat.le_of_ble_eq_true rfl)) dX12_offersFools_57 ⟨Nat.le_of_ble_eq_true rfl, Nat.le_of_ble_eq_true rfl⟩) hS (fun q _ h => hFc q h) hFc (fun u9 t9 H1 locs ht hvm hw_13 hB hz1 hk1 hS => ?_)
            obtain ⟨u_14, rfl⟩ : ∃ z, z = u9 := ⟨_, rfl⟩
            obtain ⟨hP1, hK1, hD1⟩ := hB
            rw [ht] at hP1
            clear hK1
            try dsimp only at hw_13
            have hpd9 : PDx (dC, dI) classes A H1 [cI aC m_figure 9 ff, oX12 g0 m_refused m_kind m_figure m_weight m_got m_setting (nI n) msy mdn m_tape m_letter m_letterAt m_told tp mat stm m_kept him ki crs m_price m_offer m_gets m_yes m_buys m_ends m_carried m_row rm m_keptRow m_likeGets m_likePrice m_ahead, cI aC m_offer 81 u_14] := jn_N (wr := [cI aC m_figure 9 ff]) hFc hk1 hP1 hD1 hP hD [0, 2] [1] rfl rfl (by decide) (by decide)
            have hP := hpd9.1
            have hD := hpd9.2
            clear hpd9
            generalize H1 = H at hP hS ⊢
            clear hPc hDc hFc hz1 hk1 hP1 hD1 ht hvm
            have hb1 : ∀ q, q < n → u_14 (9 * i + q) = nI ((sE O i cf (k + 1 - (i + 1))) q) := oe_row (j := k) (by omega) hw_13 rfl hrow (fun q _ => by rw [show k + 1 - (i + 1) = (k - (i + 1)) + 1 by omega]; show gv (sE O i cf (k - (i + 1))) i (i + 1 + (k - (i + 1))) cf q = _; unfold gv; rw [if_pos hce, show i + 1 + (k - (i + 1)) = k by omega]; by_cases e : q = i <;> first | (rw [e, if_neg (by omega), if_pos rfl, if_pos rfl]; done) | (rw [if_neg e, if_neg e]))
            have hb2 := oe_fr (by omega) hw_13 hfr
            obtain ⟨x_15, e_15⟩ : ∃ y : Int32, y = (nI k) + 1 := ⟨_, rfl⟩
            refine lv_iinc (v := x_15) (lv' := [(3, Value.int x_15), (0, Value.ref g0), (1, Value.int (nI i)), (2, Value.int 0)]) hx hb dX12_offersFools_60 hl (k := 3) rfl (by rw [e_15]; rfl) (by decide) rfl (fun ls hl => ?_)
            have h9 : x_15 = nI (k + 1) := by rw [e_15, nI_1]
            subst h9
            refine lv_goto (tgt := 4) hx hb dX12_offersFools_63 (by decide) ?_
            exact ih_4 (k + 1) u_14 (ms_lt hlt hfu) (by omega) (hb1) (hb2) _ _ _ (hP.sub [1, 0, 2] rfl) (hD.sub [1, 0, 2] (by decide) rfl) hS (lv_sub hl [1, 2, 3, 0] rfl)
          · exact absurd rfl c_10
        · have hpd9 := pd_N (cx := [oX12 g0 m_refused m_kind m_figure m_weight m_got m_setting (nI n) msy mdn m_tape m_letter m_letterAt m_told tp mat stm m_kept him ki crs m_price m_offer m_gets m_yes m_buys m_ends m_carried m_row rm m_keptRow m_likeGets m_likePrice m_ahead, cI aC m_figure 9 ff, cI aC m_offer 81 oc]) hP hD [0, 1, 2] (by decide) rfl
          have hP9 := hpd9.1
          have hD9 := hpd9.2
          refine W.widen (k := 0) (n := 0) (by omega) (by omega) ?_
          exact W.vret hx hb hr (fun t ht hW => ⟨⟨(oc), rfl, ⟨fun q hq => by rw [hrow q hq, show n - 1 - i = (k - (i + 1)) + (n - k) by omega, sE_stay _ (by have h9 := c_9; rw [Int32.not_le, nI_ltI (by omega) (by omega)] at h9; omega)], hfr⟩, by rw [ht]; exact hP9, va_K.moved hW.alike hK, hD9⟩, hS.F ht⟩) hS.2.2 dX12_offersFools_32
  exact lp_4 ((n - (i + 1)) + 1) (i + 1) of (Nat.lt_succ_self _) (by omega) (fun q hq => by rw [Nat.sub_self]; exact hO q hq) (fun k _ => rfl) _ _ _ (hP.sub [0, 1, 2] rfl) (hD.sub [0, 1, 2] (by decide) rfl) hS (lv_sub hl [1, 2, 3, 0] rfl)

set_option maxHeartbeats 1000000 in
set_option maxRecDepth 100000 in
/-- X12_offersFools_1 -/
theorem c_X12_offersFools_1 (l : Launch) (dC : Nat → ClassId) (dI : Nat → Nat → Nat) (aC : Nat → ClassId) (sz : Nat) (g0 : Nat) (m_refused : Nat) (m_kind : Nat) (m_figure : Nat) (m_weight : Nat) (m_got : Nat) (m_setting : Nat) (m_tape : Nat) (m_letter : Nat) (m_letterAt : Nat) (m_told : Nat) (m_kept : Nat) (m_price : Nat) (m_offer : Nat) (m_gets : Nat) (m_yes : Nat) (m_buys : Nat) (m_ends : Nat) (m_carried : Nat) (m_row : Nat) (m_keptRow : Nat) (m_likeGets : Nat) (m_likePrice : Nat) (m_ahead : Nat) (msy : Int32) (mdn : Int32) (tp : Int32) (mat : Int32) (stm : Int32) (him : Int32) (ki : Int32) (crs : Int32) (rm : Int32) (n : Nat) (ff : Nat → Int32) (of : Nat → Int32) (i : Nat) (cf : Nat) (O : Nat → Nat) (hi : i < n ∧ n ≤ 8) (hf : ff i = nI cf) (hc : cf ≤ 99) (hO : ∀ q, q < n → of (9 * i + q) = nI (O q)) (hO9 : ∀ q, O q ≤ 99) : Met l yX12_offersFools (wW yX12_offersFools cX12_offersFools 4 (none : Option FieldType)) ({ frames := 1, cells := 0, slots := 0, locals := 23 } : Room) (va_Pc [Value.ref g0, Value.int (nI i), Value.int 1] (fun U => U.heap.size = sz ∧ va_P (dC, dI) classes [oX12 g0 m_refused m_kind m_figure m_weight m_got m_setting (nI n) msy mdn m_tape m_letter m_letterAt m_told tp mat stm m_kept him ki crs m_price m_offer m_gets m_yes m_buys m_ends m_carried m_row rm m_keptRow m_likeGets m_likePrice m_ahead, cI aC m_figure 9 ff, cI aC m_offer 81 of] U.heap ∧ va_K (dC, dI) classes (TY aC) U ∧ va_D (fun _ => True) [oX12 g0 m_refused m_kind m_figure m_weight m_got m_setting (nI n) msy mdn m_tape m_letter m_letterAt m_told tp mat stm m_kept him ki crs m_price m_offer m_gets m_yes m_buys m_ends m_carried m_row rm m_keptRow m_likeGets m_likePrice m_ahead, cI aC m_figure 9 ff, cI aC m_offer 81 of] ∧ NX U)) (va_Qv (fun (of2 : Nat → Int32) => (∀ q, q < n → of2 (9 * i + q) = nI ((sY O n i cf (n - 1 - i)) q)) ∧ ∀ k, k < 9 * i ∨ 9 * i + 9 ≤ k → of2 k = of k) (fun (of2 : Nat → Int32) (t : State) => va_P (dC, dI) classes [oX12 g0 m_refused m_kind m_figure m_weight m_got m_setting (nI n) msy mdn m_tape m_letter m_letterAt m_told tp mat stm m_kept him ki crs m_price m_offer m_gets m_yes m_buys m_ends m_carried m_row rm m_keptRow m_likeGets m_likePrice m_ahead, cI aC m_figure 9 ff, cI aC m_offer 81 of2] t.heap ∧ va_K (dC, dI) classes (TY aC) t ∧ va_D (va_A [oX12 g0 m_refused m_kind m_figure m_weight m_got m_setting (nI n) msy mdn m_tape m_letter m_letterAt m_told tp mat stm m_kept him ki crs m_price m_offer m_gets m_yes m_buys m_ends m_carried m_row rm m_keptRow m_likeGets m_likePrice m_ahead, cI aC m_figure 9 ff, cI aC m_offer 81 of] sz) [oX12 g0 m_refused m_kind m_figure m_weight m_got m_setting (nI n) msy mdn m_tape m_letter m_letterAt m_told tp mat stm m_kept him ki crs m_price m_offer m_gets m_yes m_buys m_ends m_carried m_row rm m_keptRow m_likeGets m_likePrice m_ahead, cI aC m_figure 9 ff, cI aC m_offer 81 of2]) (va_A [oX12 g0 m_refused m_kind m_figure m_weight m_got m_setting (nI n) msy mdn m_tape m_letter m_letterAt m_told tp mat stm m_kept him ki crs m_price m_offer m_gets m_yes m_buys m_ends m_carried m_row rm m_keptRow m_likeGets m_likePrice m_ahead, cI aC m_figure 9 ff, cI aC m_offer 81 of] sz)) 0 0 (va_A [oX12 g0 m_refused m_kind m_figure m_weight m_got m_setting (nI n) msy mdn m_tape m_letter m_letterAt m_told tp mat stm m_kept him ki crs m_price m_offer m_gets m_yes m_buys m_ends m_carried m_row rm m_keptRow m_likeGets m_likePrice m_ahead, cI aC m_figure 9 ff, cI aC m_offer 81 of] sz) := by
  refine Met.ofW (cc := cX12_offersFools) (maxL := 4) (ret := (none : Option FieldType)) (by decide) rfl ?_
  intro p e s m args below meth c s₁ B hml hv
  obtain ⟨rfl, hsz, hP, hK, hD0, hN⟩ := hv
  have hx := B.exec
  have hb := B.bytes
  have hr := B.returns
  have hts0 := atoms_spec (ws := (wW yX12_offersFools cX12_offersFools 4 (none : Option FieldType))) B.pre
  have hts : ∀ w9 ∈ lw_G, w9.before ([Value.ref g0, Value.int (nI i), Value.int 1] : List Value).toArray s = true := fun w9 h9 => hts0 w9 (List.mem_cons_of_mem _ h9)
  have hown : s.vm.findClass RX12 = some m.cls := findClass_of_methodNamed (x := yX12_offersFools) B.named
  have hlocks := B.notSynchronized
  subst hsz
  have hD := hD0.self (sz := s.heap.size)
  generalize hAe : va_A [oX12 g0 m_refused m_kind m_figure m_weight m_got m_setting (nI n) msy mdn m_tape m_letter m_letterAt m_told tp mat stm m_kept him ki crs m_price m_offer m_gets m_yes m_buys m_ends m_carried m_row rm m_keptRow m_likeGets m_likePrice m_ahead, cI aC m_figure 9 ff, cI aC m_offer 81 of] s.heap.size = A at hD ⊢
  have hA : ∀ q : Nat, s.heap.size ≤ q → A q := fun q h => by rw [← hAe]; exact Or.inr h
  obtain ⟨H, hHe⟩ : ∃ H : Heap, H = s.heap := ⟨_, rfl⟩
  have hS : va_S A s.heap H [] := by rw [hHe]; exact va_S.rf
  have hP : va_P (dC, dI) classes [oX12 g0 m_refused m_kind m_figure m_weight m_got m_setting (nI n) msy mdn m_tape m_letter m_letterAt m_told tp mat stm m_kept him ki crs m_price m_offer m_gets m_yes m_buys m_ends m_carried m_row rm m_keptRow m_likeGets m_likePrice m_ahead, cI aC m_figure 9 ff, cI aC m_offer 81 of] H := by rw [hHe]; exact hP
  have hl := lv_entry ([Value.ref g0, Value.int (nI i), Value.int 1]) (n := 4) (Nat.le_of_ble_eq_true rfl)
  rw [lg_entry_eq]
  generalize (lg_sl ([Value.ref g0, Value.int (nI i), Value.int 1]) ++ List.replicate (4 - (lg_sl ([Value.ref g0, Value.int (nI i), Value.int 1])).length) Slot.unset).toArray = ls at hl ⊢
  have hl : lv_has ls 4 [(0, Value.ref g0), (1, Value.int (nI i)), (2, Value.int 1)] := hl
  rw [← hHe]
  refine lv_iload_n hx hb dX12_offersFools_0 rfl (lv_at hl 1 rfl) ?_
  refine lv_iconst (v := 1) hx hb dX12_offersFools_1 (by decide) ?_
  refine lv_iadd hx hb dX12_offersFools_2 ?_
  refine lv_topi (fun x_1 e_1 => ?_)
  refine lv_istore_n (lv' := [(3, Value.int x_1), (0, Value.ref g0), (1, Value.int (nI i)), (2, Value.int 1)]) hx hb dX12_offersFools_3 rfl hl (by decide) rfl (fun ls hl => ?_)
  have h9 : x_1 = nI (i + 1) := by rw [e_1, nI_1]
  subst h9
  have lp_4 : ∀ (fu : Nat) (k : Nat) (oc : Nat → Int32) (hfu : n - k < fu) (hk : i < k ∧ k ≤ n) (hrow : ∀ q, q < n → oc (9 * i + q) = nI ((sY O n i cf (k - (i + 1))) q)) (hfr : ∀ k, k < 9 * i ∨ 9 * i + 9 ≤ k → oc k = of k) (H : Heap) (locs : List Loc) (ls : Array Slot), va_P (dC, dI) classes [oX12 g0 m_refused m_kind m_figure m_weight m_got m_setting (nI n) msy mdn m_tape m_letter m_letterAt m_told tp mat stm m_kept him ki crs m_price m_offer m_gets m_yes m_buys m_ends m_carried m_row rm m_keptRow m_likeGets m_likePrice m_ahead, cI aC m_figure 9 ff, cI aC m_offer 81 oc] H → va_D A [oX12 g0 m_refused m_kind m_figure m_weight m_got m_setting (nI n) msy mdn m_tape m_letter m_letterAt m_told tp mat stm m_kept him ki crs m_price m_offer m_gets m_yes m_buys m_ends m_carried m_row rm m_keptRow m_likeGets m_likePrice m_ahead, cI aC m_figure 9 ff, cI aC m_offer 81 oc] → va_S A s.heap H locs → lv_has ls 4 [(0, Value.ref g0), (1, Value.int (nI i)), (2, Value.int 1), (3, Value.int (nI k))] → W p l e (headSpec (wW yX12_offersFools cX12_offersFools 4 (none : Option FieldType)) ({ frames := 1, cells := 0, slots := 0, locals := 23 } : Room)).room s m ([Value.ref g0, Value.int (nI i), Value.int 1] : List Value).toArray below meth c H locs 0 0 (MQ below (va_Qv (fun (of2 : Nat → Int32) => (∀ q, q < n → of2 (9 * i + q) = nI ((sY O n i cf (n - 1 - i)) q)) ∧ ∀ k, k < 9 * i ∨ 9 * i + 9 ≤ k → of2 k = of k) (fun (of2 : Nat → Int32) (t : State) => va_P (dC, dI) classes [oX12 g0 m_refused m_kind m_figure m_weight m_got m_setting (nI n) msy mdn m_tape m_letter m_letterAt m_told tp mat stm m_kept him ki crs m_price m_offer m_gets m_yes m_buys m_ends m_carried m_row rm m_keptRow m_likeGets m_likePrice m_ahead, cI aC m_figure 9 ff, cI aC m_offer 81 of2] t.heap ∧ va_K (dC, dI) classes (TY aC) t ∧ va_D A [oX12 g0 m_refused m_kind m_figure m_weight m_got m_setting (nI n) msy mdn m_tape m_letter m_letterAt m_told tp mat stm m_kept him ki crs m_price m_offer m_gets m_yes m_buys m_ends m_carried m_row rm m_keptRow m_likeGets m_likePrice m_ahead, cI aC m_figure 9 ff, cI aC m_offer 81 of2]) A) ([Value.ref g0, Value.int (nI i), Value.int 1] : List Value).toArray s 0 0 A) (F0 m 4 ls []) := by
    intro fu
    induction fu with
    | zero => intro k oc hfu; exact absurd hfu (Nat.not_lt_zero _)
    | succ fu ih_4 =>
      intro k oc hfu hk hrow hfr H locs ls hP hD hS hl
      refine lv_iload_n hx hb dX12_offersFools_4 rfl (lv_at hl 3 rfl) ?_
      refine lv_aload_n hx hb dX12_offersFools_5 rfl (lv_at hl 0 rfl) ?_
      refine va_get (D := (dC, dI)) (ci := 12) (v := Value.int (nI n)) (C := RX12) (T := TX12) (N := 33) hx hb hts inX12 hown hK hP 0 rfl rfl 6 (by decide) (hts _ (gw kw_723 rfl)) (fun _ h9 => h9) rfl dX12_offersFools_6 ?_
      refine lv_icmp_ge (tgt := 66) hx hb dX12_offersFools_9 (by decide) (fun c_2 => ?_) (fun c_2 => ?_)
      · have hkn : k = n := by
          rcases Nat.lt_or_ge k n with q | q
          · exact absurd c_2 (nI_ge q (by omega))
          · omega
        have hpd9 := pd_N (cx := [oX12 g0 m_refused m_kind m_figure m_weight m_got m_setting (nI n) msy mdn m_tape m_letter m_letterAt m_told tp mat stm m_kept him ki crs m_price m_offer m_gets m_yes m_buys m_ends m_carried m_row rm m_keptRow m_likeGets m_likePrice m_ahead, cI aC m_figure 9 ff, cI aC m_offer 81 oc]) hP hD [0, 1, 2] (by decide) rfl
        have hP9 := hpd9.1
        have hD9 := hpd9.2
        refine W.widen (k := 0) (n := 0) (by omega) (by omega) ?_
        exact W.vret hx hb hr (fun t ht hW => ⟨⟨(oc), rfl, ⟨fun q hq => by rw [hrow q hq, hkn, show n - (i + 1) = n - 1 - i by omega], hfr⟩, by rw [ht]; exact hP9, va_K.moved hW.alike hK, hD9⟩, hS.F ht⟩) hS.2.2 dX12_offersFools_66
      · have hlt : k < n := by
          rcases Nat.lt_or_ge k n with q | q
          · exact q
          · exact absurd (nI_le q (by omega)) c_2
        have hsl := sY_le (n := n) (i := i) hc hO9 (k - (i + 1)) i
        refine lv_aload_n hx hb dX12_offersFools_12 rfl (lv_at hl 0 rfl) ?_
        refine va_get (D := (dC, dI)) (ci := 12) (v := Value.ref m_offer) (C := RX12) (T := TX12) (N := 33) hx hb hts inX12 hown hK hP 0 rfl rfl 21 (by decide) (hts _ (gw kw_738 rfl)) (fun _ h9 => h9) rfl dX12_offersFools_13 ?_
        refine lv_bipush (v := 9) hx hb dX12_offersFools_16 (by decide) ?_
        refine lv_iload_n hx hb dX12_offersFools_18 rfl (lv_at hl 1 rfl) ?_
        refine lv_imul hx hb dX12_offersFools_19 ?_
        refine lv_topi (fun x_3 e_3 => ?_)
        have h9 : x_3 = nI (9 * i) := by rw [e_3]; exact pk_mul 9 i
        subst h9
        refine lv_iload_n hx hb dX12_offersFools_20 rfl (lv_at hl 1 rfl) ?_
        refine lv_iadd hx hb dX12_offersFools_21 ?_
        refine lv_topi (fun x_4 e_4 => ?_)
        have h9 : x_4 = nI (9 * i + i) := by rw [e_4, nI_add]
        subst h9
        have h_5 : vp_in (nI (9 * i + i)) 81 := by first | exact vp_in_nI (by omega) (by omega) | (unfold vp_in; decide) | (subst_vars; first | (unfold vp_in; decide) | exact vp_in_nI (by omega) (by omega))
        refine va_iald hx hb hK hP 2 0 rfl rfl h_5 dX12_offersFools_22 ?_
        refine lv_topi (fun x_6 e_6 => ?_)
        have h9 : x_6 = nI (sY O n i cf (k - (i + 1)) i) := by rw [e_6, nI_clamp (by omega)]; exact hrow i (by omega)
        subst h9
        refine lv_aload_n hx hb dX12_offersFools_23 rfl (lv_at hl 0 rfl) ?_
        refine va_get (D := (dC, dI)) (ci := 12) (v := Value.ref m_figure) (C := RX12) (T := TX12) (N := 33) hx hb hts inX12 hown hK hP 0 rfl rfl 2 (by decide) (hts _ (gw kw_719 rfl)) (fun _ h9 => h9) rfl dX12_offersFools_24 ?_
        refine lv_iload_n hx hb dX12_offersFools_27 rfl (lv_at hl 1 rfl) ?_
        have h_7 : vp_in (nI i) 9 := by first | exact vp_in_nI (by omega) (by omega) | (unfold vp_in; decide) | (subst_vars; first | (unfold vp_in; decide) | exact vp_in_nI (by omega) (by omega))
        refine va_iald hx hb hK hP 1 0 rfl rfl h_7 dX12_offersFools_28 ?_
        refine lv_topi (fun x_8 e_8 => ?_)
        have h9 : x_8 = nI cf := by rw [e_8, nI_clamp (by omega)]; exact hf
        subst h9
        refine lv_icmp_ge (tgt := 33) hx hb dX12_offersFools_29 (by decide) (fun c_9 => ?_) (fun c_9 => ?_)
        · have hce : cf ≤ sY O n i cf (k - (i + 1)) i := by
            rcases Nat.lt_or_ge (sY O n i cf (k - (i + 1)) i) cf with q | q
            · exact absurd c_9 (nI_ge q (by omega))
            · exact q
          refine lv_aload_n hx hb dX12_offersFools_33 rfl (lv_at hl 0 rfl) ?_
          refine lv_iload_n hx hb dX12_offersFools_34 rfl (lv_at hl 1 rfl) ?_
          refine lv_iload_n hx hb dX12_offersFools_35 rfl (lv_at hl 2 rfl) ?_
          refine lv_if_eq (tgt := 50) hx hb dX12_offersFools_36 (by decide) (fun c_10 => ?_) (fun c_10 => ?_)
          · exact absurd c_10 (by decide)
          · refine lv_aload_n hx hb dX12_offersFools_39 rfl (lv_at hl 0 rfl) ?_
            refine va_get (D := (dC, dI)) (ci := 12) (v := Value.int (nI n)) (C := RX12) (T := TX12) (N := 33) hx hb hts inX12 hown hK hP 0 rfl rfl 6 (by decide) (hts _ (gw kw_723 rfl)) (fun _ h9 => h9) rfl dX12_offersFools_40 ?_
            refine lv_iload_n hx hb dX12_offersFools_43 rfl (lv_at hl 1 rfl) ?_
            refine lv_iadd hx hb dX12_offersFools_44 ?_
            refine lv_topi (fun x_11 e_11 => ?_)
            have h9 : x_11 = nI (n + i) := by rw [e_11, nI_add]
            subst h9
            refine lv_iload_n hx hb dX12_offersFools_45 rfl (lv_at hl 3 rfl) ?_
            refine lv_isub hx hb dX12_offersFools_46 ?_
            refine lv_topi (fun x_12 e_12 => ?_)
            have h9 : x_12 = nI (n + i - k) := by rw [e_12]; exact pk_sub (by omega)
            subst h9
            refine lv_goto (tgt := 51) hx hb dX12_offersFools_47 (by decide) ?_
            refine lv_aload_n hx hb dX12_offersFools_51 rfl (lv_at hl 0 rfl) ?_
            refine va_get (D := (dC, dI)) (ci := 12) (v := Value.ref m_figure) (C := RX12) (T := TX12) (N := 33) hx hb hts inX12 hown hK hP 0 rfl rfl 2 (by decide) (hts _ (gw kw_719 rfl)) (fun _ h9 => h9) rfl dX12_offersFools_52 ?_
            refine lv_iload_n hx hb dX12_offersFools_55 rfl (lv_at hl 1 rfl) ?_
            have h_13 : vp_in (nI i) 9 := by first | exact vp_in_nI (by omega) (by omega) | (unfold vp_in; decide) | (subst_vars; first | (unfold vp_in; decide) | exact vp_in_nI (by omega) (by omega))
            refine va_iald hx hb hK hP 1 0 rfl rfl h_13 dX12_offersFools_56 ?_
            refine lv_topi (fun x_14 e_14 => ?_)
            have h9 : x_14 = nI cf := by rw [e_14, nI_clamp (by omega)]; exact hf
            subst h9
            have hpd9 := pdf_N (cx := [oX12 g0 m_refused m_kind m_figure m_weight m_got m_setting (nI n) msy mdn m_tape m_letter m_letterAt m_told tp mat stm m_kept him ki crs m_price m_offer m_gets m_yes m_buys m_ends m_carried m_row rm m_keptRow m_likeGets m_likePrice m_ahead, cI aC m_offer 81 oc]) hP hD hS hA [0, 2] (by decide) rfl
            have hPc := hpd9.1
            have hDc := hpd9.2.1
            have hFc := hpd9.2.2
            clear hpd9
            refine va_callv (va_runV (As := [Value.int (nI i), Value.int (nI (n + i - k)), Value.int (nI cf)]) (rest := []) ⟨hx, hb, hml, hown, hts⟩ (c_X12_offersEach l dC dI aC H.size g0 m_refused m_kind m_figure m_weight m_got m_setting m_tape m_letter m_letterAt m_told m_kept m_price m_offer m_gets m_yes m_buys m_ends m_carried m_row m_keptRow m_likeGets m_likePrice m_ahead msy mdn tp mat stm him ki crs rm n oc i (n + i - k) cf (sY O n i cf (k - (i + 1)) i) (by omega) (hrow i (by omega)) (⟨hce, hsl⟩)) ⟨(callB_of 3 hts (gG kw_945) rfl rfl rfl (hts _ (gw kw_13 rfl)) (hts _ (gw kw_942 rfl)) hd_X12_offersEach ⟨Nat.le_of_ble_eq_true rfl, Nat.le_of_ble_eq_true rfl⟩), (hts _ (gw kw_944 rfl)), (hts _ (gw ks_55 rfl))⟩ ⟨fb_std, va_recv (q := (RX12, TX12, 33)) hK hPc (ci := 12) (q0 := 0) rfl rfl, pre_std hPc hK hDc hN⟩ rfl rfl hl.1 rfl (lv_room (Nat.le_of_ble_eq_true rfl)) dX12_offersFools_57 ⟨Nat.le_of_ble_eq_true rfl, Nat.le_of_ble_eq_true rfl⟩) hS (fun q _ h => hFc q h) hFc (fun u9 t9 H1 locs ht hvm hw_15 hB hz1 hk1 hS => ?_)
            obtain ⟨u_16, rfl⟩ : ∃ z, z = u9 := ⟨_, rfl⟩
            obtain ⟨hP1, hK1, hD1⟩ := hB
            rw [ht] at hP1
            clear hK1
            try dsimp only at hw_15
            have hpd9 : PDx (dC, dI) classes A H1 [cI aC m_figure 9 ff, oX12 g0 m_refused m_kind m_figure m_weight m_got m_setting (nI n) msy mdn m_tape m_letter m_letterAt m_told tp mat stm m_kept him ki crs m_price m_offer m_gets m_yes m_buys m_ends m_carried m_row rm m_keptRow m_likeGets m_likePrice m_ahead, cI aC m_offer 81 u_16] := jn_N (wr := [cI aC m_figure 9 ff]) hFc hk1 hP1 hD1 hP hD [0, 2] [1] rfl rfl (by decide) (by decide)
            have hP := hpd9.1
            have hD := hpd9.2
            clear hpd9
            generalize H1 = H at hP hS ⊢
            clear hPc hDc hFc hz1 hk1 hP1 hD1 ht hvm
            have hb1 : ∀ q, q < n → u_16 (9 * i + q) = nI ((sY O n i cf (k + 1 - (i + 1))) q) := oe_row (j := (n + i - k)) (by omega) hw_15 rfl hrow (fun q _ => by rw [show k + 1 - (i + 1) = (k - (i + 1)) + 1 by omega]; show gv (sY O n i cf (k - (i + 1))) i (n - 1 - (k - (i + 1))) cf q = _; unfold gv; rw [if_pos hce, show n - 1 - (k - (i + 1)) = (n + i - k) by omega]; by_cases e : q = i <;> first | (rw [e, if_neg (by omega), if_pos rfl, if_pos rfl]; done) | (rw [if_neg e, if_neg e]))
            have hb2 := oe_fr (by omega) hw_15 hfr
            obtain ⟨x_17, e_17⟩ : ∃ y : Int32, y = (nI k) + 1 := ⟨_, rfl⟩
            refine lv_iinc (v := x_17) (lv' := [(3, Value.int x_17), (0, Value.ref g0), (1, Value.int (nI i)), (2, Value.int 1)]) hx hb dX12_offersFools_60 hl (k := 3) rfl (by rw [e_17]; rfl) (by decide) rfl (fun ls hl => ?_)
            have h9 : x_17 = nI (k + 1) := by rw [e_17, nI_1]
            subst h9
            refine lv_goto (tgt := 4) hx hb dX12_offersFools_63 (by decide) ?_
            exact ih_4 (k + 1) u_16 (ms_lt hlt hfu) (by omega) (hb1) (hb2) _ _ _ (hP.sub [1, 0, 2] rfl) (hD.sub [1, 0, 2] (by decide) rfl) hS (lv_sub hl [1, 2, 3, 0] rfl)
        · have hpd9 := pd_N (cx := [oX12 g0 m_refused m_kind m_figure m_weight m_got m_setting (nI n) msy mdn m_tape m_letter m_letterAt m_told tp mat stm m_kept him ki crs m_price m_offer m_gets m_yes m_buys m_ends m_carried m_row rm m_keptRow m_likeGets m_likePrice m_ahead, cI aC m_figure 9 ff, cI aC m_offer 81 oc]) hP hD [0, 1, 2] (by decide) rfl
          have hP9 := hpd9.1
          have hD9 := hpd9.2
          refine W.widen (k := 0) (n := 0) (by omega) (by omega) ?_
          exact W.vret hx hb hr (fun t ht hW => ⟨⟨(oc), rfl, ⟨fun q hq => by rw [hrow q hq, show n - 1 - i = (k - (i + 1)) + (n - k) by omega, sY_stay _ (by have h9 := c_9; rw [Int32.not_le, nI_ltI (by omega) (by omega)] at h9; omega)], hfr⟩, by rw [ht]; exact hP9, va_K.moved hW.alike hK, hD9⟩, hS.F ht⟩) hS.2.2 dX12_offersFools_32
  exact lp_4 ((n - (i + 1)) + 1) (i + 1) of (Nat.lt_succ_self _) (by omega) (fun q hq => by rw [Nat.sub_self]; exact hO q hq) (fun k _ => rfl) _ _ _ (hP.sub [0, 1, 2] rfl) (hD.sub [0, 1, 2] (by decide) rfl) hS (lv_sub hl [1, 2, 3, 0] rfl)
