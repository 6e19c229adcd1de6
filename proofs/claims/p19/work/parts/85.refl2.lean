set_option maxHeartbeats 1000000 in
set_option maxRecDepth 100000 in
/-- X12_next -/
theorem c_X12_next (l : Launch) (dC : Nat → ClassId) (dI : Nat → Nat → Nat) (aC : Nat → ClassId) (sz : Nat) (g0 : Nat) (m_refused : Nat) (m_kind : Nat) (m_figure : Nat) (m_weight : Nat) (m_got : Nat) (m_setting : Nat) (m_tape : Nat) (m_letter : Nat) (m_letterAt : Nat) (m_told : Nat) (m_kept : Nat) (m_price : Nat) (m_offer : Nat) (m_gets : Nat) (m_yes : Nat) (m_buys : Nat) (m_ends : Nat) (m_carried : Nat) (m_row : Nat) (m_keptRow : Nat) (m_likeGets : Nat) (m_likePrice : Nat) (m_ahead : Nat) (men : Int32) (msy : Int32) (mdn : Int32) (stm : Int32) (him : Int32) (ki : Int32) (crs : Int32) (rm : Int32) (lz : Nat) (aa : Nat) (Lt : Nat → Nat) (tpf : Nat → Int32) (hlt0 : LTR lz Lt tpf) (haa : aa ≤ lz) : Met l yX12_next (wW yX12_next cX12_next 1 (some .int)) ({ frames := 0, cells := 0, slots := 0, locals := 0 } : Room) (va_Pc [Value.ref g0] (fun U => U.heap.size = sz ∧ va_P (dC, dI) classes [oX12 g0 m_refused m_kind m_figure m_weight m_got m_setting men msy mdn m_tape m_letter m_letterAt m_told (nI lz) (nI aa) stm m_kept him ki crs m_price m_offer m_gets m_yes m_buys m_ends m_carried m_row rm m_keptRow m_likeGets m_likePrice m_ahead, cI aC m_tape 64 tpf] U.heap ∧ va_K (dC, dI) classes (TY aC) U ∧ va_D (fun _ => True) [oX12 g0 m_refused m_kind m_figure m_weight m_got m_setting men msy mdn m_tape m_letter m_letterAt m_told (nI lz) (nI aa) stm m_kept him ki crs m_price m_offer m_gets m_yes m_buys m_ends m_carried m_row rm m_keptRow m_likeGets m_likePrice m_ahead, cI aC m_tape 64 tpf] ∧ NX U)) (va_Qi (fun (r : Int32) (_ : Unit) => r = nxt Lt lz aa) (fun (_ : Unit) (t : State) => va_P (dC, dI) classes [oX12 g0 m_refused m_kind m_figure m_weight m_got m_setting men msy mdn m_tape m_letter m_letterAt m_told (nI lz) (nI aa) stm m_kept him ki crs m_price m_offer m_gets m_yes m_buys m_ends m_carried m_row rm m_keptRow m_likeGets m_likePrice m_ahead, cI aC m_tape 64 tpf] t.heap ∧ va_K (dC, dI) classes (TY aC) t ∧ va_D (va_A [oX12 g0 m_refused m_kind m_figure m_weight m_got m_setting men msy mdn m_tape m_letter m_letterAt m_told (nI lz) (nI aa) stm m_kept him ki crs m_price m_offer m_gets m_yes m_buys m_ends m_carried m_row rm m_keptRow m_likeGets m_likePrice m_ahead, cI aC m_tape 64 tpf] sz) [oX12 g0 m_refused m_kind m_figure m_weight m_got m_setting men msy mdn m_tape m_letter m_letterAt m_told (nI lz) (nI aa) stm m_kept him ki crs m_price m_offer m_gets m_yes m_buys m_ends m_carried m_row rm m_keptRow m_likeGets m_likePrice m_ahead, cI aC m_tape 64 tpf]) (va_A [oX12 g0 m_refused m_kind m_figure m_weight m_got m_setting men msy mdn m_tape m_letter m_letterAt m_told (nI lz) (nI aa) stm m_kept him ki crs m_price m_offer m_gets m_yes m_buys m_ends m_carried m_row rm m_keptRow m_likeGets m_likePrice m_ahead, cI aC m_tape 64 tpf] sz)) 0 0 (va_A [oX12 g0 m_refused m_kind m_figure m_weight m_got m_setting men msy mdn m_tape m_letter m_letterAt m_told (nI lz) (nI aa) stm m_kept him ki crs m_price m_offer m_gets m_yes m_buys m_ends m_carried m_row rm m_keptRow m_likeGets m_likePrice m_ahead, cI aC m_tape 64 tpf] sz) := by
  refine Met.ofW (cc := cX12_next) (maxL := 1) (ret := (some .int)) (by decide) rfl ?_
  intro p e s m args below meth c s₁ B hml hv
  obtain ⟨rfl, hsz, hP, hK, hD0, hN⟩ := hv
  have hx := B.exec
  have hb := B.bytes
  have hr := B.returns
  have hts0 := atoms_spec (ws := (wW yX12_next cX12_next 1 (some .int))) B.pre
  have hts : ∀ w9 ∈ lw_G, w9.before ([Value.ref g0] : List Value).toArray s = true := fun w9 h9 => hts0 w9 (List.mem_cons_of_mem _ h9)
  have hown : s.vm.findClass RX12 = some m.cls := findClass_of_methodNamed (x := yX12_next) B.named
  have hlocks := B.notSynchronized
  subst hsz
  have hD := hD0.self (sz := s.heap.size)
  generalize hAe : va_A [oX12 g0 m_refused m_kind m_figure m_weight m_got m_setting men msy mdn m_tape m_letter m_letterAt m_told (nI lz) (nI aa) stm m_kept him ki crs m_price m_offer m_gets m_yes m_buys m_ends m_carried m_row rm m_keptRow m_likeGets m_likePrice m_ahead, cI aC m_tape 64 tpf] s.heap.size = A at hD ⊢
  have hA : ∀ q : Nat, s.heap.size ≤ q → A q := fun q h => by rw [← hAe]; exact Or.inr h
  obtain ⟨H, hHe⟩ : ∃ H : Heap, H = s.heap := ⟨_, rfl⟩
  have hS : va_S A s.heap H [] := by rw [hHe]; exact va_S.rf
  have hP : va_P (dC, dI) classes [oX12 g0 m_refused m_kind m_figure m_weight m_got m_setting men msy mdn m_tape m_letter m_letterAt m_told (nI lz) (nI aa) stm m_kept him ki crs m_price m_offer m_gets m_yes m_buys m_ends m_carried m_row rm m_keptRow m_likeGets m_likePrice m_ahead, cI aC m_tape 64 tpf] H := by rw [hHe]; exact hP
  have hl := lv_entry ([Value.ref g0]) (n := 1) (Nat.le_of_ble_eq_true rfl)
  rw [lg_entry_eq]
  generalize (lg_sl ([Value.ref g0]) ++ List.replicate (1 - (lg_sl ([Value.ref g0])).length) Slot.unset).toArray = ls at hl ⊢
  have hl : lv_has ls 1 [(0, Value.ref g0)] := hl
  rw [← hHe]
  have hz6 := hlt0.1
  have hL := hlt0.2
  have hL2 : ∀ k, k < lz → Lt k ≤ 255 := fun k hk => (hL k hk).2
  refine lv_aload_n hx hb dX12_next_0 rfl (lv_at hl 0 rfl) ?_
  refine va_get (D := (dC, dI)) (ci := 12) (v := Value.int (nI aa)) (C := RX12) (T := TX12) (N := 33) hx hb hts inX12 hown hK hP 0 rfl rfl 14 (by decide) (hts _ (gw kw_731 rfl)) (fun _ h9 => h9) rfl dX12_next_1 ?_
  refine lv_aload_n hx hb dX12_next_4 rfl (lv_at hl 0 rfl) ?_
  refine va_get (D := (dC, dI)) (ci := 12) (v := Value.int (nI lz)) (C := RX12) (T := TX12) (N := 33) hx hb hts inX12 hown hK hP 0 rfl rfl 13 (by decide) (hts _ (gw kw_730 rfl)) (fun _ h9 => h9) rfl dX12_next_5 ?_
  refine lv_icmp_ge (tgt := 23) hx hb dX12_next_8 (by decide) (fun c_1 => ?_) (fun c_1 => ?_)
  · refine lv_iconst (v := -1) hx hb dX12_next_23 (by decide) ?_
    have hpd9 := pd_N (cx := [oX12 g0 m_refused m_kind m_figure m_weight m_got m_setting men msy mdn m_tape m_letter m_letterAt m_told (nI lz) (nI aa) stm m_kept him ki crs m_price m_offer m_gets m_yes m_buys m_ends m_carried m_row rm m_keptRow m_likeGets m_likePrice m_ahead, cI aC m_tape 64 tpf]) hP hD [0, 1] (by decide) rfl
    have hP9 := hpd9.1
    have hD9 := hpd9.2
    refine W.widen (k := 0) (n := 0) (by omega) (by omega) ?_
    exact W.iret (v := -1) hx hb hr (fun t ht hW => ⟨⟨(-1), (), rfl, by unfold nxt; rw [if_neg (fun z => absurd c_1 (nI_ge z (by omega)))], by rw [ht]; exact hP9, va_K.moved hW.alike hK, hD9⟩, hS.F ht⟩) hS.2.2 dX12_next_24
  · have hlt : aa < lz := by
      rcases Nat.lt_or_ge aa lz with q | q
      · exact q
      · exact absurd (nI_le q (by omega)) c_1
    refine lv_aload_n hx hb dX12_next_11 rfl (lv_at hl 0 rfl) ?_
    refine va_get (D := (dC, dI)) (ci := 12) (v := Value.ref m_tape) (C := RX12) (T := TX12) (N := 33) hx hb hts inX12 hown hK hP 0 rfl rfl 9 (by decide) (hts _ (gw kw_726 rfl)) (fun _ h9 => h9) rfl dX12_next_12 ?_
    refine lv_aload_n hx hb dX12_next_15 rfl (lv_at hl 0 rfl) ?_
    refine va_get (D := (dC, dI)) (ci := 12) (v := Value.int (nI aa)) (C := RX12) (T := TX12) (N := 33) hx hb hts inX12 hown hK hP 0 rfl rfl 14 (by decide) (hts _ (gw kw_731 rfl)) (fun _ h9 => h9) rfl dX12_next_16 ?_
    have h_2 : vp_in (nI aa) 64 := vp_in_nI (by omega) (by omega)
    refine va_iald hx hb hK hP 1 0 rfl rfl h_2 dX12_next_19 ?_
    refine lv_topi (fun x_3 e_3 => ?_)
    refine lv_goto (tgt := 24) hx hb dX12_next_20 (by decide) ?_
    have hpd9 := pd_N (cx := [oX12 g0 m_refused m_kind m_figure m_weight m_got m_setting men msy mdn m_tape m_letter m_letterAt m_told (nI lz) (nI aa) stm m_kept him ki crs m_price m_offer m_gets m_yes m_buys m_ends m_carried m_row rm m_keptRow m_likeGets m_likePrice m_ahead, cI aC m_tape 64 tpf]) hP hD [0, 1] (by decide) rfl
    have hP9 := hpd9.1
    have hD9 := hpd9.2
    refine W.widen (k := 0) (n := 0) (by omega) (by omega) ?_
    exact W.iret (v := x_3) hx hb hr (fun t ht hW => ⟨⟨x_3, (), rfl, by rw [e_3, nI_clamp (by omega), (hL aa hlt).1]; unfold nxt; rw [if_pos hlt], by rw [ht]; exact hP9, va_K.moved hW.alike hK, hD9⟩, hS.F ht⟩) hS.2.2 dX12_next_24

set_option maxHeartbeats 1000000 in
set_option maxRecDepth 100000 in
/-- X12_reads -/
theorem c_X12_reads (l : Launch) (dC : Nat → ClassId) (dI : Nat → Nat → Nat) (aC : Nat → ClassId) (sz : Nat) (g0 : Nat) (m_refused : Nat) (m_kind : Nat) (m_figure : Nat) (m_weight : Nat) (m_got : Nat) (m_setting : Nat) (m_tape : Nat) (m_letter : Nat) (m_letterAt : Nat) (m_told : Nat) (m_kept : Nat) (m_price : Nat) (m_offer : Nat) (m_gets : Nat) (m_yes : Nat) (m_buys : Nat) (m_ends : Nat) (m_carried : Nat) (m_row : Nat) (m_keptRow : Nat) (m_likeGets : Nat) (m_likePrice : Nat) (m_ahead : Nat) (men : Int32) (msy : Int32) (mdn : Int32) (stm : Int32) (him : Int32) (ki : Int32) (crs : Int32) (rm : Int32) (lz : Nat) (aa : Nat) (Lt : Nat → Nat) (tpf : Nat → Int32) (pl9 : Nat) (dd : Nat) (tdf : Nat → Int32) (hlt0 : LTR lz Lt tpf) (haa : aa ≤ lz) (hpl : pl9 < 96) (hdd : 1 ≤ dd ∧ dd ≤ 2) : Met l yX12_reads (wW yX12_reads cX12_reads 5 (some .boolean)) ({ frames := 1, cells := 0, slots := 0, locals := 22 } : Room) (va_Pc [Value.ref g0, Value.int (nI pl9), Value.int (nI dd)] (fun U => U.heap.size = sz ∧ va_P (dC, dI) classes [oX12 g0 m_refused m_kind m_figure m_weight m_got m_setting men msy mdn m_tape m_letter m_letterAt m_told (nI lz) (nI aa) stm m_kept him ki crs m_price m_offer m_gets m_yes m_buys m_ends m_carried m_row rm m_keptRow m_likeGets m_likePrice m_ahead, cI aC m_tape 64 tpf, cI aC m_told 96 tdf] U.heap ∧ va_K (dC, dI) classes (TY aC) U ∧ va_D (fun _ => True) [oX12 g0 m_refused m_kind m_figure m_weight m_got m_setting men msy mdn m_tape m_letter m_letterAt m_told (nI lz) (nI aa) stm m_kept him ki crs m_price m_offer m_gets m_yes m_buys m_ends m_carried m_row rm m_keptRow m_likeGets m_likePrice m_ahead, cI aC m_tape 64 tpf, cI aC m_told 96 tdf] ∧ NX U)) (va_Qi (fun (r : Int32) (u : Int32 × (Nat → Int32)) => match u with | (at2, td2) => (r = 0 → ¬ dgc Lt lz aa ∧ at2 = nI aa ∧ td2 = tdf) ∧ (¬ r = 0 → ∃ k, 1 ≤ k ∧ k ≤ dd ∧ (∀ i, i < k → dgc Lt lz (aa + i)) ∧ (k = dd ∨ ¬ dgc Lt lz (aa + k)) ∧ at2 = nI (aa + k) ∧ td2 = upd tdf pl9 (nI (rdv Lt aa k)))) (fun (u : Int32 × (Nat → Int32)) (t : State) => match u with | (at2, td2) => va_P (dC, dI) classes [oX12 g0 m_refused m_kind m_figure m_weight m_got m_setting men msy mdn m_tape m_letter m_letterAt m_told (nI lz) at2 stm m_kept him ki crs m_price m_offer m_gets m_yes m_buys m_ends m_carried m_row rm m_keptRow m_likeGets m_likePrice m_ahead, cI aC m_tape 64 tpf, cI aC m_told 96 td2] t.heap ∧ va_K (dC, dI) classes (TY aC) t ∧ va_D (va_A [oX12 g0 m_refused m_kind m_figure m_weight m_got m_setting men msy mdn m_tape m_letter m_letterAt m_told (nI lz) (nI aa) stm m_kept him ki crs m_price m_offer m_gets m_yes m_buys m_ends m_carried m_row rm m_keptRow m_likeGets m_likePrice m_ahead, cI aC m_tape 64 tpf, cI aC m_told 96 tdf] sz) [oX12 g0 m_refused m_kind m_figure m_weight m_got m_setting men msy mdn m_tape m_letter m_letterAt m_told (nI lz) at2 stm m_kept him ki crs m_price m_offer m_gets m_yes m_buys m_ends m_carried m_row rm m_keptRow m_likeGets m_likePrice m_ahead, cI aC m_tape 64 tpf, cI aC m_told 96 td2]) (va_A [oX12 g0 m_refused m_kind m_figure m_weight m_got m_setting men msy mdn m_tape m_letter m_letterAt m_told (nI lz) (nI aa) stm m_kept him ki crs m_price m_offer m_gets m_yes m_buys m_ends m_carried m_row rm m_keptRow m_likeGets m_likePrice m_ahead, cI aC m_tape 64 tpf, cI aC m_told 96 tdf] sz)) 0 0 (va_A [oX12 g0 m_refused m_kind m_figure m_weight m_got m_setting men msy mdn m_tape m_letter m_letterAt m_told (nI lz) (nI aa) stm m_kept him ki crs m_price m_offer m_gets m_yes m_buys m_ends m_carried m_row rm m_keptRow m_likeGets m_likePrice m_ahead, cI aC m_tape 64 tpf, cI aC m_told 96 tdf] sz) := by
  refine Met.ofW (cc := cX12_reads) (maxL := 5) (ret := (some .boolean)) (by decide) rfl ?_
  intro p e s m args below meth c s₁ B hml hv
  obtain ⟨rfl, hsz, hP, hK, hD0, hN⟩ := hv
  have hx := B.exec
  have hb := B.bytes
  have hr := B.returns
  have hts0 := atoms_spec (ws := (wW yX12_reads cX12_reads 5 (some .boolean))) B.pre
  have hts : ∀ w9 ∈ lw_G, w9.before ([Value.ref g0, Value.int (nI pl9), Value.int (nI dd)] : List Value).toArray s = true := fun w9 h9 => hts0 w9 (List.mem_cons_of_mem _ h9)
  have hown : s.vm.findClass RX12 = some m.cls := findClass_of_methodNamed (x := yX12_reads) B.named
  have hlocks := B.notSynchronized
  subst hsz
  have hD := hD0.self (sz := s.heap.size)
  generalize hAe : va_A [oX12 g0 m_refused m_kind m_figure m_weight m_got m_setting men msy mdn m_tape m_letter m_letterAt m_told (nI lz) (nI aa) stm m_kept him ki crs m_price m_offer m_gets m_yes m_buys m_ends m_carried m_row rm m_keptRow m_likeGets m_likePrice m_ahead, cI aC m_tape 64 tpf, cI aC m_told 96 tdf] s.heap.size = A at hD ⊢
  have hA : ∀ q : Nat, s.heap.size ≤ q → A q := fun q h => by rw [← hAe]; exact Or.inr h
  obtain ⟨H, hHe⟩ : ∃ H : Heap, H = s.heap := ⟨_, rfl⟩
  have hS : va_S A s.heap H [] := by rw [hHe]; exact va_S.rf
  have hP : va_P (dC, dI) classes [oX12 g0 m_refused m_kind m_figure m_weight m_got m_setting men msy mdn m_tape m_letter m_letterAt m_told (nI lz) (nI aa) stm m_kept him ki crs m_price m_offer m_gets m_yes m_buys m_ends m_carried m_row rm m_keptRow m_likeGets m_likePrice m_ahead, cI aC m_tape 64 tpf, cI aC m_told 96 tdf] H := by rw [hHe]; exact hP
  have hl := lv_entry ([Value.ref g0, Value.int (nI pl9), Value.int (nI dd)]) (n := 5) (Nat.le_of_ble_eq_true rfl)
  rw [lg_entry_eq]
  generalize (lg_sl ([Value.ref g0, Value.int (nI pl9), Value.int (nI dd)]) ++ List.replicate (5 - (lg_sl ([Value.ref g0, Value.int (nI pl9), Value.int (nI dd)])).length) Slot.unset).toArray = ls at hl ⊢
  have hl : lv_has ls 5 [(0, Value.ref g0), (1, Value.int (nI pl9)), (2, Value.int (nI dd))] := hl
  rw [← hHe]
  have hz6 := hlt0.1
  have hL := hlt0.2
  have hL2 : ∀ k, k < lz → Lt k ≤ 255 := fun k hk => (hL k hk).2
  refine lv_aload_n hx hb dX12_reads_0 rfl (lv_at hl 0 rfl) ?_
  have hpd9 := pdf_N (cx := [oX12 g0 m_refused m_kind m_figure m_weight m_got m_setting men msy mdn m_tape m_letter m_letterAt m_told (nI lz) (nI aa) stm m_kept him ki crs m_price m_offer m_gets m_yes m_buys m_ends m_carried m_row rm m_keptRow m_likeGets m_likePrice m_ahead, cI aC m_tape 64 tpf]) hP hD hS hA [0, 1] (by decide) rfl
  have hPc := hpd9.1
  have hDc := hpd9.2.1
  have hFc := hpd9.2.2
  clear hpd9
  refine va_calli (va_runV (As := []) (rest := []) ⟨hx, hb, hml, hown, hts⟩ (c_X12_next l dC dI aC H.size g0 m_refused m_kind m_figure m_weight m_got m_setting m_tape m_letter m_letterAt m_told m_kept m_price m_offer m_gets m_yes m_buys m_ends m_carried m_row m_keptRow m_likeGets m_likePrice m_ahead men msy mdn stm him ki crs rm lz aa Lt tpf (hlt0) (by omega)) ⟨(callB_of 0 hts (gG kw_839) rfl rfl rfl (hts _ (gw kw_13 rfl)) (hts _ (gw kw_836 rfl)) hd_X12_next ⟨Nat.le_of_ble_eq_true rfl, Nat.le_of_ble_eq_true rfl⟩), (hts _ (gw kw_838 rfl)), (hts _ (gw ks_37 rfl))⟩ ⟨fb_std, va_recv (q := (RX12, TX12, 33)) hK hPc (ci := 12) (q0 := 0) rfl rfl, pre_std hPc hK hDc hN⟩ rfl rfl hl.1 rfl (lv_room (Nat.le_of_ble_eq_true rfl)) dX12_reads_1 ⟨Nat.le_of_ble_eq_true rfl, Nat.le_of_ble_eq_true rfl⟩) hS (fun q _ h => hFc q h) hFc (fun x_1 u9 t9 H1 locs ht hvm hw_1 hB hz1 hk1 hS => ?_)
  obtain ⟨hP1, hK1, hD1⟩ := hB
  rw [ht] at hP1
  clear hK1
  try dsimp only at hw_1
  have hpd9 : PDx (dC, dI) classes A H1 [cI aC m_told 96 tdf, oX12 g0 m_refused m_kind m_figure m_weight m_got m_setting men msy mdn m_tape m_letter m_letterAt m_told (nI lz) (nI aa) stm m_kept him ki crs m_price m_offer m_gets m_yes m_buys m_ends m_carried m_row rm m_keptRow m_likeGets m_likePrice m_ahead, cI aC m_tape 64 tpf] := jn_N (wr := [cI aC m_told 96 tdf]) hFc hk1 hP1 hD1 hP hD [0, 1] [2] rfl rfl (by decide) (by decide)
  have hP := hpd9.1
  have hD := hpd9.2
  clear hpd9
  generalize H1 = H at hP hS ⊢
  clear hPc hDc hFc hz1 hk1 hP1 hD1 ht hvm
  have hz_1 := hw_1
  refine lv_bipush (v := 48) hx hb dX12_reads_4 (by decide) ?_
  refine lv_bipush (v := 57) hx hb dX12_reads_6 (by decide) ?_
  have hpd9 := pdf_N (cx := []) hP hD hS hA [] (by decide) rfl
  have hPc := hpd9.1
  have hDc := hpd9.2.1
  have hFc := hpd9.2.2
  clear hpd9
  refine va_calli (va_runS (As := [Value.int x_1, Value.int 48, Value.int 57]) (rest := []) ⟨hx, hb, hml, hown, hts⟩ (c_X12_isIn l dC dI aC H.size x_1 48 57 ) ⟨(callB_of 3 hts (gG kw_846) rfl rfl rfl (hts _ (gw kw_13 rfl)) (hts _ (gw kw_844 rfl)) hd_X12_isIn ⟨Nat.le_of_ble_eq_true rfl, Nat.le_of_ble_eq_true rfl⟩), (hts _ (gw kw_845 rfl))⟩ ⟨fb_std, pre_std hPc hK hDc hN⟩ rfl rfl hl.1 rfl (lv_room (Nat.le_of_ble_eq_true rfl)) dX12_reads_8 ⟨Nat.le_of_ble_eq_true rfl, Nat.le_of_ble_eq_true rfl⟩) hS (fun q _ h => hFc q h) hFc (fun x_2 u9 t9 H1 locs ht hvm hw_2 hB hz1 hk1 hS => ?_)
  obtain ⟨hP1, hK1, hD1⟩ := hB
  rw [ht] at hP1
  clear hK1
  try dsimp only at hw_2
  have hpd9 : PDx (dC, dI) classes A H1 [cI aC m_told 96 tdf, oX12 g0 m_refused m_kind m_figure m_weight m_got m_setting men msy mdn m_tape m_letter m_letterAt m_told (nI lz) (nI aa) stm m_kept him ki crs m_price m_offer m_gets m_yes m_buys m_ends m_carried m_row rm m_keptRow m_likeGets m_likePrice m_ahead, cI aC m_tape 64 tpf] := jn_N (wr := [cI aC m_told 96 tdf, oX12 g0 m_refused m_kind m_figure m_weight m_got m_setting men msy mdn m_tape m_letter m_letterAt m_told (nI lz) (nI aa) stm m_kept him ki crs m_price m_offer m_gets m_yes m_buys m_ends m_carried m_row rm m_keptRow m_likeGets m_likePrice m_ahead, cI aC m_tape 64 tpf]) hFc hk1 hP1 hD1 hP hD [] [0, 1, 2] rfl rfl (by decide) (by decide)
  have hP := hpd9.1
  have hD := hpd9.2
  clear hpd9
  generalize H1 = H at hP hS ⊢
  clear hPc hDc hFc hz1 hk1 hP1 hD1 ht hvm
  have hz_8 := hw_2
  refine lv_if_ne (tgt := 16) hx hb dX12_reads_11 (by decide) (fun c_3 => ?_) (fun c_3 => ?_)
  · have hd0 := (nx_dig hL2 hz_1 hz_8).2 c_3
    refine lv_iconst (v := 0) hx hb dX12_reads_16 (by decide) ?_
    refine lv_istore_n (lv' := [(3, Value.int 0), (0, Value.ref g0), (1, Value.int (nI pl9)), (2, Value.int (nI dd))]) hx hb dX12_reads_17 rfl hl (by decide) rfl (fun ls hl => ?_)
    refine lv_iconst (v := 0) hx hb dX12_reads_18 (by decide) ?_
    refine lv_istore (lv' := [(4, Value.int 0), (3, Value.int 0), (0, Value.ref g0), (1, Value.int (nI pl9)), (2, Value.int (nI dd))]) hx hb dX12_reads_19 hl (by decide) rfl (fun ls hl => ?_)
    have lp_21 : ∀ (fu : Nat) (k : Nat) (hfu : dd - k < fu) (hk : k ≤ dd ∧ aa + k ≤ lz) (hdg : ∀ i, i < k → dgc Lt lz (aa + i)) (H : Heap) (locs : List Loc) (ls : Array Slot), va_P (dC, dI) classes [cI aC m_told 96 tdf, oX12 g0 m_refused m_kind m_figure m_weight m_got m_setting men msy mdn m_tape m_letter m_letterAt m_told (nI lz) (nI (aa + k)) stm m_kept him ki crs m_price m_offer m_gets m_yes m_buys m_ends m_carried m_row rm m_keptRow m_likeGets m_likePrice m_ahead, cI aC m_tape 64 tpf] H → va_D A [cI aC m_told 96 tdf, oX12 g0 m_refused m_kind m_figure m_weight m_got m_setting men msy mdn m_tape m_letter m_letterAt m_told (nI lz) (nI (aa + k)) stm m_kept him ki crs m_price m_offer m_gets m_yes m_buys m_ends m_carried m_row rm m_keptRow m_likeGets m_likePrice m_ahead, cI aC m_tape 64 tpf] → va_S A s.heap H locs → lv_has ls 5 [(0, Value.ref g0), (1, Value.int (nI pl9)), (2, Value.int (nI dd)), (3, Value.int (nI (rdv Lt aa k))), (4, Value.int (nI k))] → W p l e (headSpec (wW yX12_reads cX12_reads 5 (some .boolean)) ({ frames := 1, cells := 0, slots := 0, locals := 22 } : Room)).room s m ([Value.ref g0, Value.int (nI pl9), Value.int (nI dd)] : List Value).toArray below meth c H locs 0 0 (MQ below (va_Qi (fun (r : Int32) (u : Int32 × (Nat → Int32)) => match u with | (at2, td2) => (r = 0 → ¬ dgc Lt lz aa ∧ at2 = nI aa ∧ td2 = tdf) ∧ (¬ r = 0 → ∃ k, 1 ≤ k ∧ k ≤ dd ∧ (∀ i, i < k → dgc Lt lz (aa + i)) ∧ (k = dd ∨ ¬ dgc Lt lz (aa + k)) ∧ at2 = nI (aa + k) ∧ td2 = upd tdf pl9 (nI (rdv Lt aa k)))) (fun (u : Int32 × (Nat → Int32)) (t : State) => match u with | (at2, td2) => va_P (dC, dI) classes [oX12 g0 m_refused m_kind m_figure m_weight m_got m_setting men msy mdn m_tape m_letter m_letterAt m_told (nI lz) at2 stm m_kept him ki crs m_price m_offer m_gets m_yes m_buys m_ends m_carried m_row rm m_keptRow m_likeGets m_likePrice m_ahead, cI aC m_tape 64 tpf, cI aC m_told 96 td2] t.heap ∧ va_K (dC, dI) classes (TY aC) t ∧ va_D A [oX12 g0 m_refused m_kind m_figure m_weight m_got m_setting men msy mdn m_tape m_letter m_letterAt m_told (nI lz) at2 stm m_kept him ki crs m_price m_offer m_gets m_yes m_buys m_ends m_carried m_row rm m_keptRow m_likeGets m_likePrice m_ahead, cI aC m_tape 64 tpf, cI aC m_told 96 td2]) A) ([Value.ref g0, Value.int (nI pl9), Value.int (nI dd)] : List Value).toArray s 0 0 A) (F0 m 21 ls []) := by
      intro fu
      induction fu with
      | zero => intro k hfu; exact absurd hfu (Nat.not_lt_zero _)
      | succ fu ih_21 =>
        intro k hfu hk hdg H locs ls hP hD hS hl
        refine lv_iload hx hb dX12_reads_21 (lv_at hl 4 rfl) ?_
        refine lv_iload_n hx hb dX12_reads_23 rfl (lv_at hl 2 rfl) ?_
        refine lv_icmp_ge (tgt := 70) hx hb dX12_reads_24 (by decide) (fun c_4 => ?_) (fun c_4 => ?_)
        · refine lv_aload_n hx hb dX12_reads_70 rfl (lv_at hl 0 rfl) ?_
          refine va_get (D := (dC, dI)) (ci := 12) (v := Value.ref m_told) (C := RX12) (T := TX12) (N := 33) hx hb hts inX12 hown hK hP 1 rfl rfl 12 (by decide) (hts _ (gw kw_729 rfl)) (fun _ h9 => h9) rfl dX12_reads_71 ?_
          refine lv_iload_n hx hb dX12_reads_74 rfl (lv_at hl 1 rfl) ?_
          refine lv_iload_n hx hb dX12_reads_75 rfl (lv_at hl 3 rfl) ?_
          have h_5 : vp_in (nI pl9) 96 := vp_in_nI (by omega) (by omega)
          refine va_iast hx hb hK hP hD hS 0 0 rfl rfl h_5 dX12_reads_76 (fun H locs hP hD hS => ?_)
          obtain ⟨f_6, e_f_6⟩ : ∃ y : Nat → Int32, y = upd tdf (nI pl9 : Int32).toNatClampNeg (nI (rdv Lt aa k)) := ⟨_, rfl⟩
          have hpd9 : PDx (dC, dI) classes A H [cI aC m_told 96 f_6, oX12 g0 m_refused m_kind m_figure m_weight m_got m_setting men msy mdn m_tape m_letter m_letterAt m_told (nI lz) (nI (aa + k)) stm m_kept him ki crs m_price m_offer m_gets m_yes m_buys m_ends m_carried m_row rm m_keptRow m_likeGets m_likePrice m_ahead, cI aC m_tape 64 tpf] := by rw [e_f_6]; exact ⟨hP, hD⟩
          have hP := hpd9.1
          have hD := hpd9.2
          clear hpd9
          refine lv_iconst (v := 1) hx hb dX12_reads_77 (by decide) ?_
          have hpd9 := pd_N (cx := [oX12 g0 m_refused m_kind m_figure m_weight m_got m_setting men msy mdn m_tape m_letter m_letterAt m_told (nI lz) (nI (aa + k)) stm m_kept him ki crs m_price m_offer m_gets m_yes m_buys m_ends m_carried m_row rm m_keptRow m_likeGets m_likePrice m_ahead, cI aC m_tape 64 tpf, cI aC m_told 96 f_6]) hP hD [1, 2, 0] (by decide) rfl
          have hP9 := hpd9.1
          have hD9 := hpd9.2
          refine W.widen (k := 0) (n := 0) (by omega) (by omega) ?_
          exact W.zret (v := 1) hx hb hr rfl (fun t ht hW => ⟨⟨1, ((nI (aa + k)), f_6), rfl, ⟨fun q => absurd q (by decide), fun _ => ⟨k, by have := (nI_leI (by omega) (by omega)).mp c_4; omega, by omega, hdg, Or.inl (by have := (nI_leI (by omega) (by omega)).mp c_4; omega), rfl, by rw [e_f_6, nI_clamp (by omega)]⟩⟩, by rw [ht]; exact hP9, va_K.moved hW.alike hK, hD9⟩, hS.F ht⟩) hS.2.2 dX12_reads_78
        · have hlt : k < dd := by
            rcases Nat.lt_or_ge k dd with q | q
            · exact q
            · exact absurd (nI_le q (by omega)) c_4
          refine lv_aload_n hx hb dX12_reads_27 rfl (lv_at hl 0 rfl) ?_
          have hpd9 := pdf_N (cx := [oX12 g0 m_refused m_kind m_figure m_weight m_got m_setting men msy mdn m_tape m_letter m_letterAt m_told (nI lz) (nI (aa + k)) stm m_kept him ki crs m_price m_offer m_gets m_yes m_buys m_ends m_carried m_row rm m_keptRow m_likeGets m_likePrice m_ahead, cI aC m_tape 64 tpf]) hP hD hS hA [1, 2] (by decide) rfl
          have hPc := hpd9.1
          have hDc := hpd9.2.1
          have hFc := hpd9.2.2
          clear hpd9
          refine va_calli (va_runV (As := []) (rest := []) ⟨hx, hb, hml, hown, hts⟩ (c_X12_next l dC dI aC H.size g0 m_refused m_kind m_figure m_weight m_got m_setting m_tape m_letter m_letterAt m_told m_kept m_price m_offer m_gets m_yes m_buys m_ends m_carried m_row m_keptRow m_likeGets m_likePrice m_ahead men msy mdn stm him ki crs rm lz (aa + k) Lt tpf (hlt0) (by omega)) ⟨(callB_of 0 hts (gG kw_839) rfl rfl rfl (hts _ (gw kw_13 rfl)) (hts _ (gw kw_836 rfl)) hd_X12_next ⟨Nat.le_of_ble_eq_true rfl, Nat.le_of_ble_eq_true rfl⟩), (hts _ (gw kw_838 rfl)), (hts _ (gw ks_37 rfl))⟩ ⟨fb_std, va_recv (q := (RX12, TX12, 33)) hK hPc (ci := 12) (q0 := 0) rfl rfl, pre_std hPc hK hDc hN⟩ rfl rfl hl.1 rfl (lv_room (Nat.le_of_ble_eq_true rfl)) dX12_reads_28 ⟨Nat.le_of_ble_eq_true rfl, Nat.le_of_ble_eq_true rfl⟩) hS (fun q _ h => hFc q h) hFc (fun x_7 u9 t9 H1 locs ht hvm hw_7 hB hz1 hk1 hS => ?_)
          obtain ⟨hP1, hK1, hD1⟩ := hB
          rw [ht] at hP1
          clear hK1
          try dsimp only at hw_7
          have hpd9 : PDx (dC, dI) classes A H1 [cI aC m_told 96 tdf, oX12 g0 m_refused m_kind m_figure m_weight m_got m_setting men msy mdn m_tape m_letter m_letterAt m_told (nI lz) (nI (aa + k)) stm m_kept him ki crs m_price m_offer m_gets m_yes m_buys m_ends m_carried m_row rm m_keptRow m_likeGets m_likePrice m_ahead, cI aC m_tape 64 tpf] := jn_N (wr := [cI aC m_told 96 tdf]) hFc hk1 hP1 hD1 hP hD [1, 2] [0] rfl rfl (by decide) (by decide)
          have hP := hpd9.1
          have hD := hpd9.2
          clear hpd9
          generalize H1 = H at hP hS ⊢
          clear hPc hDc hFc hz1 hk1 hP1 hD1 ht hvm
          have hz_28 := hw_7
          refine lv_bipush (v := 48) hx hb dX12_reads_31 (by decide) ?_
          refine lv_bipush (v := 57) hx hb dX12_reads_33 (by decide) ?_
          have hpd9 := pdf_N (cx := []) hP hD hS hA [] (by decide) rfl
          have hPc := hpd9.1
          have hDc := hpd9.2.1
          have hFc := hpd9.2.2
          clear hpd9
          refine va_calli (va_runS (As := [Value.int x_7, Value.int 48, Value.int 57]) (rest := []) ⟨hx, hb, hml, hown, hts⟩ (c_X12_isIn l dC dI aC H.size x_7 48 57 ) ⟨(callB_of 3 hts (gG kw_846) rfl rfl rfl (hts _ (gw kw_13 rfl)) (hts _ (gw kw_844 rfl)) hd_X12_isIn ⟨Nat.le_of_ble_eq_true rfl, Nat.le_of_ble_eq_true rfl⟩), (hts _ (gw kw_845 rfl))⟩ ⟨fb_std, pre_std hPc hK hDc hN⟩ rfl rfl hl.1 rfl (lv_room (Nat.le_of_ble_eq_true rfl)) dX12_reads_35 ⟨Nat.le_of_ble_eq_true rfl, Nat.le_of_ble_eq_true rfl⟩) hS (fun q _ h => hFc q h) hFc (fun x_8 u9 t9 H1 locs ht hvm hw_8 hB hz1 hk1 hS => ?_)
          obtain ⟨hP1, hK1, hD1⟩ := hB
          rw [ht] at hP1
          clear hK1
          try dsimp only at hw_8
          have hpd9 : PDx (dC, dI) classes A H1 [cI aC m_told 96 tdf, oX12 g0 m_refused m_kind m_figure m_weight m_got m_setting men msy mdn m_tape m_letter m_letterAt m_told (nI lz) (nI (aa + k)) stm m_kept him ki crs m_price m_offer m_gets m_yes m_buys m_ends m_carried m_row rm m_keptRow m_likeGets m_likePrice m_ahead, cI aC m_tape 64 tpf] := jn_N (wr := [cI aC m_told 96 tdf, oX12 g0 m_refused m_kind m_figure m_weight m_got m_setting men msy mdn m_tape m_letter m_letterAt m_told (nI lz) (nI (aa + k)) stm m_kept him ki crs m_price m_offer m_gets m_yes m_buys m_ends m_carried m_row rm m_keptRow m_likeGets m_likePrice m_ahead, cI aC m_tape 64 tpf]) hFc hk1 hP1 hD1 hP hD [] [0, 1, 2] rfl rfl (by decide) (by decide)
          have hP := hpd9.1
          have hD := hpd9.2
          clear hpd9
          generalize H1 = H at hP hS ⊢
          clear hPc hDc hFc hz1 hk1 hP1 hD1 ht hvm
          have hz_35 := hw_8
          refine lv_if_eq (tgt := 70) hx hb dX12_reads_38 (by decide) (fun c_9 => ?_) (fun c_9 => ?_)
          · refine lv_aload_n hx hb dX12_reads_70 rfl (lv_at hl 0 rfl) ?_
            refine va_get (D := (dC, dI)) (ci := 12) (v := Value.ref m_told) (C := RX12) (T := TX12) (N := 33) hx hb hts inX12 hown hK hP 1 rfl rfl 12 (by decide) (hts _ (gw kw_729 rfl)) (fun _ h9 => h9) rfl dX12_reads_71 ?_
            refine lv_iload_n hx hb dX12_reads_74 rfl (lv_at hl 1 rfl) ?_
            refine lv_iload_n hx hb dX12_reads_75 rfl (lv_at hl 3 rfl) ?_
            have h_10 : vp_in (nI pl9) 96 := vp_in_nI (by omega) (by omega)
            refine va_iast hx hb hK hP hD hS 0 0 rfl rfl h_10 dX12_reads_76 (fun H locs hP hD hS => ?_)
            obtain ⟨f_11, e_f_11⟩ : ∃ y : Nat → Int32, y = upd tdf (nI pl9 : Int32).toNatClampNeg (nI (rdv Lt aa k)) := ⟨_, rfl⟩
            have hpd9 : PDx (dC, dI) classes A H [cI aC m_told 96 f_11, oX12 g0 m_refused m_kind m_figure m_weight m_got m_setting men msy mdn m_tape m_letter m_letterAt m_told (nI lz) (nI (aa + k)) stm m_kept him ki crs m_price m_offer m_gets m_yes m_buys m_ends m_carried m_row rm m_keptRow m_likeGets m_likePrice m_ahead, cI aC m_tape 64 tpf] := by rw [e_f_11]; exact ⟨hP, hD⟩
            have hP := hpd9.1
            have hD := hpd9.2
            clear hpd9
            refine lv_iconst (v := 1) hx hb dX12_reads_77 (by decide) ?_
            have hpd9 := pd_N (cx := [oX12 g0 m_refused m_kind m_figure m_weight m_got m_setting men msy mdn m_tape m_letter m_letterAt m_told (nI lz) (nI (aa + k)) stm m_kept him ki crs m_price m_offer m_gets m_yes m_buys m_ends m_carried m_row rm m_keptRow m_likeGets m_likePrice m_ahead, cI aC m_tape 64 tpf, cI aC m_told 96 f_11]) hP hD [1, 2, 0] (by decide) rfl
            have hP9 := hpd9.1
            have hD9 := hpd9.2
            refine W.widen (k := 0) (n := 0) (by omega) (by omega) ?_
            exact W.zret (v := 1) hx hb hr rfl (fun t ht hW => ⟨⟨1, ((nI (aa + k)), f_11), rfl, ⟨fun q => absurd q (by decide), fun _ => ⟨k, by rcases Nat.eq_zero_or_pos k with q | q <;> first | (subst q; exact absurd hd0 ((nx_dig hL2 hz_28 hz_35).1 c_9)) | exact q, by omega, hdg, Or.inr ((nx_dig hL2 hz_28 hz_35).1 c_9), rfl, by rw [e_f_11, nI_clamp (by omega)]⟩⟩, by rw [ht]; exact hP9, va_K.moved hW.alike hK, hD9⟩, hS.F ht⟩) hS.2.2 dX12_reads_78
          · have hdk := (nx_dig hL2 hz_28 hz_35).2 c_9
            refine lv_bipush (v := 10) hx hb dX12_reads_41 (by decide) ?_
            refine lv_iload_n hx hb dX12_reads_43 rfl (lv_at hl 3 rfl) ?_
            refine lv_imul hx hb dX12_reads_44 ?_
            refine lv_topi (fun x_12 e_12 => ?_)
            refine lv_aload_n hx hb dX12_reads_45 rfl (lv_at hl 0 rfl) ?_
            have hpd9 := pdf_N (cx := [oX12 g0 m_refused m_kind m_figure m_weight m_got m_setting men msy mdn m_tape m_letter m_letterAt m_told (nI lz) (nI (aa + k)) stm m_kept him ki crs m_price m_offer m_gets m_yes m_buys m_ends m_carried m_row rm m_keptRow m_likeGets m_likePrice m_ahead, cI aC m_tape 64 tpf]) hP hD hS hA [1, 2] (by decide) rfl
            have hPc := hpd9.1
            have hDc := hpd9.2.1
            have hFc := hpd9.2.2
            clear hpd9
            refine va_calli (va_runV (As := []) (rest := [Value.int x_12]) ⟨hx, hb, hml, hown, hts⟩ (c_X12_next l dC dI aC H.size g0 m_refused m_kind m_figure m_weight m_got m_setting m_tape m_letter m_letterAt m_told m_kept m_price m_offer m_gets m_yes m_buys m_ends m_carried m_row m_keptRow m_likeGets m_likePrice m_ahead men msy mdn stm him ki crs rm lz (aa + k) Lt tpf (hlt0) (by omega)) ⟨(callB_of 0 hts (gG kw_839) rfl rfl rfl (hts _ (gw kw_13 rfl)) (hts _ (gw kw_836 rfl)) hd_X12_next ⟨Nat.le_of_ble_eq_true rfl, Nat.le_of_ble_eq_true rfl⟩), (hts _ (gw kw_838 rfl)), (hts _ (gw ks_37 rfl))⟩ ⟨fb_std, va_recv (q := (RX12, TX12, 33)) hK hPc (ci := 12) (q0 := 0) rfl rfl, pre_std hPc hK hDc hN⟩ rfl rfl hl.1 rfl (lv_room (Nat.le_of_ble_eq_true rfl)) dX12_reads_46 ⟨Nat.le_of_ble_eq_true rfl, Nat.le_of_ble_eq_true rfl⟩) hS (fun q _ h => hFc q h) hFc (fun x_13 u9 t9 H1 locs ht hvm hw_13 hB hz1 hk1 hS => ?_)
            obtain ⟨hP1, hK1, hD1⟩ := hB
            rw [ht] at hP1
            clear hK1
            try dsimp only at hw_13
            have hpd9 : PDx (dC, dI) classes A H1 [cI aC m_told 96 tdf, oX12 g0 m_refused m_kind m_figure m_weight m_got m_setting men msy mdn m_tape m_letter m_letterAt m_told (nI lz) (nI (aa + k)) stm m_kept him ki crs m_price m_offer m_gets m_yes m_buys m_ends m_carried m_row rm m_keptRow m_likeGets m_likePrice m_ahead, cI aC m_tape 64 tpf] := jn_N (wr := [cI aC m_told 96 tdf]) hFc hk1 hP1 hD1 hP hD [1, 2] [0] rfl rfl (by decide) (by decide)
            have hP := hpd9.1
            have hD := hpd9.2
            clear hpd9
            generalize H1 = H at hP hS ⊢
            clear hPc hDc hFc hz1 hk1 hP1 hD1 ht hvm
            have hz_46 := hw_13
            have h9 : x_13 = nI (Lt (aa + k)) := by rw [hz_46]; unfold nxt; rw [if_pos hdk.1]
            subst h9
            refine lv_iadd hx hb dX12_reads_49 ?_
            refine lv_topi (fun x_14 e_14 => ?_)
            refine lv_bipush (v := 48) hx hb dX12_reads_50 (by decide) ?_
            refine lv_isub hx hb dX12_reads_52 ?_
            refine lv_topi (fun x_15 e_15 => ?_)
            have h9 : x_15 = nI (rdv Lt aa (k + 1)) := by rw [e_15, e_14, e_12]; exact rdv_s hdk.2
            subst h9
            refine lv_istore_n (lv' := [(3, Value.int (nI (rdv Lt aa (k + 1)))), (0, Value.ref g0), (1, Value.int (nI pl9)), (2, Value.int (nI dd)), (4, Value.int (nI k))]) hx hb dX12_reads_53 rfl hl (by decide) rfl (fun ls hl => ?_)
            refine lv_aload_n hx hb dX12_reads_54 rfl (lv_at hl 1 rfl) ?_
            refine lv_dup hx hb dX12_reads_55 rfl ?_
            refine va_get (D := (dC, dI)) (ci := 12) (v := Value.int (nI (aa + k))) (C := RX12) (T := TX12) (N := 33) hx hb hts inX12 hown hK hP 1 rfl rfl 14 (by decide) (hts _ (gw kw_731 rfl)) (fun _ h9 => h9) rfl dX12_reads_56 ?_
            refine lv_iconst (v := 1) hx hb dX12_reads_59 (by decide) ?_
            refine lv_iadd hx hb dX12_reads_60 ?_
            refine lv_topi (fun x_16 e_16 => ?_)
            refine va_put (D := (dC, dI)) (ci := 12) (v := Value.int x_16) (ty := .int) (C := RX12) (T := TX12) (N := 33) hx hb hts inX12 tyX12 tyX12_ok nmX12 hown hK hP hD hS 1 rfl rfl 14 (by decide) (hts _ (gw kw_731 rfl)) (fun _ h9 => h9) rfl (by decide +kernel) rfl rfl (Nat.le_of_ble_eq_true rfl) dX12_reads_61 (fun H locs hP hD hS => ?_)
            have hpd9 : PDx (dC, dI) classes A H [cI aC m_told 96 tdf, oX12 g0 m_refused m_kind m_figure m_weight m_got m_setting men msy mdn m_tape m_letter m_letterAt m_told (nI lz) x_16 stm m_kept him ki crs m_price m_offer m_gets m_yes m_buys m_ends m_carried m_row rm m_keptRow m_likeGets m_likePrice m_ahead, cI aC m_tape 64 tpf] := ⟨hP, hD⟩
            have hP := hpd9.1
            have hD := hpd9.2
            clear hpd9
            have h9 : x_16 = nI (aa + (k + 1)) := by rw [e_16, nI_1]; rfl
            subst h9
            obtain ⟨x_17, e_17⟩ : ∃ y : Int32, y = (nI k) + 1 := ⟨_, rfl⟩
            refine lv_iinc (v := x_17) (lv' := [(4, Value.int x_17), (3, Value.int (nI (rdv Lt aa (k + 1)))), (0, Value.ref g0), (1, Value.int (nI pl9)), (2, Value.int (nI dd))]) hx hb dX12_reads_64 hl (k := 4) rfl (by rw [e_17]; rfl) (by decide) rfl (fun ls hl => ?_)
            have h9 : x_17 = nI (k + 1) := by rw [e_17, nI_1]
            subst h9
            refine lv_goto (tgt := 21) hx hb dX12_reads_67 (by decide) ?_
            exact ih_21 (k + 1) (by omega) (by have := hdk.1; omega) (fun i hi => by by_cases q : i = k <;> first | (rw [q]; exact hdk) | exact hdg i (by omega)) _ _ _ (hP.sub [0, 1, 2] rfl) (hD.sub [0, 1, 2] (by decide) rfl) hS (lv_sub hl [2, 3, 4, 1, 0] rfl)
    exact lp_21 ((dd - 0) + 1) 0 (Nat.lt_succ_self _) (by omega) (fun i hi => by omega) _ _ _ (hP.sub [0, 1, 2] rfl) (hD.sub [0, 1, 2] (by decide) rfl) hS (lv_sub hl [2, 3, 4, 1, 0] rfl)
  · have hnd := (nx_dig hL2 hz_1 hz_8).1 c_3
    refine lv_iconst (v := 0) hx hb dX12_reads_14 (by decide) ?_
    have hpd9 := pd_N (cx := [oX12 g0 m_refused m_kind m_figure m_weight m_got m_setting men msy mdn m_tape m_letter m_letterAt m_told (nI lz) (nI aa) stm m_kept him ki crs m_price m_offer m_gets m_yes m_buys m_ends m_carried m_row rm m_keptRow m_likeGets m_likePrice m_ahead, cI aC m_tape 64 tpf, cI aC m_told 96 tdf]) hP hD [1, 2, 0] (by decide) rfl
    have hP9 := hpd9.1
    have hD9 := hpd9.2
    refine W.widen (k := 0) (n := 0) (by omega) (by omega) ?_
    exact W.zret (v := 0) hx hb hr rfl (fun t ht hW => ⟨⟨0, ((nI aa), tdf), rfl, ⟨fun _ => ⟨hnd, rfl, rfl⟩, fun q => absurd rfl q⟩, by rw [ht]; exact hP9, va_K.moved hW.alike hK, hD9⟩, hS.F ht⟩) hS.2.2 dX12_reads_15
