section
/-! 85.refl2 -/
set_option maxHeartbeats 1000000 in
set_option maxRecDepth 100000 in
/-- X12_next -/
theorem c_X12_next (l : Launch) (dC : Nat → ClassId) (dI : Nat → Nat → Nat) (aC : Nat → ClassId) (sz : Nat) (g0 : Nat) (m_refused : Nat) (m_kind : Nat) (m_figure : Nat) (m_weight : Nat) (m_got : Nat) (m_setting : Nat) (m_tape : Nat) (m_letter : Nat) (m_letterAt : Nat) (m_told : Nat) (m_kept : Nat) (m_price : Nat) (m_offer : Nat) (m_gets : Nat) (m_yes : Nat) (m_buys : Nat) (m_ends : Nat) (m_carried : Nat) (m_row : Nat) (m_keptRow : Nat) (m_likeGets : Nat) (m_likePrice : Nat) (m_ahead : Nat) (men : Int32) (msy : Int32) (mdn : Int32) (stm : Int32) (him : Int32) (ki : Int32) (crs : Int32) (rm : Int32) (lz : Nat) (aa : Nat) (Lt : Nat → Nat) (tpf : Nat → Int32) (hlt0 : LTR lz Lt tpf) (haa : aa ≤ lz) : Met l yX12_next (wW yX12_next cX12_next 1 (some .int)) ({ frames := 0, cells := 0, slots := 0, locals := 0 } : Room) (va_Pc [Value.ref g0] (fun U => U.heap.size = sz ∧ va_P (dC, dI) classes [oX12 g0 m_refused m_kind m_figure m_weight m_got m_setting men msy mdn m_tape m_letter m_letterAt m_told (nI lz) (nI aa) stm m_kept him ki crs m_price m_offer m_gets m_yes m_buys m_ends m_carried m_row rm m_keptRow m_likeGets m_likePrice m_ahead, cI aC m_tape 64 tpf] U.heap ∧ va_K (dC, dI) classes (TY aC) U ∧ va_D (fun _ => True) [oX12 g0 m_refused m_kind m_figure m_weight m_got m_setting men msy mdn m_tape m_letter m_letterAt m_told (nI lz) (nI aa) stm m_kept him ki crs m_price m_offer m_gets m_yes m_buys m_ends m_carried m_row rm m_keptRow m_likeGets m_likePrice m_ahead, cI aC m_tape 64 tpf] ∧ NX U)) (va_Qi (fun (r : Int32) (_ : Unit) => r = nxt Lt lz aa) (fun (_ : Unit) (t : State) => va_P (dC, dI) classes [oX12 g0 m_refused m_kind m_figure m_weight m_got m_setting men msy mdn m_tape m_letter m_letterAt m_told (nI lz) (nI aa) stm m_kept him ki crs m_price m_offer m_gets m_yes m_buys m_ends m_carried m_row rm m_keptRow m_likeGets m_likePrice m_ahead, cI aC m_tape 64 tpf] t.heap ∧ va_K (dC, dI) classes (TY aC) t ∧ va_D (va_A [oX12 g0 m_refused m_kind m_figure m_weight m_got m_setting men msy mdn m_tape m_letter m_letterAt m_told (nI lz) (nI aa) stm m_kept him ki crs m_price m_offer m_gets m_yes m_buys m_ends m_carried m_row rm m_keptRow m_likeGets m_likePrice m_ahead, cI aC m_tape 64 tpf] sz) [oX12 g0 m_refused m_kind m_figure m_weight m_got m_setting men msy mdn m_tape m_letter m_letterAt m_told (nI lz) (nI aa) stm m_kept him ki crs m_price m_offer m_gets m_yes m_buys m_ends m_carried m_row rm m_keptRow m_likeGets m_likePrice m_ahead, cI aC m_tape 64 tpf]) (va_A [oX12 g0 m_refused m_kind m_figure m_weight m_got m_setting men msy mdn m_tape m_letter m_letterAt m_told (nI lz) (nI aa) stm m_kept him ki crs m_price m_offer m_gets m_yes m_buys m_ends m_carried m_row rm m_keptRow m_likeGets m_likePrice m_ahead, cI aC m_tape 64 tpf] sz)) 0 0 (va_A [oX12 g0 m_refused m_kind m_figure m_weight m_got m_setting men msy mdn m_tape m_letter m_letterAt m_told (nI lz) (nI aa) stm m_kept him ki crs m_price m_offer m_gets m_yes m_buys m_ends m_carried m_row rm m_keptRow m_likeGets m_likePrice m_ahead, cI aC m_tape 64 tpf] sz) := by
  refine Met.ofW (cc := cX12_next) (maxL := 1) (ret := (some .int)) (by decide) rfl ?_
  intro p e s m args below meth c s₁ B hml hv
  obtain ⟨rfl, hsz, hP, hK, hD0, hN⟩ := hv
  have hx := B.exec
  have hb := B.bytes
  have hr := B.returns
  have hts0 := atoms_spec (ws := (wW yX12_next cX12_next 1 (some .int))) B.pre
  have hts : ∀ w9 ∈ lw_G, w9.before ([Value.ref g0] : List Value).toArray s = true := fun w9 h9 => hts0 w9 (List.mem_cons_of_mem _ h9)
  have hown : s.vm.findClass RX12 = some m.cls := findClass_of_methodNamed (x := yX12_next) B.named
  have hlocks := B.notSynchronized
  subst hsz
  have hD := hD0.self (sz := s.heap.size)
  generalize hAe : va_A [oX12 g0 m_refused m_kind m_figure m_weight m_got m_setting men msy mdn m_tape m_letter m_letterAt m_told (nI lz) (nI aa) stm m_kept him ki crs m_price m_offer m_gets m_yes m_buys m_ends m_carried m_row rm m_keptRow m_likeGets m_likePrice m_ahead, cI aC m_tape 64 tpf] s.heap.size = A at hD ⊢
  have hA : ∀ q : Nat, s.heap.size ≤ q → A q := fun q h => by rw [← hAe]; exact Or.inr h
  obtain ⟨H, hHe⟩ : ∃ H : Heap, H = s.heap := ⟨_, rfl⟩
  have hS : va_S A s.heap H [] := by rw [hHe]; exact va_S.rf
  have hP : va_P (dC, dI) classes [oX12 g0 m_refused m_kind m_figure m_weight m_got m_setting men msy mdn m_tape m_letter m_letterAt m_told (nI lz) (nI aa) stm m_kept him ki crs m_price m_offer m_gets m_yes m_buys m_ends m_carried m_row rm m_keptRow m_likeGets m_likePrice m_ahead, cI aC m_tape 64 tpf] H := by rw [hHe]; exact hP
  have hl := lv_entry ([Value.ref g0]) (n := 1) (Nat.le_of_ble_eq_true rfl)
  rw [lg_entry_eq]
  generalize (lg_sl ([Value.ref g0]) ++ List.replicate (1 - (lg_sl ([Value.ref g0])).length) Slot.unset).toArray = ls at hl ⊢
  have hl : lv_has ls 1 [(0, Value.ref g0)] := hl
  rw [← hHe]
  have hz6 := hlt0.1
  have hL := hlt0.2
  have hL2 : ∀ k, k < lz → Lt k ≤ 255 := fun k hk => (hL k hk).2
  refine lv_aload_n hx hb dX12_next_0 rfl (lv_at hl 0 rfl) ?_
  refine va_get (D := (dC, dI)) (ci := 12) (v := Value.int (nI aa)) (C := RX12) (T := TX12) (N := 33) hx hb hts inX12 hown hK hP 0 rfl rfl 14 (by decide) (hts _ (gw kw_731 rfl)) (fun _ h9 => h9) rfl dX12_next_1 ?_
  refine lv_aload_n hx hb dX12_next_4 rfl (lv_at hl 0 rfl) ?_
  refine va_get (D := (dC, dI)) (ci := 12) (v := Value.int (nI lz)) (C := RX12) (T := TX12) (N := 33) hx hb hts inX12 hown hK hP 0 rfl rfl 13 (by decide) (hts _ (gw kw_730 rfl)) (fun _ h9 => h9) rfl dX12_next_5 ?_
  refine lv_icmp_ge (tgt := 23) hx hb dX12_next_8 (by decide) (fun c_1 => ?_) (fun c_1 => ?_)
  · refine lv_iconst (v := -1) hx hb dX12_next_23 (by decide) ?_
    have hpd9 := pd_N (cx := [oX12 g0 m_refused m_kind m_figure m_weight m_got m_setting men msy mdn m_tape m_letter m_letterAt m_told (nI lz) (nI aa) stm m_kept him ki crs m_price m_offer m_gets m_yes m_buys m_ends m_carried m_row rm m_keptRow m_likeGets m_likePrice m_ahead, cI aC m_tape 64 tpf]) hP hD [0, 1] (by decide) rfl
    have hP9 := hpd9.1
    have hD9 := hpd9.2
    refine W.widen (k := 0) (n := 0) (by omega) (by omega) ?_
    exact W.iret (v := -1) hx hb hr (fun t ht hW => ⟨⟨(-1), (), rfl, by unfold nxt; rw [if_neg (fun z => absurd c_1 (nI_ge z (by omega)))], by rw [ht]; exact hP9, va_K.moved hW.alike hK, hD9⟩, hS.F ht⟩) hS.2.2 dX12_next_24
  · have hlt : aa < lz := by
      rcases Nat.lt_or_ge aa lz with q | q
      · exact q
      · exact absurd (nI_le q (by omega)) c_1
    refine lv_aload_n hx hb dX12_next_11 rfl (lv_at hl 0 rfl) ?_
    refine va_get (D := (dC, dI)) (ci := 12) (v := Value.ref m_tape) (C := RX12) (T := TX12) (N := 33) hx hb hts inX12 hown hK hP 0 rfl rfl 9 (by decide) (hts _ (gw kw_726 rfl)) (fun _ h9 => h9) rfl dX12_next_12 ?_
    refine lv_aload_n hx hb dX12_next_15 rfl (lv_at hl 0 rfl) ?_
    refine va_get (D := (dC, dI)) (ci := 12) (v := Value.int (nI aa)) (C := RX12) (T := TX12) (N := 33) hx hb hts inX12 hown hK hP 0 rfl rfl 14 (by decide) (hts _ (gw kw_731 rfl)) (fun _ h9 => h9) rfl dX12_next_16 ?_
    have h_2 : vp_in (nI aa) 64 := vp_in_nI (by omega) (by omega)
    refine va_iald hx hb hK hP 1 0 rfl rfl h_2 dX12_next_19 ?_
    refine lv_topi (fun x_3 e_3 => ?_)
    refine lv_goto (tgt := 24) hx hb dX12_next_20 (by decide) ?_
    have hpd9 := pd_N (cx := [oX12 g0 m_refused m_kind m_figure m_weight m_got m_setting men msy mdn m_tape m_letter m_letterAt m_told (nI lz) (nI aa) stm m_kept him ki crs m_price m_offer m_gets m_yes m_buys m_ends m_carried m_row rm m_keptRow m_likeGets m_likePrice m_ahead, cI aC m_tape 64 tpf]) hP hD [0, 1] (by decide) rfl
    have hP9 := hpd9.1
    have hD9 := hpd9.2
    refine W.widen (k := 0) (n := 0) (by omega) (by omega) ?_
    exact W.iret (v := x_3) hx hb hr (fun t ht hW => ⟨⟨x_3, (), rfl, by rw [e_3, nI_clamp (by omega), (hL aa hlt).1]; unfold nxt; rw [if_pos hlt], by rw [ht]; exact hP9, va_K.moved hW.alike hK, hD9⟩, hS.F ht⟩) hS.2.2 dX12_next_24

set_option maxHeartbeats 1000000 in
set_option maxRecDepth 100000 in
/-- X12_reads -/
theorem c_X12_reads (l : Launch) (dC : Nat → ClassId) (dI : Nat → Nat → Nat) (aC : Nat → ClassId) (sz : Nat) (g0 : Nat) (m_refused : Nat) (m_kind : Nat) (m_figure : Nat) (m_weight : Nat) (m_got : Nat) (m_setting : Nat) (m_tape : Nat) (m_letter : Nat) (m_letterAt : Nat) (m_told : Nat) (m_kept : Nat) (m_price : Nat) (m_offer : Nat) (m_gets : Nat) (m_yes : Nat) (m_buys : Nat) (m_ends : Nat) (m_carried : Nat) (m_row : Nat) (m_keptRow : Nat) (m_likeGets : Nat) (m_likePrice : Nat) (m_ahead : Nat) (men : Int32) (msy : Int32) (mdn : Int32) (stm : Int32) (him : Int32) (ki : Int32) (crs : Int32) (rm : Int32) (lz : Nat) (aa : Nat) (Lt : Nat → Nat) (tpf : Nat → Int32) (pl9 : Nat) (dd : Nat) (tdf : Nat → Int32) (hlt0 : LTR lz Lt tpf) (haa : aa ≤ lz) (hpl : pl9 < 96) (hdd : 1 ≤ dd ∧ dd ≤ 2) : Met l yX12_reads (wW yX12_reads cX12_reads 5 (some .boolean)) ({ frames := 1, cells := 0, slots := 0, locals := 22 } : Room) (va_Pc [Value.ref g0, Value.int (nI pl9), Value.int (nI dd)] (fun U => U.heap.size = sz ∧ va_P (dC, dI) classes [oX12 g0 m_refused m_kind m_figure m_weight m_got m_setting men msy mdn m_tape m_letter m_letterAt m_told (nI lz) (nI aa) stm m_kept him ki crs m_price m_offer m_gets m_yes m_buys m_ends m_carried m_row rm m_keptRow m_likeGets m_likePrice m_ahead, cI aC m_tape 64 tpf, cI aC m_told 96 tdf] U.heap ∧ va_K (dC, dI) classes (TY aC) U ∧ va_D (fun _ => True) [oX12 g0 m_refused m_kind m_figure m_weight m_got m_setting men msy mdn m_tape m_letter m_letterAt m_told (nI lz) (nI aa) stm m_kept him ki crs m_price m_offer m_gets m_yes m_buys m_ends m_carried m_row rm m_keptRow m_likeGets m_likePrice m_ahead, cI aC m_tape 64 tpf, cI aC m_told 96 tdf] ∧ NX U)) (va_Qi (fun (r : Int32) (u : Int32 × (Nat → Int32)) => match u with | (at2, td2) => (r = 0 → ¬ dgc Lt lz aa ∧ at2 = nI aa ∧ td2 = tdf) ∧ (¬ r = 0 → ∃ k, 1 ≤ k ∧ k ≤ dd ∧ (∀ i, i < k → dgc Lt lz (aa + i)) ∧ (k = dd ∨ ¬ dgc Lt lz (aa + k)) ∧ at2 = nI (aa + k) ∧ td2 = upd tdf pl9 (nI (rdv Lt aa k)))) (fun (u : Int32 × (Nat → Int32)) (t : State) => match u with | (at2, td2) => va_P (dC, dI) classes [oX12 g0 m_refused m_kind m_figure m_weight m_got m_setting men msy mdn m_tape m_letter m_letterAt m_told (nI lz) at2 stm m_kept him ki crs m_price m_offer m_gets m_yes m_buys m_ends m_carried m_row rm m_keptRow m_likeGets m_likePrice m_ahead, cI aC m_tape 64 tpf, cI aC m_told 96 td2] t.heap ∧ va_K (dC, dI) classes (TY aC) t ∧ va_D (va_A [oX12 g0 m_refused m_kind m_figure m_weight m_got m_setting men msy mdn m_tape m_letter m_letterAt m_told (nI lz) (nI aa) stm m_kept him ki crs m_price m_offer m_gets m_yes m_buys m_ends m_carried m_row rm m_keptRow m_likeGets m_likePrice m_ahead, cI aC m_tape 64 tpf, cI aC m_told 96 tdf] sz) [oX12 g0 m_refused m_kind m_figure m_weight m_got m_setting men msy mdn m_tape m_letter m_letterAt m_told (nI lz) at2 stm m_kept him ki crs m_price m_offer m_gets m_yes m_buys m_ends m_carried m_row rm m_keptRow m_likeGets m_likePrice m_ahead, cI aC m_tape 64 tpf, cI aC m_told 96 td2]) (va_A [oX12 g0 m_refused m_kind m_figure m_weight m_got m_setting men msy mdn m_tape m_letter m_letterAt m_told (nI lz) (nI aa) stm m_kept him ki crs m_price m_offer m_gets m_yes m_buys m_ends m_carried m_row rm m_keptRow m_likeGets m_likePrice m_ahead, cI aC m_tape 64 tpf, cI aC m_told 96 tdf] sz)) 0 0 (va_A [oX12 g0 m_refused m_kind m_figure m_weight m_got m_setting men msy mdn m_tape m_letter m_letterAt m_told (nI lz) (nI aa) stm m_kept him ki crs m_price m_offer m_gets m_yes m_buys m_ends m_carried m_row rm m_keptRow m_likeGets m_likePrice m_ahead, cI aC m_tape 64 tpf, cI aC m_told 96 tdf] sz) := by
  refine Met.ofW (cc := cX12_reads) (maxL := 5) (ret := (some .boolean)) (by decide) rfl ?_
  intro p e s m args below meth c s₁ B hml hv
  obtain ⟨rfl, hsz, hP, hK, hD0, hN⟩ := hv
  have hx := B.exec
  have hb := B.bytes
  have hr := B.returns
  have hts0 := atoms_spec (ws := (wW yX12_reads cX12_reads 5 (some .boolean))) B.pre
  have hts : ∀ w9 ∈ lw_G, w9.before ([Value.ref g0, Value.int (nI pl9), Value.int (nI dd)] : List Value).toArray s = true := fun w9 h9 => hts0 w9 (List.mem_cons_of_mem _ h9)
  have hown : s.vm.findClass RX12 = some m.cls := findClass_of_methodNamed (x := yX12_reads) B.named
  have hlocks := B.notSynchronized
  subst hsz
  have hD := hD0.self (sz := s.heap.size)
  generalize hAe : va_A [oX12 g0 m_refused m_kind m_figure m_weight m_got m_setting men msy mdn m_tape m_letter m_letterAt m_told (nI lz) (nI aa) stm m_kept him ki crs m_price m_offer m_gets m_yes m_buys m_ends m_carried m_row rm m_keptRow m_likeGets m_likePrice m_ahead, cI aC m_tape 64 tpf, cI aC m_told 96 tdf] s.heap.size = A at hD ⊢
  have hA : ∀ q : Nat, s.heap.size ≤ q → A q := fun q h => by rw [← hAe]; exact Or.inr h
  obtain ⟨H, hHe⟩ : ∃ H : Heap, H = s.heap := ⟨_, rfl⟩
  have hS : va_S A s.heap H [] := by rw [hHe]; exact va_S.rf
  have hP : va_P (dC, dI) classes [oX12 g0 m_refused m_kind m_figure m_weight m_got m_setting men msy mdn m_tape m_letter m_letterAt m_told (nI lz) (nI aa) stm m_kept him ki crs m_price m_offer m_gets m_yes m_buys m_ends m_carried m_row rm m_keptRow m_likeGets m_likePrice m_ahead, cI aC m_tape 64 tpf, cI aC m_told 96 tdf] H := by rw [hHe]; exact hP
  have hl := lv_entry ([Value.ref g0, Value.int (nI pl9), Value.int (nI dd)]) (n := 5) (Nat.le_of_ble_eq_true rfl)
  rw [lg_entry_eq]
  generalize (lg_sl ([Value.ref g0, Value.int (nI pl9), Value.int (nI dd)]) ++ List.replicate (5 - (lg_sl ([Value.ref g0, Value.int (nI pl9), Value.int (nI dd)])).length) Slot.unset).toArray = ls at hl ⊢
  have hl : lv_has ls 5 [(0, Value.ref g0), (1, Value.int (nI pl9)), (2, Value.int (nI dd))] := hl
  rw [← hHe]
  have hz6 := hlt0.1
  have hL := hlt0.2
  have hL2 : ∀ k, k < lz → Lt k ≤ 255 := fun k hk => (hL k hk).2
  refine lv_aload_n hx hb dX12_reads_0 rfl (lv_at hl 0 rfl) ?_
  have hpd9 := pdf_N (cx := [oX12 g0 m_refused m_kind m_figure m_weight m_got m_setting men msy mdn m_tape m_letter m_letterAt m_told (nI lz) (nI aa) stm m_kept him ki crs m_price m_offer m_gets m_yes m_buys m_ends m_carried m_row rm m_keptRow m_likeGets m_likePrice m_ahead, cI aC m_tape 64 tpf]) hP hD hS hA [0, 1] (by decide) rfl
  have hPc := hpd9.1
  have hDc := hpd9.2.1
  have hFc := hpd9.2.2
  clear hpd9
  refine va_calli (va_runV (As := []) (rest := []) ⟨hx, hb, hml, hown, hts⟩ (c_X12_next l dC dI aC H.size g0 m_refused m_kind m_figure m_weight m_got m_setting m_tape m_letter m_letterAt m_told m_kept m_price m_offer m_gets m_yes m_buys m_ends m_carried m_row m_keptRow m_likeGets m_likePrice m_ahead men msy mdn stm him ki crs rm lz aa Lt tpf (hlt0) (by omega)) ⟨(callB_of 0 hts (gG kw_839) rfl rfl rfl (hts _ (gw kw_13 rfl)) (hts _ (gw kw_836 rfl)) hd_X12_next ⟨Nat.le_of_ble_eq_true rfl, Nat.le_of_ble_eq_true rfl⟩), (hts _ (gw kw_838 rfl)), (hts _ (gw ks_37 rfl))⟩ ⟨fb_std, va_recv (q := (RX12, TX12, 33)) hK hPc (ci := 12) (q0 := 0) rfl rfl, pre_std hPc hK hDc hN⟩ rfl rfl hl.1 rfl (lv_room (Nat.le_of_ble_eq_true rfl)) dX12_reads_1 ⟨Nat.le_of_ble_eq_true rfl, Nat.le_of_ble_eq_true rfl⟩) hS (fun q _ h => hFc q h) hFc (fun x_1 u9 t9 H1 locs ht hvm hw_1 hB hz1 hk1 hS => ?_)
  obtain ⟨hP1, hK1, hD1⟩ := hB
  rw [ht] at hP1
  clear hK1
  try dsimp only at hw_1
  have hpd9 : PDx (dC, dI) classes A H1 [cI aC m_told 96 tdf, oX12 g0 m_refused m_kind m_figure m_weight m_got m_setting men msy mdn m_tape m_letter m_letterAt m_told (nI lz) (nI aa) stm m_kept him ki crs m_price m_offer m_gets m_yes m_buys m_ends m_carried m_row rm m_keptRow m_likeGets m_likePrice m_ahead, cI aC m_tape 64 tpf] := jn_N (wr := [cI aC m_told 96 tdf]) hFc hk1 hP1 hD1 hP hD [0, 1] [2] rfl rfl (by decide) (by decide)
  have hP := hpd9.1
  have hD := hpd9.2
  clear hpd9
  generalize H1 = H at hP hS ⊢
  clear hPc hDc hFc hz1 hk1 hP1 hD1 ht hvm
  have hz_1 := hw_1
  refine lv_bipush (v := 48) hx hb dX12_reads_4 (by decide) ?_
  refine lv_bipush (v := 57) hx hb dX12_reads_6 (by decide) ?_
  have hpd9 := pdf_N (cx := []) hP hD hS hA [] (by decide) rfl
  have hPc := hpd9.1
  have hDc := hpd9.2.1
  have hFc := hpd9.2.2
  clear hpd9
  refine va_calli (va_runS (As := [Value.int x_1, Value.int 48, Value.int 57]) (rest := []) ⟨hx, hb, hml, hown, hts⟩ (c_X12_isIn l dC dI aC H.size x_1 48 57 ) ⟨(callB_of 3 hts (gG kw_846) rfl rfl rfl (hts _ (gw kw_13 rfl)) (hts _ (gw kw_844 rfl)) hd_X12_isIn ⟨Nat.le_of_ble_eq_true rfl, Nat.le_of_ble_eq_true rfl⟩), (hts _ (gw kw_845 rfl))⟩ ⟨fb_std, pre_std hPc hK hDc hN⟩ rfl rfl hl.1 rfl (lv_room (Nat.le_of_ble_eq_true rfl)) dX12_reads_8 ⟨Nat.le_of_ble_eq_true rfl, Nat.le_of_ble_eq_true rfl⟩) hS (fun q _ h => hFc q h) hFc (fun x_2 u9 t9 H1 locs ht hvm hw_2 hB hz1 hk1 hS => ?_)
  obtain ⟨hP1, hK1, hD1⟩ := hB
  rw [ht] at hP1
  clear hK1
  try dsimp only at hw_2
  have hpd9 : PDx (dC, dI) classes A H1 [cI aC m_told 96 tdf, oX12 g0 m_refused m_kind m_figure m_weight m_got m_setting men msy mdn m_tape m_letter m_letterAt m_told (nI lz) (nI aa) stm m_kept him ki crs m_price m_offer m_gets m_yes m_buys m_ends m_carried m_row rm m_keptRow m_likeGets m_likePrice m_ahead, cI aC m_tape 64 tpf] := jn_N (wr := [cI aC m_told 96 tdf, oX12 g0 m_refused m_kind m_figure m_weight m_got m_setting men msy mdn m_tape m_letter m_letterAt m_told (nI lz) (nI aa) stm m_kept him ki crs m_price m_offer m_gets m_yes m_buys m_ends m_carried m_row rm m_keptRow m_likeGets m_likePrice m_ahead, cI aC m_tape 64 tpf]) hFc hk1 hP1 hD1 hP hD [] [0, 1, 2] rfl rfl (by decide) (by decide)
  have hP := hpd9.1
  have hD := hpd9.2
  clear hpd9
  generalize H1 = H at hP hS ⊢
  clear hPc hDc hFc hz1 hk1 hP1 hD1 ht hvm
  have hz_8 := hw_2
  refine lv_if_ne (tgt := 16) hx hb dX12_reads_11 (by decide) (fun c_3 => ?_) (fun c_3 => ?_)
  · have hd0 := (nx_dig hL2 hz_1 hz_8).2 c_3
    refine lv_iconst (v := 0) hx hb dX12_reads_16 (by decide) ?_
    refine lv_istore_n (lv' := [(3, Value.int 0), (0, Value.ref g0), (1, Value.int (nI pl9)), (2, Value.int (nI dd))]) hx hb dX12_reads_17 rfl hl (by decide) rfl (fun ls hl => ?_)
    refine lv_iconst (v := 0) hx hb dX12_reads_18 (by decide) ?_
    refine lv_istore (lv' := [(4, Value.int 0), (3, Value.int 0), (0, Value.ref g0), (1, Value.int (nI pl9)), (2, Value.int (nI dd))]) hx hb dX12_reads_19 hl (by decide) rfl (fun ls hl => ?_)
    have lp_21 : ∀ (fu : Nat) (k : Nat) (hfu : dd - k < fu) (hk : k ≤ dd ∧ aa + k ≤ lz) (hdg : ∀ i, i < k → dgc Lt lz (aa + i)) (H : Heap) (locs : List Loc) (ls : Array Slot), va_P (dC, dI) classes [cI aC m_told 96 tdf, oX12 g0 m_refused m_kind m_figure m_weight m_got m_setting men msy mdn m_tape m_letter m_letterAt m_told (nI lz) (nI (aa + k)) stm m_kept him ki crs m_price m_offer m_gets m_yes m_buys m_ends m_carried m_row rm m_keptRow m_likeGets m_likePrice m_ahead, cI aC m_tape 64 tpf] H → va_D A [cI aC m_told 96 tdf, oX12 g0 m_refused m_kind m_figure m_weight m_got m_setting men msy mdn m_tape m_letter m_letterAt m_told (nI lz) (nI (aa + k)) stm m_kept him ki crs m_price m_offer m_gets m_yes m_buys m_ends m_carried m_row rm m_keptRow m_likeGets m_likePrice m_ahead, cI aC m_tape 64 tpf] → va_S A s.heap H locs → lv_has ls 5 [(0, Value.ref g0), (1, Value.int (nI pl9)), (2, Value.int (nI dd)), (3, Value.int (nI (rdv Lt aa k))), (4, Value.int (nI k))] → W p l e (headSpec (wW yX12_reads cX12_reads 5 (some .boolean)) ({ frames := 1, cells := 0, slots := 0, locals := 22 } : Room)).room s m ([Value.ref g0, Value.int (nI pl9), Value.int (nI dd)] : List Value).toArray below meth c H locs 0 0 (MQ below (va_Qi (fun (r : Int32) (u : Int32 × (Nat → Int32)) => match u with | (at2, td2) => (r = 0 → ¬ dgc Lt lz aa ∧ at2 = nI aa ∧ td2 = tdf) ∧ (¬ r = 0 → ∃ k, 1 ≤ k ∧ k ≤ dd ∧ (∀ i, i < k → dgc Lt lz (aa + i)) ∧ (k = dd ∨ ¬ dgc Lt lz (aa + k)) ∧ at2 = nI (aa + k) ∧ td2 = upd tdf pl9 (nI (rdv Lt aa k)))) (fun (u : Int32 × (Nat → Int32)) (t : State) => match u with | (at2, td2) => va_P (dC, dI) classes [oX12 g0 m_refused m_kind m_figure m_weight m_got m_setting men msy mdn m_tape m_letter m_letterAt m_told (nI lz) at2 stm m_kept him ki crs m_price m_offer m_gets m_yes m_buys m_ends m_carried m_row rm m_keptRow m_likeGets m_likePrice m_ahead, cI aC m_tape 64 tpf, cI aC m_told 96 td2] t.heap ∧ va_K (dC, dI) classes (TY aC) t ∧ va_D A [oX12 g0 m_refused m_kind m_figure m_weight m_got m_setting men msy mdn m_tape m_letter m_letterAt m_told (nI lz) at2 stm m_kept him ki crs m_price m_offer m_gets m_yes m_buys m_ends m_carried m_row rm m_keptRow m_likeGets m_likePrice m_ahead, cI aC m_tape 64 tpf, cI aC m_told 96 td2]) A) ([Value.ref g0, Value.int (nI pl9), Value.int (nI dd)] : List Value).toArray s 0 0 A) (F0 m 21 ls []) := by
      intro fu
      induction fu with
      | zero => intro k hfu; exact absurd hfu (Nat.not_lt_zero _)
      | succ fu ih_21 =>
        intro k hfu hk hdg H locs ls hP hD hS hl
        refine lv_iload hx hb dX12_reads_21 (lv_at hl 4 rfl) ?_
        refine lv_iload_n hx hb dX12_reads_23 rfl (lv_at hl 2 rfl) ?_
        refine lv_icmp_ge (tgt := 70) hx hb dX12_reads_24 (by decide) (fun c_4 => ?_) (fun c_4 => ?_)
        · refine lv_aload_n hx hb dX12_reads_70 rfl (lv_at hl 0 rfl) ?_
          refine va_get (D := (dC, dI)) (ci := 12) (v := Value.ref m_told) (C := RX12) (T := TX12) (N := 33) hx hb hts inX12 hown hK hP 1 rfl rfl 12 (by decide) (hts _ (gw kw_729 rfl)) (fun _ h9 => h9) rfl dX12_reads_71 ?_
          refine lv_iload_n hx hb dX12_reads_74 rfl (lv_at hl 1 rfl) ?_
          refine lv_iload_n hx hb dX12_reads_75 rfl (lv_at hl 3 rfl) ?_
          have h_5 : vp_in (nI pl9) 96 := vp_in_nI (by omega) (by omega)
          refine va_iast hx hb hK hP hD hS 0 0 rfl rfl h_5 dX12_reads_76 (fun H locs hP hD hS => ?_)
          obtain ⟨f_6, e_f_6⟩ : ∃ y : Nat → Int32, y = upd tdf (nI pl9 : Int32).toNatClampNeg (nI (rdv Lt aa k)) := ⟨_, rfl⟩
          have hpd9 : PDx (dC, dI) classes A H [cI aC m_told 96 f_6, oX12 g0 m_refused m_kind m_figure m_weight m_got m_setting men msy mdn m_tape m_letter m_letterAt m_told (nI lz) (nI (aa + k)) stm m_kept him ki crs m_price m_offer m_gets m_yes m_buys m_ends m_carried m_row rm m_keptRow m_likeGets m_likePrice m_ahead, cI aC m_tape 64 tpf] := by rw [e_f_6]; exact ⟨hP, hD⟩
          have hP := hpd9.1
          have hD := hpd9.2
          clear hpd9
          refine lv_iconst (v := 1) hx hb dX12_reads_77 (by decide) ?_
          have hpd9 := pd_N (cx := [oX12 g0 m_refused m_kind m_figure m_weight m_got m_setting men msy mdn m_tape m_letter m_letterAt m_told (nI lz) (nI (aa + k)) stm m_kept him ki crs m_price m_offer m_gets m_yes m_buys m_ends m_carried m_row rm m_keptRow m_likeGets m_likePrice m_ahead, cI aC m_tape 64 tpf, cI aC m_told 96 f_6]) hP hD [1, 2, 0] (by decide) rfl
          have hP9 := hpd9.1
          have hD9 := hpd9.2
          refine W.widen (k := 0) (n := 0) (by omega) (by omega) ?_
          exact W.zret (v := 1) hx hb hr rfl (fun t ht hW => ⟨⟨1, ((nI (aa + k)), f_6), rfl, ⟨fun q => absurd q (by decide), fun _ => ⟨k, by have := (nI_leI (by omega) (by omega)).mp c_4; omega, by omega, hdg, Or.inl (by have := (nI_leI (by omega) (by omega)).mp c_4; omega), rfl, by rw [e_f_6, nI_clamp (by omega)]⟩⟩, by rw [ht]; exact hP9, va_K.moved hW.alike hK, hD9⟩, hS.F ht⟩) hS.2.2 dX12_reads_78
        · have hlt : k < dd := by
            rcases Nat.lt_or_ge k dd with q | q
            · exact q
            · exact absurd (nI_le q (by omega)) c_4
          refine lv_aload_n hx hb dX12_reads_27 rfl (lv_at hl 0 rfl) ?_
          have hpd9 := pdf_N (cx := [oX12 g0 m_refused m_kind m_figure m_weight m_got m_setting men msy mdn m_tape m_letter m_letterAt m_told (nI lz) (nI (aa + k)) stm m_kept him ki crs m_price m_offer m_gets m_yes m_buys m_ends m_carried m_row rm m_keptRow m_likeGets m_likePrice m_ahead, cI aC m_tape 64 tpf]) hP hD hS hA [1, 2] (by decide) rfl
          have hPc := hpd9.1
          have hDc := hpd9.2.1
          have hFc := hpd9.2.2
          clear hpd9
          refine va_calli (va_runV (As := []) (rest := []) ⟨hx, hb, hml, hown, hts⟩ (c_X12_next l dC dI aC H.size g0 m_refused m_kind m_figure m_weight m_got m_setting m_tape m_letter m_letterAt m_told m_kept m_price m_offer m_gets m_yes m_buys m_ends m_carried m_row m_keptRow m_likeGets m_likePrice m_ahead men msy mdn stm him ki crs rm lz (aa + k) Lt tpf (hlt0) (by omega)) ⟨(callB_of 0 hts (gG kw_839) rfl rfl rfl (hts _ (gw kw_13 rfl)) (hts _ (gw kw_836 rfl)) hd_X12_next ⟨Nat.le_of_ble_eq_true rfl, Nat.le_of_ble_eq_true rfl⟩), (hts _ (gw kw_838 rfl)), (hts _ (gw ks_37 rfl))⟩ ⟨fb_std, va_recv (q := (RX12, TX12, 33)) hK hPc (ci := 12) (q0 := 0) rfl rfl, pre_std hPc hK hDc hN⟩ rfl rfl hl.1 rfl (lv_room (Nat.le_of_ble_eq_true rfl)) dX12_reads_28 ⟨Nat.le_of_ble_eq_true rfl, Nat.le_of_ble_eq_true rfl⟩) hS (fun q _ h => hFc q h) hFc (fun x_7 u9 t9 H1 locs ht hvm hw_7 hB hz1 hk1 hS => ?_)
          obtain ⟨hP1, hK1, hD1⟩ := hB
          rw [ht] at hP1
          clear hK1
          try dsimp only at hw_7
          have hpd9 : PDx (dC, dI) classes A H1 [cI aC m_told 96 tdf, oX12 g0 m_refused m_kind m_figure m_weight m_got m_setting men msy mdn m_tape m_letter m_letterAt m_told (nI lz) (nI (aa + k)) stm m_kept him ki crs m_price m_offer m_gets m_yes m_buys m_ends m_carried m_row rm m_keptRow m_likeGets m_likePrice m_ahead, cI aC m_tape 64 tpf] := jn_N (wr := [cI aC m_told 96 tdf]) hFc hk1 hP1 hD1 hP hD [1, 2] [0] rfl rfl (by decide) (by decide)
          have hP := hpd9.1
          have hD := hpd9.2
          clear hpd9
          generalize H1 = H at hP hS ⊢
          clear hPc hDc hFc hz1 hk1 hP1 hD1 ht hvm
          have hz_28 := hw_7
          refine lv_bipush (v := 48) hx hb dX12_reads_31 (by decide) ?_
          refine lv_bipush (v := 57) hx hb dX12_reads_33 (by decide) ?_
          have hpd9 := pdf_N (cx := []) hP hD hS hA [] (by decide) rfl
          have hPc := hpd9.1
          have hDc := hpd9.2.1
          have hFc := hpd9.2.2
          clear hpd9
          refine va_calli (va_runS (As := [Value.int x_7, Value.int 48, Value.int 57]) (rest := []) ⟨hx, hb, hml, hown, hts⟩ (c_X12_isIn l dC dI aC H.size x_7 48 57 ) ⟨(callB_of 3 hts (gG kw_846) rfl rfl rfl (hts _ (gw kw_13 rfl)) (hts _ (gw kw_844 rfl)) hd_X12_isIn ⟨Nat.le_of_ble_eq_true rfl, Nat.le_of_ble_eq_true rfl⟩), (hts _ (gw kw_845 rfl))⟩ ⟨fb_std, pre_std hPc hK hDc hN⟩ rfl rfl hl.1 rfl (lv_room (Nat.le_of_ble_eq_true rfl)) dX12_reads_35 ⟨Nat.le_of_ble_eq_true rfl, Nat.le_of_ble_eq_true rfl⟩) hS (fun q _ h => hFc q h) hFc (fun x_8 u9 t9 H1 locs ht hvm hw_8 hB hz1 hk1 hS => ?_)
          obtain ⟨hP1, hK1, hD1⟩ := hB
          rw [ht] at hP1
          clear hK1
          try dsimp only at hw_8
          have hpd9 : PDx (dC, dI) classes A H1 [cI aC m_told 96 tdf, oX12 g0 m_refused m_kind m_figure m_weight m_got m_setting men msy mdn m_tape m_letter m_letterAt m_told (nI lz) (nI (aa + k)) stm m_kept him ki crs m_price m_offer m_gets m_yes m_buys m_ends m_carried m_row rm m_keptRow m_likeGets m_likePrice m_ahead, cI aC m_tape 64 tpf] := jn_N (wr := [cI aC m_told 96 tdf, oX12 g0 m_refused m_kind m_figure m_weight m_got m_setting men msy mdn m_tape m_letter m_letterAt m_told (nI lz) (nI (aa + k)) stm m_kept him ki crs m_price m_offer m_gets m_yes m_buys m_ends m_carried m_row rm m_keptRow m_likeGets m_likePrice m_ahead, cI aC m_tape 64 tpf]) hFc hk1 hP1 hD1 hP hD [] [0, 1, 2] rfl rfl (by decide) (by decide)
          have hP := hpd9.1
          have hD := hpd9.2
          clear hpd9
          generalize H1 = H at hP hS ⊢
          clear hPc hDc hFc hz1 hk1 hP1 hD1 ht hvm
          have hz_35 := hw_8
          refine lv_if_eq (tgt := 70) hx hb dX12_reads_38 (by decide) (fun c_9 => ?_) (fun c_9 => ?_)
          · refine lv_aload_n hx hb dX12_reads_70 rfl (lv_at hl 0 rfl) ?_
            refine va_get (D := (dC, dI)) (ci := 12) (v := Value.ref m_told) (C := RX12) (T := TX12) (N := 33) hx hb hts inX12 hown hK hP 1 rfl rfl 12 (by decide) (hts _ (gw kw_729 rfl)) (fun _ h9 => h9) rfl dX12_reads_71 ?_
            refine lv_iload_n hx hb dX12_reads_74 rfl (lv_at hl 1 rfl) ?_
            refine lv_iload_n hx hb dX12_reads_75 rfl (lv_at hl 3 rfl) ?_
            have h_10 : vp_in (nI pl9) 96 := vp_in_nI (by omega) (by omega)
            refine va_iast hx hb hK hP hD hS 0 0 rfl rfl h_10 dX12_reads_76 (fun H locs hP hD hS => ?_)
            obtain ⟨f_11, e_f_11⟩ : ∃ y : Nat → Int32, y = upd tdf (nI pl9 : Int32).toNatClampNeg (nI (rdv Lt aa k)) := ⟨_, rfl⟩
            have hpd9 : PDx (dC, dI) classes A H [cI aC m_told 96 f_11, oX12 g0 m_refused m_kind m_figure m_weight m_got m_setting men msy mdn m_tape m_letter m_letterAt m_told (nI lz) (nI (aa + k)) stm m_kept him ki crs m_price m_offer m_gets m_yes m_buys m_ends m_carried m_row rm m_keptRow m_likeGets m_likePrice m_ahead, cI aC m_tape 64 tpf] := by rw [e_f_11]; exact ⟨hP, hD⟩
            have hP := hpd9.1
            have hD := hpd9.2
            clear hpd9
            refine lv_iconst (v := 1) hx hb dX12_reads_77 (by decide) ?_
            have hpd9 := pd_N (cx := [oX12 g0 m_refused m_kind m_figure m_weight m_got m_setting men msy mdn m_tape m_letter m_letterAt m_told (nI lz) (nI (aa + k)) stm m_kept him ki crs m_price m_offer m_gets m_yes m_buys m_ends m_carried m_row rm m_keptRow m_likeGets m_likePrice m_ahead, cI aC m_tape 64 tpf, cI aC m_told 96 f_11]) hP hD [1, 2, 0] (by decide) rfl
            have hP9 := hpd9.1
            have hD9 := hpd9.2
            refine W.widen (k := 0) (n := 0) (by omega) (by omega) ?_
            exact W.zret (v := 1) hx hb hr rfl (fun t ht hW => ⟨⟨1, ((nI (aa + k)), f_11), rfl, ⟨fun q => absurd q (by decide), fun _ => ⟨k, by rcases Nat.eq_zero_or_pos k with q | q <;> first | (subst q; exact absurd hd0 ((nx_dig hL2 hz_28 hz_35).1 c_9)) | exact q, by omega, hdg, Or.inr ((nx_dig hL2 hz_28 hz_35).1 c_9), rfl, by rw [e_f_11, nI_clamp (by omega)]⟩⟩, by rw [ht]; exact hP9, va_K.moved hW.alike hK, hD9⟩, hS.F ht⟩) hS.2.2 dX12_reads_78
          · have hdk := (nx_dig hL2 hz_28 hz_35).2 c_9
            refine lv_bipush (v := 10) hx hb dX12_reads_41 (by decide) ?_
            refine lv_iload_n hx hb dX12_reads_43 rfl (lv_at hl 3 rfl) ?_
            refine lv_imul hx hb dX12_reads_44 ?_
            refine lv_topi (fun x_12 e_12 => ?_)
            refine lv_aload_n hx hb dX12_reads_45 rfl (lv_at hl 0 rfl) ?_
            have hpd9 := pdf_N (cx := [oX12 g0 m_refused m_kind m_figure m_weight m_got m_setting men msy mdn m_tape m_letter m_letterAt m_told (nI lz) (nI (aa + k)) stm m_kept him ki crs m_price m_offer m_gets m_yes m_buys m_ends m_carried m_row rm m_keptRow m_likeGets m_likePrice m_ahead, cI aC m_tape 64 tpf]) hP hD hS hA [1, 2] (by decide) rfl
            have hPc := hpd9.1
            have hDc := hpd9.2.1
            have hFc := hpd9.2.2
            clear hpd9
            refine va_calli (va_runV (As := []) (rest := [Value.int x_12]) ⟨hx, hb, hml, hown, hts⟩ (c_X12_next l dC dI aC H.size g0 m_refused m_kind m_figure m_weight m_got m_setting m_tape m_letter m_letterAt m_told m_kept m_price m_offer m_gets m_yes m_buys m_ends m_carried m_row m_keptRow m_likeGets m_likePrice m_ahead men msy mdn stm him ki crs rm lz (aa + k) Lt tpf (hlt0) (by omega)) ⟨(callB_of 0 hts (gG kw_839) rfl rfl rfl (hts _ (gw kw_13 rfl)) (hts _ (gw kw_836 rfl)) hd_X12_next ⟨Nat.le_of_ble_eq_true rfl, Nat.le_of_ble_eq_true rfl⟩), (hts _ (gw kw_838 rfl)), (hts _ (gw ks_37 rfl))⟩ ⟨fb_std, va_recv (q := (RX12, TX12, 33)) hK hPc (ci := 12) (q0 := 0) rfl rfl, pre_std hPc hK hDc hN⟩ rfl rfl hl.1 rfl (lv_room (Nat.le_of_ble_eq_true rfl)) dX12_reads_46 ⟨Nat.le_of_ble_eq_true rfl, Nat.le_of_ble_eq_true rfl⟩) hS (fun q _ h => hFc q h) hFc (fun x_13 u9 t9 H1 locs ht hvm hw_13 hB hz1 hk1 hS => ?_)
            obtain ⟨hP1, hK1, hD1⟩ := hB
            rw [ht] at hP1
            clear hK1
            try dsimp only at hw_13
            have hpd9 : PDx (dC, dI) classes A H1 [cI aC m_told 96 tdf, oX12 g0 m_refused m_kind m_figure m_weight m_got m_setting men msy mdn m_tape m_letter m_letterAt m_told (nI lz) (nI (aa + k)) stm m_kept him ki crs m_price m_offer m_gets m_yes m_buys m_ends m_carried m_row rm m_keptRow m_likeGets m_likePrice m_ahead, cI aC m_tape 64 tpf] := jn_N (wr := [cI aC m_told 96 tdf]) hFc hk1 hP1 hD1 hP hD [1, 2] [0] rfl rfl (by decide) (by decide)
            have hP := hpd9.1
            have hD := hpd9.2
            clear hpd9
            generalize H1 = H at hP hS ⊢
            clear hPc hDc hFc hz1 hk1 hP1 hD1 ht hvm
            have hz_46 := hw_13
            have h9 : x_13 = nI (Lt (aa + k)) := by rw [hz_46]; unfold nxt; rw [if_pos hdk.1]
            subst h9
            refine lv_iadd hx hb dX12_reads_49 ?_
            refine lv_topi (fun x_14 e_14 => ?_)
            refine lv_bipush (v := 48) hx hb dX12_reads_50 (by decide) ?_
            refine lv_isub hx hb dX12_reads_52 ?_
            refine lv_topi (fun x_15 e_15 => ?_)
            have h9 : x_15 = nI (rdv Lt aa (k + 1)) := by rw [e_15, e_14, e_12]; exact rdv_s hdk.2
            subst h9
            refine lv_istore_n (lv' := [(3, Value.int (nI (rdv Lt aa (k + 1)))), (0, Value.ref g0), (1, Value.int (nI pl9)), (2, Value.int (nI dd)), (4, Value.int (nI k))]) hx hb dX12_reads_53 rfl hl (by decide) rfl (fun ls hl => ?_)
            refine lv_aload_n hx hb dX12_reads_54 rfl (lv_at hl 1 rfl) ?_
            refine lv_dup hx hb dX12_reads_55 rfl ?_
            refine va_get (D := (dC, dI)) (ci := 12) (v := Value.int (nI (aa + k))) (C := RX12) (T := TX12) (N := 33) hx hb hts inX12 hown hK hP 1 rfl rfl 14 (by decide) (hts _ (gw kw_731 rfl)) (fun _ h9 => h9) rfl dX12_reads_56 ?_
            refine lv_iconst (v := 1) hx hb dX12_reads_59 (by decide) ?_
            refine lv_iadd hx hb dX12_reads_60 ?_
            refine lv_topi (fun x_16 e_16 => ?_)
            refine va_put (D := (dC, dI)) (ci := 12) (v := Value.int x_16) (ty := .int) (C := RX12) (T := TX12) (N := 33) hx hb hts inX12 tyX12 tyX12_ok nmX12 hown hK hP hD hS 1 rfl rfl 14 (by decide) (hts _ (gw kw_731 rfl)) (fun _ h9 => h9) rfl (by decide +kernel) rfl rfl (Nat.le_of_ble_eq_true rfl) dX12_reads_61 (fun H locs hP hD hS => ?_)
            have hpd9 : PDx (dC, dI) classes A H [cI aC m_told 96 tdf, oX12 g0 m_refused m_kind m_figure m_weight m_got m_setting men msy mdn m_tape m_letter m_letterAt m_told (nI lz) x_16 stm m_kept him ki crs m_price m_offer m_gets m_yes m_buys m_ends m_carried m_row rm m_keptRow m_likeGets m_likePrice m_ahead, cI aC m_tape 64 tpf] := ⟨hP, hD⟩
            have hP := hpd9.1
            have hD := hpd9.2
            clear hpd9
            have h9 : x_16 = nI (aa + (k + 1)) := by rw [e_16, nI_1]; rfl
            subst h9
            obtain ⟨x_17, e_17⟩ : ∃ y : Int32, y = (nI k) + 1 := ⟨_, rfl⟩
            refine lv_iinc (v := x_17) (lv' := [(4, Value.int x_17), (3, Value.int (nI (rdv Lt aa (k + 1)))), (0, Value.ref g0), (1, Value.int (nI pl9)), (2, Value.int (nI dd))]) hx hb dX12_reads_64 hl (k := 4) rfl (by rw [e_17]; rfl) (by decide) rfl (fun ls hl => ?_)
            have h9 : x_17 = nI (k + 1) := by rw [e_17, nI_1]
            subst h9
            refine lv_goto (tgt := 21) hx hb dX12_reads_67 (by decide) ?_
            exact ih_21 (k + 1) (by omega) (by have := hdk.1; omega) (fun i hi => by by_cases q : i = k <;> first | (rw [q]; exact hdk) | exact hdg i (by omega)) _ _ _ (hP.sub [0, 1, 2] rfl) (hD.sub [0, 1, 2] (by decide) rfl) hS (lv_sub hl [2, 3, 4, 1, 0] rfl)
    exact lp_21 ((dd - 0) + 1) 0 (Nat.lt_succ_self _) (by omega) (fun i hi => by omega) _ _ _ (hP.sub [0, 1, 2] rfl) (hD.sub [0, 1, 2] (by decide) rfl) hS (lv_sub hl [2, 3, 4, 1, 0] rfl)
  · have hnd := (nx_dig hL2 hz_1 hz_8).1 c_3
    refine lv_iconst (v := 0) hx hb dX12_reads_14 (by decide) ?_
    have hpd9 := pd_N (cx := [oX12 g0 m_refused m_kind m_figure m_weight m_got m_setting men msy mdn m_tape m_letter m_letterAt m_told (nI lz) (nI aa) stm m_kept him ki crs m_price m_offer m_gets m_yes m_buys m_ends m_carried m_row rm m_keptRow m_likeGets m_likePrice m_ahead, cI aC m_tape 64 tpf, cI aC m_told 96 tdf]) hP hD [1, 2, 0] (by decide) rfl
    have hP9 := hpd9.1
    have hD9 := hpd9.2
    refine W.widen (k := 0) (n := 0) (by omega) (by omega) ?_
    exact W.zret (v := 0) hx hb hr rfl (fun t ht hW => ⟨⟨0, ((nI aa), tdf), rfl, ⟨fun _ => ⟨hnd, rfl, rfl⟩, fun q => absurd rfl q⟩, by rw [ht]; exact hP9, va_K.moved hW.alike hK, hD9⟩, hS.F ht⟩) hS.2.2 dX12_reads_15

end

section
/-! 86.refl3 -/
theorem lsp_nd {t x : Nat} (ht : t = 1 ∨ t = 2 ∨ t = 3 ∨ t = 5) (h : ¬ (48 ≤ x ∧ x ≤ 57)) : lsp t x = 9 := by
  rcases ht with e | e | e | e <;> subst e
  · rw [lsp_1, if_neg h]
  · rw [lsp_2, if_neg h]
  · rw [lsp_3, if_neg h]
  · rw [lsp_5, if_neg h]
theorem fl_0 {L : Nat → Nat} {lz a : Nat} (ha : a ≤ lz) (h0 : lrn L a = 0) (haz : a < lz ∨ a = 0) (hn : ¬ (a < lz ∧ L a = 109) ∧ ¬ (a < lz ∧ L a = 99) ∧ ¬ (a < lz ∧ L a = 108)) : FLP L lz a :=
  flp_of ha h0 (by decide) (fun z => by rw [lsp_0, if_neg (fun y => y.elim (fun w => hn.1 ⟨z, w⟩) (fun w => hn.2.2 ⟨z, w⟩)), if_neg (fun w => hn.2.1 ⟨z, w⟩)]) (fun z => Or.inr (by omega))
theorem r_c1 {L : Nat → Nat} {a : Nat} (h0 : lrn L a = 0) (hb : L a = 99) : lrn L (a + 1) = 5 := by rw [lrn_s h0, lsp_0, if_neg (by omega), if_pos hb]
theorem r_m1 {L : Nat → Nat} {a : Nat} (h0 : lrn L a = 0) (hb : L a = 109 ∨ L a = 108) : lrn L (a + 1) = 1 := by rw [lrn_s h0, lsp_0, if_pos hb]
theorem fl_c1 {L : Nat → Nat} {lz a : Nat} (h0 : lrn L a = 0) (hb : L a = 99) (ha : a < lz) (hn : ¬ dgc L lz (a + 1)) : FLP L lz (a + 1) :=
  flp_of (by omega) (r_c1 h0 hb) (by decide) (fun z => lsp_nd (by omega) (ndg hn z)) (fun _ => Or.inl (by decide))
theorem fl_m {L : Nat → Nat} {lz a k : Nat} (h : lrn L (a + 1 + k) = 1 + k) (hk : k < 3) (hq : a + 1 + k ≤ lz) (hn : ¬ dgc L lz (a + 1 + k)) : FLP L lz (a + 1 + k) :=
  flp_of hq h (by omega) (fun z => lsp_nd (by omega) (ndg hn z)) (fun _ => Or.inl (by omega))
theorem r_m {L : Nat → Nat} {a k : Nat} (h : lrn L (a + 1 + k) = 1 + k) (hk : k < 3) (hd : dig (L (a + 1 + k))) : lrn L (a + 1 + (k + 1)) = 1 + (k + 1) := by
  show lrn L (a + 1 + k + 1) = _
  rw [lrn_s h]
  rcases (show k = 0 ∨ k = 1 ∨ k = 2 by omega) with e | e | e <;> subst e
  · show lsp 1 _ = _; rw [lsp_1, if_pos (dig_d hd)]
  · show lsp 2 _ = _; rw [lsp_2, if_pos (dig_d hd)]
  · show lsp 3 _ = _; rw [lsp_3, if_pos (dig_d hd)]
theorem r_c2 {L : Nat → Nat} {lz a k : Nat} (h0 : lrn L a = 0) (hb : L a = 99) (k1 : 1 ≤ k) (k2 : k ≤ 2) (k3 : ∀ i, i < k → dgc L lz (a + 1 + i)) : lrn L (a + 1 + k) = if k = 2 then 4 else 6 := by
  have r2 : lrn L (a + 2) = 6 := by rw [lrn_s (r_c1 h0 hb), lsp_5, if_pos (dig_d (k3 0 (by omega)).2)]
  by_cases e : k = 2
  · subst e
    rw [if_pos rfl]
    show lrn L (a + 2 + 1) = 4
    rw [lrn_s r2, lsp_6, if_pos (dig_d (k3 1 (by omega)).2)]
  · have e1 : k = 1 := by omega
    subst e1
    rw [if_neg e]; exact r2
theorem fl_c2 {L : Nat → Nat} {lz a k : Nat} (h0 : lrn L a = 0) (hb : L a = 99) (k1 : 1 ≤ k) (k2 : k ≤ 2) (k3 : ∀ i, i < k → dgc L lz (a + 1 + i)) (k4 : k = 2 ∨ ¬ dgc L lz (a + 1 + k)) (hx : ¬ (a + 1 + k < lz ∧ L (a + 1 + k) = 59)) : FLP L lz (a + 1 + k) := by
  have hq := (k3 (k - 1) (by omega)).1
  have hr := r_c2 h0 hb k1 k2 k3
  by_cases e : k = 2
  · rw [if_pos e] at hr
    exact flp_of (by omega) hr (by decide) (fun z => by rw [lsp_4, if_neg (fun y => hx ⟨z, y⟩)]) (fun _ => Or.inl (by decide))
  · rw [if_neg e] at hr
    exact flp_of (by omega) hr (by decide) (fun z => by rw [lsp_6, if_neg (ndg (k4.resolve_left e) z), if_neg (fun y => hx ⟨z, y⟩)]) (fun _ => Or.inl (by decide))
theorem fl_m2 {L : Nat → Nat} {lz q : Nat} (h : lrn L q = 4) (hq : q ≤ lz) (hx : ¬ (q < lz ∧ L q = 59)) : FLP L lz q :=
  flp_of hq h (by decide) (fun z => by rw [lsp_4, if_neg (fun y => hx ⟨z, y⟩)]) (fun _ => Or.inl (by decide))
theorem ok_c {L : Nat → Nat} {lz a k : Nat} (hb : L a = 99) (k1 : 1 ≤ k) (k2 : k ≤ 2) (k3 : ∀ i, i < k → dgc L lz (a + 1 + i)) : STM L a (a + 1 + k) ∧ rdv L (a + 1) k = lC L a (a + 1 + k) := by
  have d1 := (k3 0 (by omega)).2
  by_cases e : k = 2
  · subst e
    have d2 := (k3 1 (by omega)).2
    refine ⟨Or.inr ⟨hb, Or.inr ⟨rfl, d1, d2⟩⟩, ?_⟩
    unfold lC
    rw [if_pos (by omega)]
    show 10 * (10 * 0 + (L (a + 1 + 0) - 48)) + (L (a + 1 + 1) - 48) = _
    rw [Nat.mul_zero, Nat.zero_add]
  · have e1 : k = 1 := by omega
    subst e1
    refine ⟨Or.inr ⟨hb, Or.inl ⟨rfl, d1⟩⟩, ?_⟩
    unfold lC
    rw [if_neg (by omega)]
    show 10 * 0 + (L (a + 1 + 0) - 48) = _
    rw [Nat.mul_zero, Nat.zero_add]
theorem tl_c {L : Nat → Nat} {s e k : Nat} {td td2 : Nat → Int32} {v : Nat} (hb : L s = 99) (hv : v = lC L s e) (h : td2 = upd td (3 * k) (nI v)) : TLD L s e k td2 ∧ ∀ j, j < 3 * k → td2 j = td j := by
  refine ⟨⟨fun q => by omega, fun _ => by rw [h, pk_us, hv]⟩, fun j hj => by rw [h, pk_un (by omega)]⟩
theorem tl_m {L : Nat → Nat} {s e k : Nat} {td2 : Nat → Int32} (hb : L s = 109 ∨ L s = 108) (h : ∀ i, i < 3 → dig (L (s + 1 + i)) ∧ td2 (3 * k + i) = nI (L (s + 1 + i) - 48)) : STM L s (s + 4) ∧ TLD L s e k td2 :=
  ⟨Or.inl ⟨hb, rfl, (h 0 (by omega)).1, (h 1 (by omega)).1, (h 2 (by omega)).1⟩, fun _ i hi => (h i hi).2, fun q => by omega⟩
theorem td_s {L : Nat → Nat} {lz a k kk x : Nat} {td td2 tdf : Nat → Int32} (h : ∀ i, i < k → dig (L (a + 1 + i)) ∧ td (3 * kk + i) = nI (L (a + 1 + i) - 48)) (hf : ∀ j, j < 3 * kk → td j = tdf j) (hx : x = 1) (hd : ∀ i, i < x → dgc L lz (a + 1 + k + i)) (h2 : td2 = upd td (3 * kk + k) (nI (rdv L (a + 1 + k) x))) : (∀ i, i < k + 1 → dig (L (a + 1 + i)) ∧ td2 (3 * kk + i) = nI (L (a + 1 + i) - 48)) ∧ ∀ j, j < 3 * kk → td2 j = tdf j := by
  subst hx
  have hv : rdv L (a + 1 + k) 1 = L (a + 1 + k) - 48 := by
    show 10 * 0 + (L (a + 1 + k + 0) - 48) = _
    rw [Nat.mul_zero, Nat.zero_add]; rfl
  refine ⟨fun i hi => ?_, fun j hj => by rw [h2, pk_un (by omega)]; exact hf j hj⟩
  by_cases e : i = k
  · subst e; rw [h2, pk_us, hv]; exact ⟨(hd 0 (by omega)).2, rfl⟩
  · rw [h2, pk_un (by omega)]; exact h i (by omega)

set_option maxHeartbeats 1000000 in
set_option maxRecDepth 100000 in
/-- X12_statement -/
theorem c_X12_statement (l : Launch) (dC : Nat → ClassId) (dI : Nat → Nat → Nat) (aC : Nat → ClassId) (sz : Nat) (g0 : Nat) (m_refused : Nat) (m_kind : Nat) (m_figure : Nat) (m_weight : Nat) (m_got : Nat) (m_setting : Nat) (m_tape : Nat) (m_letter : Nat) (m_letterAt : Nat) (m_told : Nat) (m_kept : Nat) (m_price : Nat) (m_offer : Nat) (m_gets : Nat) (m_yes : Nat) (m_buys : Nat) (m_ends : Nat) (m_carried : Nat) (m_row : Nat) (m_keptRow : Nat) (m_likeGets : Nat) (m_likePrice : Nat) (m_ahead : Nat) (men : Int32) (msy : Int32) (mdn : Int32) (him : Int32) (ki : Int32) (crs : Int32) (rm : Int32) (lz : Nat) (aa : Nat) (kk : Nat) (Lt : Nat → Nat) (tpf : Nat → Int32) (lf : Nat → Int32) (laf : Nat → Int32) (tdf : Nat → Int32) (hlt0 : LTR lz Lt tpf) (haa : aa ≤ lz) (h0 : lrn Lt aa = 0) (haz : aa < lz ∨ aa = 0) (hkk : 3 * kk ≤ aa) : Met l yX12_statement (wW yX12_statement cX12_statement 4 (some .boolean)) ({ frames := 2, cells := 0, slots := 0, locals := 46 } : Room) (va_Pc [Value.ref g0] (fun U => U.heap.size = sz ∧ va_P (dC, dI) classes [oX12 g0 m_refused m_kind m_figure m_weight m_got m_setting men msy mdn m_tape m_letter m_letterAt m_told (nI lz) (nI aa) (nI kk) m_kept him ki crs m_price m_offer m_gets m_yes m_buys m_ends m_carried m_row rm m_keptRow m_likeGets m_likePrice m_ahead, cI aC m_tape 64 tpf, cI aC m_letter 32 lf, cI aC m_letterAt 32 laf, cI aC m_told 96 tdf] U.heap ∧ va_K (dC, dI) classes (TY aC) U ∧ va_D (fun _ => True) [oX12 g0 m_refused m_kind m_figure m_weight m_got m_setting men msy mdn m_tape m_letter m_letterAt m_told (nI lz) (nI aa) (nI kk) m_kept him ki crs m_price m_offer m_gets m_yes m_buys m_ends m_carried m_row rm m_keptRow m_likeGets m_likePrice m_ahead, cI aC m_tape 64 tpf, cI aC m_letter 32 lf, cI aC m_letterAt 32 laf, cI aC m_told 96 tdf] ∧ NX U)) (va_Qi (fun (r : Int32) (u : Int32 × (Nat → Int32) × (Nat → Int32) × (Nat → Int32)) => match u with | (at2, lf2, laf2, td2) => (r = 0 → ∃ q, FLP Lt lz q ∧ at2 = nI q) ∧ (¬ r = 0 → ∃ q, STM Lt aa q ∧ q < lz ∧ Lt q = 59 ∧ at2 = nI (q + 1) ∧ lf2 = upd lf kk (nI (Lt aa)) ∧ laf2 = upd laf kk (nI aa) ∧ TLD Lt aa q kk td2 ∧ ∀ j, j < 3 * kk → td2 j = tdf j)) (fun (u : Int32 × (Nat → Int32) × (Nat → Int32) × (Nat → Int32)) (t : State) => match u with | (at2, lf2, laf2, td2) => va_P (dC, dI) classes [oX12 g0 m_refused m_kind m_figure m_weight m_got m_setting men msy mdn m_tape m_letter m_letterAt m_told (nI lz) at2 (nI kk) m_kept him ki crs m_price m_offer m_gets m_yes m_buys m_ends m_carried m_row rm m_keptRow m_likeGets m_likePrice m_ahead, cI aC m_tape 64 tpf, cI aC m_letter 32 lf2, cI aC m_letterAt 32 laf2, cI aC m_told 96 td2] t.heap ∧ va_K (dC, dI) classes (TY aC) t ∧ va_D (va_A [oX12 g0 m_refused m_kind m_figure m_weight m_got m_setting men msy mdn m_tape m_letter m_letterAt m_told (nI lz) (nI aa) (nI kk) m_kept him ki crs m_price m_offer m_gets m_yes m_buys m_ends m_carried m_row rm m_keptRow m_likeGets m_likePrice m_ahead, cI aC m_tape 64 tpf, cI aC m_letter 32 lf, cI aC m_letterAt 32 laf, cI aC m_told 96 tdf] sz) [oX12 g0 m_refused m_kind m_figure m_weight m_got m_setting men msy mdn m_tape m_letter m_letterAt m_told (nI lz) at2 (nI kk) m_kept him ki crs m_price m_offer m_gets m_yes m_buys m_ends m_carried m_row rm m_keptRow m_likeGets m_likePrice m_ahead, cI aC m_tape 64 tpf, cI aC m_letter 32 lf2, cI aC m_letterAt 32 laf2, cI aC m_told 96 td2]) (va_A [oX12 g0 m_refused m_kind m_figure m_weight m_got m_setting men msy mdn m_tape m_letter m_letterAt m_told (nI lz) (nI aa) (nI kk) m_kept him ki crs m_price m_offer m_gets m_yes m_buys m_ends m_carried m_row rm m_keptRow m_likeGets m_likePrice m_ahead, cI aC m_tape 64 tpf, cI aC m_letter 32 lf, cI aC m_letterAt 32 laf, cI aC m_told 96 tdf] sz)) 0 0 (va_A [oX12 g0 m_refused m_kind m_figure m_weight m_got m_setting men msy mdn m_tape m_letter m_letterAt m_told (nI lz) (nI aa) (nI kk) m_kept him ki crs m_price m_offer m_gets m_yes m_buys m_ends m_carried m_row rm m_keptRow m_likeGets m_likePrice m_ahead, cI aC m_tape 64 tpf, cI aC m_letter 32 lf, cI aC m_letterAt 32 laf, cI aC m_told 96 tdf] sz) := by
  refine Met.ofW (cc := cX12_statement) (maxL := 4) (ret := (some .boolean)) (by decide) rfl ?_
  intro p e s m args below meth c s₁ B hml hv
  obtain ⟨rfl, hsz, hP, hK, hD0, hN⟩ := hv
  have hx := B.exec
  have hb := B.bytes
  have hr := B.returns
  have hts0 := atoms_spec (ws := (wW yX12_statement cX12_statement 4 (some .boolean))) B.pre
  have hts : ∀ w9 ∈ lw_G, w9.before ([Value.ref g0] : List Value).toArray s = true := fun w9 h9 => hts0 w9 (List.mem_cons_of_mem _ h9)
  have hown : s.vm.findClass RX12 = some m.cls := findClass_of_methodNamed (x := yX12_statement) B.named
  have hlocks := B.notSynchronized
  subst hsz
  have hD := hD0.self (sz := s.heap.size)
  generalize hAe : va_A [oX12 g0 m_refused m_kind m_figure m_weight m_got m_setting men msy mdn m_tape m_letter m_letterAt m_told (nI lz) (nI aa) (nI kk) m_kept him ki crs m_price m_offer m_gets m_yes m_buys m_ends m_carried m_row rm m_keptRow m_likeGets m_likePrice m_ahead, cI aC m_tape 64 tpf, cI aC m_letter 32 lf, cI aC m_letterAt 32 laf, cI aC m_told 96 tdf] s.heap.size = A at hD ⊢
  have hA : ∀ q : Nat, s.heap.size ≤ q → A q := fun q h => by rw [← hAe]; exact Or.inr h
  obtain ⟨H, hHe⟩ : ∃ H : Heap, H = s.heap := ⟨_, rfl⟩
  have hS : va_S A s.heap H [] := by rw [hHe]; exact va_S.rf
  have hP : va_P (dC, dI) classes [oX12 g0 m_refused m_kind m_figure m_weight m_got m_setting men msy mdn m_tape m_letter m_letterAt m_told (nI lz) (nI aa) (nI kk) m_kept him ki crs m_price m_offer m_gets m_yes m_buys m_ends m_carried m_row rm m_keptRow m_likeGets m_likePrice m_ahead, cI aC m_tape 64 tpf, cI aC m_letter 32 lf, cI aC m_letterAt 32 laf, cI aC m_told 96 tdf] H := by rw [hHe]; exact hP
  have hl := lv_entry ([Value.ref g0]) (n := 4) (Nat.le_of_ble_eq_true rfl)
  rw [lg_entry_eq]
  generalize (lg_sl ([Value.ref g0]) ++ List.replicate (4 - (lg_sl ([Value.ref g0])).length) Slot.unset).toArray = ls at hl ⊢
  have hl : lv_has ls 4 [(0, Value.ref g0)] := hl
  rw [← hHe]
  have hz6 := hlt0.1
  have hL := hlt0.2
  have hL2 : ∀ k, k < lz → Lt k ≤ 255 := fun k hk => (hL k hk).2
  refine lv_aload_n hx hb dX12_statement_0 rfl (lv_at hl 0 rfl) ?_
  have hpd9 := pdf_N (cx := [oX12 g0 m_refused m_kind m_figure m_weight m_got m_setting men msy mdn m_tape m_letter m_letterAt m_told (nI lz) (nI aa) (nI kk) m_kept him ki crs m_price m_offer m_gets m_yes m_buys m_ends m_carried m_row rm m_keptRow m_likeGets m_likePrice m_ahead, cI aC m_tape 64 tpf]) hP hD hS hA [0, 1] (by decide) rfl
  have hPc := hpd9.1
  have hDc := hpd9.2.1
  have hFc := hpd9.2.2
  clear hpd9
  refine va_calli (va_runV (As := []) (rest := []) ⟨hx, hb, hml, hown, hts⟩ (c_X12_next l dC dI aC H.size g0 m_refused m_kind m_figure m_weight m_got m_setting m_tape m_letter m_letterAt m_told m_kept m_price m_offer m_gets m_yes m_buys m_ends m_carried m_row m_keptRow m_likeGets m_likePrice m_ahead men msy mdn (nI kk) him ki crs rm lz aa Lt tpf (hlt0) (by omega)) ⟨(callB_of 0 hts (gG kw_839) rfl rfl rfl (hts _ (gw kw_13 rfl)) (hts _ (gw kw_836 rfl)) hd_X12_next ⟨Nat.le_of_ble_eq_true rfl, Nat.le_of_ble_eq_true rfl⟩), (hts _ (gw kw_838 rfl)), (hts _ (gw ks_37 rfl))⟩ ⟨fb_std, va_recv (q := (RX12, TX12, 33)) hK hPc (ci := 12) (q0 := 0) rfl rfl, pre_std hPc hK hDc hN⟩ rfl rfl hl.1 rfl (lv_room (Nat.le_of_ble_eq_true rfl)) dX12_statement_1 ⟨Nat.le_of_ble_eq_true rfl, Nat.le_of_ble_eq_true rfl⟩) hS (fun q _ h => hFc q h) hFc (fun x_1 u9 t9 H1 locs ht hvm hw_1 hB hz1 hk1 hS => ?_)
  obtain ⟨hP1, hK1, hD1⟩ := hB
  rw [ht] at hP1
  clear hK1
  try dsimp only at hw_1
  have hpd9 : PDx (dC, dI) classes A H1 [cI aC m_letter 32 lf, cI aC m_letterAt 32 laf, cI aC m_told 96 tdf, oX12 g0 m_refused m_kind m_figure m_weight m_got m_setting men msy mdn m_tape m_letter m_letterAt m_told (nI lz) (nI aa) (nI kk) m_kept him ki crs m_price m_offer m_gets m_yes m_buys m_ends m_carried m_row rm m_keptRow m_likeGets m_likePrice m_ahead, cI aC m_tape 64 tpf] := jn_N (wr := [cI aC m_letter 32 lf, cI aC m_letterAt 32 laf, cI aC m_told 96 tdf]) hFc hk1 hP1 hD1 hP hD [0, 1] [2, 3, 4] rfl rfl (by decide) (by decide)
  have hP := hpd9.1
  have hD := hpd9.2
  clear hpd9
  generalize H1 = H at hP hS ⊢
  clear hPc hDc hFc hz1 hk1 hP1 hD1 ht hvm
  have hz_1 := hw_1
  refine lv_istore_n (lv' := [(1, Value.int x_1), (0, Value.ref g0)]) hx hb dX12_statement_4 rfl hl (by decide) rfl (fun ls hl => ?_)
  refine lv_iload_n hx hb dX12_statement_5 rfl (lv_at hl 0 rfl) ?_
  refine lv_bipush (v := 109) hx hb dX12_statement_6 (by decide) ?_
  refine lv_icmp_eq (tgt := 25) hx hb dX12_statement_8 (by decide) (fun c_2 => ?_) (fun c_2 => ?_)
  · have hb : aa < lz ∧ Lt aa = 109 := (nx_k (k := 109) hL2 (by omega) hz_1).mp c_2
    obtain ⟨hb1, hb2⟩ := hb
    have h9 : x_1 = nI (Lt aa) := by rw [hz_1]; unfold nxt; rw [if_pos hb1]
    subst h9
    refine lv_aload_n hx hb dX12_statement_25 rfl (lv_at hl 1 rfl) ?_
    refine va_get (D := (dC, dI)) (ci := 12) (v := Value.ref m_letter) (C := RX12) (T := TX12) (N := 33) hx hb hts inX12 hown hK hP 3 rfl rfl 10 (by decide) (hts _ (gw kw_727 rfl)) (fun _ h9 => h9) rfl dX12_statement_26 ?_
    refine lv_aload_n hx hb dX12_statement_29 rfl (lv_at hl 1 rfl) ?_
    refine va_get (D := (dC, dI)) (ci := 12) (v := Value.int (nI kk)) (C := RX12) (T := TX12) (N := 33) hx hb hts inX12 hown hK hP 3 rfl rfl 15 (by decide) (hts _ (gw kw_732 rfl)) (fun _ h9 => h9) rfl dX12_statement_30 ?_
    refine lv_iload_n hx hb dX12_statement_33 rfl (lv_at hl 0 rfl) ?_
    have h_3 : vp_in (nI kk) 32 := vp_in_nI (by omega) (by omega)
    refine va_iast hx hb hK hP hD hS 0 0 rfl rfl h_3 dX12_statement_34 (fun H locs hP hD hS => ?_)
    obtain ⟨f_4, e_f_4⟩ : ∃ y : Nat → Int32, y = upd lf (nI kk : Int32).toNatClampNeg (nI (Lt aa)) := ⟨_, rfl⟩
    have hpd9 : PDx (dC, dI) classes A H [cI aC m_letter 32 f_4, cI aC m_letterAt 32 laf, cI aC m_told 96 tdf, oX12 g0 m_refused m_kind m_figure m_weight m_got m_setting men msy mdn m_tape m_letter m_letterAt m_told (nI lz) (nI aa) (nI kk) m_kept him ki crs m_price m_offer m_gets m_yes m_buys m_ends m_carried m_row rm m_keptRow m_likeGets m_likePrice m_ahead, cI aC m_tape 64 tpf] := by rw [e_f_4]; exact ⟨hP, hD⟩
    have hP := hpd9.1
    have hD := hpd9.2
    clear hpd9
    refine lv_aload_n hx hb dX12_statement_35 rfl (lv_at hl 1 rfl) ?_
    refine va_get (D := (dC, dI)) (ci := 12) (v := Value.ref m_letterAt) (C := RX12) (T := TX12) (N := 33) hx hb hts inX12 hown hK hP 3 rfl rfl 11 (by decide) (hts _ (gw kw_728 rfl)) (fun _ h9 => h9) rfl dX12_statement_36 ?_
    refine lv_aload_n hx hb dX12_statement_39 rfl (lv_at hl 1 rfl) ?_
    refine va_get (D := (dC, dI)) (ci := 12) (v := Value.int (nI kk)) (C := RX12) (T := TX12) (N := 33) hx hb hts inX12 hown hK hP 3 rfl rfl 15 (by decide) (hts _ (gw kw_732 rfl)) (fun _ h9 => h9) rfl dX12_statement_40 ?_
    refine lv_aload_n hx hb dX12_statement_43 rfl (lv_at hl 1 rfl) ?_
    refine va_get (D := (dC, dI)) (ci := 12) (v := Value.int (nI aa)) (C := RX12) (T := TX12) (N := 33) hx hb hts inX12 hown hK hP 3 rfl rfl 14 (by decide) (hts _ (gw kw_731 rfl)) (fun _ h9 => h9) rfl dX12_statement_44 ?_
    have h_5 : vp_in (nI kk) 32 := vp_in_nI (by omega) (by omega)
    refine va_iast hx hb hK hP hD hS 1 0 rfl rfl h_5 dX12_statement_47 (fun H locs hP hD hS => ?_)
    obtain ⟨f_6, e_f_6⟩ : ∃ y : Nat → Int32, y = upd laf (nI kk : Int32).toNatClampNeg (nI aa) := ⟨_, rfl⟩
    have hpd9 : PDx (dC, dI) classes A H [cI aC m_letter 32 f_4, cI aC m_letterAt 32 f_6, cI aC m_told 96 tdf, oX12 g0 m_refused m_kind m_figure m_weight m_got m_setting men msy mdn m_tape m_letter m_letterAt m_told (nI lz) (nI aa) (nI kk) m_kept him ki crs m_price m_offer m_gets m_yes m_buys m_ends m_carried m_row rm m_keptRow m_likeGets m_likePrice m_ahead, cI aC m_tape 64 tpf] := by rw [e_f_6]; exact ⟨hP, hD⟩
    have hP := hpd9.1
    have hD := hpd9.2
    clear hpd9
    refine lv_aload_n hx hb dX12_statement_48 rfl (lv_at hl 1 rfl) ?_
    refine lv_dup hx hb dX12_statement_49 rfl ?_
    refine va_get (D := (dC, dI)) (ci := 12) (v := Value.int (nI aa)) (C := RX12) (T := TX12) (N := 33) hx hb hts inX12 hown hK hP 3 rfl rfl 14 (by decide) (hts _ (gw kw_731 rfl)) (fun _ h9 => h9) rfl dX12_statement_50 ?_
    refine lv_iconst (v := 1) hx hb dX12_statement_53 (by decide) ?_
    refine lv_iadd hx hb dX12_statement_54 ?_
    refine lv_topi (fun x_7 e_7 => ?_)
    refine va_put (D := (dC, dI)) (ci := 12) (v := Value.int x_7) (ty := .int) (C := RX12) (T := TX12) (N := 33) hx hb hts inX12 tyX12 tyX12_ok nmX12 hown hK hP hD hS 3 rfl rfl 14 (by decide) (hts _ (gw kw_731 rfl)) (fun _ h9 => h9) rfl (by decide +kernel) rfl rfl (Nat.le_of_ble_eq_true rfl) dX12_statement_55 (fun H locs hP hD hS => ?_)
    have hpd9 : PDx (dC, dI) classes A H [cI aC m_letter 32 f_4, cI aC m_letterAt 32 f_6, cI aC m_told 96 tdf, oX12 g0 m_refused m_kind m_figure m_weight m_got m_setting men msy mdn m_tape m_letter m_letterAt m_told (nI lz) x_7 (nI kk) m_kept him ki crs m_price m_offer m_gets m_yes m_buys m_ends m_carried m_row rm m_keptRow m_likeGets m_likePrice m_ahead, cI aC m_tape 64 tpf] := ⟨hP, hD⟩
    have hP := hpd9.1
    have hD := hpd9.2
    clear hpd9
    have h9 : x_7 = nI (aa + 1) := by rw [e_7, nI_1]
    subst h9
    refine lv_iconst (v := 3) hx hb dX12_statement_58 (by decide) ?_
    refine lv_aload_n hx hb dX12_statement_59 rfl (lv_at hl 1 rfl) ?_
    refine va_get (D := (dC, dI)) (ci := 12) (v := Value.int (nI kk)) (C := RX12) (T := TX12) (N := 33) hx hb hts inX12 hown hK hP 3 rfl rfl 15 (by decide) (hts _ (gw kw_732 rfl)) (fun _ h9 => h9) rfl dX12_statement_60 ?_
    refine lv_imul hx hb dX12_statement_63 ?_
    refine lv_topi (fun x_8 e_8 => ?_)
    have h9 : x_8 = nI (3 * kk) := by rw [e_8]; exact pk_mul 3 kk
    subst h9
    refine lv_istore_n (lv' := [(2, Value.int (nI (3 * kk))), (1, Value.int (nI (Lt aa))), (0, Value.ref g0)]) hx hb dX12_statement_64 rfl hl (by decide) rfl (fun ls hl => ?_)
    refine lv_iload_n hx hb dX12_statement_65 rfl (lv_at hl 1 rfl) ?_
    refine lv_bipush (v := 99) hx hb dX12_statement_66 (by decide) ?_
    refine lv_icmp_ne (tgt := 82) hx hb dX12_statement_68 (by decide) (fun c_9 => ?_) (fun c_9 => ?_)
    · refine lv_iconst (v := 0) hx hb dX12_statement_82 (by decide) ?_
      refine lv_istore_n (lv' := [(3, Value.int 0), (2, Value.int (nI (3 * kk))), (1, Value.int (nI (Lt aa))), (0, Value.ref g0)]) hx hb dX12_statement_83 rfl hl (by decide) rfl (fun ls hl => ?_)
      have lp_84 : ∀ (fu : Nat) (k : Nat) (td9 : Nat → Int32) (hfu : 3 - k < fu) (hk : k ≤ 3 ∧ aa + 1 + k ≤ lz) (hrn : lrn Lt (aa + 1 + k) = 1 + k) (htl : ∀ i, i < k → dig (Lt (aa + 1 + i)) ∧ td9 (3 * kk + i) = nI (Lt (aa + 1 + i) - 48)) (hfr : ∀ j, j < 3 * kk → td9 j = tdf j) (H : Heap) (locs : List Loc) (ls : Array Slot), va_P (dC, dI) classes [cI aC m_letter 32 f_4, cI aC m_letterAt 32 f_6, cI aC m_told 96 td9, oX12 g0 m_refused m_kind m_figure m_weight m_got m_setting men msy mdn m_tape m_letter m_letterAt m_told (nI lz) (nI (aa + 1 + k)) (nI kk) m_kept him ki crs m_price m_offer m_gets m_yes m_buys m_ends m_carried m_row rm m_keptRow m_likeGets m_likePrice m_ahead, cI aC m_tape 64 tpf] H → va_D A [cI aC m_letter 32 f_4, cI aC m_letterAt 32 f_6, cI aC m_told 96 td9, oX12 g0 m_refused m_kind m_figure m_weight m_got m_setting men msy mdn m_tape m_letter m_letterAt m_told (nI lz) (nI (aa + 1 + k)) (nI kk) m_kept him ki crs m_price m_offer m_gets m_yes m_buys m_ends m_carried m_row rm m_keptRow m_likeGets m_likePrice m_ahead, cI aC m_tape 64 tpf] → va_S A s.heap H locs → lv_has ls 4 [(0, Value.ref g0), (1, Value.int (nI (Lt aa))), (2, Value.int (nI (3 * kk))), (3, Value.int (nI k))] → W p l e (headSpec (wW yX12_statement cX12_statement 4 (some .boolean)) ({ frames := 2, cells := 0, slots := 0, locals := 46 } : Room)).room s m ([Value.ref g0] : List Value).toArray below meth c H locs 0 0 (MQ below (va_Qi (fun (r : Int32) (u : Int32 × (Nat → Int32) × (Nat → Int32) × (Nat → Int32)) => match u with | (at2, lf2, laf2, td2) => (r = 0 → ∃ q, FLP Lt lz q ∧ at2 = nI q) ∧ (¬ r = 0 → ∃ q, STM Lt aa q ∧ q < lz ∧ Lt q = 59 ∧ at2 = nI (q + 1) ∧ lf2 = upd lf kk (nI (Lt aa)) ∧ laf2 = upd laf kk (nI aa) ∧ TLD Lt aa q kk td2 ∧ ∀ j, j < 3 * kk → td2 j = tdf j)) (fun (u : Int32 × (Nat → Int32) × (Nat → Int32) × (Nat → Int32)) (t : State) => match u with | (at2, lf2, laf2, td2) => va_P (dC, dI) classes [oX12 g0 m_refused m_kind m_figure m_weight m_got m_setting men msy mdn m_tape m_letter m_letterAt m_told (nI lz) at2 (nI kk) m_kept him ki crs m_price m_offer m_gets m_yes m_buys m_ends m_carried m_row rm m_keptRow m_likeGets m_likePrice m_ahead, cI aC m_tape 64 tpf, cI aC m_letter 32 lf2, cI aC m_letterAt 32 laf2, cI aC m_told 96 td2] t.heap ∧ va_K (dC, dI) classes (TY aC) t ∧ va_D A [oX12 g0 m_refused m_kind m_figure m_weight m_got m_setting men msy mdn m_tape m_letter m_letterAt m_told (nI lz) at2 (nI kk) m_kept him ki crs m_price m_offer m_gets m_yes m_buys m_ends m_carried m_row rm m_keptRow m_likeGets m_likePrice m_ahead, cI aC m_tape 64 tpf, cI aC m_letter 32 lf2, cI aC m_letterAt 32 laf2, cI aC m_told 96 td2]) A) ([Value.ref g0] : List Value).toArray s 0 0 A) (F0 m 84 ls []) := by
        intro fu
        induction fu with
        | zero => intro k td9 hfu; exact absurd hfu (Nat.not_lt_zero _)
        | succ fu ih_84 =>
          intro k td9 hfu hk hrn htl hfr H locs ls hP hD hS hl
          refine lv_iload_n hx hb dX12_statement_84 rfl (lv_at hl 3 rfl) ?_
          refine lv_iconst (v := 3) hx hb dX12_statement_85 (by decide) ?_
          refine lv_icmp_ge (tgt := 108) hx hb dX12_statement_86 (by decide) (fun c_10 => ?_) (fun c_10 => ?_)
          · have hk3 : k = 3 := by
              rcases Nat.lt_or_ge k 3 with q | q
              · exact absurd c_10 (nI_ge (b := 3) q (by omega))
              · omega
            refine lv_aload_n hx hb dX12_statement_108 rfl (lv_at hl 0 rfl) ?_
            have hpd9 := pdf_N (cx := [oX12 g0 m_refused m_kind m_figure m_weight m_got m_setting men msy mdn m_tape m_letter m_letterAt m_told (nI lz) (nI (aa + 1 + k)) (nI kk) m_kept him ki crs m_price m_offer m_gets m_yes m_buys m_ends m_carried m_row rm m_keptRow m_likeGets m_likePrice m_ahead, cI aC m_tape 64 tpf]) hP hD hS hA [3, 4] (by decide) rfl
            have hPc := hpd9.1
            have hDc := hpd9.2.1
            have hFc := hpd9.2.2
            clear hpd9
            refine va_calli (va_runV (As := []) (rest := []) ⟨hx, hb, hml, hown, hts⟩ (c_X12_next l dC dI aC H.size g0 m_refused m_kind m_figure m_weight m_got m_setting m_tape m_letter m_letterAt m_told m_kept m_price m_offer m_gets m_yes m_buys m_ends m_carried m_row m_keptRow m_likeGets m_likePrice m_ahead men msy mdn (nI kk) him ki crs rm lz (aa + 1 + k) Lt tpf (hlt0) (by omega)) ⟨(callB_of 0 hts (gG kw_839) rfl rfl rfl (hts _ (gw kw_13 rfl)) (hts _ (gw kw_836 rfl)) hd_X12_next ⟨Nat.le_of_ble_eq_true rfl, Nat.le_of_ble_eq_true rfl⟩), (hts _ (gw kw_838 rfl)), (hts _ (gw ks_37 rfl))⟩ ⟨fb_std, va_recv (q := (RX12, TX12, 33)) hK hPc (ci := 12) (q0 := 0) rfl rfl, pre_std hPc hK hDc hN⟩ rfl rfl hl.1 rfl (lv_room (Nat.le_of_ble_eq_true rfl)) dX12_statement_109 ⟨Nat.le_of_ble_eq_true rfl, Nat.le_of_ble_eq_true rfl⟩) hS (fun q _ h => hFc q h) hFc (fun x_11 u9 t9 H1 locs ht hvm hw_11 hB hz1 hk1 hS => ?_)
            obtain ⟨hP1, hK1, hD1⟩ := hB
            rw [ht] at hP1
            clear hK1
            try dsimp only at hw_11
            have hpd9 : PDx (dC, dI) classes A H1 [cI aC m_letter 32 f_4, cI aC m_letterAt 32 f_6, cI aC m_told 96 td9, oX12 g0 m_refused m_kind m_figure m_weight m_got m_setting men msy mdn m_tape m_letter m_letterAt m_told (nI lz) (nI (aa + 1 + k)) (nI kk) m_kept him ki crs m_price m_offer m_gets m_yes m_buys m_ends m_carried m_row rm m_keptRow m_likeGets m_likePrice m_ahead, cI aC m_tape 64 tpf] := jn_N (wr := [cI aC m_letter 32 f_4, cI aC m_letterAt 32 f_6, cI aC m_told 96 td9]) hFc hk1 hP1 hD1 hP hD [3, 4] [0, 1, 2] rfl rfl (by decide) (by decide)
            have hP := hpd9.1
            have hD := hpd9.2
            clear hpd9
            generalize H1 = H at hP hS ⊢
            clear hPc hDc hFc hz1 hk1 hP1 hD1 ht hvm
            have hz_109 := hw_11
            refine lv_bipush (v := 59) hx hb dX12_statement_112 (by decide) ?_
            refine lv_icmp_eq (tgt := 119) hx hb dX12_statement_114 (by decide) (fun c_12 => ?_) (fun c_12 => ?_)
            · refine lv_aload_n hx hb dX12_statement_119 rfl (lv_at hl 0 rfl) ?_
              refine lv_dup hx hb dX12_statement_120 rfl ?_
              refine va_get (D := (dC, dI)) (ci := 12) (v := Value.int (nI (aa + 1 + k))) (C := RX12) (T := TX12) (N := 33) hx hb hts inX12 hown hK hP 3 rfl rfl 14 (by decide) (hts _ (gw kw_731 rfl)) (fun _ h9 => h9) rfl dX12_statement_121 ?_
              refine lv_iconst (v := 1) hx hb dX12_statement_124 (by decide) ?_
              refine lv_iadd hx hb dX12_statement_125 ?_
              refine lv_topi (fun x_13 e_13 => ?_)
              refine va_put (D := (dC, dI)) (ci := 12) (v := Value.int x_13) (ty := .int) (C := RX12) (T := TX12) (N := 33) hx hb hts inX12 tyX12 tyX12_ok nmX12 hown hK hP hD hS 3 rfl rfl 14 (by decide) (hts _ (gw kw_731 rfl)) (fun _ h9 => h9) rfl (by decide +kernel) rfl rfl (Nat.le_of_ble_eq_true rfl) dX12_statement_126 (fun H locs hP hD hS => ?_)
              have hpd9 : PDx (dC, dI) classes A H [cI aC m_letter 32 f_4, cI aC m_letterAt 32 f_6, cI aC m_told 96 td9, oX12 g0 m_refused m_kind m_figure m_weight m_got m_setting men msy mdn m_tape m_letter m_letterAt m_told (nI lz) x_13 (nI kk) m_kept him ki crs m_price m_offer m_gets m_yes m_buys m_ends m_carried m_row rm m_keptRow m_likeGets m_likePrice m_ahead, cI aC m_tape 64 tpf] := ⟨hP, hD⟩
              have hP := hpd9.1
              have hD := hpd9.2
              clear hpd9
              have h9 : x_13 = nI (aa + 1 + k + 1) := by rw [e_13, nI_1]
              subst h9
              refine lv_iconst (v := 1) hx hb dX12_statement_129 (by decide) ?_
              have hpd9 := pd_N (cx := [oX12 g0 m_refused m_kind m_figure m_weight m_got m_setting men msy mdn m_tape m_letter m_letterAt m_told (nI lz) (nI (aa + 1 + k + 1)) (nI kk) m_kept him ki crs m_price m_offer m_gets m_yes m_buys m_ends m_carried m_row rm m_keptRow m_likeGets m_likePrice m_ahead, cI aC m_tape 64 tpf, cI aC m_letter 32 f_4, cI aC m_letterAt 32 f_6, cI aC m_told 96 td9]) hP hD [3, 4, 0, 1, 2] (by decide) rfl
              have hP9 := hpd9.1
              have hD9 := hpd9.2
              refine W.widen (k := 0) (n := 0) (by omega) (by omega) ?_
              exact W.zret (v := 1) hx hb hr rfl (fun t ht hW => ⟨⟨1, ((nI (aa + 1 + k + 1)), f_4, f_6, td9), rfl, ⟨fun q => absurd q (by decide), fun _ => ⟨aa + 1 + k, by subst hk3; exact (tl_m (e := aa + 4) (k := kk) (Or.inl hb2) htl).1, ((nx_k (k := 59) hL2 (by omega) hz_109).mp c_12).1, ((nx_k (k := 59) hL2 (by omega) hz_109).mp c_12).2, rfl, by rw [e_f_4, nI_clamp (by omega)], by rw [e_f_6, nI_clamp (by omega)], by subst hk3; exact ⟨(tl_m (Or.inl hb2) htl).2, hfr⟩⟩⟩, by rw [ht]; exact hP9, va_K.moved hW.alike hK, hD9⟩, hS.F ht⟩) hS.2.2 dX12_statement_130
            · refine lv_iconst (v := 0) hx hb dX12_statement_117 (by decide) ?_
              have hpd9 := pd_N (cx := [oX12 g0 m_refused m_kind m_figure m_weight m_got m_setting men msy mdn m_tape m_letter m_letterAt m_told (nI lz) (nI (aa + 1 + k)) (nI kk) m_kept him ki crs m_price m_offer m_gets m_yes m_buys m_ends m_carried m_row rm m_keptRow m_likeGets m_likePrice m_ahead, cI aC m_tape 64 tpf, cI aC m_letter 32 f_4, cI aC m_letterAt 32 f_6, cI aC m_told 96 td9]) hP hD [3, 4, 0, 1, 2] (by decide) rfl
              have hP9 := hpd9.1
              have hD9 := hpd9.2
              refine W.widen (k := 0) (n := 0) (by omega) (by omega) ?_
              exact W.zret (v := 0) hx hb hr rfl (fun t ht hW => ⟨⟨0, ((nI (aa + 1 + k)), f_4, f_6, td9), rfl, ⟨fun _ => ⟨aa + 1 + k, fl_m2 (by rw [hrn, hk3]) (by omega) (fun z => c_12 ((nx_k (k := 59) hL2 (by omega) hz_109).mpr z)), rfl⟩, fun q => absurd rfl q⟩, by rw [ht]; exact hP9, va_K.moved hW.alike hK, hD9⟩, hS.F ht⟩) hS.2.2 dX12_statement_118
          · have hlt : k < 3 := by
              rcases Nat.lt_or_ge k 3 with q | q
              · exact q
              · exact absurd (nI_le (a := 3) q (by omega)) c_10
            refine lv_aload_n hx hb dX12_statement_89 rfl (lv_at hl 0 rfl) ?_
            refine lv_iload_n hx hb dX12_statement_90 rfl (lv_at hl 2 rfl) ?_
            refine lv_iload_n hx hb dX12_statement_91 rfl (lv_at hl 3 rfl) ?_
            refine lv_iadd hx hb dX12_statement_92 ?_
            refine lv_topi (fun x_14 e_14 => ?_)
            have h9 : x_14 = nI (3 * kk + k) := by rw [e_14, nI_add]
            subst h9
            refine lv_iconst (v := 1) hx hb dX12_statement_93 (by decide) ?_
            refine lv_topi (fun x_15 e_15 => ?_)
            have h9 : x_15 = nI 1 := by rw [e_15]; rfl
            subst h9
            have hpd9 := pdf_N (cx := [oX12 g0 m_refused m_kind m_figure m_weight m_got m_setting men msy mdn m_tape m_letter m_letterAt m_told (nI lz) (nI (aa + 1 + k)) (nI kk) m_kept him ki crs m_price m_offer m_gets m_yes m_buys m_ends m_carried m_row rm m_keptRow m_likeGets m_likePrice m_ahead, cI aC m_tape 64 tpf, cI aC m_told 96 td9]) hP hD hS hA [3, 4, 2] (by decide) rfl
            have hPc := hpd9.1
            have hDc := hpd9.2.1
            have hFc := hpd9.2.2
            clear hpd9
            refine va_calli (va_runV (As := [Value.int (nI (3 * kk + k)), Value.int (nI 1)]) (rest := []) ⟨hx, hb, hml, hown, hts⟩ (c_X12_reads l dC dI aC H.size g0 m_refused m_kind m_figure m_weight m_got m_setting m_tape m_letter m_letterAt m_told m_kept m_price m_offer m_gets m_yes m_buys m_ends m_carried m_row m_keptRow m_likeGets m_likePrice m_ahead men msy mdn (nI kk) him ki crs rm lz (aa + 1 + k) Lt tpf (3 * kk + k) 1 td9 (hlt0) (by omega) (by omega) (by omega)) ⟨(callB_of 2 hts (gG kw_843) rfl rfl rfl (hts _ (gw kw_13 rfl)) (hts _ (gw kw_840 rfl)) hd_X12_reads ⟨Nat.le_of_ble_eq_true rfl, Nat.le_of_ble_eq_true rfl⟩), (hts _ (gw kw_842 rfl)), (hts _ (gw ks_38 rfl))⟩ ⟨fb_std, va_recv (q := (RX12, TX12, 33)) hK hPc (ci := 12) (q0 := 0) rfl rfl, pre_std hPc hK hDc hN⟩ rfl rfl hl.1 rfl (lv_room (Nat.le_of_ble_eq_true rfl)) dX12_statement_94 ⟨Nat.le_of_ble_eq_true rfl, Nat.le_of_ble_eq_true rfl⟩) hS (fun q _ h => hFc q h) hFc (fun x_16 u9 t9 H1 locs ht hvm hw_16 hB hz1 hk1 hS => ?_)
            obtain ⟨u_17, u_18⟩ := u9
            obtain ⟨hP1, hK1, hD1⟩ := hB
            rw [ht] at hP1
            clear hK1
            try dsimp only at hw_16
            have hpd9 : PDx (dC, dI) classes A H1 [cI aC m_letter 32 f_4, cI aC m_letterAt 32 f_6, oX12 g0 m_refused m_kind m_figure m_weight m_got m_setting men msy mdn m_tape m_letter m_letterAt m_told (nI lz) u_17 (nI kk) m_kept him ki crs m_price m_offer m_gets m_yes m_buys m_ends m_carried m_row rm m_keptRow m_likeGets m_likePrice m_ahead, cI aC m_tape 64 tpf, cI aC m_told 96 u_18] := jn_N (wr := [cI aC m_letter 32 f_4, cI aC m_letterAt 32 f_6]) hFc hk1 hP1 hD1 hP hD [3, 4, 2] [0, 1] rfl rfl (by decide) (by decide)
            have hP := hpd9.1
            have hD := hpd9.2
            clear hpd9
            generalize H1 = H at hP hS ⊢
            clear hPc hDc hFc hz1 hk1 hP1 hD1 ht hvm
            have hz_94 := hw_16
            refine lv_if_ne (tgt := 102) hx hb dX12_statement_97 (by decide) (fun c_19 => ?_) (fun c_19 => ?_)
            · obtain ⟨x, x1, x2, x3, x4, hat, htd⟩ := hz_94.2 c_19
              have hx : x = 1 := by omega
              have hts9 := td_s htl hfr hx x3 htd
              subst hx
              have hr9 := r_m hrn (by omega) (x3 0 (by omega)).2
              have hq9 := (x3 0 (by omega)).1
              have h9 : u_17 = nI (aa + 1 + (k + 1)) := hat
              subst h9
              obtain ⟨x_20, e_20⟩ : ∃ y : Int32, y = (nI k) + 1 := ⟨_, rfl⟩
              refine lv_iinc (v := x_20) (lv' := [(3, Value.int x_20), (0, Value.ref g0), (1, Value.int (nI (Lt aa))), (2, Value.int (nI (3 * kk)))]) hx hb dX12_statement_102 hl (k := 3) rfl (by rw [e_20]; rfl) (by decide) rfl (fun ls hl => ?_)
              have h9 : x_20 = nI (k + 1) := by rw [e_20, nI_1]
              subst h9
              refine lv_goto (tgt := 84) hx hb dX12_statement_105 (by decide) ?_
              exact ih_84 (k + 1) u_18 (by omega) (by omega) (hr9) (hts9.1) (hts9.2) _ _ _ (hP.sub [0, 1, 4, 2, 3] rfl) (hD.sub [0, 1, 4, 2, 3] (by decide) rfl) hS (lv_sub hl [1, 2, 3, 0] rfl)
            · obtain ⟨hnd, hat, htd⟩ := hz_94.1 c_19
              have h9 : u_17 = nI (aa + 1 + k) := hat
              subst h9
              refine lv_iconst (v := 0) hx hb dX12_statement_100 (by decide) ?_
              have hpd9 := pd_N (cx := [oX12 g0 m_refused m_kind m_figure m_weight m_got m_setting men msy mdn m_tape m_letter m_letterAt m_told (nI lz) (nI (aa + 1 + k)) (nI kk) m_kept him ki crs m_price m_offer m_gets m_yes m_buys m_ends m_carried m_row rm m_keptRow m_likeGets m_likePrice m_ahead, cI aC m_tape 64 tpf, cI aC m_letter 32 f_4, cI aC m_letterAt 32 f_6, cI aC m_told 96 u_18]) hP hD [2, 3, 0, 1, 4] (by decide) rfl
              have hP9 := hpd9.1
              have hD9 := hpd9.2
              refine W.widen (k := 0) (n := 0) (by omega) (by omega) ?_
              exact W.zret (v := 0) hx hb hr rfl (fun t ht hW => ⟨⟨0, ((nI (aa + 1 + k)), f_4, f_6, u_18), rfl, ⟨fun _ => ⟨aa + 1 + k, fl_m hrn (by omega) (by omega) hnd, rfl⟩, fun q => absurd rfl q⟩, by rw [ht]; exact hP9, va_K.moved hW.alike hK, hD9⟩, hS.F ht⟩) hS.2.2 dX12_statement_101
      exact lp_84 ((3 - 0) + 1) 0 tdf (Nat.lt_succ_self _) (by omega) (r_m1 h0 (by omega)) (fun i hi => by omega) (fun j hj => rfl) _ _ _ (hP.sub [0, 1, 2, 3, 4] rfl) (hD.sub [0, 1, 2, 3, 4] (by decide) rfl) hS (lv_sub hl [3, 2, 1, 0] rfl)
    · exact absurd ((nI_b0 (k := 99) (hL2 aa hb1) (by omega)).mp c_9) (by omega)
  · refine lv_iload_n hx hb dX12_statement_11 rfl (lv_at hl 0 rfl) ?_
    refine lv_bipush (v := 99) hx hb dX12_statement_12 (by decide) ?_
    refine lv_icmp_eq (tgt := 25) hx hb dX12_statement_14 (by decide) (fun c_21 => ?_) (fun c_21 => ?_)
    · have hb : aa < lz ∧ Lt aa = 99 := (nx_k (k := 99) hL2 (by omega) hz_1).mp c_21
      obtain ⟨hb1, hb2⟩ := hb
      have h9 : x_1 = nI (Lt aa) := by rw [hz_1]; unfold nxt; rw [if_pos hb1]
      subst h9
      refine lv_aload_n hx hb dX12_statement_25 rfl (lv_at hl 1 rfl) ?_
      refine va_get (D := (dC, dI)) (ci := 12) (v := Value.ref m_letter) (C := RX12) (T := TX12) (N := 33) hx hb hts inX12 hown hK hP 3 rfl rfl 10 (by decide) (hts _ (gw kw_727 rfl)) (fun _ h9 => h9) rfl dX12_statement_26 ?_
      refine lv_aload_n hx hb dX12_statement_29 rfl (lv_at hl 1 rfl) ?_
      refine va_get (D := (dC, dI)) (ci := 12) (v := Value.int (nI kk)) (C := RX12) (T := TX12) (N := 33) hx hb hts inX12 hown hK hP 3 rfl rfl 15 (by decide) (hts _ (gw kw_732 rfl)) (fun _ h9 => h9) rfl dX12_statement_30 ?_
      refine lv_iload_n hx hb dX12_statement_33 rfl (lv_at hl 0 rfl) ?_
      have h_22 : vp_in (nI kk) 32 := vp_in_nI (by omega) (by omega)
      refine va_iast hx hb hK hP hD hS 0 0 rfl rfl h_22 dX12_statement_34 (fun H locs hP hD hS => ?_)
      obtain ⟨f_23, e_f_23⟩ : ∃ y : Nat → Int32, y = upd lf (nI kk : Int32).toNatClampNeg (nI (Lt aa)) := ⟨_, rfl⟩
      have hpd9 : PDx (dC, dI) classes A H [cI aC m_letter 32 f_23, cI aC m_letterAt 32 laf, cI aC m_told 96 tdf, oX12 g0 m_refused m_kind m_figure m_weight m_got m_setting men msy mdn m_tape m_letter m_letterAt m_told (nI lz) (nI aa) (nI kk) m_kept him ki crs m_price m_offer m_gets m_yes m_buys m_ends m_carried m_row rm m_keptRow m_likeGets m_likePrice m_ahead, cI aC m_tape 64 tpf] := by rw [e_f_23]; exact ⟨hP, hD⟩
      have hP := hpd9.1
      have hD := hpd9.2
      clear hpd9
      refine lv_aload_n hx hb dX12_statement_35 rfl (lv_at hl 1 rfl) ?_
      refine va_get (D := (dC, dI)) (ci := 12) (v := Value.ref m_letterAt) (C := RX12) (T := TX12) (N := 33) hx hb hts inX12 hown hK hP 3 rfl rfl 11 (by decide) (hts _ (gw kw_728 rfl)) (fun _ h9 => h9) rfl dX12_statement_36 ?_
      refine lv_aload_n hx hb dX12_statement_39 rfl (lv_at hl 1 rfl) ?_
      refine va_get (D := (dC, dI)) (ci := 12) (v := Value.int (nI kk)) (C := RX12) (T := TX12) (N := 33) hx hb hts inX12 hown hK hP 3 rfl rfl 15 (by decide) (hts _ (gw kw_732 rfl)) (fun _ h9 => h9) rfl dX12_statement_40 ?_
      refine lv_aload_n hx hb dX12_statement_43 rfl (lv_at hl 1 rfl) ?_
      refine va_get (D := (dC, dI)) (ci := 12) (v := Value.int (nI aa)) (C := RX12) (T := TX12) (N := 33) hx hb hts inX12 hown hK hP 3 rfl rfl 14 (by decide) (hts _ (gw kw_731 rfl)) (fun _ h9 => h9) rfl dX12_statement_44 ?_
      have h_24 : vp_in (nI kk) 32 := vp_in_nI (by omega) (by omega)
      refine va_iast hx hb hK hP hD hS 1 0 rfl rfl h_24 dX12_statement_47 (fun H locs hP hD hS => ?_)
      obtain ⟨f_25, e_f_25⟩ : ∃ y : Nat → Int32, y = upd laf (nI kk : Int32).toNatClampNeg (nI aa) := ⟨_, rfl⟩
      have hpd9 : PDx (dC, dI) classes A H [cI aC m_letter 32 f_23, cI aC m_letterAt 32 f_25, cI aC m_told 96 tdf, oX12 g0 m_refused m_kind m_figure m_weight m_got m_setting men msy mdn m_tape m_letter m_letterAt m_told (nI lz) (nI aa) (nI kk) m_kept him ki crs m_price m_offer m_gets m_yes m_buys m_ends m_carried m_row rm m_keptRow m_likeGets m_likePrice m_ahead, cI aC m_tape 64 tpf] := by rw [e_f_25]; exact ⟨hP, hD⟩
      have hP := hpd9.1
      have hD := hpd9.2
      clear hpd9
      refine lv_aload_n hx hb dX12_statement_48 rfl (lv_at hl 1 rfl) ?_
      refine lv_dup hx hb dX12_statement_49 rfl ?_
      refine va_get (D := (dC, dI)) (ci := 12) (v := Value.int (nI aa)) (C := RX12) (T := TX12) (N := 33) hx hb hts inX12 hown hK hP 3 rfl rfl 14 (by decide) (hts _ (gw kw_731 rfl)) (fun _ h9 => h9) rfl dX12_statement_50 ?_
      refine lv_iconst (v := 1) hx hb dX12_statement_53 (by decide) ?_
      refine lv_iadd hx hb dX12_statement_54 ?_
      refine lv_topi (fun x_26 e_26 => ?_)
      refine va_put (D := (dC, dI)) (ci := 12) (v := Value.int x_26) (ty := .int) (C := RX12) (T := TX12) (N := 33) hx hb hts inX12 tyX12 tyX12_ok nmX12 hown hK hP hD hS 3 rfl rfl 14 (by decide) (hts _ (gw kw_731 rfl)) (fun _ h9 => h9) rfl (by decide +kernel) rfl rfl (Nat.le_of_ble_eq_true rfl) dX12_statement_55 (fun H locs hP hD hS => ?_)
      have hpd9 : PDx (dC, dI) classes A H [cI aC m_letter 32 f_23, cI aC m_letterAt 32 f_25, cI aC m_told 96 tdf, oX12 g0 m_refused m_kind m_figure m_weight m_got m_setting men msy mdn m_tape m_letter m_letterAt m_told (nI lz) x_26 (nI kk) m_kept him ki crs m_price m_offer m_gets m_yes m_buys m_ends m_carried m_row rm m_keptRow m_likeGets m_likePrice m_ahead, cI aC m_tape 64 tpf] := ⟨hP, hD⟩
      have hP := hpd9.1
      have hD := hpd9.2
      clear hpd9
      have h9 : x_26 = nI (aa + 1) := by rw [e_26, nI_1]
      subst h9
      refine lv_iconst (v := 3) hx hb dX12_statement_58 (by decide) ?_
      refine lv_aload_n hx hb dX12_statement_59 rfl (lv_at hl 1 rfl) ?_
      refine va_get (D := (dC, dI)) (ci := 12) (v := Value.int (nI kk)) (C := RX12) (T := TX12) (N := 33) hx hb hts inX12 hown hK hP 3 rfl rfl 15 (by decide) (hts _ (gw kw_732 rfl)) (fun _ h9 => h9) rfl dX12_statement_60 ?_
      refine lv_imul hx hb dX12_statement_63 ?_
      refine lv_topi (fun x_27 e_27 => ?_)
      have h9 : x_27 = nI (3 * kk) := by rw [e_27]; exact pk_mul 3 kk
      subst h9
      refine lv_istore_n (lv' := [(2, Value.int (nI (3 * kk))), (1, Value.int (nI (Lt aa))), (0, Value.ref g0)]) hx hb dX12_statement_64 rfl hl (by decide) rfl (fun ls hl => ?_)
      refine lv_iload_n hx hb dX12_statement_65 rfl (lv_at hl 1 rfl) ?_
      refine lv_bipush (v := 99) hx hb dX12_statement_66 (by decide) ?_
      refine lv_icmp_ne (tgt := 82) hx hb dX12_statement_68 (by decide) (fun c_28 => ?_) (fun c_28 => ?_)
      · exact absurd (by rw [hb2]; rfl) c_28
      · refine lv_aload_n hx hb dX12_statement_71 rfl (lv_at hl 2 rfl) ?_
        refine lv_iload_n hx hb dX12_statement_72 rfl (lv_at hl 0 rfl) ?_
        refine lv_iconst (v := 2) hx hb dX12_statement_73 (by decide) ?_
        refine lv_topi (fun x_29 e_29 => ?_)
        have h9 : x_29 = nI 2 := by rw [e_29]; rfl
        subst h9
        have hpd9 := pdf_N (cx := [oX12 g0 m_refused m_kind m_figure m_weight m_got m_setting men msy mdn m_tape m_letter m_letterAt m_told (nI lz) (nI (aa + 1)) (nI kk) m_kept him ki crs m_price m_offer m_gets m_yes m_buys m_ends m_carried m_row rm m_keptRow m_likeGets m_likePrice m_ahead, cI aC m_tape 64 tpf, cI aC m_told 96 tdf]) hP hD hS hA [3, 4, 2] (by decide) rfl
        have hPc := hpd9.1
        have hDc := hpd9.2.1
        have hFc := hpd9.2.2
        clear hpd9
        refine va_calli (va_runV (As := [Value.int (nI (3 * kk)), Value.int (nI 2)]) (rest := []) ⟨hx, hb, hml, hown, hts⟩ (c_X12_reads l dC dI aC H.size g0 m_refused m_kind m_figure m_weight m_got m_setting m_tape m_letter m_letterAt m_told m_kept m_price m_offer m_gets m_yes m_buys m_ends m_carried m_row m_keptRow m_likeGets m_likePrice m_ahead men msy mdn (nI kk) him ki crs rm lz (aa + 1) Lt tpf (3 * kk) 2 tdf (hlt0) (by omega) (by omega) (by omega)) ⟨(callB_of 2 hts (gG kw_843) rfl rfl rfl (hts _ (gw kw_13 rfl)) (hts _ (gw kw_840 rfl)) hd_X12_reads ⟨Nat.le_of_ble_eq_true rfl, Nat.le_of_ble_eq_true rfl⟩), (hts _ (gw kw_842 rfl)), (hts _ (gw ks_38 rfl))⟩ ⟨fb_std, va_recv (q := (RX12, TX12, 33)) hK hPc (ci := 12) (q0 := 0) rfl rfl, pre_std hPc hK hDc hN⟩ rfl rfl hl.1 rfl (lv_room (Nat.le_of_ble_eq_true rfl)) dX12_statement_74 ⟨Nat.le_of_ble_eq_true rfl, Nat.le_of_ble_eq_true rfl⟩) hS (fun q _ h => hFc q h) hFc (fun x_30 u9 t9 H1 locs ht hvm hw_30 hB hz1 hk1 hS => ?_)
        obtain ⟨u_31, u_32⟩ := u9
        obtain ⟨hP1, hK1, hD1⟩ := hB
        rw [ht] at hP1
        clear hK1
        try dsimp only at hw_30
        have hpd9 : PDx (dC, dI) classes A H1 [cI aC m_letter 32 f_23, cI aC m_letterAt 32 f_25, oX12 g0 m_refused m_kind m_figure m_weight m_got m_setting men msy mdn m_tape m_letter m_letterAt m_told (nI lz) u_31 (nI kk) m_kept him ki crs m_price m_offer m_gets m_yes m_buys m_ends m_carried m_row rm m_keptRow m_likeGets m_likePrice m_ahead, cI aC m_tape 64 tpf, cI aC m_told 96 u_32] := jn_N (wr := [cI aC m_letter 32 f_23, cI aC m_letterAt 32 f_25]) hFc hk1 hP1 hD1 hP hD [3, 4, 2] [0, 1] rfl rfl (by decide) (by decide)
        have hP := hpd9.1
        have hD := hpd9.2
        clear hpd9
        generalize H1 = H at hP hS ⊢
        clear hPc hDc hFc hz1 hk1 hP1 hD1 ht hvm
        have hz_74 := hw_30
        refine lv_if_ne (tgt := 108) hx hb dX12_statement_77 (by decide) (fun c_33 => ?_) (fun c_33 => ?_)
        · obtain ⟨k, k1, k2, k3, k4, hat, htd⟩ := hz_74.2 c_33
          have h9 : u_31 = nI (aa + 1 + k) := hat
          subst h9
          have hq9 := (k3 (k - 1) (by omega)).1
          refine lv_aload_n hx hb dX12_statement_108 rfl (lv_at hl 2 rfl) ?_
          have hpd9 := pdf_N (cx := [oX12 g0 m_refused m_kind m_figure m_weight m_got m_setting men msy mdn m_tape m_letter m_letterAt m_told (nI lz) (nI (aa + 1 + k)) (nI kk) m_kept him ki crs m_price m_offer m_gets m_yes m_buys m_ends m_carried m_row rm m_keptRow m_likeGets m_likePrice m_ahead, cI aC m_tape 64 tpf]) hP hD hS hA [2, 3] (by decide) rfl
          have hPc := hpd9.1
          have hDc := hpd9.2.1
          have hFc := hpd9.2.2
          clear hpd9
          refine va_calli (va_runV (As := []) (rest := []) ⟨hx, hb, hml, hown, hts⟩ (c_X12_next l dC dI aC H.size g0 m_refused m_kind m_figure m_weight m_got m_setting m_tape m_letter m_letterAt m_told m_kept m_price m_offer m_gets m_yes m_buys m_ends m_carried m_row m_keptRow m_likeGets m_likePrice m_ahead men msy mdn (nI kk) him ki crs rm lz (aa + 1 + k) Lt tpf (hlt0) (by omega)) ⟨(callB_of 0 hts (gG kw_839) rfl rfl rfl (hts _ (gw kw_13 rfl)) (hts _ (gw kw_836 rfl)) hd_X12_next ⟨Nat.le_of_ble_eq_true rfl, Nat.le_of_ble_eq_true rfl⟩), (hts _ (gw kw_838 rfl)), (hts _ (gw ks_37 rfl))⟩ ⟨fb_std, va_recv (q := (RX12, TX12, 33)) hK hPc (ci := 12) (q0 := 0) rfl rfl, pre_std hPc hK hDc hN⟩ rfl rfl hl.1 rfl (lv_room (Nat.le_of_ble_eq_true rfl)) dX12_statement_109 ⟨Nat.le_of_ble_eq_true rfl, Nat.le_of_ble_eq_true rfl⟩) hS (fun q _ h => hFc q h) hFc (fun x_34 u9 t9 H1 locs ht hvm hw_34 hB hz1 hk1 hS => ?_)
          obtain ⟨hP1, hK1, hD1⟩ := hB
          rw [ht] at hP1
          clear hK1
          try dsimp only at hw_34
          have hpd9 : PDx (dC, dI) classes A H1 [cI aC m_letter 32 f_23, cI aC m_letterAt 32 f_25, cI aC m_told 96 u_32, oX12 g0 m_refused m_kind m_figure m_weight m_got m_setting men msy mdn m_tape m_letter m_letterAt m_told (nI lz) (nI (aa + 1 + k)) (nI kk) m_kept him ki crs m_price m_offer m_gets m_yes m_buys m_ends m_carried m_row rm m_keptRow m_likeGets m_likePrice m_ahead, cI aC m_tape 64 tpf] := jn_N (wr := [cI aC m_letter 32 f_23, cI aC m_letterAt 32 f_25, cI aC m_told 96 u_32]) hFc hk1 hP1 hD1 hP hD [2, 3] [0, 1, 4] rfl rfl (by decide) (by decide)
          have hP := hpd9.1
          have hD := hpd9.2
          clear hpd9
          generalize H1 = H at hP hS ⊢
          clear hPc hDc hFc hz1 hk1 hP1 hD1 ht hvm
          have hz_109 := hw_34
          refine lv_bipush (v := 59) hx hb dX12_statement_112 (by decide) ?_
          refine lv_icmp_eq (tgt := 119) hx hb dX12_statement_114 (by decide) (fun c_35 => ?_) (fun c_35 => ?_)
          · refine lv_aload_n hx hb dX12_statement_119 rfl (lv_at hl 2 rfl) ?_
            refine lv_dup hx hb dX12_statement_120 rfl ?_
            refine va_get (D := (dC, dI)) (ci := 12) (v := Value.int (nI (aa + 1 + k))) (C := RX12) (T := TX12) (N := 33) hx hb hts inX12 hown hK hP 3 rfl rfl 14 (by decide) (hts _ (gw kw_731 rfl)) (fun _ h9 => h9) rfl dX12_statement_121 ?_
            refine lv_iconst (v := 1) hx hb dX12_statement_124 (by decide) ?_
            refine lv_iadd hx hb dX12_statement_125 ?_
            refine lv_topi (fun x_36 e_36 => ?_)
            refine va_put (D := (dC, dI)) (ci := 12) (v := Value.int x_36) (ty := .int) (C := RX12) (T := TX12) (N := 33) hx hb hts inX12 tyX12 tyX12_ok nmX12 hown hK hP hD hS 3 rfl rfl 14 (by decide) (hts _ (gw kw_731 rfl)) (fun _ h9 => h9) rfl (by decide +kernel) rfl rfl (Nat.le_of_ble_eq_true rfl) dX12_statement_126 (fun H locs hP hD hS => ?_)
            have hpd9 : PDx (dC, dI) classes A H [cI aC m_letter 32 f_23, cI aC m_letterAt 32 f_25, cI aC m_told 96 u_32, oX12 g0 m_refused m_kind m_figure m_weight m_got m_setting men msy mdn m_tape m_letter m_letterAt m_told (nI lz) x_36 (nI kk) m_kept him ki crs m_price m_offer m_gets m_yes m_buys m_ends m_carried m_row rm m_keptRow m_likeGets m_likePrice m_ahead, cI aC m_tape 64 tpf] := ⟨hP, hD⟩
            have hP := hpd9.1
            have hD := hpd9.2
            clear hpd9
            have h9 : x_36 = nI (aa + 1 + k + 1) := by rw [e_36, nI_1]
            subst h9
            refine lv_iconst (v := 1) hx hb dX12_statement_129 (by decide) ?_
            have hpd9 := pd_N (cx := [oX12 g0 m_refused m_kind m_figure m_weight m_got m_setting men msy mdn m_tape m_letter m_letterAt m_told (nI lz) (nI (aa + 1 + k + 1)) (nI kk) m_kept him ki crs m_price m_offer m_gets m_yes m_buys m_ends m_carried m_row rm m_keptRow m_likeGets m_likePrice m_ahead, cI aC m_tape 64 tpf, cI aC m_letter 32 f_23, cI aC m_letterAt 32 f_25, cI aC m_told 96 u_32]) hP hD [3, 4, 0, 1, 2] (by decide) rfl
            have hP9 := hpd9.1
            have hD9 := hpd9.2
            refine W.widen (k := 0) (n := 0) (by omega) (by omega) ?_
            exact W.zret (v := 1) hx hb hr rfl (fun t ht hW => ⟨⟨1, ((nI (aa + 1 + k + 1)), f_23, f_25, u_32), rfl, ⟨fun q => absurd q (by decide), fun _ => ⟨aa + 1 + k, (ok_c hb2 k1 k2 k3).1, ((nx_k (k := 59) hL2 (by omega) hz_109).mp c_35).1, ((nx_k (k := 59) hL2 (by omega) hz_109).mp c_35).2, rfl, by rw [e_f_23, nI_clamp (by omega)], by rw [e_f_25, nI_clamp (by omega)], tl_c hb2 (ok_c hb2 k1 k2 k3).2 htd⟩⟩, by rw [ht]; exact hP9, va_K.moved hW.alike hK, hD9⟩, hS.F ht⟩) hS.2.2 dX12_statement_130
          · refine lv_iconst (v := 0) hx hb dX12_statement_117 (by decide) ?_
            have hpd9 := pd_N (cx := [oX12 g0 m_refused m_kind m_figure m_weight m_got m_setting men msy mdn m_tape m_letter m_letterAt m_told (nI lz) (nI (aa + 1 + k)) (nI kk) m_kept him ki crs m_price m_offer m_gets m_yes m_buys m_ends m_carried m_row rm m_keptRow m_likeGets m_likePrice m_ahead, cI aC m_tape 64 tpf, cI aC m_letter 32 f_23, cI aC m_letterAt 32 f_25, cI aC m_told 96 u_32]) hP hD [3, 4, 0, 1, 2] (by decide) rfl
            have hP9 := hpd9.1
            have hD9 := hpd9.2
            refine W.widen (k := 0) (n := 0) (by omega) (by omega) ?_
            exact W.zret (v := 0) hx hb hr rfl (fun t ht hW => ⟨⟨0, ((nI (aa + 1 + k)), f_23, f_25, u_32), rfl, ⟨fun _ => ⟨aa + 1 + k, fl_c2 h0 hb2 k1 k2 k3 k4 (fun z => c_35 ((nx_k (k := 59) hL2 (by omega) hz_109).mpr z)), rfl⟩, fun q => absurd rfl q⟩, by rw [ht]; exact hP9, va_K.moved hW.alike hK, hD9⟩, hS.F ht⟩) hS.2.2 dX12_statement_118
        · obtain ⟨hnd, hat, htd⟩ := hz_74.1 c_33
          have h9 : u_31 = nI (aa + 1) := hat
          subst h9
          refine lv_iconst (v := 0) hx hb dX12_statement_80 (by decide) ?_
          have hpd9 := pd_N (cx := [oX12 g0 m_refused m_kind m_figure m_weight m_got m_setting men msy mdn m_tape m_letter m_letterAt m_told (nI lz) (nI (aa + 1)) (nI kk) m_kept him ki crs m_price m_offer m_gets m_yes m_buys m_ends m_carried m_row rm m_keptRow m_likeGets m_likePrice m_ahead, cI aC m_tape 64 tpf, cI aC m_letter 32 f_23, cI aC m_letterAt 32 f_25, cI aC m_told 96 u_32]) hP hD [2, 3, 0, 1, 4] (by decide) rfl
          have hP9 := hpd9.1
          have hD9 := hpd9.2
          refine W.widen (k := 0) (n := 0) (by omega) (by omega) ?_
          exact W.zret (v := 0) hx hb hr rfl (fun t ht hW => ⟨⟨0, ((nI (aa + 1)), f_23, f_25, u_32), rfl, ⟨fun _ => ⟨aa + 1, fl_c1 h0 hb2 hb1 hnd, rfl⟩, fun q => absurd rfl q⟩, by rw [ht]; exact hP9, va_K.moved hW.alike hK, hD9⟩, hS.F ht⟩) hS.2.2 dX12_statement_81
    · refine lv_iload_n hx hb dX12_statement_17 rfl (lv_at hl 0 rfl) ?_
      refine lv_bipush (v := 108) hx hb dX12_statement_18 (by decide) ?_
      refine lv_icmp_eq (tgt := 25) hx hb dX12_statement_20 (by decide) (fun c_37 => ?_) (fun c_37 => ?_)
      · have hb : aa < lz ∧ Lt aa = 108 := (nx_k (k := 108) hL2 (by omega) hz_1).mp c_37
        obtain ⟨hb1, hb2⟩ := hb
        have h9 : x_1 = nI (Lt aa) := by rw [hz_1]; unfold nxt; rw [if_pos hb1]
        subst h9
        refine lv_aload_n hx hb dX12_statement_25 rfl (lv_at hl 1 rfl) ?_
        refine va_get (D := (dC, dI)) (ci := 12) (v := Value.ref m_letter) (C := RX12) (T := TX12) (N := 33) hx hb hts inX12 hown hK hP 3 rfl rfl 10 (by decide) (hts _ (gw kw_727 rfl)) (fun _ h9 => h9) rfl dX12_statement_26 ?_
        refine lv_aload_n hx hb dX12_statement_29 rfl (lv_at hl 1 rfl) ?_
        refine va_get (D := (dC, dI)) (ci := 12) (v := Value.int (nI kk)) (C := RX12) (T := TX12) (N := 33) hx hb hts inX12 hown hK hP 3 rfl rfl 15 (by decide) (hts _ (gw kw_732 rfl)) (fun _ h9 => h9) rfl dX12_statement_30 ?_
        refine lv_iload_n hx hb dX12_statement_33 rfl (lv_at hl 0 rfl) ?_
        have h_38 : vp_in (nI kk) 32 := vp_in_nI (by omega) (by omega)
        refine va_iast hx hb hK hP hD hS 0 0 rfl rfl h_38 dX12_statement_34 (fun H locs hP hD hS => ?_)
        obtain ⟨f_39, e_f_39⟩ : ∃ y : Nat → Int32, y = upd lf (nI kk : Int32).toNatClampNeg (nI (Lt aa)) := ⟨_, rfl⟩
        have hpd9 : PDx (dC, dI) classes A H [cI aC m_letter 32 f_39, cI aC m_letterAt 32 laf, cI aC m_told 96 tdf, oX12 g0 m_refused m_kind m_figure m_weight m_got m_setting men msy mdn m_tape m_letter m_letterAt m_told (nI lz) (nI aa) (nI kk) m_kept him ki crs m_price m_offer m_gets m_yes m_buys m_ends m_carried m_row rm m_keptRow m_likeGets m_likePrice m_ahead, cI aC m_tape 64 tpf] := by rw [e_f_39]; exact ⟨hP, hD⟩
        have hP := hpd9.1
        have hD := hpd9.2
        clear hpd9
        refine lv_aload_n hx hb dX12_statement_35 rfl (lv_at hl 1 rfl) ?_
        refine va_get (D := (dC, dI)) (ci := 12) (v := Value.ref m_letterAt) (C := RX12) (T := TX12) (N := 33) hx hb hts inX12 hown hK hP 3 rfl rfl 11 (by decide) (hts _ (gw kw_728 rfl)) (fun _ h9 => h9) rfl dX12_statement_36 ?_
        refine lv_aload_n hx hb dX12_statement_39 rfl (lv_at hl 1 rfl) ?_
        refine va_get (D := (dC, dI)) (ci := 12) (v := Value.int (nI kk)) (C := RX12) (T := TX12) (N := 33) hx hb hts inX12 hown hK hP 3 rfl rfl 15 (by decide) (hts _ (gw kw_732 rfl)) (fun _ h9 => h9) rfl dX12_statement_40 ?_
        refine lv_aload_n hx hb dX12_statement_43 rfl (lv_at hl 1 rfl) ?_
        refine va_get (D := (dC, dI)) (ci := 12) (v := Value.int (nI aa)) (C := RX12) (T := TX12) (N := 33) hx hb hts inX12 hown hK hP 3 rfl rfl 14 (by decide) (hts _ (gw kw_731 rfl)) (fun _ h9 => h9) rfl dX12_statement_44 ?_
        have h_40 : vp_in (nI kk) 32 := vp_in_nI (by omega) (by omega)
        refine va_iast hx hb hK hP hD hS 1 0 rfl rfl h_40 dX12_statement_47 (fun H locs hP hD hS => ?_)
        obtain ⟨f_41, e_f_41⟩ : ∃ y : Nat → Int32, y = upd laf (nI kk : Int32).toNatClampNeg (nI aa) := ⟨_, rfl⟩
        have hpd9 : PDx (dC, dI) classes A H [cI aC m_letter 32 f_39, cI aC m_letterAt 32 f_41, cI aC m_told 96 tdf, oX12 g0 m_refused m_kind m_figure m_weight m_got m_setting men msy mdn m_tape m_letter m_letterAt m_told (nI lz) (nI aa) (nI kk) m_kept him ki crs m_price m_offer m_gets m_yes m_buys m_ends m_carried m_row rm m_keptRow m_likeGets m_likePrice m_ahead, cI aC m_tape 64 tpf] := by rw [e_f_41]; exact ⟨hP, hD⟩
        have hP := hpd9.1
        have hD := hpd9.2
        clear hpd9
        refine lv_aload_n hx hb dX12_statement_48 rfl (lv_at hl 1 rfl) ?_
        refine lv_dup hx hb dX12_statement_49 rfl ?_
        refine va_get (D := (dC, dI)) (ci := 12) (v := Value.int (nI aa)) (C := RX12) (T := TX12) (N := 33) hx hb hts inX12 hown hK hP 3 rfl rfl 14 (by decide) (hts _ (gw kw_731 rfl)) (fun _ h9 => h9) rfl dX12_statement_50 ?_
        refine lv_iconst (v := 1) hx hb dX12_statement_53 (by decide) ?_
        refine lv_iadd hx hb dX12_statement_54 ?_
        refine lv_topi (fun x_42 e_42 => ?_)
        refine va_put (D := (dC, dI)) (ci := 12) (v := Value.int x_42) (ty := .int) (C := RX12) (T := TX12) (N := 33) hx hb hts inX12 tyX12 tyX12_ok nmX12 hown hK hP hD hS 3 rfl rfl 14 (by decide) (hts _ (gw kw_731 rfl)) (fun _ h9 => h9) rfl (by decide +kernel) rfl rfl (Nat.le_of_ble_eq_true rfl) dX12_statement_55 (fun H locs hP hD hS => ?_)
        have hpd9 : PDx (dC, dI) classes A H [cI aC m_letter 32 f_39, cI aC m_letterAt 32 f_41, cI aC m_told 96 tdf, oX12 g0 m_refused m_kind m_figure m_weight m_got m_setting men msy mdn m_tape m_letter m_letterAt m_told (nI lz) x_42 (nI kk) m_kept him ki crs m_price m_offer m_gets m_yes m_buys m_ends m_carried m_row rm m_keptRow m_likeGets m_likePrice m_ahead, cI aC m_tape 64 tpf] := ⟨hP, hD⟩
        have hP := hpd9.1
        have hD := hpd9.2
        clear hpd9
        have h9 : x_42 = nI (aa + 1) := by rw [e_42, nI_1]
        subst h9
        refine lv_iconst (v := 3) hx hb dX12_statement_58 (by decide) ?_
        refine lv_aload_n hx hb dX12_statement_59 rfl (lv_at hl 1 rfl) ?_
        refine va_get (D := (dC, dI)) (ci := 12) (v := Value.int (nI kk)) (C := RX12) (T := TX12) (N := 33) hx hb hts inX12 hown hK hP 3 rfl rfl 15 (by decide) (hts _ (gw kw_732 rfl)) (fun _ h9 => h9) rfl dX12_statement_60 ?_
        refine lv_imul hx hb dX12_statement_63 ?_
        refine lv_topi (fun x_43 e_43 => ?_)
        have h9 : x_43 = nI (3 * kk) := by rw [e_43]; exact pk_mul 3 kk
        subst h9
        refine lv_istore_n (lv' := [(2, Value.int (nI (3 * kk))), (1, Value.int (nI (Lt aa))), (0, Value.ref g0)]) hx hb dX12_statement_64 rfl hl (by decide) rfl (fun ls hl => ?_)
        refine lv_iload_n hx hb dX12_statement_65 rfl (lv_at hl 1 rfl) ?_
        refine lv_bipush (v := 99) hx hb dX12_statement_66 (by decide) ?_
        refine lv_icmp_ne (tgt := 82) hx hb dX12_statement_68 (by decide) (fun c_44 => ?_) (fun c_44 => ?_)
        · refine lv_iconst (v := 0) hx hb dX12_statement_82 (by decide) ?_
          refine lv_istore_n (lv' := [(3, Value.int 0), (2, Value.int (nI (3 * kk))), (1, Value.int (nI (Lt aa))), (0, Value.ref g0)]) hx hb dX12_statement_83 rfl hl (by decide) rfl (fun ls hl => ?_)
          have lp_84 : ∀ (fu : Nat) (k : Nat) (td9 : Nat → Int32) (hfu : 3 - k < fu) (hk : k ≤ 3 ∧ aa + 1 + k ≤ lz) (hrn : lrn Lt (aa + 1 + k) = 1 + k) (htl : ∀ i, i < k → dig (Lt (aa + 1 + i)) ∧ td9 (3 * kk + i) = nI (Lt (aa + 1 + i) - 48)) (hfr : ∀ j, j < 3 * kk → td9 j = tdf j) (H : Heap) (locs : List Loc) (ls : Array Slot), va_P (dC, dI) classes [cI aC m_letter 32 f_39, cI aC m_letterAt 32 f_41, cI aC m_told 96 td9, oX12 g0 m_refused m_kind m_figure m_weight m_got m_setting men msy mdn m_tape m_letter m_letterAt m_told (nI lz) (nI (aa + 1 + k)) (nI kk) m_kept him ki crs m_price m_offer m_gets m_yes m_buys m_ends m_carried m_row rm m_keptRow m_likeGets m_likePrice m_ahead, cI aC m_tape 64 tpf] H → va_D A [cI aC m_letter 32 f_39, cI aC m_letterAt 32 f_41, cI aC m_told 96 td9, oX12 g0 m_refused m_kind m_figure m_weight m_got m_setting men msy mdn m_tape m_letter m_letterAt m_told (nI lz) (nI (aa + 1 + k)) (nI kk) m_kept him ki crs m_price m_offer m_gets m_yes m_buys m_ends m_carried m_row rm m_keptRow m_likeGets m_likePrice m_ahead, cI aC m_tape 64 tpf] → va_S A s.heap H locs → lv_has ls 4 [(0, Value.ref g0), (1, Value.int (nI (Lt aa))), (2, Value.int (nI (3 * kk))), (3, Value.int (nI k))] → W p l e (headSpec (wW yX12_statement cX12_statement 4 (some .boolean)) ({ frames := 2, cells := 0, slots := 0, locals := 46 } : Room)).room s m ([Value.ref g0] : List Value).toArray below meth c H locs 0 0 (MQ below (va_Qi (fun (r : Int32) (u : Int32 × (Nat → Int32) × (Nat → Int32) × (Nat → Int32)) => match u with | (at2, lf2, laf2, td2) => (r = 0 → ∃ q, FLP Lt lz q ∧ at2 = nI q) ∧ (¬ r = 0 → ∃ q, STM Lt aa q ∧ q < lz ∧ Lt q = 59 ∧ at2 = nI (q + 1) ∧ lf2 = upd lf kk (nI (Lt aa)) ∧ laf2 = upd laf kk (nI aa) ∧ TLD Lt aa q kk td2 ∧ ∀ j, j < 3 * kk → td2 j = tdf j)) (fun (u : Int32 × (Nat → Int32) × (Nat → Int32) × (Nat → Int32)) (t : State) => match u with | (at2, lf2, laf2, td2) => va_P (dC, dI) classes [oX12 g0 m_refused m_kind m_figure m_weight m_got m_setting men msy mdn m_tape m_letter m_letterAt m_told (nI lz) at2 (nI kk) m_kept him ki crs m_price m_offer m_gets m_yes m_buys m_ends m_carried m_row rm m_keptRow m_likeGets m_likePrice m_ahead, cI aC m_tape 64 tpf, cI aC m_letter 32 lf2, cI aC m_letterAt 32 laf2, cI aC m_told 96 td2] t.heap ∧ va_K (dC, dI) classes (TY aC) t ∧ va_D A [oX12 g0 m_refused m_kind m_figure m_weight m_got m_setting men msy mdn m_tape m_letter m_letterAt m_told (nI lz) at2 (nI kk) m_kept him ki crs m_price m_offer m_gets m_yes m_buys m_ends m_carried m_row rm m_keptRow m_likeGets m_likePrice m_ahead, cI aC m_tape 64 tpf, cI aC m_letter 32 lf2, cI aC m_letterAt 32 laf2, cI aC m_told 96 td2]) A) ([Value.ref g0] : List Value).toArray s 0 0 A) (F0 m 84 ls []) := by
            intro fu
            induction fu with
            | zero => intro k td9 hfu; exact absurd hfu (Nat.not_lt_zero _)
            | succ fu ih_84 =>
              intro k td9 hfu hk hrn htl hfr H locs ls hP hD hS hl
              refine lv_iload_n hx hb dX12_statement_84 rfl (lv_at hl 3 rfl) ?_
              refine lv_iconst (v := 3) hx hb dX12_statement_85 (by decide) ?_
              refine lv_icmp_ge (tgt := 108) hx hb dX12_statement_86 (by decide) (fun c_45 => ?_) (fun c_45 => ?_)
              · have hk3 : k = 3 := by
                  rcases Nat.lt_or_ge k 3 with q | q
                  · exact absurd c_45 (nI_ge (b := 3) q (by omega))
                  · omega
                refine lv_aload_n hx hb dX12_statement_108 rfl (lv_at hl 0 rfl) ?_
                have hpd9 := pdf_N (cx := [oX12 g0 m_refused m_kind m_figure m_weight m_got m_setting men msy mdn m_tape m_letter m_letterAt m_told (nI lz) (nI (aa + 1 + k)) (nI kk) m_kept him ki crs m_price m_offer m_gets m_yes m_buys m_ends m_carried m_row rm m_keptRow m_likeGets m_likePrice m_ahead, cI aC m_tape 64 tpf]) hP hD hS hA [3, 4] (by decide) rfl
                have hPc := hpd9.1
                have hDc := hpd9.2.1
                have hFc := hpd9.2.2
                clear hpd9
                refine va_calli (va_runV (As := []) (rest := []) ⟨hx, hb, hml, hown, hts⟩ (c_X12_next l dC dI aC H.size g0 m_refused m_kind m_figure m_weight m_got m_setting m_tape m_letter m_letterAt m_told m_kept m_price m_offer m_gets m_yes m_buys m_ends m_carried m_row m_keptRow m_likeGets m_likePrice m_ahead men msy mdn (nI kk) him ki crs rm lz (aa + 1 + k) Lt tpf (hlt0) (by omega)) ⟨(callB_of 0 hts (gG kw_839) rfl rfl rfl (hts _ (gw kw_13 rfl)) (hts _ (gw kw_836 rfl)) hd_X12_next ⟨Nat.le_of_ble_eq_true rfl, Nat.le_of_ble_eq_true rfl⟩), (hts _ (gw kw_838 rfl)), (hts _ (gw ks_37 rfl))⟩ ⟨fb_std, va_recv (q := (RX12, TX12, 33)) hK hPc (ci := 12) (q0 := 0) rfl rfl, pre_std hPc hK hDc hN⟩ rfl rfl hl.1 rfl (lv_room (Nat.le_of_ble_eq_true rfl)) dX12_statement_109 ⟨Nat.le_of_ble_eq_true rfl, Nat.le_of_ble_eq_true rfl⟩) hS (fun q _ h => hFc q h) hFc (fun x_46 u9 t9 H1 locs ht hvm hw_46 hB hz1 hk1 hS => ?_)
                obtain ⟨hP1, hK1, hD1⟩ := hB
                rw [ht] at hP1
                clear hK1
                try dsimp only at hw_46
                have hpd9 : PDx (dC, dI) classes A H1 [cI aC m_letter 32 f_39, cI aC m_letterAt 32 f_41, cI aC m_told 96 td9, oX12 g0 m_refused m_kind m_figure m_weight m_got m_setting men msy mdn m_tape m_letter m_letterAt m_told (nI lz) (nI (aa + 1 + k)) (nI kk) m_kept him ki crs m_price m_offer m_gets m_yes m_buys m_ends m_carried m_row rm m_keptRow m_likeGets m_likePrice m_ahead, cI aC m_tape 64 tpf] := jn_N (wr := [cI aC m_letter 32 f_39, cI aC m_letterAt 32 f_41, cI aC m_told 96 td9]) hFc hk1 hP1 hD1 hP hD [3, 4] [0, 1, 2] rfl rfl (by decide) (by decide)
                have hP := hpd9.1
                have hD := hpd9.2
                clear hpd9
                generalize H1 = H at hP hS ⊢
                clear hPc hDc hFc hz1 hk1 hP1 hD1 ht hvm
                have hz_109 := hw_46
                refine lv_bipush (v := 59) hx hb dX12_statement_112 (by decide) ?_
                refine lv_icmp_eq (tgt := 119) hx hb dX12_statement_114 (by decide) (fun c_47 => ?_) (fun c_47 => ?_)
                · refine lv_aload_n hx hb dX12_statement_119 rfl (lv_at hl 0 rfl) ?_
                  refine lv_dup hx hb dX12_statement_120 rfl ?_
                  refine va_get (D := (dC, dI)) (ci := 12) (v := Value.int (nI (aa + 1 + k))) (C := RX12) (T := TX12) (N := 33) hx hb hts inX12 hown hK hP 3 rfl rfl 14 (by decide) (hts _ (gw kw_731 rfl)) (fun _ h9 => h9) rfl dX12_statement_121 ?_
                  refine lv_iconst (v := 1) hx hb dX12_statement_124 (by decide) ?_
                  refine lv_iadd hx hb dX12_statement_125 ?_
                  refine lv_topi (fun x_48 e_48 => ?_)
                  refine va_put (D := (dC, dI)) (ci := 12) (v := Value.int x_48) (ty := .int) (C := RX12) (T := TX12) (N := 33) hx hb hts inX12 tyX12 tyX12_ok nmX12 hown hK hP hD hS 3 rfl rfl 14 (by decide) (hts _ (gw kw_731 rfl)) (fun _ h9 => h9) rfl (by decide +kernel) rfl rfl (Nat.le_of_ble_eq_true rfl) dX12_statement_126 (fun H locs hP hD hS => ?_)
                  have hpd9 : PDx (dC, dI) classes A H [cI aC m_letter 32 f_39, cI aC m_letterAt 32 f_41, cI aC m_told 96 td9, oX12 g0 m_refused m_kind m_figure m_weight m_got m_setting men msy mdn m_tape m_letter m_letterAt m_told (nI lz) x_48 (nI kk) m_kept him ki crs m_price m_offer m_gets m_yes m_buys m_ends m_carried m_row rm m_keptRow m_likeGets m_likePrice m_ahead, cI aC m_tape 64 tpf] := ⟨hP, hD⟩
                  have hP := hpd9.1
                  have hD := hpd9.2
                  clear hpd9
                  have h9 : x_48 = nI (aa + 1 + k + 1) := by rw [e_48, nI_1]
                  subst h9
                  refine lv_iconst (v := 1) hx hb dX12_statement_129 (by decide) ?_
                  have hpd9 := pd_N (cx := [oX12 g0 m_refused m_kind m_figure m_weight m_got m_setting men msy mdn m_tape m_letter m_letterAt m_told (nI lz) (nI (aa + 1 + k + 1)) (nI kk) m_kept him ki crs m_price m_offer m_gets m_yes m_buys m_ends m_carried m_row rm m_keptRow m_likeGets m_likePrice m_ahead, cI aC m_tape 64 tpf, cI aC m_letter 32 f_39, cI aC m_letterAt 32 f_41, cI aC m_told 96 td9]) hP hD [3, 4, 0, 1, 2] (by decide) rfl
                  have hP9 := hpd9.1
                  have hD9 := hpd9.2
                  refine W.widen (k := 0) (n := 0) (by omega) (by omega) ?_
                  exact W.zret (v := 1) hx hb hr rfl (fun t ht hW => ⟨⟨1, ((nI (aa + 1 + k + 1)), f_39, f_41, td9), rfl, ⟨fun q => absurd q (by decide), fun _ => ⟨aa + 1 + k, by subst hk3; exact (tl_m (e := aa + 4) (k := kk) (Or.inr hb2) htl).1, ((nx_k (k := 59) hL2 (by omega) hz_109).mp c_47).1, ((nx_k (k := 59) hL2 (by omega) hz_109).mp c_47).2, rfl, by rw [e_f_39, nI_clamp (by omega)], by rw [e_f_41, nI_clamp (by omega)], by subst hk3; exact ⟨(tl_m (Or.inr hb2) htl).2, hfr⟩⟩⟩, by rw [ht]; exact hP9, va_K.moved hW.alike hK, hD9⟩, hS.F ht⟩) hS.2.2 dX12_statement_130
                · refine lv_iconst (v := 0) hx hb dX12_statement_117 (by decide) ?_
                  have hpd9 := pd_N (cx := [oX12 g0 m_refused m_kind m_figure m_weight m_got m_setting men msy mdn m_tape m_letter m_letterAt m_told (nI lz) (nI (aa + 1 + k)) (nI kk) m_kept him ki crs m_price m_offer m_gets m_yes m_buys m_ends m_carried m_row rm m_keptRow m_likeGets m_likePrice m_ahead, cI aC m_tape 64 tpf, cI aC m_letter 32 f_39, cI aC m_letterAt 32 f_41, cI aC m_told 96 td9]) hP hD [3, 4, 0, 1, 2] (by decide) rfl
                  have hP9 := hpd9.1
                  have hD9 := hpd9.2
                  refine W.widen (k := 0) (n := 0) (by omega) (by omega) ?_
                  exact W.zret (v := 0) hx hb hr rfl (fun t ht hW => ⟨⟨0, ((nI (aa + 1 + k)), f_39, f_41, td9), rfl, ⟨fun _ => ⟨aa + 1 + k, fl_m2 (by rw [hrn, hk3]) (by omega) (fun z => c_47 ((nx_k (k := 59) hL2 (by omega) hz_109).mpr z)), rfl⟩, fun q => absurd rfl q⟩, by rw [ht]; exact hP9, va_K.moved hW.alike hK, hD9⟩, hS.F ht⟩) hS.2.2 dX12_statement_118
              · have hlt : k < 3 := by
                  rcases Nat.lt_or_ge k 3 with q | q
                  · exact q
                  · exact absurd (nI_le (a := 3) q (by omega)) c_45
                refine lv_aload_n hx hb dX12_statement_89 rfl (lv_at hl 0 rfl) ?_
                refine lv_iload_n hx hb dX12_statement_90 rfl (lv_at hl 2 rfl) ?_
                refine lv_iload_n hx hb dX12_statement_91 rfl (lv_at hl 3 rfl) ?_
                refine lv_iadd hx hb dX12_statement_92 ?_
                refine lv_topi (fun x_49 e_49 => ?_)
                have h9 : x_49 = nI (3 * kk + k) := by rw [e_49, nI_add]
                subst h9
                refine lv_iconst (v := 1) hx hb dX12_statement_93 (by decide) ?_
                refine lv_topi (fun x_50 e_50 => ?_)
                have h9 : x_50 = nI 1 := by rw [e_50]; rfl
                subst h9
                have hpd9 := pdf_N (cx := [oX12 g0 m_refused m_kind m_figure m_weight m_got m_setting men msy mdn m_tape m_letter m_letterAt m_told (nI lz) (nI (aa + 1 + k)) (nI kk) m_kept him ki crs m_price m_offer m_gets m_yes m_buys m_ends m_carried m_row rm m_keptRow m_likeGets m_likePrice m_ahead, cI aC m_tape 64 tpf, cI aC m_told 96 td9]) hP hD hS hA [3, 4, 2] (by decide) rfl
                have hPc := hpd9.1
                have hDc := hpd9.2.1
                have hFc := hpd9.2.2
                clear hpd9
                refine va_calli (va_runV (As := [Value.int (nI (3 * kk + k)), Value.int (nI 1)]) (rest := []) ⟨hx, hb, hml, hown, hts⟩ (c_X12_reads l dC dI aC H.size g0 m_refused m_kind m_figure m_weight m_got m_setting m_tape m_letter m_letterAt m_told m_kept m_price m_offer m_gets m_yes m_buys m_ends m_carried m_row m_keptRow m_likeGets m_likePrice m_ahead men msy mdn (nI kk) him ki crs rm lz (aa + 1 + k) Lt tpf (3 * kk + k) 1 td9 (hlt0) (by omega) (by omega) (by omega)) ⟨(callB_of 2 hts (gG kw_843) rfl rfl rfl (hts _ (gw kw_13 rfl)) (hts _ (gw kw_840 rfl)) hd_X12_reads ⟨Nat.le_of_ble_eq_true rfl, Nat.le_of_ble_eq_true rfl⟩), (hts _ (gw kw_842 rfl)), (hts _ (gw ks_38 rfl))⟩ ⟨fb_std, va_recv (q := (RX12, TX12, 33)) hK hPc (ci := 12) (q0 := 0) rfl rfl, pre_std hPc hK hDc hN⟩ rfl rfl hl.1 rfl (lv_room (Nat.le_of_ble_eq_true rfl)) dX12_statement_94 ⟨Nat.le_of_ble_eq_true rfl, Nat.le_of_ble_eq_true rfl⟩) hS (fun q _ h => hFc q h) hFc (fun x_51 u9 t9 H1 locs ht hvm hw_51 hB hz1 hk1 hS => ?_)
                obtain ⟨u_52, u_53⟩ := u9
                obtain ⟨hP1, hK1, hD1⟩ := hB
                rw [ht] at hP1
                clear hK1
                try dsimp only at hw_51
                have hpd9 : PDx (dC, dI) classes A H1 [cI aC m_letter 32 f_39, cI aC m_letterAt 32 f_41, oX12 g0 m_refused m_kind m_figure m_weight m_got m_setting men msy mdn m_tape m_letter m_letterAt m_told (nI lz) u_52 (nI kk) m_kept him ki crs m_price m_offer m_gets m_yes m_buys m_ends m_carried m_row rm m_keptRow m_likeGets m_likePrice m_ahead, cI aC m_tape 64 tpf, cI aC m_told 96 u_53] := jn_N (wr := [cI aC m_letter 32 f_39, cI aC m_letterAt 32 f_41]) hFc hk1 hP1 hD1 hP hD [3, 4, 2] [0, 1] rfl rfl (by decide) (by decide)
                have hP := hpd9.1
                have hD := hpd9.2
                clear hpd9
                generalize H1 = H at hP hS ⊢
                clear hPc hDc hFc hz1 hk1 hP1 hD1 ht hvm
                have hz_94 := hw_51
                refine lv_if_ne (tgt := 102) hx hb dX12_statement_97 (by decide) (fun c_54 => ?_) (fun c_54 => ?_)
                · obtain ⟨x, x1, x2, x3, x4, hat, htd⟩ := hz_94.2 c_54
                  have hx : x = 1 := by omega
                  have hts9 := td_s htl hfr hx x3 htd
                  subst hx
                  have hr9 := r_m hrn (by omega) (x3 0 (by omega)).2
                  have hq9 := (x3 0 (by omega)).1
                  have h9 : u_52 = nI (aa + 1 + (k + 1)) := hat
                  subst h9
                  obtain ⟨x_55, e_55⟩ : ∃ y : Int32, y = (nI k) + 1 := ⟨_, rfl⟩
                  refine lv_iinc (v := x_55) (lv' := [(3, Value.int x_55), (0, Value.ref g0), (1, Value.int (nI (Lt aa))), (2, Value.int (nI (3 * kk)))]) hx hb dX12_statement_102 hl (k := 3) rfl (by rw [e_55]; rfl) (by decide) rfl (fun ls hl => ?_)
                  have h9 : x_55 = nI (k + 1) := by rw [e_55, nI_1]
                  subst h9
                  refine lv_goto (tgt := 84) hx hb dX12_statement_105 (by decide) ?_
                  exact ih_84 (k + 1) u_53 (by omega) (by omega) (hr9) (hts9.1) (hts9.2) _ _ _ (hP.sub [0, 1, 4, 2, 3] rfl) (hD.sub [0, 1, 4, 2, 3] (by decide) rfl) hS (lv_sub hl [1, 2, 3, 0] rfl)
                · obtain ⟨hnd, hat, htd⟩ := hz_94.1 c_54
                  have h9 : u_52 = nI (aa + 1 + k) := hat
                  subst h9
                  refine lv_iconst (v := 0) hx hb dX12_statement_100 (by decide) ?_
                  have hpd9 := pd_N (cx := [oX12 g0 m_refused m_kind m_figure m_weight m_got m_setting men msy mdn m_tape m_letter m_letterAt m_told (nI lz) (nI (aa + 1 + k)) (nI kk) m_kept him ki crs m_price m_offer m_gets m_yes m_buys m_ends m_carried m_row rm m_keptRow m_likeGets m_likePrice m_ahead, cI aC m_tape 64 tpf, cI aC m_letter 32 f_39, cI aC m_letterAt 32 f_41, cI aC m_told 96 u_53]) hP hD [2, 3, 0, 1, 4] (by decide) rfl
                  have hP9 := hpd9.1
                  have hD9 := hpd9.2
                  refine W.widen (k := 0) (n := 0) (by omega) (by omega) ?_
                  exact W.zret (v := 0) hx hb hr rfl (fun t ht hW => ⟨⟨0, ((nI (aa + 1 + k)), f_39, f_41, u_53), rfl, ⟨fun _ => ⟨aa + 1 + k, fl_m hrn (by omega) (by omega) hnd, rfl⟩, fun q => absurd rfl q⟩, by rw [ht]; exact hP9, va_K.moved hW.alike hK, hD9⟩, hS.F ht⟩) hS.2.2 dX12_statement_101
          exact lp_84 ((3 - 0) + 1) 0 tdf (Nat.lt_succ_self _) (by omega) (r_m1 h0 (by omega)) (fun i hi => by omega) (fun j hj => rfl) _ _ _ (hP.sub [0, 1, 2, 3, 4] rfl) (hD.sub [0, 1, 2, 3, 4] (by decide) rfl) hS (lv_sub hl [3, 2, 1, 0] rfl)
        · exact absurd ((nI_b0 (k := 99) (hL2 aa hb1) (by omega)).mp c_44) (by omega)
      · refine lv_iconst (v := 0) hx hb dX12_statement_23 (by decide) ?_
        have hpd9 := pd_N (cx := [oX12 g0 m_refused m_kind m_figure m_weight m_got m_setting men msy mdn m_tape m_letter m_letterAt m_told (nI lz) (nI aa) (nI kk) m_kept him ki crs m_price m_offer m_gets m_yes m_buys m_ends m_carried m_row rm m_keptRow m_likeGets m_likePrice m_ahead, cI aC m_tape 64 tpf, cI aC m_letter 32 lf, cI aC m_letterAt 32 laf, cI aC m_told 96 tdf]) hP hD [3, 4, 0, 1, 2] (by decide) rfl
        have hP9 := hpd9.1
        have hD9 := hpd9.2
        refine W.widen (k := 0) (n := 0) (by omega) (by omega) ?_
        exact W.zret (v := 0) hx hb hr rfl (fun t ht hW => ⟨⟨0, ((nI aa), lf, laf, tdf), rfl, ⟨fun _ => ⟨aa, fl_0 haa h0 haz ⟨fun z => c_2 ((nx_k (k := 109) hL2 (by omega) hz_1).mpr z), fun z => c_21 ((nx_k (k := 99) hL2 (by omega) hz_1).mpr z), fun z => c_37 ((nx_k (k := 108) hL2 (by omega) hz_1).mpr z)⟩, rfl⟩, fun q => absurd rfl q⟩, by rw [ht]; exact hP9, va_K.moved hW.alike hK, hD9⟩, hS.F ht⟩) hS.2.2 dX12_statement_24

end

section
/-! 87.refl4 -/
theorem mt_0 {n c : Nat} (hn : n + c ≤ 8) {x : Int32} (hx : x = nI (n + c)) : (x = 8 → ¬ n + (c + 1) ≤ 8) ∧ (¬ x = 8 → n + (c + 1) ≤ 8) := by
  subst hx
  exact ⟨fun q => by have := (nI_eq (a := n + c) (b := 8) (by omega) (by omega)).mp q; omega, fun q => by have : n + c ≠ 8 := fun e => q (by rw [e]; rfl); omega⟩
theorem z_of {a : Nat} {x : Int32} (hx : x = nI a) (ha : a ≤ 255) : (x = 0 → ¬ 1 ≤ a) ∧ (¬ x = 0 → 1 ≤ a) := by
  subst hx
  exact ⟨fun q => by have := (nI_eq (a := a) (b := 0) (by omega) (by omega)).mp q; omega, fun q => by have : a ≠ 0 := fun e => q (by rw [e]; rfl); omega⟩
theorem lt_of9 {a b : Nat} {x : Int32} (hx : x = nI a) (ha : a ≤ 255) (hb : b ≤ 255) : (nI (b + 1) ≤ x → ¬ a ≤ b) ∧ (¬ nI (b + 1) ≤ x → a ≤ b) := by
  subst hx
  exact ⟨fun q => by have := (nI_leI (a := b + 1) (b := a) (by omega) (by omega)).mp q; omega, fun q => Nat.le_of_not_lt fun z => q (nI_le z (by omega))⟩

set_option maxHeartbeats 1000000 in
set_option maxRecDepth 100000 in
/-- X12_comes -/
theorem c_X12_comes (l : Launch) (dC : Nat → ClassId) (dI : Nat → Nat → Nat) (aC : Nat → ClassId) (sz : Nat) (g0 : Nat) (m_refused : Nat) (m_kind : Nat) (m_figure : Nat) (m_weight : Nat) (m_got : Nat) (m_setting : Nat) (m_tape : Nat) (m_letter : Nat) (m_letterAt : Nat) (m_told : Nat) (m_kept : Nat) (m_price : Nat) (m_offer : Nat) (m_gets : Nat) (m_yes : Nat) (m_buys : Nat) (m_ends : Nat) (m_carried : Nat) (m_row : Nat) (m_keptRow : Nat) (m_likeGets : Nat) (m_likePrice : Nat) (m_ahead : Nat) (tp : Int32) (mat : Int32) (stm : Int32) (him : Int32) (ki : Int32) (crs : Int32) (rm : Int32) (n : Nat) (sn : Nat) (dn : Int32) (K : Nat → Nat) (F : Nat → Nat) (W0 : Nat → Nat) (S5 : Nat → Nat) (kf : Nat → Int32) (ff : Nat → Int32) (wf : Nat → Int32) (stf : Nat → Int32) (lz : Nat) (Lt : Nat → Nat) (ee : Nat) (lf : Nat → Int32) (tdf : Nat → Int32) (hst : STM Lt (lst Lt ee) ee) (hsem : Lt ee = 59) (hsl : Lt (lst Lt ee) ≤ 255) (hlf : lf (scn Lt ee) = nI (Lt (lst Lt ee))) (htl : TLD Lt (lst Lt ee) ee (scn Lt ee) tdf) (hsc : scn Lt ee ≤ 30) (hev : EVT Lt ee n sn dn K F W0 S5 kf ff wf stf) : Met l yX12_comes (wW yX12_comes cX12_comes 4 (some .boolean)) ({ frames := 0, cells := 0, slots := 0, locals := 0 } : Room) (va_Pc [Value.ref g0, Value.int (nI (scn Lt ee))] (fun U => U.heap.size = sz ∧ va_P (dC, dI) classes [oX12 g0 m_refused m_kind m_figure m_weight m_got m_setting (nI (n + cm Lt ee)) (nI sn) dn m_tape m_letter m_letterAt m_told tp mat stm m_kept him ki crs m_price m_offer m_gets m_yes m_buys m_ends m_carried m_row rm m_keptRow m_likeGets m_likePrice m_ahead, cI aC m_kind 9 kf, cI aC m_figure 9 ff, cI aC m_weight 9 wf, cI aC m_setting 5 stf, cI aC m_letter 32 lf, cI aC m_told 96 tdf] U.heap ∧ va_K (dC, dI) classes (TY aC) U ∧ va_D (fun _ => True) [oX12 g0 m_refused m_kind m_figure m_weight m_got m_setting (nI (n + cm Lt ee)) (nI sn) dn m_tape m_letter m_letterAt m_told tp mat stm m_kept him ki crs m_price m_offer m_gets m_yes m_buys m_ends m_carried m_row rm m_keptRow m_likeGets m_likePrice m_ahead, cI aC m_kind 9 kf, cI aC m_figure 9 ff, cI aC m_weight 9 wf, cI aC m_setting 5 stf, cI aC m_letter 32 lf, cI aC m_told 96 tdf] ∧ NX U)) (va_Qi (fun (r : Int32) (u : Int32 × (Nat → Int32) × (Nat → Int32) × (Nat → Int32) × (Nat → Int32)) => match u with | (men2, kf2, ff2, wf2, stf2) => (r = 0 → ¬ RGS Lt n dn ee) ∧ (¬ r = 0 → RGS Lt n dn ee ∧ men2 = nI (n + cm Lt (ee + 1)) ∧ EVT Lt (ee + 1) n sn dn K F W0 S5 kf2 ff2 wf2 stf2)) (fun (u : Int32 × (Nat → Int32) × (Nat → Int32) × (Nat → Int32) × (Nat → Int32)) (t : State) => match u with | (men2, kf2, ff2, wf2, stf2) => va_P (dC, dI) classes [oX12 g0 m_refused m_kind m_figure m_weight m_got m_setting men2 (nI sn) dn m_tape m_letter m_letterAt m_told tp mat stm m_kept him ki crs m_price m_offer m_gets m_yes m_buys m_ends m_carried m_row rm m_keptRow m_likeGets m_likePrice m_ahead, cI aC m_kind 9 kf2, cI aC m_figure 9 ff2, cI aC m_weight 9 wf2, cI aC m_setting 5 stf2, cI aC m_letter 32 lf, cI aC m_told 96 tdf] t.heap ∧ va_K (dC, dI) classes (TY aC) t ∧ va_D (va_A [oX12 g0 m_refused m_kind m_figure m_weight m_got m_setting (nI (n + cm Lt ee)) (nI sn) dn m_tape m_letter m_letterAt m_told tp mat stm m_kept him ki crs m_price m_offer m_gets m_yes m_buys m_ends m_carried m_row rm m_keptRow m_likeGets m_likePrice m_ahead, cI aC m_kind 9 kf, cI aC m_figure 9 ff, cI aC m_weight 9 wf, cI aC m_setting 5 stf, cI aC m_letter 32 lf, cI aC m_told 96 tdf] sz) [oX12 g0 m_refused m_kind m_figure m_weight m_got m_setting men2 (nI sn) dn m_tape m_letter m_letterAt m_told tp mat stm m_kept him ki crs m_price m_offer m_gets m_yes m_buys m_ends m_carried m_row rm m_keptRow m_likeGets m_likePrice m_ahead, cI aC m_kind 9 kf2, cI aC m_figure 9 ff2, cI aC m_weight 9 wf2, cI aC m_setting 5 stf2, cI aC m_letter 32 lf, cI aC m_told 96 tdf]) (va_A [oX12 g0 m_refused m_kind m_figure m_weight m_got m_setting (nI (n + cm Lt ee)) (nI sn) dn m_tape m_letter m_letterAt m_told tp mat stm m_kept him ki crs m_price m_offer m_gets m_yes m_buys m_ends m_carried m_row rm m_keptRow m_likeGets m_likePrice m_ahead, cI aC m_kind 9 kf, cI aC m_figure 9 ff, cI aC m_weight 9 wf, cI aC m_setting 5 stf, cI aC m_letter 32 lf, cI aC m_told 96 tdf] sz)) 0 0 (va_A [oX12 g0 m_refused m_kind m_figure m_weight m_got m_setting (nI (n + cm Lt ee)) (nI sn) dn m_tape m_letter m_letterAt m_told tp mat stm m_kept him ki crs m_price m_offer m_gets m_yes m_buys m_ends m_carried m_row rm m_keptRow m_likeGets m_likePrice m_ahead, cI aC m_kind 9 kf, cI aC m_figure 9 ff, cI aC m_weight 9 wf, cI aC m_setting 5 stf, cI aC m_letter 32 lf, cI aC m_told 96 tdf] sz) := by
  refine Met.ofW (cc := cX12_comes) (maxL := 4) (ret := (some .boolean)) (by decide) rfl ?_
  intro p e s m args below meth c s₁ B hml hv
  obtain ⟨rfl, hsz, hP, hK, hD0, hN⟩ := hv
  have hx := B.exec
  have hb := B.bytes
  have hr := B.returns
  have hts0 := atoms_spec (ws := (wW yX12_comes cX12_comes 4 (some .boolean))) B.pre
  have hts : ∀ w9 ∈ lw_G, w9.before ([Value.ref g0, Value.int (nI (scn Lt ee))] : List Value).toArray s = true := fun w9 h9 => hts0 w9 (List.mem_cons_of_mem _ h9)
  have hown : s.vm.findClass RX12 = some m.cls := findClass_of_methodNamed (x := yX12_comes) B.named
  have hlocks := B.notSynchronized
  subst hsz
  have hD := hD0.self (sz := s.heap.size)
  generalize hAe : va_A [oX12 g0 m_refused m_kind m_figure m_weight m_got m_setting (nI (n + cm Lt ee)) (nI sn) dn m_tape m_letter m_letterAt m_told tp mat stm m_kept him ki crs m_price m_offer m_gets m_yes m_buys m_ends m_carried m_row rm m_keptRow m_likeGets m_likePrice m_ahead, cI aC m_kind 9 kf, cI aC m_figure 9 ff, cI aC m_weight 9 wf, cI aC m_setting 5 stf, cI aC m_letter 32 lf, cI aC m_told 96 tdf] s.heap.size = A at hD ⊢
  have hA : ∀ q : Nat, s.heap.size ≤ q → A q := fun q h => by rw [← hAe]; exact Or.inr h
  obtain ⟨H, hHe⟩ : ∃ H : Heap, H = s.heap := ⟨_, rfl⟩
  have hS : va_S A s.heap H [] := by rw [hHe]; exact va_S.rf
  have hP : va_P (dC, dI) classes [oX12 g0 m_refused m_kind m_figure m_weight m_got m_setting (nI (n + cm Lt ee)) (nI sn) dn m_tape m_letter m_letterAt m_told tp mat stm m_kept him ki crs m_price m_offer m_gets m_yes m_buys m_ends m_carried m_row rm m_keptRow m_likeGets m_likePrice m_ahead, cI aC m_kind 9 kf, cI aC m_figure 9 ff, cI aC m_weight 9 wf, cI aC m_setting 5 stf, cI aC m_letter 32 lf, cI aC m_told 96 tdf] H := by rw [hHe]; exact hP
  have hl := lv_entry ([Value.ref g0, Value.int (nI (scn Lt ee))]) (n := 4) (Nat.le_of_ble_eq_true rfl)
  rw [lg_entry_eq]
  generalize (lg_sl ([Value.ref g0, Value.int (nI (scn Lt ee))]) ++ List.replicate (4 - (lg_sl ([Value.ref g0, Value.int (nI (scn Lt ee))])).length) Slot.unset).toArray = ls at hl ⊢
  have hl : lv_has ls 4 [(0, Value.ref g0), (1, Value.int (nI (scn Lt ee)))] := hl
  rw [← hHe]
  have hn8 := hev.1.1
  refine lv_iconst (v := 3) hx hb dX12_comes_0 (by decide) ?_
  refine lv_iload_n hx hb dX12_comes_1 rfl (lv_at hl 1 rfl) ?_
  refine lv_imul hx hb dX12_comes_2 ?_
  refine lv_topi (fun x_1 e_1 => ?_)
  have h9 : x_1 = nI (3 * scn Lt ee) := by rw [e_1]; exact pk_mul 3 _
  subst h9
  refine lv_istore_n (lv' := [(2, Value.int (nI (3 * scn Lt ee))), (0, Value.ref g0), (1, Value.int (nI (scn Lt ee)))]) hx hb dX12_comes_3 rfl hl (by decide) rfl (fun ls hl => ?_)
  refine lv_aload_n hx hb dX12_comes_4 rfl (lv_at hl 1 rfl) ?_
  refine va_get (D := (dC, dI)) (ci := 12) (v := Value.ref m_letter) (C := RX12) (T := TX12) (N := 33) hx hb hts inX12 hown hK hP 0 rfl rfl 10 (by decide) (hts _ (gw kw_727 rfl)) (fun _ h9 => h9) rfl dX12_comes_5 ?_
  refine lv_iload_n hx hb dX12_comes_8 rfl (lv_at hl 2 rfl) ?_
  have h_2 : vp_in (nI (scn Lt ee)) 32 := vp_in_nI (by omega) (by omega)
  refine va_iald hx hb hK hP 5 0 rfl rfl h_2 dX12_comes_9 ?_
  refine lv_topi (fun x_3 e_3 => ?_)
  have h9 : x_3 = nI (Lt (lst Lt ee)) := by rw [e_3, nI_clamp (by omega)]; exact hlf
  subst h9
  refine lv_bipush (v := 99) hx hb dX12_comes_10 (by decide) ?_
  refine lv_icmp_ne (tgt := 29) hx hb dX12_comes_12 (by decide) (fun c_4 => ?_) (fun c_4 => ?_)
  · refine lv_aload_n hx hb dX12_comes_29 rfl (lv_at hl 1 rfl) ?_
    refine va_get (D := (dC, dI)) (ci := 12) (v := Value.ref m_letter) (C := RX12) (T := TX12) (N := 33) hx hb hts inX12 hown hK hP 0 rfl rfl 10 (by decide) (hts _ (gw kw_727 rfl)) (fun _ h9 => h9) rfl dX12_comes_30 ?_
    refine lv_iload_n hx hb dX12_comes_33 rfl (lv_at hl 2 rfl) ?_
    have h_5 : vp_in (nI (scn Lt ee)) 32 := vp_in_nI (by omega) (by omega)
    refine va_iald hx hb hK hP 5 0 rfl rfl h_5 dX12_comes_34 ?_
    refine lv_topi (fun x_6 e_6 => ?_)
    have h9 : x_6 = nI (Lt (lst Lt ee)) := by rw [e_6, nI_clamp (by omega)]; exact hlf
    subst h9
    refine lv_bipush (v := 108) hx hb dX12_comes_35 (by decide) ?_
    refine lv_icmp_ne (tgt := 109) hx hb dX12_comes_37 (by decide) (fun c_7 => ?_) (fun c_7 => ?_)
    · have hm9 : Lt (lst Lt ee) = 109 := by
        rcases (STM_k hst).1 with q | q | q
        · exact q
        · exact absurd (by rw [q]; rfl) c_7
        · exact absurd (by rw [q]; rfl) c_4
      obtain ⟨he4, hd1, hd2, hd3⟩ := STM_d hst (Or.inl hm9)
      have htd := htl.1 (Or.inl hm9)
      have hcy := cm_y hsem hm9
      refine lv_aload_n hx hb dX12_comes_109 rfl (lv_at hl 1 rfl) ?_
      refine va_get (D := (dC, dI)) (ci := 12) (v := Value.ref m_told) (C := RX12) (T := TX12) (N := 33) hx hb hts inX12 hown hK hP 0 rfl rfl 12 (by decide) (hts _ (gw kw_729 rfl)) (fun _ h9 => h9) rfl dX12_comes_110 ?_
      refine lv_iload_n hx hb dX12_comes_113 rfl (lv_at hl 0 rfl) ?_
      have h_8 : vp_in (nI (3 * scn Lt ee)) 96 := vp_in_nI (by omega) (by omega)
      refine va_iald hx hb hK hP 6 0 rfl rfl h_8 dX12_comes_114 ?_
      refine lv_topi (fun x_9 e_9 => ?_)
      have h9 : x_9 = nI (Lt (lst Lt ee + 1) - 48) := by rw [e_9, nI_clamp (by omega)]; exact htd 0 (by omega)
      subst h9
      refine lv_bipush (v := 6) hx hb dX12_comes_115 (by decide) ?_
      refine lv_icmp_gt (tgt := 148) hx hb dX12_comes_117 (by decide) (fun c_10 => ?_) (fun c_10 => ?_)
      · refine lv_iconst (v := 0) hx hb dX12_comes_148 (by decide) ?_
        have hpd9 := pd_N (cx := [oX12 g0 m_refused m_kind m_figure m_weight m_got m_setting (nI (n + cm Lt ee)) (nI sn) dn m_tape m_letter m_letterAt m_told tp mat stm m_kept him ki crs m_price m_offer m_gets m_yes m_buys m_ends m_carried m_row rm m_keptRow m_likeGets m_likePrice m_ahead, cI aC m_kind 9 kf, cI aC m_figure 9 ff, cI aC m_weight 9 wf, cI aC m_setting 5 stf, cI aC m_letter 32 lf, cI aC m_told 96 tdf]) hP hD [0, 1, 2, 3, 4, 5, 6] (by decide) rfl
        have hP9 := hpd9.1
        have hD9 := hpd9.2
        refine W.widen (k := 0) (n := 0) (by omega) (by omega) ?_
        exact W.zret (v := 0) hx hb hr rfl (fun t ht hW => ⟨⟨0, ((nI (n + cm Lt ee)), kf, ff, wf, stf), rfl, ⟨fun _ => rg_n1 hm9 (fun z => (le_of (b := 6) (rfl : nI (Lt (lst Lt ee + 1) - 48) = _) (dig255 hd1) (by omega)).1 c_10 z.1), fun q => absurd rfl q⟩, by rw [ht]; exact hP9, va_K.moved hW.alike hK, hD9⟩, hS.F ht⟩) hS.2.2 dX12_comes_149
      · refine lv_aload_n hx hb dX12_comes_120 rfl (lv_at hl 1 rfl) ?_
        refine va_get (D := (dC, dI)) (ci := 12) (v := Value.ref m_told) (C := RX12) (T := TX12) (N := 33) hx hb hts inX12 hown hK hP 0 rfl rfl 12 (by decide) (hts _ (gw kw_729 rfl)) (fun _ h9 => h9) rfl dX12_comes_121 ?_
        refine lv_iload_n hx hb dX12_comes_124 rfl (lv_at hl 0 rfl) ?_
        refine lv_iconst (v := 2) hx hb dX12_comes_125 (by decide) ?_
        refine lv_iadd hx hb dX12_comes_126 ?_
        refine lv_topi (fun x_11 e_11 => ?_)
        have h9 : x_11 = nI (3 * scn Lt ee + 2) := by rw [e_11]; exact nI_add (3 * scn Lt ee) 2
        subst h9
        have h_12 : vp_in (nI (3 * scn Lt ee + 2)) 96 := vp_in_nI (by omega) (by omega)
        refine va_iald hx hb hK hP 6 0 rfl rfl h_12 dX12_comes_127 ?_
        refine lv_topi (fun x_13 e_13 => ?_)
        have h9 : x_13 = nI (Lt (lst Lt ee + 3) - 48) := by rw [e_13, nI_clamp (by omega)]; exact htd 2 (by omega)
        subst h9
        refine lv_if_eq (tgt := 148) hx hb dX12_comes_128 (by decide) (fun c_14 => ?_) (fun c_14 => ?_)
        · refine lv_iconst (v := 0) hx hb dX12_comes_148 (by decide) ?_
          have hpd9 := pd_N (cx := [oX12 g0 m_refused m_kind m_figure m_weight m_got m_setting (nI (n + cm Lt ee)) (nI sn) dn m_tape m_letter m_letterAt m_told tp mat stm m_kept him ki crs m_price m_offer m_gets m_yes m_buys m_ends m_carried m_row rm m_keptRow m_likeGets m_likePrice m_ahead, cI aC m_kind 9 kf, cI aC m_figure 9 ff, cI aC m_weight 9 wf, cI aC m_setting 5 stf, cI aC m_letter 32 lf, cI aC m_told 96 tdf]) hP hD [0, 1, 2, 3, 4, 5, 6] (by decide) rfl
          have hP9 := hpd9.1
          have hD9 := hpd9.2
          refine W.widen (k := 0) (n := 0) (by omega) (by omega) ?_
          exact W.zret (v := 0) hx hb hr rfl (fun t ht hW => ⟨⟨0, ((nI (n + cm Lt ee)), kf, ff, wf, stf), rfl, ⟨fun _ => rg_n1 hm9 (fun z => (z_of (rfl : nI (Lt (lst Lt ee + 3) - 48) = _) (dig255 hd3)).1 c_14 z.2.1), fun q => absurd rfl q⟩, by rw [ht]; exact hP9, va_K.moved hW.alike hK, hD9⟩, hS.F ht⟩) hS.2.2 dX12_comes_149
        · refine lv_aload_n hx hb dX12_comes_131 rfl (lv_at hl 1 rfl) ?_
          refine va_get (D := (dC, dI)) (ci := 12) (v := Value.int (nI (n + cm Lt ee))) (C := RX12) (T := TX12) (N := 33) hx hb hts inX12 hown hK hP 0 rfl rfl 6 (by decide) (hts _ (gw kw_723 rfl)) (fun _ h9 => h9) rfl dX12_comes_132 ?_
          refine lv_bipush (v := 8) hx hb dX12_comes_135 (by decide) ?_
          refine lv_icmp_eq (tgt := 148) hx hb dX12_comes_137 (by decide) (fun c_15 => ?_) (fun c_15 => ?_)
          · refine lv_iconst (v := 0) hx hb dX12_comes_148 (by decide) ?_
            have hpd9 := pd_N (cx := [oX12 g0 m_refused m_kind m_figure m_weight m_got m_setting (nI (n + cm Lt ee)) (nI sn) dn m_tape m_letter m_letterAt m_told tp mat stm m_kept him ki crs m_price m_offer m_gets m_yes m_buys m_ends m_carried m_row rm m_keptRow m_likeGets m_likePrice m_ahead, cI aC m_kind 9 kf, cI aC m_figure 9 ff, cI aC m_weight 9 wf, cI aC m_setting 5 stf, cI aC m_letter 32 lf, cI aC m_told 96 tdf]) hP hD [0, 1, 2, 3, 4, 5, 6] (by decide) rfl
            have hP9 := hpd9.1
            have hD9 := hpd9.2
            refine W.widen (k := 0) (n := 0) (by omega) (by omega) ?_
            exact W.zret (v := 0) hx hb hr rfl (fun t ht hW => ⟨⟨0, ((nI (n + cm Lt ee)), kf, ff, wf, stf), rfl, ⟨fun _ => rg_n1 hm9 (fun z => (mt_0 hev.1.1 rfl).1 c_15 (by have := z.2.2.1; rw [hcy] at this; exact this)), fun q => absurd rfl q⟩, by rw [ht]; exact hP9, va_K.moved hW.alike hK, hD9⟩, hS.F ht⟩) hS.2.2 dX12_comes_149
          · refine lv_aload_n hx hb dX12_comes_140 rfl (lv_at hl 1 rfl) ?_
            refine va_get (D := (dC, dI)) (ci := 12) (v := Value.int dn) (C := RX12) (T := TX12) (N := 33) hx hb hts inX12 hown hK hP 0 rfl rfl 8 (by decide) (hts _ (gw kw_725 rfl)) (fun _ h9 => h9) rfl dX12_comes_141 ?_
            refine lv_iconst (v := 1) hx hb dX12_comes_144 (by decide) ?_
            refine lv_icmp_ne (tgt := 150) hx hb dX12_comes_145 (by decide) (fun c_16 => ?_) (fun c_16 => ?_)
            · have hn9 := (mt_0 hev.1.1 rfl).2 c_15
              have hr9 : RGS Lt n dn ee := rg_y1 hm9 ⟨(le_of (b := 6) (rfl : nI (Lt (lst Lt ee + 1) - 48) = _) (dig255 hd1) (by omega)).2 c_10, (z_of (rfl : nI (Lt (lst Lt ee + 3) - 48) = _) (dig255 hd3)).2 c_14, by rw [hcy]; exact hn9, hev.2.2.2.2.resolve_right c_16⟩
              refine lv_aload_n hx hb dX12_comes_150 rfl (lv_at hl 1 rfl) ?_
              refine va_get (D := (dC, dI)) (ci := 12) (v := Value.ref m_kind) (C := RX12) (T := TX12) (N := 33) hx hb hts inX12 hown hK hP 0 rfl rfl 1 (by decide) (hts _ (gw kw_718 rfl)) (fun _ h9 => h9) rfl dX12_comes_151 ?_
              refine lv_aload_n hx hb dX12_comes_154 rfl (lv_at hl 1 rfl) ?_
              refine va_get (D := (dC, dI)) (ci := 12) (v := Value.int (nI (n + cm Lt ee))) (C := RX12) (T := TX12) (N := 33) hx hb hts inX12 hown hK hP 0 rfl rfl 6 (by decide) (hts _ (gw kw_723 rfl)) (fun _ h9 => h9) rfl dX12_comes_155 ?_
              refine lv_aload_n hx hb dX12_comes_158 rfl (lv_at hl 1 rfl) ?_
              refine va_get (D := (dC, dI)) (ci := 12) (v := Value.ref m_told) (C := RX12) (T := TX12) (N := 33) hx hb hts inX12 hown hK hP 0 rfl rfl 12 (by decide) (hts _ (gw kw_729 rfl)) (fun _ h9 => h9) rfl dX12_comes_159 ?_
              refine lv_iload_n hx hb dX12_comes_162 rfl (lv_at hl 0 rfl) ?_
              have h_17 : vp_in (nI (3 * scn Lt ee)) 96 := vp_in_nI (by omega) (by omega)
              refine va_iald hx hb hK hP 6 0 rfl rfl h_17 dX12_comes_163 ?_
              refine lv_topi (fun x_18 e_18 => ?_)
              have h9 : x_18 = nI (Lt (lst Lt ee + 1) - 48) := by rw [e_18, nI_clamp (by omega)]; exact htd 0 (by omega)
              subst h9
              have h_19 : vp_in (nI (n + cm Lt ee)) 9 := vp_in_nI (by omega) (by omega)
              refine va_iast hx hb hK hP hD hS 1 0 rfl rfl h_19 dX12_comes_164 (fun H locs hP hD hS => ?_)
              obtain ⟨f_20, e_f_20⟩ : ∃ y : Nat → Int32, y = upd kf (nI (n + cm Lt ee) : Int32).toNatClampNeg (nI (Lt (lst Lt ee + 1) - 48)) := ⟨_, rfl⟩
              have hpd9 : PDx (dC, dI) classes A H [oX12 g0 m_refused m_kind m_figure m_weight m_got m_setting (nI (n + cm Lt ee)) (nI sn) dn m_tape m_letter m_letterAt m_told tp mat stm m_kept him ki crs m_price m_offer m_gets m_yes m_buys m_ends m_carried m_row rm m_keptRow m_likeGets m_likePrice m_ahead, cI aC m_kind 9 f_20, cI aC m_figure 9 ff, cI aC m_weight 9 wf, cI aC m_setting 5 stf, cI aC m_letter 32 lf, cI aC m_told 96 tdf] := by rw [e_f_20]; exact ⟨hP, hD⟩
              have hP := hpd9.1
              have hD := hpd9.2
              clear hpd9
              refine lv_aload_n hx hb dX12_comes_165 rfl (lv_at hl 1 rfl) ?_
              refine va_get (D := (dC, dI)) (ci := 12) (v := Value.ref m_figure) (C := RX12) (T := TX12) (N := 33) hx hb hts inX12 hown hK hP 0 rfl rfl 2 (by decide) (hts _ (gw kw_719 rfl)) (fun _ h9 => h9) rfl dX12_comes_166 ?_
              refine lv_aload_n hx hb dX12_comes_169 rfl (lv_at hl 1 rfl) ?_
              refine va_get (D := (dC, dI)) (ci := 12) (v := Value.int (nI (n + cm Lt ee))) (C := RX12) (T := TX12) (N := 33) hx hb hts inX12 hown hK hP 0 rfl rfl 6 (by decide) (hts _ (gw kw_723 rfl)) (fun _ h9 => h9) rfl dX12_comes_170 ?_
              refine lv_aload_n hx hb dX12_comes_173 rfl (lv_at hl 1 rfl) ?_
              refine va_get (D := (dC, dI)) (ci := 12) (v := Value.ref m_told) (C := RX12) (T := TX12) (N := 33) hx hb hts inX12 hown hK hP 0 rfl rfl 12 (by decide) (hts _ (gw kw_729 rfl)) (fun _ h9 => h9) rfl dX12_comes_174 ?_
              refine lv_iload_n hx hb dX12_comes_177 rfl (lv_at hl 0 rfl) ?_
              refine lv_iconst (v := 1) hx hb dX12_comes_178 (by decide) ?_
              refine lv_iadd hx hb dX12_comes_179 ?_
              refine lv_topi (fun x_21 e_21 => ?_)
              have h9 : x_21 = nI (3 * scn Lt ee + 1) := by rw [e_21]; exact nI_add (3 * scn Lt ee) 1
              subst h9
              have h_22 : vp_in (nI (3 * scn Lt ee + 1)) 96 := vp_in_nI (by omega) (by omega)
              refine va_iald hx hb hK hP 6 0 rfl rfl h_22 dX12_comes_180 ?_
              refine lv_topi (fun x_23 e_23 => ?_)
              have h9 : x_23 = nI (Lt (lst Lt ee + 2) - 48) := by rw [e_23, nI_clamp (by omega)]; exact htd 1 (by omega)
              subst h9
              have h_24 : vp_in (nI (n + cm Lt ee)) 9 := vp_in_nI (by omega) (by omega)
              refine va_iast hx hb hK hP hD hS 2 0 rfl rfl h_24 dX12_comes_181 (fun H locs hP hD hS => ?_)
              obtain ⟨f_25, e_f_25⟩ : ∃ y : Nat → Int32, y = upd ff (nI (n + cm Lt ee) : Int32).toNatClampNeg (nI (Lt (lst Lt ee + 2) - 48)) := ⟨_, rfl⟩
              have hpd9 : PDx (dC, dI) classes A H [oX12 g0 m_refused m_kind m_figure m_weight m_got m_setting (nI (n + cm Lt ee)) (nI sn) dn m_tape m_letter m_letterAt m_told tp mat stm m_kept him ki crs m_price m_offer m_gets m_yes m_buys m_ends m_carried m_row rm m_keptRow m_likeGets m_likePrice m_ahead, cI aC m_kind 9 f_20, cI aC m_figure 9 f_25, cI aC m_weight 9 wf, cI aC m_setting 5 stf, cI aC m_letter 32 lf, cI aC m_told 96 tdf] := by rw [e_f_25]; exact ⟨hP, hD⟩
              have hP := hpd9.1
              have hD := hpd9.2
              clear hpd9
              refine lv_aload_n hx hb dX12_comes_182 rfl (lv_at hl 1 rfl) ?_
              refine va_get (D := (dC, dI)) (ci := 12) (v := Value.ref m_weight) (C := RX12) (T := TX12) (N := 33) hx hb hts inX12 hown hK hP 0 rfl rfl 3 (by decide) (hts _ (gw kw_720 rfl)) (fun _ h9 => h9) rfl dX12_comes_183 ?_
              refine lv_aload_n hx hb dX12_comes_186 rfl (lv_at hl 1 rfl) ?_
              refine va_get (D := (dC, dI)) (ci := 12) (v := Value.int (nI (n + cm Lt ee))) (C := RX12) (T := TX12) (N := 33) hx hb hts inX12 hown hK hP 0 rfl rfl 6 (by decide) (hts _ (gw kw_723 rfl)) (fun _ h9 => h9) rfl dX12_comes_187 ?_
              refine lv_aload_n hx hb dX12_comes_190 rfl (lv_at hl 1 rfl) ?_
              refine va_get (D := (dC, dI)) (ci := 12) (v := Value.ref m_told) (C := RX12) (T := TX12) (N := 33) hx hb hts inX12 hown hK hP 0 rfl rfl 12 (by decide) (hts _ (gw kw_729 rfl)) (fun _ h9 => h9) rfl dX12_comes_191 ?_
              refine lv_iload_n hx hb dX12_comes_194 rfl (lv_at hl 0 rfl) ?_
              refine lv_iconst (v := 2) hx hb dX12_comes_195 (by decide) ?_
              refine lv_iadd hx hb dX12_comes_196 ?_
              refine lv_topi (fun x_26 e_26 => ?_)
              have h9 : x_26 = nI (3 * scn Lt ee + 2) := by rw [e_26]; exact nI_add (3 * scn Lt ee) 2
              subst h9
              have h_27 : vp_in (nI (3 * scn Lt ee + 2)) 96 := vp_in_nI (by omega) (by omega)
              refine va_iald hx hb hK hP 6 0 rfl rfl h_27 dX12_comes_197 ?_
              refine lv_topi (fun x_28 e_28 => ?_)
              have h9 : x_28 = nI (Lt (lst Lt ee + 3) - 48) := by rw [e_28, nI_clamp (by omega)]; exact htd 2 (by omega)
              subst h9
              have h_29 : vp_in (nI (n + cm Lt ee)) 9 := vp_in_nI (by omega) (by omega)
              refine va_iast hx hb hK hP hD hS 3 0 rfl rfl h_29 dX12_comes_198 (fun H locs hP hD hS => ?_)
              obtain ⟨f_30, e_f_30⟩ : ∃ y : Nat → Int32, y = upd wf (nI (n + cm Lt ee) : Int32).toNatClampNeg (nI (Lt (lst Lt ee + 3) - 48)) := ⟨_, rfl⟩
              have hpd9 : PDx (dC, dI) classes A H [oX12 g0 m_refused m_kind m_figure m_weight m_got m_setting (nI (n + cm Lt ee)) (nI sn) dn m_tape m_letter m_letterAt m_told tp mat stm m_kept him ki crs m_price m_offer m_gets m_yes m_buys m_ends m_carried m_row rm m_keptRow m_likeGets m_likePrice m_ahead, cI aC m_kind 9 f_20, cI aC m_figure 9 f_25, cI aC m_weight 9 f_30, cI aC m_setting 5 stf, cI aC m_letter 32 lf, cI aC m_told 96 tdf] := by rw [e_f_30]; exact ⟨hP, hD⟩
              have hP := hpd9.1
              have hD := hpd9.2
              clear hpd9
              refine lv_aload_n hx hb dX12_comes_199 rfl (lv_at hl 1 rfl) ?_
              refine lv_dup hx hb dX12_comes_200 rfl ?_
              refine va_get (D := (dC, dI)) (ci := 12) (v := Value.int (nI (n + cm Lt ee))) (C := RX12) (T := TX12) (N := 33) hx hb hts inX12 hown hK hP 0 rfl rfl 6 (by decide) (hts _ (gw kw_723 rfl)) (fun _ h9 => h9) rfl dX12_comes_201 ?_
              refine lv_iconst (v := 1) hx hb dX12_comes_204 (by decide) ?_
              refine lv_iadd hx hb dX12_comes_205 ?_
              refine lv_topi (fun x_31 e_31 => ?_)
              refine va_put (D := (dC, dI)) (ci := 12) (v := Value.int x_31) (ty := .int) (C := RX12) (T := TX12) (N := 33) hx hb hts inX12 tyX12 tyX12_ok nmX12 hown hK hP hD hS 0 rfl rfl 6 (by decide) (hts _ (gw kw_723 rfl)) (fun _ h9 => h9) rfl (by decide +kernel) rfl rfl (Nat.le_of_ble_eq_true rfl) dX12_comes_206 (fun H locs hP hD hS => ?_)
              have hpd9 : PDx (dC, dI) classes A H [oX12 g0 m_refused m_kind m_figure m_weight m_got m_setting x_31 (nI sn) dn m_tape m_letter m_letterAt m_told tp mat stm m_kept him ki crs m_price m_offer m_gets m_yes m_buys m_ends m_carried m_row rm m_keptRow m_likeGets m_likePrice m_ahead, cI aC m_kind 9 f_20, cI aC m_figure 9 f_25, cI aC m_weight 9 f_30, cI aC m_setting 5 stf, cI aC m_letter 32 lf, cI aC m_told 96 tdf] := ⟨hP, hD⟩
              have hP := hpd9.1
              have hD := hpd9.2
              clear hpd9
              have h9 : x_31 = nI (n + cm Lt ee + 1) := by rw [e_31, nI_1]
              subst h9
              refine lv_iconst (v := 1) hx hb dX12_comes_209 (by decide) ?_
              have hpd9 := pd_N (cx := [oX12 g0 m_refused m_kind m_figure m_weight m_got m_setting (nI (n + cm Lt ee + 1)) (nI sn) dn m_tape m_letter m_letterAt m_told tp mat stm m_kept him ki crs m_price m_offer m_gets m_yes m_buys m_ends m_carried m_row rm m_keptRow m_likeGets m_likePrice m_ahead, cI aC m_kind 9 f_20, cI aC m_figure 9 f_25, cI aC m_weight 9 f_30, cI aC m_setting 5 stf, cI aC m_letter 32 lf, cI aC m_told 96 tdf]) hP hD [0, 1, 2, 3, 4, 5, 6] (by decide) rfl
              have hP9 := hpd9.1
              have hD9 := hpd9.2
              refine W.widen (k := 0) (n := 0) (by omega) (by omega) ?_
              exact W.zret (v := 1) hx hb hr rfl (fun t ht hW => ⟨⟨1, ((nI (n + cm Lt ee + 1)), f_20, f_25, f_30, stf), rfl, ⟨fun q => absurd q (by decide), fun _ => ⟨hr9, by rw [hcy]; rfl, EVT_m hev hsem hm9 hst hr9 (by rw [e_f_20, nI_clamp (by omega)]) (by rw [e_f_25, nI_clamp (by omega)]) (by rw [e_f_30, nI_clamp (by omega)])⟩⟩, by rw [ht]; exact hP9, va_K.moved hW.alike hK, hD9⟩, hS.F ht⟩) hS.2.2 dX12_comes_210
            · refine lv_iconst (v := 0) hx hb dX12_comes_148 (by decide) ?_
              have hpd9 := pd_N (cx := [oX12 g0 m_refused m_kind m_figure m_weight m_got m_setting (nI (n + cm Lt ee)) (nI sn) dn m_tape m_letter m_letterAt m_told tp mat stm m_kept him ki crs m_price m_offer m_gets m_yes m_buys m_ends m_carried m_row rm m_keptRow m_likeGets m_likePrice m_ahead, cI aC m_kind 9 kf, cI aC m_figure 9 ff, cI aC m_weight 9 wf, cI aC m_setting 5 stf, cI aC m_letter 32 lf, cI aC m_told 96 tdf]) hP hD [0, 1, 2, 3, 4, 5, 6] (by decide) rfl
              have hP9 := hpd9.1
              have hD9 := hpd9.2
              refine W.widen (k := 0) (n := 0) (by omega) (by omega) ?_
              exact W.zret (v := 0) hx hb hr rfl (fun t ht hW => ⟨⟨0, ((nI (n + cm Lt ee)), kf, ff, wf, stf), rfl, ⟨fun _ => rg_n1 hm9 (fun z => absurd (z.2.2.2.symm.trans c_16) (by decide)), fun q => absurd rfl q⟩, by rw [ht]; exact hP9, va_K.moved hW.alike hK, hD9⟩, hS.F ht⟩) hS.2.2 dX12_comes_149
    · have hm8 : Lt (lst Lt ee) = 108 := (nI_b0 (k := 108) hsl (by omega)).mp c_7
      obtain ⟨he4, hd1, hd2, hd3⟩ := STM_d hst (Or.inr hm8)
      have htd := htl.1 (Or.inr hm8)
      refine lv_iconst (v := 0) hx hb dX12_comes_40 (by decide) ?_
      refine lv_istore_n (lv' := [(3, Value.int 0), (2, Value.int (nI (3 * scn Lt ee))), (0, Value.ref g0), (1, Value.int (nI (scn Lt ee)))]) hx hb dX12_comes_41 rfl hl (by decide) rfl (fun ls hl => ?_)
      refine lv_iload_n hx hb dX12_comes_42 rfl (lv_at hl 0 rfl) ?_
      refine lv_iconst (v := 3) hx hb dX12_comes_43 (by decide) ?_
      refine lv_icmp_ge (tgt := 69) hx hb dX12_comes_44 (by decide) (fun c_32 => ?_) (fun c_32 => ?_)
      · exact absurd c_32 (by decide)
      · refine lv_aload_n hx hb dX12_comes_47 rfl (lv_at hl 2 rfl) ?_
        refine va_get (D := (dC, dI)) (ci := 12) (v := Value.ref m_setting) (C := RX12) (T := TX12) (N := 33) hx hb hts inX12 hown hK hP 0 rfl rfl 5 (by decide) (hts _ (gw kw_722 rfl)) (fun _ h9 => h9) rfl dX12_comes_48 ?_
        refine lv_iconst (v := 1) hx hb dX12_comes_51 (by decide) ?_
        refine lv_iload_n hx hb dX12_comes_52 rfl (lv_at hl 0 rfl) ?_
        refine lv_iadd hx hb dX12_comes_53 ?_
        refine lv_topi (fun x_33 e_33 => ?_)
        have h9 : x_33 = 1 := by rw [e_33]; rfl
        subst h9
        refine lv_aload_n hx hb dX12_comes_54 rfl (lv_at hl 2 rfl) ?_
        refine va_get (D := (dC, dI)) (ci := 12) (v := Value.ref m_told) (C := RX12) (T := TX12) (N := 33) hx hb hts inX12 hown hK hP 0 rfl rfl 12 (by decide) (hts _ (gw kw_729 rfl)) (fun _ h9 => h9) rfl dX12_comes_55 ?_
        refine lv_iload_n hx hb dX12_comes_58 rfl (lv_at hl 1 rfl) ?_
        refine lv_iload_n hx hb dX12_comes_59 rfl (lv_at hl 0 rfl) ?_
        refine lv_iadd hx hb dX12_comes_60 ?_
        refine lv_topi (fun x_34 e_34 => ?_)
        have h9 : x_34 = nI (3 * scn Lt ee + 0) := by rw [e_34]; exact nI_add (3 * scn Lt ee) 0
        subst h9
        have h_35 : vp_in (nI (3 * scn Lt ee + 0)) 96 := vp_in_nI (by omega) (by omega)
        refine va_iald hx hb hK hP 6 0 rfl rfl h_35 dX12_comes_61 ?_
        refine lv_topi (fun x_36 e_36 => ?_)
        have h9 : x_36 = nI (Lt (lst Lt ee + 1) - 48) := by rw [e_36, nI_clamp (by omega)]; exact htd 0 (by omega)
        subst h9
        have h_37 : vp_in 1 5 := by unfold vp_in; decide
        refine va_iast hx hb hK hP hD hS 4 0 rfl rfl h_37 dX12_comes_62 (fun H locs hP hD hS => ?_)
        obtain ⟨f_38, e_f_38⟩ : ∃ y : Nat → Int32, y = upd stf (1 : Int32).toNatClampNeg (nI (Lt (lst Lt ee + 1) - 48)) := ⟨_, rfl⟩
        have hpd9 : PDx (dC, dI) classes A H [oX12 g0 m_refused m_kind m_figure m_weight m_got m_setting (nI (n + cm Lt ee)) (nI sn) dn m_tape m_letter m_letterAt m_told tp mat stm m_kept him ki crs m_price m_offer m_gets m_yes m_buys m_ends m_carried m_row rm m_keptRow m_likeGets m_likePrice m_ahead, cI aC m_kind 9 kf, cI aC m_figure 9 ff, cI aC m_weight 9 wf, cI aC m_setting 5 f_38, cI aC m_letter 32 lf, cI aC m_told 96 tdf] := by rw [e_f_38]; exact ⟨hP, hD⟩
        have hP := hpd9.1
        have hD := hpd9.2
        clear hpd9
        obtain ⟨x_39, e_39⟩ : ∃ y : Int32, y = 0 + 1 := ⟨_, rfl⟩
        refine lv_iinc (v := x_39) (lv' := [(3, Value.int x_39), (2, Value.int (nI (3 * scn Lt ee))), (0, Value.ref g0), (1, Value.int (nI (scn Lt ee)))]) hx hb dX12_comes_63 hl (k := 0) rfl (by rw [e_39]; rfl) (by decide) rfl (fun ls hl => ?_)
        have h9 : x_39 = 1 := by rw [e_39]; rfl
        subst h9
        refine lv_goto (tgt := 42) hx hb dX12_comes_66 (by decide) ?_
        refine lv_iload_n hx hb dX12_comes_42 rfl (lv_at hl 0 rfl) ?_
        refine lv_iconst (v := 3) hx hb dX12_comes_43 (by decide) ?_
        refine lv_icmp_ge (tgt := 69) hx hb dX12_comes_44 (by decide) (fun c_40 => ?_) (fun c_40 => ?_)
        · exact absurd c_40 (by decide)
        · refine lv_aload_n hx hb dX12_comes_47 rfl (lv_at hl 2 rfl) ?_
          refine va_get (D := (dC, dI)) (ci := 12) (v := Value.ref m_setting) (C := RX12) (T := TX12) (N := 33) hx hb hts inX12 hown hK hP 0 rfl rfl 5 (by decide) (hts _ (gw kw_722 rfl)) (fun _ h9 => h9) rfl dX12_comes_48 ?_
          refine lv_iconst (v := 1) hx hb dX12_comes_51 (by decide) ?_
          refine lv_iload_n hx hb dX12_comes_52 rfl (lv_at hl 0 rfl) ?_
          refine lv_iadd hx hb dX12_comes_53 ?_
          refine lv_topi (fun x_41 e_41 => ?_)
          have h9 : x_41 = 2 := by rw [e_41]; rfl
          subst h9
          refine lv_aload_n hx hb dX12_comes_54 rfl (lv_at hl 2 rfl) ?_
          refine va_get (D := (dC, dI)) (ci := 12) (v := Value.ref m_told) (C := RX12) (T := TX12) (N := 33) hx hb hts inX12 hown hK hP 0 rfl rfl 12 (by decide) (hts _ (gw kw_729 rfl)) (fun _ h9 => h9) rfl dX12_comes_55 ?_
          refine lv_iload_n hx hb dX12_comes_58 rfl (lv_at hl 1 rfl) ?_
          refine lv_iload_n hx hb dX12_comes_59 rfl (lv_at hl 0 rfl) ?_
          refine lv_iadd hx hb dX12_comes_60 ?_
          refine lv_topi (fun x_42 e_42 => ?_)
          have h9 : x_42 = nI (3 * scn Lt ee + 1) := by rw [e_42]; exact nI_add (3 * scn Lt ee) 1
          subst h9
          have h_43 : vp_in (nI (3 * scn Lt ee + 1)) 96 := vp_in_nI (by omega) (by omega)
          refine va_iald hx hb hK hP 6 0 rfl rfl h_43 dX12_comes_61 ?_
          refine lv_topi (fun x_44 e_44 => ?_)
          have h9 : x_44 = nI (Lt (lst Lt ee + 2) - 48) := by rw [e_44, nI_clamp (by omega)]; exact htd 1 (by omega)
          subst h9
          have h_45 : vp_in 2 5 := by unfold vp_in; decide
          refine va_iast hx hb hK hP hD hS 4 0 rfl rfl h_45 dX12_comes_62 (fun H locs hP hD hS => ?_)
          obtain ⟨f_46, e_f_46⟩ : ∃ y : Nat → Int32, y = upd f_38 (2 : Int32).toNatClampNeg (nI (Lt (lst Lt ee + 2) - 48)) := ⟨_, rfl⟩
          have hpd9 : PDx (dC, dI) classes A H [oX12 g0 m_refused m_kind m_figure m_weight m_got m_setting (nI (n + cm Lt ee)) (nI sn) dn m_tape m_letter m_letterAt m_told tp mat stm m_kept him ki crs m_price m_offer m_gets m_yes m_buys m_ends m_carried m_row rm m_keptRow m_likeGets m_likePrice m_ahead, cI aC m_kind 9 kf, cI aC m_figure 9 ff, cI aC m_weight 9 wf, cI aC m_setting 5 f_46, cI aC m_letter 32 lf, cI aC m_told 96 tdf] := by rw [e_f_46]; exact ⟨hP, hD⟩
          have hP := hpd9.1
          have hD := hpd9.2
          clear hpd9
          obtain ⟨x_47, e_47⟩ : ∃ y : Int32, y = 1 + 1 := ⟨_, rfl⟩
          refine lv_iinc (v := x_47) (lv' := [(3, Value.int x_47), (2, Value.int (nI (3 * scn Lt ee))), (0, Value.ref g0), (1, Value.int (nI (scn Lt ee)))]) hx hb dX12_comes_63 hl (k := 0) rfl (by rw [e_47]; rfl) (by decide) rfl (fun ls hl => ?_)
          have h9 : x_47 = 2 := by rw [e_47]; rfl
          subst h9
          refine lv_goto (tgt := 42) hx hb dX12_comes_66 (by decide) ?_
          refine lv_iload_n hx hb dX12_comes_42 rfl (lv_at hl 0 rfl) ?_
          refine lv_iconst (v := 3) hx hb dX12_comes_43 (by decide) ?_
          refine lv_icmp_ge (tgt := 69) hx hb dX12_comes_44 (by decide) (fun c_48 => ?_) (fun c_48 => ?_)
          · exact absurd c_48 (by decide)
          · refine lv_aload_n hx hb dX12_comes_47 rfl (lv_at hl 2 rfl) ?_
            refine va_get (D := (dC, dI)) (ci := 12) (v := Value.ref m_setting) (C := RX12) (T := TX12) (N := 33) hx hb hts inX12 hown hK hP 0 rfl rfl 5 (by decide) (hts _ (gw kw_722 rfl)) (fun _ h9 => h9) rfl dX12_comes_48 ?_
            refine lv_iconst (v := 1) hx hb dX12_comes_51 (by decide) ?_
            refine lv_iload_n hx hb dX12_comes_52 rfl (lv_at hl 0 rfl) ?_
            refine lv_iadd hx hb dX12_comes_53 ?_
            refine lv_topi (fun x_49 e_49 => ?_)
            have h9 : x_49 = 3 := by rw [e_49]; rfl
            subst h9
            refine lv_aload_n hx hb dX12_comes_54 rfl (lv_at hl 2 rfl) ?_
            refine va_get (D := (dC, dI)) (ci := 12) (v := Value.ref m_told) (C := RX12) (T := TX12) (N := 33) hx hb hts inX12 hown hK hP 0 rfl rfl 12 (by decide) (hts _ (gw kw_729 rfl)) (fun _ h9 => h9) rfl dX12_comes_55 ?_
            refine lv_iload_n hx hb dX12_comes_58 rfl (lv_at hl 1 rfl) ?_
            refine lv_iload_n hx hb dX12_comes_59 rfl (lv_at hl 0 rfl) ?_
            refine lv_iadd hx hb dX12_comes_60 ?_
            refine lv_topi (fun x_50 e_50 => ?_)
            have h9 : x_50 = nI (3 * scn Lt ee + 2) := by rw [e_50]; exact nI_add (3 * scn Lt ee) 2
            subst h9
            have h_51 : vp_in (nI (3 * scn Lt ee + 2)) 96 := vp_in_nI (by omega) (by omega)
            refine va_iald hx hb hK hP 6 0 rfl rfl h_51 dX12_comes_61 ?_
            refine lv_topi (fun x_52 e_52 => ?_)
            have h9 : x_52 = nI (Lt (lst Lt ee + 3) - 48) := by rw [e_52, nI_clamp (by omega)]; exact htd 2 (by omega)
            subst h9
            have h_53 : vp_in 3 5 := by unfold vp_in; decide
            refine va_iast hx hb hK hP hD hS 4 0 rfl rfl h_53 dX12_comes_62 (fun H locs hP hD hS => ?_)
            obtain ⟨f_54, e_f_54⟩ : ∃ y : Nat → Int32, y = upd f_46 (3 : Int32).toNatClampNeg (nI (Lt (lst Lt ee + 3) - 48)) := ⟨_, rfl⟩
            have hpd9 : PDx (dC, dI) classes A H [oX12 g0 m_refused m_kind m_figure m_weight m_got m_setting (nI (n + cm Lt ee)) (nI sn) dn m_tape m_letter m_letterAt m_told tp mat stm m_kept him ki crs m_price m_offer m_gets m_yes m_buys m_ends m_carried m_row rm m_keptRow m_likeGets m_likePrice m_ahead, cI aC m_kind 9 kf, cI aC m_figure 9 ff, cI aC m_weight 9 wf, cI aC m_setting 5 f_54, cI aC m_letter 32 lf, cI aC m_told 96 tdf] := by rw [e_f_54]; exact ⟨hP, hD⟩
            have hP := hpd9.1
            have hD := hpd9.2
            clear hpd9
            obtain ⟨x_55, e_55⟩ : ∃ y : Int32, y = 2 + 1 := ⟨_, rfl⟩
            refine lv_iinc (v := x_55) (lv' := [(3, Value.int x_55), (2, Value.int (nI (3 * scn Lt ee))), (0, Value.ref g0), (1, Value.int (nI (scn Lt ee)))]) hx hb dX12_comes_63 hl (k := 0) rfl (by rw [e_55]; rfl) (by decide) rfl (fun ls hl => ?_)
            have h9 : x_55 = 3 := by rw [e_55]; rfl
            subst h9
            refine lv_goto (tgt := 42) hx hb dX12_comes_66 (by decide) ?_
            refine lv_iload_n hx hb dX12_comes_42 rfl (lv_at hl 0 rfl) ?_
            refine lv_iconst (v := 3) hx hb dX12_comes_43 (by decide) ?_
            refine lv_icmp_ge (tgt := 69) hx hb dX12_comes_44 (by decide) (fun c_56 => ?_) (fun c_56 => ?_)
            · refine lv_aload_n hx hb dX12_comes_69 rfl (lv_at hl 2 rfl) ?_
              refine va_get (D := (dC, dI)) (ci := 12) (v := Value.ref m_told) (C := RX12) (T := TX12) (N := 33) hx hb hts inX12 hown hK hP 0 rfl rfl 12 (by decide) (hts _ (gw kw_729 rfl)) (fun _ h9 => h9) rfl dX12_comes_70 ?_
              refine lv_iload_n hx hb dX12_comes_73 rfl (lv_at hl 1 rfl) ?_
              have h_57 : vp_in (nI (3 * scn Lt ee)) 96 := vp_in_nI (by omega) (by omega)
              refine va_iald hx hb hK hP 6 0 rfl rfl h_57 dX12_comes_74 ?_
              refine lv_topi (fun x_58 e_58 => ?_)
              have h9 : x_58 = nI (Lt (lst Lt ee + 1) - 48) := by rw [e_58, nI_clamp (by omega)]; exact htd 0 (by omega)
              subst h9
              refine lv_iconst (v := 3) hx hb dX12_comes_75 (by decide) ?_
              refine lv_icmp_ge (tgt := 107) hx hb dX12_comes_76 (by decide) (fun c_59 => ?_) (fun c_59 => ?_)
              · refine lv_iconst (v := 0) hx hb dX12_comes_107 (by decide) ?_
                have hpd9 := pd_N (cx := [oX12 g0 m_refused m_kind m_figure m_weight m_got m_setting (nI (n + cm Lt ee)) (nI sn) dn m_tape m_letter m_letterAt m_told tp mat stm m_kept him ki crs m_price m_offer m_gets m_yes m_buys m_ends m_carried m_row rm m_keptRow m_likeGets m_likePrice m_ahead, cI aC m_kind 9 kf, cI aC m_figure 9 ff, cI aC m_weight 9 wf, cI aC m_setting 5 f_54, cI aC m_letter 32 lf, cI aC m_told 96 tdf]) hP hD [0, 1, 2, 3, 4, 5, 6] (by decide) rfl
                have hP9 := hpd9.1
                have hD9 := hpd9.2
                refine W.widen (k := 0) (n := 0) (by omega) (by omega) ?_
                exact W.zret (v := 0) hx hb hr rfl (fun t ht hW => ⟨⟨0, ((nI (n + cm Lt ee)), kf, ff, wf, f_54), rfl, ⟨fun _ => rg_n2 hm8 (fun z => (lt_of9 (b := 2) (rfl : nI (Lt (lst Lt ee + 1) - 48) = _) (dig255 hd1) (by omega)).1 c_59 z.1), fun q => absurd rfl q⟩, by rw [ht]; exact hP9, va_K.moved hW.alike hK, hD9⟩, hS.F ht⟩) hS.2.2 dX12_comes_108
              · refine lv_aload_n hx hb dX12_comes_79 rfl (lv_at hl 2 rfl) ?_
                refine va_get (D := (dC, dI)) (ci := 12) (v := Value.ref m_told) (C := RX12) (T := TX12) (N := 33) hx hb hts inX12 hown hK hP 0 rfl rfl 12 (by decide) (hts _ (gw kw_729 rfl)) (fun _ h9 => h9) rfl dX12_comes_80 ?_
                refine lv_iload_n hx hb dX12_comes_83 rfl (lv_at hl 1 rfl) ?_
                refine lv_iconst (v := 1) hx hb dX12_comes_84 (by decide) ?_
                refine lv_iadd hx hb dX12_comes_85 ?_
                refine lv_topi (fun x_60 e_60 => ?_)
                have h9 : x_60 = nI (3 * scn Lt ee + 1) := by rw [e_60]; exact nI_add (3 * scn Lt ee) 1
                subst h9
                have h_61 : vp_in (nI (3 * scn Lt ee + 1)) 96 := vp_in_nI (by omega) (by omega)
                refine va_iald hx hb hK hP 6 0 rfl rfl h_61 dX12_comes_86 ?_
                refine lv_topi (fun x_62 e_62 => ?_)
                have h9 : x_62 = nI (Lt (lst Lt ee + 2) - 48) := by rw [e_62, nI_clamp (by omega)]; exact htd 1 (by omega)
                subst h9
                refine lv_iconst (v := 2) hx hb dX12_comes_87 (by decide) ?_
                refine lv_icmp_ge (tgt := 107) hx hb dX12_comes_88 (by decide) (fun c_63 => ?_) (fun c_63 => ?_)
                · refine lv_iconst (v := 0) hx hb dX12_comes_107 (by decide) ?_
                  have hpd9 := pd_N (cx := [oX12 g0 m_refused m_kind m_figure m_weight m_got m_setting (nI (n + cm Lt ee)) (nI sn) dn m_tape m_letter m_letterAt m_told tp mat stm m_kept him ki crs m_price m_offer m_gets m_yes m_buys m_ends m_carried m_row rm m_keptRow m_likeGets m_likePrice m_ahead, cI aC m_kind 9 kf, cI aC m_figure 9 ff, cI aC m_weight 9 wf, cI aC m_setting 5 f_54, cI aC m_letter 32 lf, cI aC m_told 96 tdf]) hP hD [0, 1, 2, 3, 4, 5, 6] (by decide) rfl
                  have hP9 := hpd9.1
                  have hD9 := hpd9.2
                  refine W.widen (k := 0) (n := 0) (by omega) (by omega) ?_
                  exact W.zret (v := 0) hx hb hr rfl (fun t ht hW => ⟨⟨0, ((nI (n + cm Lt ee)), kf, ff, wf, f_54), rfl, ⟨fun _ => rg_n2 hm8 (fun z => (lt_of9 (b := 1) (rfl : nI (Lt (lst Lt ee + 2) - 48) = _) (dig255 hd2) (by omega)).1 c_63 z.2.1), fun q => absurd rfl q⟩, by rw [ht]; exact hP9, va_K.moved hW.alike hK, hD9⟩, hS.F ht⟩) hS.2.2 dX12_comes_108
                · refine lv_aload_n hx hb dX12_comes_91 rfl (lv_at hl 2 rfl) ?_
                  refine va_get (D := (dC, dI)) (ci := 12) (v := Value.ref m_told) (C := RX12) (T := TX12) (N := 33) hx hb hts inX12 hown hK hP 0 rfl rfl 12 (by decide) (hts _ (gw kw_729 rfl)) (fun _ h9 => h9) rfl dX12_comes_92 ?_
                  refine lv_iload_n hx hb dX12_comes_95 rfl (lv_at hl 1 rfl) ?_
                  refine lv_iconst (v := 2) hx hb dX12_comes_96 (by decide) ?_
                  refine lv_iadd hx hb dX12_comes_97 ?_
                  refine lv_topi (fun x_64 e_64 => ?_)
                  have h9 : x_64 = nI (3 * scn Lt ee + 2) := by rw [e_64]; exact nI_add (3 * scn Lt ee) 2
                  subst h9
                  have h_65 : vp_in (nI (3 * scn Lt ee + 2)) 96 := vp_in_nI (by omega) (by omega)
                  refine va_iald hx hb hK hP 6 0 rfl rfl h_65 dX12_comes_98 ?_
                  refine lv_topi (fun x_66 e_66 => ?_)
                  have h9 : x_66 = nI (Lt (lst Lt ee + 3) - 48) := by rw [e_66, nI_clamp (by omega)]; exact htd 2 (by omega)
                  subst h9
                  refine lv_iconst (v := 2) hx hb dX12_comes_99 (by decide) ?_
                  refine lv_icmp_ge (tgt := 107) hx hb dX12_comes_100 (by decide) (fun c_67 => ?_) (fun c_67 => ?_)
                  · refine lv_iconst (v := 0) hx hb dX12_comes_107 (by decide) ?_
                    have hpd9 := pd_N (cx := [oX12 g0 m_refused m_kind m_figure m_weight m_got m_setting (nI (n + cm Lt ee)) (nI sn) dn m_tape m_letter m_letterAt m_told tp mat stm m_kept him ki crs m_price m_offer m_gets m_yes m_buys m_ends m_carried m_row rm m_keptRow m_likeGets m_likePrice m_ahead, cI aC m_kind 9 kf, cI aC m_figure 9 ff, cI aC m_weight 9 wf, cI aC m_setting 5 f_54, cI aC m_letter 32 lf, cI aC m_told 96 tdf]) hP hD [0, 1, 2, 3, 4, 5, 6] (by decide) rfl
                    have hP9 := hpd9.1
                    have hD9 := hpd9.2
                    refine W.widen (k := 0) (n := 0) (by omega) (by omega) ?_
                    exact W.zret (v := 0) hx hb hr rfl (fun t ht hW => ⟨⟨0, ((nI (n + cm Lt ee)), kf, ff, wf, f_54), rfl, ⟨fun _ => rg_n2 hm8 (fun z => (lt_of9 (b := 1) (rfl : nI (Lt (lst Lt ee + 3) - 48) = _) (dig255 hd3) (by omega)).1 c_67 z.2.2), fun q => absurd rfl q⟩, by rw [ht]; exact hP9, va_K.moved hW.alike hK, hD9⟩, hS.F ht⟩) hS.2.2 dX12_comes_108
                  · have hr9 : RGS Lt n dn ee := rg_y2 hm8 ⟨(lt_of9 (b := 2) (rfl : nI (Lt (lst Lt ee + 1) - 48) = _) (dig255 hd1) (by omega)).2 c_59, (lt_of9 (b := 1) (rfl : nI (Lt (lst Lt ee + 2) - 48) = _) (dig255 hd2) (by omega)).2 c_63, (lt_of9 (b := 1) (rfl : nI (Lt (lst Lt ee + 3) - 48) = _) (dig255 hd3) (by omega)).2 c_67⟩
                    have hsg9 : f_54 = upd (upd (upd stf 1 (nI (Lt (lst Lt ee + 1) - 48))) 2 (nI (Lt (lst Lt ee + 2) - 48))) 3 (nI (Lt (lst Lt ee + 3) - 48)) := by rw [e_f_54, e_f_46, e_f_38]; rfl
                    refine lv_iconst (v := 1) hx hb dX12_comes_103 (by decide) ?_
                    refine lv_goto (tgt := 108) hx hb dX12_comes_104 (by decide) ?_
                    have hpd9 := pd_N (cx := [oX12 g0 m_refused m_kind m_figure m_weight m_got m_setting (nI (n + cm Lt ee)) (nI sn) dn m_tape m_letter m_letterAt m_told tp mat stm m_kept him ki crs m_price m_offer m_gets m_yes m_buys m_ends m_carried m_row rm m_keptRow m_likeGets m_likePrice m_ahead, cI aC m_kind 9 kf, cI aC m_figure 9 ff, cI aC m_weight 9 wf, cI aC m_setting 5 f_54, cI aC m_letter 32 lf, cI aC m_told 96 tdf]) hP hD [0, 1, 2, 3, 4, 5, 6] (by decide) rfl
                    have hP9 := hpd9.1
                    have hD9 := hpd9.2
                    refine W.widen (k := 0) (n := 0) (by omega) (by omega) ?_
                    exact W.zret (v := 1) hx hb hr rfl (fun t ht hW => ⟨⟨1, ((nI (n + cm Lt ee)), kf, ff, wf, f_54), rfl, ⟨fun q => absurd q (by decide), fun _ => ⟨hr9, by rw [cm_no (by omega)], EVT_l hev hsem hm8 hr9 hsg9⟩⟩, by rw [ht]; exact hP9, va_K.moved hW.alike hK, hD9⟩, hS.F ht⟩) hS.2.2 dX12_comes_108
            · exact absurd (by decide) c_56
  · have hmc : Lt (lst Lt ee) = 99 := (nI_b0 (k := 99) hsl (by omega)).mp c_4
    refine lv_aload_n hx hb dX12_comes_15 rfl (lv_at hl 1 rfl) ?_
    refine va_get (D := (dC, dI)) (ci := 12) (v := Value.ref m_setting) (C := RX12) (T := TX12) (N := 33) hx hb hts inX12 hown hK hP 0 rfl rfl 5 (by decide) (hts _ (gw kw_722 rfl)) (fun _ h9 => h9) rfl dX12_comes_16 ?_
    refine lv_iconst (v := 0) hx hb dX12_comes_19 (by decide) ?_
    refine lv_aload_n hx hb dX12_comes_20 rfl (lv_at hl 1 rfl) ?_
    refine va_get (D := (dC, dI)) (ci := 12) (v := Value.ref m_told) (C := RX12) (T := TX12) (N := 33) hx hb hts inX12 hown hK hP 0 rfl rfl 12 (by decide) (hts _ (gw kw_729 rfl)) (fun _ h9 => h9) rfl dX12_comes_21 ?_
    refine lv_iload_n hx hb dX12_comes_24 rfl (lv_at hl 0 rfl) ?_
    have h_68 : vp_in (nI (3 * scn Lt ee)) 96 := vp_in_nI (by omega) (by omega)
    refine va_iald hx hb hK hP 6 0 rfl rfl h_68 dX12_comes_25 ?_
    refine lv_topi (fun x_69 e_69 => ?_)
    have h9 : x_69 = nI (lC Lt (lst Lt ee) ee) := by rw [e_69, nI_clamp (by omega)]; exact htl.2 hmc
    subst h9
    have h_70 : vp_in 0 5 := by unfold vp_in; decide
    refine va_iast hx hb hK hP hD hS 4 0 rfl rfl h_70 dX12_comes_26 (fun H locs hP hD hS => ?_)
    obtain ⟨f_71, e_f_71⟩ : ∃ y : Nat → Int32, y = upd stf (0 : Int32).toNatClampNeg (nI (lC Lt (lst Lt ee) ee)) := ⟨_, rfl⟩
    have hpd9 : PDx (dC, dI) classes A H [oX12 g0 m_refused m_kind m_figure m_weight m_got m_setting (nI (n + cm Lt ee)) (nI sn) dn m_tape m_letter m_letterAt m_told tp mat stm m_kept him ki crs m_price m_offer m_gets m_yes m_buys m_ends m_carried m_row rm m_keptRow m_likeGets m_likePrice m_ahead, cI aC m_kind 9 kf, cI aC m_figure 9 ff, cI aC m_weight 9 wf, cI aC m_setting 5 f_71, cI aC m_letter 32 lf, cI aC m_told 96 tdf] := by rw [e_f_71]; exact ⟨hP, hD⟩
    have hP := hpd9.1
    have hD := hpd9.2
    clear hpd9
    refine lv_iconst (v := 1) hx hb dX12_comes_27 (by decide) ?_
    have hpd9 := pd_N (cx := [oX12 g0 m_refused m_kind m_figure m_weight m_got m_setting (nI (n + cm Lt ee)) (nI sn) dn m_tape m_letter m_letterAt m_told tp mat stm m_kept him ki crs m_price m_offer m_gets m_yes m_buys m_ends m_carried m_row rm m_keptRow m_likeGets m_likePrice m_ahead, cI aC m_kind 9 kf, cI aC m_figure 9 ff, cI aC m_weight 9 wf, cI aC m_setting 5 f_71, cI aC m_letter 32 lf, cI aC m_told 96 tdf]) hP hD [0, 1, 2, 3, 4, 5, 6] (by decide) rfl
    have hP9 := hpd9.1
    have hD9 := hpd9.2
    refine W.widen (k := 0) (n := 0) (by omega) (by omega) ?_
    exact W.zret (v := 1) hx hb hr rfl (fun t ht hW => ⟨⟨1, ((nI (n + cm Lt ee)), kf, ff, wf, f_71), rfl, ⟨fun q => absurd q (by decide), fun _ => ⟨rg_y3 (by omega) (by omega), by rw [cm_no (by omega)], EVT_c hev hsem hmc hst (by rw [e_f_71]; rfl)⟩⟩, by rw [ht]; exact hP9, va_K.moved hW.alike hK, hD9⟩, hS.F ht⟩) hS.2.2 dX12_comes_28

set_option maxHeartbeats 1000000 in
set_option maxRecDepth 100000 in
/-- X12_feed -/
theorem c_X12_feed (l : Launch) (dC : Nat → ClassId) (dI : Nat → Nat → Nat) (aC : Nat → ClassId) (sz : Nat) (g0 : Nat) (m_refused : Nat) (m_kind : Nat) (m_figure : Nat) (m_weight : Nat) (m_got : Nat) (m_setting : Nat) (m_tape : Nat) (m_letter : Nat) (m_letterAt : Nat) (m_told : Nat) (m_kept : Nat) (m_price : Nat) (m_offer : Nat) (m_gets : Nat) (m_yes : Nat) (m_buys : Nat) (m_ends : Nat) (m_carried : Nat) (m_row : Nat) (m_keptRow : Nat) (m_likeGets : Nat) (m_likePrice : Nat) (m_ahead : Nat) (men : Int32) (msy : Int32) (mdn : Int32) (mat : Int32) (stm : Int32) (him : Int32) (ki : Int32) (crs : Int32) (rm : Int32) (lz : Nat) (Lt : Nat → Nat) (tpf : Nat → Int32) (mr : Nat → Int32) (v : Int32) (hlt0 : LTR lz Lt tpf) : Met l yX12_feed (wW yX12_feed cX12_feed 3 (some .int)) ({ frames := 1, cells := 0, slots := 0, locals := 22 } : Room) (va_Pc [Value.ref g0, Value.int v] (fun U => U.heap.size = sz ∧ va_P (dC, dI) classes [oX12 g0 m_refused m_kind m_figure m_weight m_got m_setting men msy mdn m_tape m_letter m_letterAt m_told (nI lz) mat stm m_kept him ki crs m_price m_offer m_gets m_yes m_buys m_ends m_carried m_row rm m_keptRow m_likeGets m_likePrice m_ahead, cI aC m_tape 64 tpf, cI aC m_refused 7 mr] U.heap ∧ va_K (dC, dI) classes (TY aC) U ∧ va_D (fun _ => True) [oX12 g0 m_refused m_kind m_figure m_weight m_got m_setting men msy mdn m_tape m_letter m_letterAt m_told (nI lz) mat stm m_kept him ki crs m_price m_offer m_gets m_yes m_buys m_ends m_carried m_row rm m_keptRow m_likeGets m_likePrice m_ahead, cI aC m_tape 64 tpf, cI aC m_refused 7 mr] ∧ NX U)) (va_Qi (fun (r : Int32) (u : Int32 × (Nat → Int32) × (Nat → Int32)) => match u with | (tz2, tp2, mr2) => r = feR lz v ∧ tz2 = nI (feZ lz v) ∧ LTR (feZ lz v) (feL Lt lz v) tp2) (fun (u : Int32 × (Nat → Int32) × (Nat → Int32)) (t : State) => match u with | (tz2, tp2, mr2) => va_P (dC, dI) classes [oX12 g0 m_refused m_kind m_figure m_weight m_got m_setting men msy mdn m_tape m_letter m_letterAt m_told tz2 mat stm m_kept him ki crs m_price m_offer m_gets m_yes m_buys m_ends m_carried m_row rm m_keptRow m_likeGets m_likePrice m_ahead, cI aC m_tape 64 tp2, cI aC m_refused 7 mr2] t.heap ∧ va_K (dC, dI) classes (TY aC) t ∧ va_D (va_A [oX12 g0 m_refused m_kind m_figure m_weight m_got m_setting men msy mdn m_tape m_letter m_letterAt m_told (nI lz) mat stm m_kept him ki crs m_price m_offer m_gets m_yes m_buys m_ends m_carried m_row rm m_keptRow m_likeGets m_likePrice m_ahead, cI aC m_tape 64 tpf, cI aC m_refused 7 mr] sz) [oX12 g0 m_refused m_kind m_figure m_weight m_got m_setting men msy mdn m_tape m_letter m_letterAt m_told tz2 mat stm m_kept him ki crs m_price m_offer m_gets m_yes m_buys m_ends m_carried m_row rm m_keptRow m_likeGets m_likePrice m_ahead, cI aC m_tape 64 tp2, cI aC m_refused 7 mr2]) (va_A [oX12 g0 m_refused m_kind m_figure m_weight m_got m_setting men msy mdn m_tape m_letter m_letterAt m_told (nI lz) mat stm m_kept him ki crs m_price m_offer m_gets m_yes m_buys m_ends m_carried m_row rm m_keptRow m_likeGets m_likePrice m_ahead, cI aC m_tape 64 tpf, cI aC m_refused 7 mr] sz)) 0 0 (va_A [oX12 g0 m_refused m_kind m_figure m_weight m_got m_setting men msy mdn m_tape m_letter m_letterAt m_told (nI lz) mat stm m_kept him ki crs m_price m_offer m_gets m_yes m_buys m_ends m_carried m_row rm m_keptRow m_likeGets m_likePrice m_ahead, cI aC m_tape 64 tpf, cI aC m_refused 7 mr] sz) := by
  refine Met.ofW (cc := cX12_feed) (maxL := 3) (ret := (some .int)) (by decide) rfl ?_
  intro p e s m args below meth c s₁ B hml hv
  obtain ⟨rfl, hsz, hP, hK, hD0, hN⟩ := hv
  have hx := B.exec
  have hb := B.bytes
  have hr := B.returns
  have hts0 := atoms_spec (ws := (wW yX12_feed cX12_feed 3 (some .int))) B.pre
  have hts : ∀ w9 ∈ lw_G, w9.before ([Value.ref g0, Value.int v] : List Value).toArray s = true := fun w9 h9 => hts0 w9 (List.mem_cons_of_mem _ h9)
  have hown : s.vm.findClass RX12 = some m.cls := findClass_of_methodNamed (x := yX12_feed) B.named
  have hlocks := B.notSynchronized
  subst hsz
  have hD := hD0.self (sz := s.heap.size)
  generalize hAe : va_A [oX12 g0 m_refused m_kind m_figure m_weight m_got m_setting men msy mdn m_tape m_letter m_letterAt m_told (nI lz) mat stm m_kept him ki crs m_price m_offer m_gets m_yes m_buys m_ends m_carried m_row rm m_keptRow m_likeGets m_likePrice m_ahead, cI aC m_tape 64 tpf, cI aC m_refused 7 mr] s.heap.size = A at hD ⊢
  have hA : ∀ q : Nat, s.heap.size ≤ q → A q := fun q h => by rw [← hAe]; exact Or.inr h
  obtain ⟨H, hHe⟩ : ∃ H : Heap, H = s.heap := ⟨_, rfl⟩
  have hS : va_S A s.heap H [] := by rw [hHe]; exact va_S.rf
  have hP : va_P (dC, dI) classes [oX12 g0 m_refused m_kind m_figure m_weight m_got m_setting men msy mdn m_tape m_letter m_letterAt m_told (nI lz) mat stm m_kept him ki crs m_price m_offer m_gets m_yes m_buys m_ends m_carried m_row rm m_keptRow m_likeGets m_likePrice m_ahead, cI aC m_tape 64 tpf, cI aC m_refused 7 mr] H := by rw [hHe]; exact hP
  have hl := lv_entry ([Value.ref g0, Value.int v]) (n := 3) (Nat.le_of_ble_eq_true rfl)
  rw [lg_entry_eq]
  generalize (lg_sl ([Value.ref g0, Value.int v]) ++ List.replicate (3 - (lg_sl ([Value.ref g0, Value.int v])).length) Slot.unset).toArray = ls at hl ⊢
  have hl : lv_has ls 3 [(0, Value.ref g0), (1, Value.int v)] := hl
  rw [← hHe]
  have hz6 := hlt0.1
  refine lv_iload_n hx hb dX12_feed_0 rfl (lv_at hl 1 rfl) ?_
  refine lv_iconst (v := 0) hx hb dX12_feed_1 (by decide) ?_
  refine lv_sipush (v := 255) hx hb dX12_feed_2 (by decide) ?_
  have hpd9 := pdf_N (cx := []) hP hD hS hA [] (by decide) rfl
  have hPc := hpd9.1
  have hDc := hpd9.2.1
  have hFc := hpd9.2.2
  clear hpd9
  refine va_calli (va_runS (As := [Value.int v, Value.int 0, Value.int 255]) (rest := []) ⟨hx, hb, hml, hown, hts⟩ (c_X12_bound l dC dI aC H.size v 0 255 ) ⟨(callB_of 3 hts (gG kw_823) rfl rfl rfl (hts _ (gw kw_13 rfl)) (hts _ (gw kw_821 rfl)) hd_X12_bound ⟨Nat.le_of_ble_eq_true rfl, Nat.le_of_ble_eq_true rfl⟩), (hts _ (gw kw_822 rfl))⟩ ⟨fb_std, pre_std hPc hK hDc hN⟩ rfl rfl hl.1 rfl (lv_room (Nat.le_of_ble_eq_true rfl)) dX12_feed_5 ⟨Nat.le_of_ble_eq_true rfl, Nat.le_of_ble_eq_true rfl⟩) hS (fun q _ h => hFc q h) hFc (fun x_1 u9 t9 H1 locs ht hvm hw_1 hB hz1 hk1 hS => ?_)
  obtain ⟨hP1, hK1, hD1⟩ := hB
  rw [ht] at hP1
  clear hK1
  try dsimp only at hw_1
  have hpd9 : PDx (dC, dI) classes A H1 [oX12 g0 m_refused m_kind m_figure m_weight m_got m_setting men msy mdn m_tape m_letter m_letterAt m_told (nI lz) mat stm m_kept him ki crs m_price m_offer m_gets m_yes m_buys m_ends m_carried m_row rm m_keptRow m_likeGets m_likePrice m_ahead, cI aC m_tape 64 tpf, cI aC m_refused 7 mr] := jn_N (wr := [oX12 g0 m_refused m_kind m_figure m_weight m_got m_setting men msy mdn m_tape m_letter m_letterAt m_told (nI lz) mat stm m_kept him ki crs m_price m_offer m_gets m_yes m_buys m_ends m_carried m_row rm m_keptRow m_likeGets m_likePrice m_ahead, cI aC m_tape 64 tpf, cI aC m_refused 7 mr]) hFc hk1 hP1 hD1 hP hD [] [0, 1, 2] rfl rfl (by decide) (by decide)
  have hP := hpd9.1
  have hD := hpd9.2
  clear hpd9
  generalize H1 = H at hP hS ⊢
  clear hPc hDc hFc hz1 hk1 hP1 hD1 ht hvm
  have hz_5 := hw_1
  refine lv_istore_n (lv' := [(2, Value.int x_1), (0, Value.ref g0), (1, Value.int v)]) hx hb dX12_feed_8 rfl hl (by decide) rfl (fun ls hl => ?_)
  refine lv_iload_n hx hb dX12_feed_9 rfl (lv_at hl 0 rfl) ?_
  refine lv_if_ne (tgt := 25) hx hb dX12_feed_10 (by decide) (fun c_2 => ?_) (fun c_2 => ?_)
  · refine lv_iload_n hx hb dX12_feed_25 rfl (lv_at hl 0 rfl) ?_
    refine lv_if_eq (tgt := 35) hx hb dX12_feed_26 (by decide) (fun c_3 => ?_) (fun c_3 => ?_)
    · exact absurd c_3 c_2
    · refine lv_aload_n hx hb dX12_feed_29 rfl (lv_at hl 1 rfl) ?_
      refine lv_iload_n hx hb dX12_feed_30 rfl (lv_at hl 0 rfl) ?_
      have hpd9 := pdf_N (cx := [oX12 g0 m_refused m_kind m_figure m_weight m_got m_setting men msy mdn m_tape m_letter m_letterAt m_told (nI lz) mat stm m_kept him ki crs m_price m_offer m_gets m_yes m_buys m_ends m_carried m_row rm m_keptRow m_likeGets m_likePrice m_ahead, cI aC m_refused 7 mr]) hP hD hS hA [0, 2] (by decide) rfl
      have hPc := hpd9.1
      have hDc := hpd9.2.1
      have hFc := hpd9.2.2
      clear hpd9
      refine va_calli (va_runV (As := [Value.int x_1]) (rest := []) ⟨hx, hb, hml, hown, hts⟩ (c_X12_no l dC dI aC H.size g0 m_refused m_kind m_figure m_weight m_got m_setting m_tape m_letter m_letterAt m_told m_kept m_price m_offer m_gets m_yes m_buys m_ends m_carried m_row m_keptRow m_likeGets m_likePrice m_ahead men msy mdn (nI lz) mat stm him ki crs rm x_1 ((-(x_1) : Int32).toNatClampNeg) mr (rfl) (by rcases bnd_n hz_5 c_2 with ⟨q1, q2⟩ | ⟨q1, q2, q3⟩ <;> first | (rw [q2]; unfold vp_in; decide) | (rw [q3]; unfold vp_in; decide))) ⟨(callB_of 1 hts (gG kw_827) rfl rfl rfl (hts _ (gw kw_13 rfl)) (hts _ (gw kw_824 rfl)) hd_X12_no ⟨Nat.le_of_ble_eq_true rfl, Nat.le_of_ble_eq_true rfl⟩), (hts _ (gw kw_826 rfl)), (hts _ (gw ks_35 rfl))⟩ ⟨fb_std, va_recv (q := (RX12, TX12, 33)) hK hPc (ci := 12) (q0 := 0) rfl rfl, pre_std hPc hK hDc hN⟩ rfl rfl hl.1 rfl (lv_room (Nat.le_of_ble_eq_true rfl)) dX12_feed_31 ⟨Nat.le_of_ble_eq_true rfl, Nat.le_of_ble_eq_true rfl⟩) hS (fun q _ h => hFc q h) hFc (fun x_4 u9 t9 H1 locs ht hvm hw_4 hB hz1 hk1 hS => ?_)
      obtain ⟨u_5, rfl⟩ : ∃ z, z = u9 := ⟨_, rfl⟩
      obtain ⟨hP1, hK1, hD1⟩ := hB
      rw [ht] at hP1
      clear hK1
      try dsimp only at hw_4
      have hpd9 : PDx (dC, dI) classes A H1 [cI aC m_tape 64 tpf, oX12 g0 m_refused m_kind m_figure m_weight m_got m_setting men msy mdn m_tape m_letter m_letterAt m_told (nI lz) mat stm m_kept him ki crs m_price m_offer m_gets m_yes m_buys m_ends m_carried m_row rm m_keptRow m_likeGets m_likePrice m_ahead, cI aC m_refused 7 u_5] := jn_N (wr := [cI aC m_tape 64 tpf]) hFc hk1 hP1 hD1 hP hD [0, 2] [1] rfl rfl (by decide) (by decide)
      have hP := hpd9.1
      have hD := hpd9.2
      clear hpd9
      generalize H1 = H at hP hS ⊢
      clear hPc hDc hFc hz1 hk1 hP1 hD1 ht hvm
      obtain ⟨hv9, -⟩ := hw_4
      have hpd9 := pd_N (cx := [oX12 g0 m_refused m_kind m_figure m_weight m_got m_setting men msy mdn m_tape m_letter m_letterAt m_told (nI lz) mat stm m_kept him ki crs m_price m_offer m_gets m_yes m_buys m_ends m_carried m_row rm m_keptRow m_likeGets m_likePrice m_ahead, cI aC m_tape 64 tpf, cI aC m_refused 7 u_5]) hP hD [1, 0, 2] (by decide) rfl
      have hP9 := hpd9.1
      have hD9 := hpd9.2
      refine W.widen (k := 0) (n := 0) (by omega) (by omega) ?_
      exact W.iret (v := x_4) hx hb hr (fun t ht hW => ⟨⟨x_4, ((nI lz), tpf, u_5), rfl, by rcases bnd_n hz_5 c_2 with ⟨q1, q2⟩ | ⟨q1, q2, q3⟩ <;> first | exact ⟨by rw [hv9, q2]; unfold feR; rw [if_pos q1], by rw [(LTR_no (v := v) hlt0 (fun q => q.1 q1)).1], (LTR_no hlt0 (fun q => q.1 q1)).2⟩ | exact ⟨by rw [hv9, q3]; unfold feR; rw [if_neg q1, if_pos q2], by rw [(LTR_no (v := v) hlt0 (fun q => q.2.1 q2)).1], (LTR_no hlt0 (fun q => q.2.1 q2)).2⟩, by rw [ht]; exact hP9, va_K.moved hW.alike hK, hD9⟩, hS.F ht⟩) hS.2.2 dX12_feed_34
  · refine lv_aload_n hx hb dX12_feed_13 rfl (lv_at hl 1 rfl) ?_
    refine va_get (D := (dC, dI)) (ci := 12) (v := Value.int (nI lz)) (C := RX12) (T := TX12) (N := 33) hx hb hts inX12 hown hK hP 0 rfl rfl 13 (by decide) (hts _ (gw kw_730 rfl)) (fun _ h9 => h9) rfl dX12_feed_14 ?_
    refine lv_bipush (v := 64) hx hb dX12_feed_17 (by decide) ?_
    refine lv_icmp_ne (tgt := 25) hx hb dX12_feed_19 (by decide) (fun c_6 => ?_) (fun c_6 => ?_)
    · refine lv_iload_n hx hb dX12_feed_25 rfl (lv_at hl 0 rfl) ?_
      refine lv_if_eq (tgt := 35) hx hb dX12_feed_26 (by decide) (fun c_7 => ?_) (fun c_7 => ?_)
      · have hb9 := bnd_0 hz_5 c_2
        have hfa : feA lz v := ⟨hb9.1, hb9.2, by have : lz ≠ 64 := fun q => c_6 (by rw [q]; rfl); have := hlt0.1; omega⟩
        refine lv_aload_n hx hb dX12_feed_35 rfl (lv_at hl 1 rfl) ?_
        refine va_get (D := (dC, dI)) (ci := 12) (v := Value.ref m_tape) (C := RX12) (T := TX12) (N := 33) hx hb hts inX12 hown hK hP 0 rfl rfl 9 (by decide) (hts _ (gw kw_726 rfl)) (fun _ h9 => h9) rfl dX12_feed_36 ?_
        refine lv_aload_n hx hb dX12_feed_39 rfl (lv_at hl 1 rfl) ?_
        refine va_get (D := (dC, dI)) (ci := 12) (v := Value.int (nI lz)) (C := RX12) (T := TX12) (N := 33) hx hb hts inX12 hown hK hP 0 rfl rfl 13 (by decide) (hts _ (gw kw_730 rfl)) (fun _ h9 => h9) rfl dX12_feed_40 ?_
        refine lv_iload_n hx hb dX12_feed_43 rfl (lv_at hl 2 rfl) ?_
        have h_8 : vp_in (nI lz) 64 := vp_in_nI (by have := hfa.2.2; omega) (by omega)
        refine va_iast hx hb hK hP hD hS 1 0 rfl rfl h_8 dX12_feed_44 (fun H locs hP hD hS => ?_)
        obtain ⟨f_9, e_f_9⟩ : ∃ y : Nat → Int32, y = upd tpf (nI lz : Int32).toNatClampNeg v := ⟨_, rfl⟩
        have hpd9 : PDx (dC, dI) classes A H [oX12 g0 m_refused m_kind m_figure m_weight m_got m_setting men msy mdn m_tape m_letter m_letterAt m_told (nI lz) mat stm m_kept him ki crs m_price m_offer m_gets m_yes m_buys m_ends m_carried m_row rm m_keptRow m_likeGets m_likePrice m_ahead, cI aC m_tape 64 f_9, cI aC m_refused 7 mr] := by rw [e_f_9]; exact ⟨hP, hD⟩
        have hP := hpd9.1
        have hD := hpd9.2
        clear hpd9
        refine lv_aload_n hx hb dX12_feed_45 rfl (lv_at hl 1 rfl) ?_
        refine lv_dup hx hb dX12_feed_46 rfl ?_
        refine va_get (D := (dC, dI)) (ci := 12) (v := Value.int (nI lz)) (C := RX12) (T := TX12) (N := 33) hx hb hts inX12 hown hK hP 0 rfl rfl 13 (by decide) (hts _ (gw kw_730 rfl)) (fun _ h9 => h9) rfl dX12_feed_47 ?_
        refine lv_iconst (v := 1) hx hb dX12_feed_50 (by decide) ?_
        refine lv_iadd hx hb dX12_feed_51 ?_
        refine lv_topi (fun x_10 e_10 => ?_)
        refine va_put (D := (dC, dI)) (ci := 12) (v := Value.int x_10) (ty := .int) (C := RX12) (T := TX12) (N := 33) hx hb hts inX12 tyX12 tyX12_ok nmX12 hown hK hP hD hS 0 rfl rfl 13 (by decide) (hts _ (gw kw_730 rfl)) (fun _ h9 => h9) rfl (by decide +kernel) rfl rfl (Nat.le_of_ble_eq_true rfl) dX12_feed_52 (fun H locs hP hD hS => ?_)
        have hpd9 : PDx (dC, dI) classes A H [oX12 g0 m_refused m_kind m_figure m_weight m_got m_setting men msy mdn m_tape m_letter m_letterAt m_told x_10 mat stm m_kept him ki crs m_price m_offer m_gets m_yes m_buys m_ends m_carried m_row rm m_keptRow m_likeGets m_likePrice m_ahead, cI aC m_tape 64 f_9, cI aC m_refused 7 mr] := ⟨hP, hD⟩
        have hP := hpd9.1
        have hD := hpd9.2
        clear hpd9
        have h9 : x_10 = nI (lz + 1) := by rw [e_10, nI_1]
        subst h9
        refine lv_aload_n hx hb dX12_feed_55 rfl (lv_at hl 1 rfl) ?_
        refine va_get (D := (dC, dI)) (ci := 12) (v := Value.int (nI (lz + 1))) (C := RX12) (T := TX12) (N := 33) hx hb hts inX12 hown hK hP 0 rfl rfl 13 (by decide) (hts _ (gw kw_730 rfl)) (fun _ h9 => h9) rfl dX12_feed_56 ?_
        have hpd9 := pd_N (cx := [oX12 g0 m_refused m_kind m_figure m_weight m_got m_setting men msy mdn m_tape m_letter m_letterAt m_told (nI (lz + 1)) mat stm m_kept him ki crs m_price m_offer m_gets m_yes m_buys m_ends m_carried m_row rm m_keptRow m_likeGets m_likePrice m_ahead, cI aC m_tape 64 f_9, cI aC m_refused 7 mr]) hP hD [0, 1, 2] (by decide) rfl
        have hP9 := hpd9.1
        have hD9 := hpd9.2
        refine W.widen (k := 0) (n := 0) (by omega) (by omega) ?_
        exact W.iret (v := nI (lz + 1)) hx hb hr (fun t ht hW => ⟨⟨(nI (lz + 1)), ((nI (lz + 1)), f_9, mr), rfl, ⟨by rw [(LTR_y (L := Lt) hlt0 hfa rfl).2.2], by rw [(LTR_y (L := Lt) hlt0 hfa rfl).1], (LTR_y hlt0 hfa (by rw [e_f_9, nI_clamp (by omega)])).2.1⟩, by rw [ht]; exact hP9, va_K.moved hW.alike hK, hD9⟩, hS.F ht⟩) hS.2.2 dX12_feed_59
      · exact absurd c_2 c_7
    · refine lv_bipush (v := -6) hx hb dX12_feed_22 (by decide) ?_
      refine lv_istore_n (lv' := [(2, Value.int (-6)), (0, Value.ref g0), (1, Value.int v)]) hx hb dX12_feed_24 rfl hl (by decide) rfl (fun ls hl => ?_)
      refine lv_iload_n hx hb dX12_feed_25 rfl (lv_at hl 0 rfl) ?_
      refine lv_if_eq (tgt := 35) hx hb dX12_feed_26 (by decide) (fun c_11 => ?_) (fun c_11 => ?_)
      · exact absurd c_11 (by decide)
      · refine lv_aload_n hx hb dX12_feed_29 rfl (lv_at hl 1 rfl) ?_
        refine lv_iload_n hx hb dX12_feed_30 rfl (lv_at hl 0 rfl) ?_
        have hpd9 := pdf_N (cx := [oX12 g0 m_refused m_kind m_figure m_weight m_got m_setting men msy mdn m_tape m_letter m_letterAt m_told (nI lz) mat stm m_kept him ki crs m_price m_offer m_gets m_yes m_buys m_ends m_carried m_row rm m_keptRow m_likeGets m_likePrice m_ahead, cI aC m_refused 7 mr]) hP hD hS hA [0, 2] (by decide) rfl
        have hPc := hpd9.1
        have hDc := hpd9.2.1
        have hFc := hpd9.2.2
        clear hpd9
        refine va_calli (va_runV (As := [Value.int (-6)]) (rest := []) ⟨hx, hb, hml, hown, hts⟩ (c_X12_no l dC dI aC H.size g0 m_refused m_kind m_figure m_weight m_got m_setting m_tape m_letter m_letterAt m_told m_kept m_price m_offer m_gets m_yes m_buys m_ends m_carried m_row m_keptRow m_likeGets m_likePrice m_ahead men msy mdn (nI lz) mat stm him ki crs rm (-6) ((-(-6) : Int32).toNatClampNeg) mr (rfl) (by unfold vp_in; decide)) ⟨(callB_of 1 hts (gG kw_827) rfl rfl rfl (hts _ (gw kw_13 rfl)) (hts _ (gw kw_824 rfl)) hd_X12_no ⟨Nat.le_of_ble_eq_true rfl, Nat.le_of_ble_eq_true rfl⟩), (hts _ (gw kw_826 rfl)), (hts _ (gw ks_35 rfl))⟩ ⟨fb_std, va_recv (q := (RX12, TX12, 33)) hK hPc (ci := 12) (q0 := 0) rfl rfl, pre_std hPc hK hDc hN⟩ rfl rfl hl.1 rfl (lv_room (Nat.le_of_ble_eq_true rfl)) dX12_feed_31 ⟨Nat.le_of_ble_eq_true rfl, Nat.le_of_ble_eq_true rfl⟩) hS (fun q _ h => hFc q h) hFc (fun x_12 u9 t9 H1 locs ht hvm hw_12 hB hz1 hk1 hS => ?_)
        obtain ⟨u_13, rfl⟩ : ∃ z, z = u9 := ⟨_, rfl⟩
        obtain ⟨hP1, hK1, hD1⟩ := hB
        rw [ht] at hP1
        clear hK1
        try dsimp only at hw_12
        have hpd9 : PDx (dC, dI) classes A H1 [cI aC m_tape 64 tpf, oX12 g0 m_refused m_kind m_figure m_weight m_got m_setting men msy mdn m_tape m_letter m_letterAt m_told (nI lz) mat stm m_kept him ki crs m_price m_offer m_gets m_yes m_buys m_ends m_carried m_row rm m_keptRow m_likeGets m_likePrice m_ahead, cI aC m_refused 7 u_13] := jn_N (wr := [cI aC m_tape 64 tpf]) hFc hk1 hP1 hD1 hP hD [0, 2] [1] rfl rfl (by decide) (by decide)
        have hP := hpd9.1
        have hD := hpd9.2
        clear hpd9
        generalize H1 = H at hP hS ⊢
        clear hPc hDc hFc hz1 hk1 hP1 hD1 ht hvm
        obtain ⟨hv9, -⟩ := hw_12
        have hpd9 := pd_N (cx := [oX12 g0 m_refused m_kind m_figure m_weight m_got m_setting men msy mdn m_tape m_letter m_letterAt m_told (nI lz) mat stm m_kept him ki crs m_price m_offer m_gets m_yes m_buys m_ends m_carried m_row rm m_keptRow m_likeGets m_likePrice m_ahead, cI aC m_tape 64 tpf, cI aC m_refused 7 u_13]) hP hD [1, 0, 2] (by decide) rfl
        have hP9 := hpd9.1
        have hD9 := hpd9.2
        refine W.widen (k := 0) (n := 0) (by omega) (by omega) ?_
        exact W.iret (v := x_12) hx hb hr (fun t ht hW => ⟨⟨x_12, ((nI lz), tpf, u_13), rfl, by have h64 : 64 ≤ lz := (by have := (nI_eq (a := lz) (b := 64) (by have := hlt0.1; omega) (by omega)).mp c_6; omega); exact ⟨by rw [hv9]; unfold feR; rw [if_neg (bnd_0 hz_5 c_2).1, if_neg (bnd_0 hz_5 c_2).2, if_pos h64], by rw [(LTR_no (v := v) hlt0 (fun q => absurd q.2.2 (by omega))).1], (LTR_no hlt0 (fun q => absurd q.2.2 (by omega))).2⟩, by rw [ht]; exact hP9, va_K.moved hW.alike hK, hD9⟩, hS.F ht⟩) hS.2.2 dX12_feed_34

end

section
/-! 88.refl5 -/
def bm (x : Int32) (d : Nat) : Nat := if x = 0 then 0 else d + 1
theorem bm_0 {x : Int32} {d : Nat} (h : x = 0) : bm x d = 0 := if_pos h
theorem bm_1 {x : Int32} {d : Nat} (h : ¬ x = 0) : bm x d = d + 1 := if_neg h

set_option maxHeartbeats 1000000 in
set_option maxRecDepth 100000 in
/-- X12_beach -/
theorem c_X12_beach (l : Launch) (dC : Nat → ClassId) (dI : Nat → Nat → Nat) (aC : Nat → ClassId) (sz : Nat) (g0 : Nat) (m_refused : Nat) (m_kind : Nat) (m_figure : Nat) (m_weight : Nat) (m_got : Nat) (m_setting : Nat) (m_tape : Nat) (m_letter : Nat) (m_letterAt : Nat) (m_told : Nat) (m_kept : Nat) (m_price : Nat) (m_offer : Nat) (m_gets : Nat) (m_yes : Nat) (m_buys : Nat) (m_ends : Nat) (m_carried : Nat) (m_row : Nat) (m_keptRow : Nat) (m_likeGets : Nat) (m_likePrice : Nat) (m_ahead : Nat) (mat : Int32) (stm : Int32) (him : Int32) (ki : Int32) (crs : Int32) (rm : Int32) (n : Nat) (sn : Nat) (dn : Int32) (lz : Nat) (Lt : Nat → Nat) (tpf : Nat → Int32) (K : Nat → Nat) (F : Nat → Nat) (W0 : Nat → Nat) (S5 : Nat → Nat) (kf : Nat → Int32) (ff : Nat → Int32) (wf : Nat → Int32) (pf : Nat → Int32) (stf : Nat → Int32) (kp : Nat → Int32) (lf : Nat → Int32) (laf : Nat → Int32) (tdf : Nat → Int32) (hlt0 : LTR lz Lt tpf) (hev : EVS n sn dn K F W0 S5 kf ff wf stf) : Met l yX12_beach (wW yX12_beach cX12_beach 3 (some .int)) ({ frames := 3, cells := 0, slots := 0, locals := 69 } : Room) (va_Pc [Value.ref g0] (fun U => U.heap.size = sz ∧ va_P (dC, dI) classes [oX12 g0 m_refused m_kind m_figure m_weight m_got m_setting (nI n) (nI sn) dn m_tape m_letter m_letterAt m_told (nI lz) mat stm m_kept him ki crs m_price m_offer m_gets m_yes m_buys m_ends m_carried m_row rm m_keptRow m_likeGets m_likePrice m_ahead, cI aC m_tape 64 tpf, cI aC m_letter 32 lf, cI aC m_letterAt 32 laf, cI aC m_told 96 tdf, cI aC m_kept 100 kp, cI aC m_kind 9 kf, cI aC m_figure 9 ff, cI aC m_weight 9 wf, cI aC m_got 8 pf, cI aC m_setting 5 stf] U.heap ∧ va_K (dC, dI) classes (TY aC) U ∧ va_D (fun _ => True) [oX12 g0 m_refused m_kind m_figure m_weight m_got m_setting (nI n) (nI sn) dn m_tape m_letter m_letterAt m_told (nI lz) mat stm m_kept him ki crs m_price m_offer m_gets m_yes m_buys m_ends m_carried m_row rm m_keptRow m_likeGets m_likePrice m_ahead, cI aC m_tape 64 tpf, cI aC m_letter 32 lf, cI aC m_letterAt 32 laf, cI aC m_told 96 tdf, cI aC m_kept 100 kp, cI aC m_kind 9 kf, cI aC m_figure 9 ff, cI aC m_weight 9 wf, cI aC m_got 8 pf, cI aC m_setting 5 stf] ∧ NX U)) (va_Qi (fun (r : Int32) (u : Int32 × Int32 × Int32 × Int32 × Int32 × (Nat → Int32) × (Nat → Int32) × (Nat → Int32) × (Nat → Int32) × (Nat → Int32) × (Nat → Int32) × (Nat → Int32) × (Nat → Int32) × (Nat → Int32)) => match u with | (men2, at2, stm2, ki2, cu2, kf2, ff2, wf2, pf2, stf2, kq, lf2, laf2, td2) => r = bcR Lt lz n dn ∧ men2 = nI (bcN Lt lz n dn) ∧ EVS (bcN Lt lz n dn) sn dn (bcM Lt lz n dn 1 K) (bcM Lt lz n dn 2 F) (bcM Lt lz n dn 3 W0) (bcS Lt lz n dn S5) kf2 ff2 wf2 stf2 ∧ (∀ j, j < 8 → pf2 j = pf j) ∧ ∀ q, q < 50 → kq q = kp q) (fun (u : Int32 × Int32 × Int32 × Int32 × Int32 × (Nat → Int32) × (Nat → Int32) × (Nat → Int32) × (Nat → Int32) × (Nat → Int32) × (Nat → Int32) × (Nat → Int32) × (Nat → Int32) × (Nat → Int32)) (t : State) => match u with | (men2, at2, stm2, ki2, cu2, kf2, ff2, wf2, pf2, stf2, kq, lf2, laf2, td2) => va_P (dC, dI) classes [oX12 g0 m_refused m_kind m_figure m_weight m_got m_setting men2 (nI sn) dn m_tape m_letter m_letterAt m_told 0 at2 stm2 m_kept him ki2 cu2 m_price m_offer m_gets m_yes m_buys m_ends m_carried m_row rm m_keptRow m_likeGets m_likePrice m_ahead, cI aC m_tape 64 tpf, cI aC m_letter 32 lf2, cI aC m_letterAt 32 laf2, cI aC m_told 96 td2, cI aC m_kept 100 kq, cI aC m_kind 9 kf2, cI aC m_figure 9 ff2, cI aC m_weight 9 wf2, cI aC m_got 8 pf2, cI aC m_setting 5 stf2] t.heap ∧ va_K (dC, dI) classes (TY aC) t ∧ va_D (va_A [oX12 g0 m_refused m_kind m_figure m_weight m_got m_setting (nI n) (nI sn) dn m_tape m_letter m_letterAt m_told (nI lz) mat stm m_kept him ki crs m_price m_offer m_gets m_yes m_buys m_ends m_carried m_row rm m_keptRow m_likeGets m_likePrice m_ahead, cI aC m_tape 64 tpf, cI aC m_letter 32 lf, cI aC m_letterAt 32 laf, cI aC m_told 96 tdf, cI aC m_kept 100 kp, cI aC m_kind 9 kf, cI aC m_figure 9 ff, cI aC m_weight 9 wf, cI aC m_got 8 pf, cI aC m_setting 5 stf] sz) [oX12 g0 m_refused m_kind m_figure m_weight m_got m_setting men2 (nI sn) dn m_tape m_letter m_letterAt m_told 0 at2 stm2 m_kept him ki2 cu2 m_price m_offer m_gets m_yes m_buys m_ends m_carried m_row rm m_keptRow m_likeGets m_likePrice m_ahead, cI aC m_tape 64 tpf, cI aC m_letter 32 lf2, cI aC m_letterAt 32 laf2, cI aC m_told 96 td2, cI aC m_kept 100 kq, cI aC m_kind 9 kf2, cI aC m_figure 9 ff2, cI aC m_weight 9 wf2, cI aC m_got 8 pf2, cI aC m_setting 5 stf2]) (va_A [oX12 g0 m_refused m_kind m_figure m_weight m_got m_setting (nI n) (nI sn) dn m_tape m_letter m_letterAt m_told (nI lz) mat stm m_kept him ki crs m_price m_offer m_gets m_yes m_buys m_ends m_carried m_row rm m_keptRow m_likeGets m_likePrice m_ahead, cI aC m_tape 64 tpf, cI aC m_letter 32 lf, cI aC m_letterAt 32 laf, cI aC m_told 96 tdf, cI aC m_kept 100 kp, cI aC m_kind 9 kf, cI aC m_figure 9 ff, cI aC m_weight 9 wf, cI aC m_got 8 pf, cI aC m_setting 5 stf] sz)) 0 0 (va_A [oX12 g0 m_refused m_kind m_figure m_weight m_got m_setting (nI n) (nI sn) dn m_tape m_letter m_letterAt m_told (nI lz) mat stm m_kept him ki crs m_price m_offer m_gets m_yes m_buys m_ends m_carried m_row rm m_keptRow m_likeGets m_likePrice m_ahead, cI aC m_tape 64 tpf, cI aC m_letter 32 lf, cI aC m_letterAt 32 laf, cI aC m_told 96 tdf, cI aC m_kept 100 kp, cI aC m_kind 9 kf, cI aC m_figure 9 ff, cI aC m_weight 9 wf, cI aC m_got 8 pf, cI aC m_setting 5 stf] sz) := by
  refine Met.ofW (cc := cX12_beach) (maxL := 3) (ret := (some .int)) (by decide) rfl ?_
  intro p e s m args below meth c s₁ B hml hv
  obtain ⟨rfl, hsz, hP, hK, hD0, hN⟩ := hv
  have hx := B.exec
  have hb := B.bytes
  have hr := B.returns
  have hts0 := atoms_spec (ws := (wW yX12_beach cX12_beach 3 (some .int))) B.pre
  have hts : ∀ w9 ∈ lw_G, w9.before ([Value.ref g0] : List Value).toArray s = true := fun w9 h9 => hts0 w9 (List.mem_cons_of_mem _ h9)
  have hown : s.vm.findClass RX12 = some m.cls := findClass_of_methodNamed (x := yX12_beach) B.named
  have hlocks := B.notSynchronized
  subst hsz
  have hD := hD0.self (sz := s.heap.size)
  generalize hAe : va_A [oX12 g0 m_refused m_kind m_figure m_weight m_got m_setting (nI n) (nI sn) dn m_tape m_letter m_letterAt m_told (nI lz) mat stm m_kept him ki crs m_price m_offer m_gets m_yes m_buys m_ends m_carried m_row rm m_keptRow m_likeGets m_likePrice m_ahead, cI aC m_tape 64 tpf, cI aC m_letter 32 lf, cI aC m_letterAt 32 laf, cI aC m_told 96 tdf, cI aC m_kept 100 kp, cI aC m_kind 9 kf, cI aC m_figure 9 ff, cI aC m_weight 9 wf, cI aC m_got 8 pf, cI aC m_setting 5 stf] s.heap.size = A at hD ⊢
  have hA : ∀ q : Nat, s.heap.size ≤ q → A q := fun q h => by rw [← hAe]; exact Or.inr h
  obtain ⟨H, hHe⟩ : ∃ H : Heap, H = s.heap := ⟨_, rfl⟩
  have hS : va_S A s.heap H [] := by rw [hHe]; exact va_S.rf
  have hP : va_P (dC, dI) classes [oX12 g0 m_refused m_kind m_figure m_weight m_got m_setting (nI n) (nI sn) dn m_tape m_letter m_letterAt m_told (nI lz) mat stm m_kept him ki crs m_price m_offer m_gets m_yes m_buys m_ends m_carried m_row rm m_keptRow m_likeGets m_likePrice m_ahead, cI aC m_tape 64 tpf, cI aC m_letter 32 lf, cI aC m_letterAt 32 laf, cI aC m_told 96 tdf, cI aC m_kept 100 kp, cI aC m_kind 9 kf, cI aC m_figure 9 ff, cI aC m_weight 9 wf, cI aC m_got 8 pf, cI aC m_setting 5 stf] H := by rw [hHe]; exact hP
  have hl := lv_entry ([Value.ref g0]) (n := 3) (Nat.le_of_ble_eq_true rfl)
  rw [lg_entry_eq]
  generalize (lg_sl ([Value.ref g0]) ++ List.replicate (3 - (lg_sl ([Value.ref g0])).length) Slot.unset).toArray = ls at hl ⊢
  have hl : lv_has ls 3 [(0, Value.ref g0)] := hl
  rw [← hHe]
  have hz6 := hlt0.1
  have hn8 := EVS_n hev
  refine lv_aload_n hx hb dX12_beach_0 rfl (lv_at hl 0 rfl) ?_
  refine lv_iconst (v := 0) hx hb dX12_beach_1 (by decide) ?_
  refine va_put (D := (dC, dI)) (ci := 12) (v := Value.int 0) (ty := .int) (C := RX12) (T := TX12) (N := 33) hx hb hts inX12 tyX12 tyX12_ok nmX12 hown hK hP hD hS 0 rfl rfl 14 (by decide) (hts _ (gw kw_731 rfl)) (fun _ h9 => h9) rfl (by decide +kernel) rfl rfl (Nat.le_of_ble_eq_true rfl) dX12_beach_2 (fun H locs hP hD hS => ?_)
  have hpd9 : PDx (dC, dI) classes A H [oX12 g0 m_refused m_kind m_figure m_weight m_got m_setting (nI n) (nI sn) dn m_tape m_letter m_letterAt m_told (nI lz) 0 stm m_kept him ki crs m_price m_offer m_gets m_yes m_buys m_ends m_carried m_row rm m_keptRow m_likeGets m_likePrice m_ahead, cI aC m_tape 64 tpf, cI aC m_letter 32 lf, cI aC m_letterAt 32 laf, cI aC m_told 96 tdf, cI aC m_kept 100 kp, cI aC m_kind 9 kf, cI aC m_figure 9 ff, cI aC m_weight 9 wf, cI aC m_got 8 pf, cI aC m_setting 5 stf] := ⟨hP, hD⟩
  have hP := hpd9.1
  have hD := hpd9.2
  clear hpd9
  refine lv_aload_n hx hb dX12_beach_5 rfl (lv_at hl 0 rfl) ?_
  refine lv_iconst (v := 0) hx hb dX12_beach_6 (by decide) ?_
  refine va_put (D := (dC, dI)) (ci := 12) (v := Value.int 0) (ty := .int) (C := RX12) (T := TX12) (N := 33) hx hb hts inX12 tyX12 tyX12_ok nmX12 hown hK hP hD hS 0 rfl rfl 15 (by decide) (hts _ (gw kw_732 rfl)) (fun _ h9 => h9) rfl (by decide +kernel) rfl rfl (Nat.le_of_ble_eq_true rfl) dX12_beach_7 (fun H locs hP hD hS => ?_)
  have hpd9 : PDx (dC, dI) classes A H [oX12 g0 m_refused m_kind m_figure m_weight m_got m_setting (nI n) (nI sn) dn m_tape m_letter m_letterAt m_told (nI lz) 0 0 m_kept him ki crs m_price m_offer m_gets m_yes m_buys m_ends m_carried m_row rm m_keptRow m_likeGets m_likePrice m_ahead, cI aC m_tape 64 tpf, cI aC m_letter 32 lf, cI aC m_letterAt 32 laf, cI aC m_told 96 tdf, cI aC m_kept 100 kp, cI aC m_kind 9 kf, cI aC m_figure 9 ff, cI aC m_weight 9 wf, cI aC m_got 8 pf, cI aC m_setting 5 stf] := ⟨hP, hD⟩
  have hP := hpd9.1
  have hD := hpd9.2
  clear hpd9
  refine lv_iconst (v := 1) hx hb dX12_beach_10 (by decide) ?_
  refine lv_istore_n (lv' := [(1, Value.int 1), (0, Value.ref g0)]) hx hb dX12_beach_11 rfl hl (by decide) rfl (fun ls hl => ?_)
  have lp_12 : ∀ (fu : Nat) (a : Nat) (k : Nat) (x1 : Int32) (lf9 : Nat → Int32) (laf9 : Nat → Int32) (td9 : Nat → Int32) (hfu : bm x1 (lz - a) < fu) (hin : (x1 = 0 → FLP Lt lz a) ∧ (¬ x1 = 0 → PRS Lt lz a k lf9 laf9 td9)) (H : Heap) (locs : List Loc) (ls : Array Slot), va_P (dC, dI) classes [oX12 g0 m_refused m_kind m_figure m_weight m_got m_setting (nI n) (nI sn) dn m_tape m_letter m_letterAt m_told (nI lz) (nI a) (nI k) m_kept him ki crs m_price m_offer m_gets m_yes m_buys m_ends m_carried m_row rm m_keptRow m_likeGets m_likePrice m_ahead, cI aC m_tape 64 tpf, cI aC m_letter 32 lf9, cI aC m_letterAt 32 laf9, cI aC m_told 96 td9, cI aC m_kept 100 kp, cI aC m_kind 9 kf, cI aC m_figure 9 ff, cI aC m_weight 9 wf, cI aC m_got 8 pf, cI aC m_setting 5 stf] H → va_D A [oX12 g0 m_refused m_kind m_figure m_weight m_got m_setting (nI n) (nI sn) dn m_tape m_letter m_letterAt m_told (nI lz) (nI a) (nI k) m_kept him ki crs m_price m_offer m_gets m_yes m_buys m_ends m_carried m_row rm m_keptRow m_likeGets m_likePrice m_ahead, cI aC m_tape 64 tpf, cI aC m_letter 32 lf9, cI aC m_letterAt 32 laf9, cI aC m_told 96 td9, cI aC m_kept 100 kp, cI aC m_kind 9 kf, cI aC m_figure 9 ff, cI aC m_weight 9 wf, cI aC m_got 8 pf, cI aC m_setting 5 stf] → va_S A s.heap H locs → lv_has ls 3 [(0, Value.ref g0), (1, Value.int x1)] → W p l e (headSpec (wW yX12_beach cX12_beach 3 (some .int)) ({ frames := 3, cells := 0, slots := 0, locals := 69 } : Room)).room s m ([Value.ref g0] : List Value).toArray below meth c H locs 0 0 (MQ below (va_Qi (fun (r : Int32) (u : Int32 × Int32 × Int32 × Int32 × Int32 × (Nat → Int32) × (Nat → Int32) × (Nat → Int32) × (Nat → Int32) × (Nat → Int32) × (Nat → Int32) × (Nat → Int32) × (Nat → Int32) × (Nat → Int32)) => match u with | (men2, at2, stm2, ki2, cu2, kf2, ff2, wf2, pf2, stf2, kq, lf2, laf2, td2) => r = bcR Lt lz n dn ∧ men2 = nI (bcN Lt lz n dn) ∧ EVS (bcN Lt lz n dn) sn dn (bcM Lt lz n dn 1 K) (bcM Lt lz n dn 2 F) (bcM Lt lz n dn 3 W0) (bcS Lt lz n dn S5) kf2 ff2 wf2 stf2 ∧ (∀ j, j < 8 → pf2 j = pf j) ∧ ∀ q, q < 50 → kq q = kp q) (fun (u : Int32 × Int32 × Int32 × Int32 × Int32 × (Nat → Int32) × (Nat → Int32) × (Nat → Int32) × (Nat → Int32) × (Nat → Int32) × (Nat → Int32) × (Nat → Int32) × (Nat → Int32) × (Nat → Int32)) (t : State) => match u with | (men2, at2, stm2, ki2, cu2, kf2, ff2, wf2, pf2, stf2, kq, lf2, laf2, td2) => va_P (dC, dI) classes [oX12 g0 m_refused m_kind m_figure m_weight m_got m_setting men2 (nI sn) dn m_tape m_letter m_letterAt m_told 0 at2 stm2 m_kept him ki2 cu2 m_price m_offer m_gets m_yes m_buys m_ends m_carried m_row rm m_keptRow m_likeGets m_likePrice m_ahead, cI aC m_tape 64 tpf, cI aC m_letter 32 lf2, cI aC m_letterAt 32 laf2, cI aC m_told 96 td2, cI aC m_kept 100 kq, cI aC m_kind 9 kf2, cI aC m_figure 9 ff2, cI aC m_weight 9 wf2, cI aC m_got 8 pf2, cI aC m_setting 5 stf2] t.heap ∧ va_K (dC, dI) classes (TY aC) t ∧ va_D A [oX12 g0 m_refused m_kind m_figure m_weight m_got m_setting men2 (nI sn) dn m_tape m_letter m_letterAt m_told 0 at2 stm2 m_kept him ki2 cu2 m_price m_offer m_gets m_yes m_buys m_ends m_carried m_row rm m_keptRow m_likeGets m_likePrice m_ahead, cI aC m_tape 64 tpf, cI aC m_letter 32 lf2, cI aC m_letterAt 32 laf2, cI aC m_told 96 td2, cI aC m_kept 100 kq, cI aC m_kind 9 kf2, cI aC m_figure 9 ff2, cI aC m_weight 9 wf2, cI aC m_got 8 pf2, cI aC m_setting 5 stf2]) A) ([Value.ref g0] : List Value).toArray s 0 0 A) (F0 m 12 ls []) := by
    intro fu
    induction fu with
    | zero => intro a k x1 lf9 laf9 td9 hfu; exact absurd hfu (Nat.not_lt_zero _)
    | succ fu ih_12 =>
      intro a k x1 lf9 laf9 td9 hfu hin H locs ls hP hD hS hl
      refine lv_iload_n hx hb dX12_beach_12 rfl (lv_at hl 1 rfl) ?_
      refine lv_if_eq (tgt := 60) hx hb dX12_beach_13 (by decide) (fun c_1 => ?_) (fun c_1 => ?_)
      · have hfl := hin.1 c_1
        have hbo : ¬ BOK Lt lz n dn := fun z => hfl.2 z.1
        refine lv_aload_n hx hb dX12_beach_60 rfl (lv_at hl 0 rfl) ?_
        refine lv_iconst (v := 0) hx hb dX12_beach_61 (by decide) ?_
        refine va_put (D := (dC, dI)) (ci := 12) (v := Value.int 0) (ty := .int) (C := RX12) (T := TX12) (N := 33) hx hb hts inX12 tyX12 tyX12_ok nmX12 hown hK hP hD hS 0 rfl rfl 13 (by decide) (hts _ (gw kw_730 rfl)) (fun _ h9 => h9) rfl (by decide +kernel) rfl rfl (Nat.le_of_ble_eq_true rfl) dX12_beach_62 (fun H locs hP hD hS => ?_)
        have hpd9 : PDx (dC, dI) classes A H [oX12 g0 m_refused m_kind m_figure m_weight m_got m_setting (nI n) (nI sn) dn m_tape m_letter m_letterAt m_told 0 (nI a) (nI k) m_kept him ki crs m_price m_offer m_gets m_yes m_buys m_ends m_carried m_row rm m_keptRow m_likeGets m_likePrice m_ahead, cI aC m_tape 64 tpf, cI aC m_letter 32 lf9, cI aC m_letterAt 32 laf9, cI aC m_told 96 td9, cI aC m_kept 100 kp, cI aC m_kind 9 kf, cI aC m_figure 9 ff, cI aC m_weight 9 wf, cI aC m_got 8 pf, cI aC m_setting 5 stf] := ⟨hP, hD⟩
        have hP := hpd9.1
        have hD := hpd9.2
        clear hpd9
        refine lv_iload_n hx hb dX12_beach_65 rfl (lv_at hl 1 rfl) ?_
        refine lv_if_ne (tgt := 78) hx hb dX12_beach_66 (by decide) (fun c_2 => ?_) (fun c_2 => ?_)
        · exact absurd c_1 c_2
        · refine lv_sipush (v := -1000) hx hb dX12_beach_69 (by decide) ?_
          refine lv_aload_n hx hb dX12_beach_72 rfl (lv_at hl 0 rfl) ?_
          refine va_get (D := (dC, dI)) (ci := 12) (v := Value.int (nI a)) (C := RX12) (T := TX12) (N := 33) hx hb hts inX12 hown hK hP 0 rfl rfl 14 (by decide) (hts _ (gw kw_731 rfl)) (fun _ h9 => h9) rfl dX12_beach_73 ?_
          refine lv_isub hx hb dX12_beach_76 ?_
          refine lv_topi (fun x_3 e_3 => ?_)
          have hpd9 := pd_N (cx := [oX12 g0 m_refused m_kind m_figure m_weight m_got m_setting (nI n) (nI sn) dn m_tape m_letter m_letterAt m_told 0 (nI a) (nI k) m_kept him ki crs m_price m_offer m_gets m_yes m_buys m_ends m_carried m_row rm m_keptRow m_likeGets m_likePrice m_ahead, cI aC m_tape 64 tpf, cI aC m_letter 32 lf9, cI aC m_letterAt 32 laf9, cI aC m_told 96 td9, cI aC m_kept 100 kp, cI aC m_kind 9 kf, cI aC m_figure 9 ff, cI aC m_weight 9 wf, cI aC m_got 8 pf, cI aC m_setting 5 stf]) hP hD [0, 1, 2, 3, 4, 5, 6, 7, 8, 9, 10] (by decide) rfl
          have hP9 := hpd9.1
          have hD9 := hpd9.2
          refine W.widen (k := 0) (n := 0) (by omega) (by omega) ?_
          exact W.iret (v := x_3) hx hb hr (fun t ht hW => ⟨⟨x_3, ((nI n), (nI a), (nI k), ki, crs, kf, ff, wf, pf, stf, kp, lf9, laf9, td9), rfl, ⟨by rw [e_3]; unfold bcR; rw [if_neg hbo]; unfold flR; rw [if_neg hfl.2, hfl.1], by unfold bcN; rw [if_neg hbo], by unfold bcN bcM bcS; rw [if_neg hbo, if_neg hbo, if_neg hbo, if_neg hbo, if_neg hbo]; exact hev, fun j _ => rfl, fun q _ => rfl⟩, by rw [ht]; exact hP9, va_K.moved hW.alike hK, hD9⟩, hS.F ht⟩) hS.2.2 dX12_beach_77
      · have hprs := hin.2 c_1
        have hal := hprs.1
        have h3k := hprs.2.2.2.1
        refine lv_aload_n hx hb dX12_beach_16 rfl (lv_at hl 0 rfl) ?_
        refine va_get (D := (dC, dI)) (ci := 12) (v := Value.int (nI a)) (C := RX12) (T := TX12) (N := 33) hx hb hts inX12 hown hK hP 0 rfl rfl 14 (by decide) (hts _ (gw kw_731 rfl)) (fun _ h9 => h9) rfl dX12_beach_17 ?_
        refine lv_aload_n hx hb dX12_beach_20 rfl (lv_at hl 0 rfl) ?_
        refine va_get (D := (dC, dI)) (ci := 12) (v := Value.int (nI lz)) (C := RX12) (T := TX12) (N := 33) hx hb hts inX12 hown hK hP 0 rfl rfl 13 (by decide) (hts _ (gw kw_730 rfl)) (fun _ h9 => h9) rfl dX12_beach_21 ?_
        refine lv_icmp_lt (tgt := 34) hx hb dX12_beach_24 (by decide) (fun c_4 => ?_) (fun c_4 => ?_)
        · have haz : a < lz ∨ a = 0 := Or.inl ((nI_ltI (by omega) (by omega)).mp c_4)
          refine lv_aload_n hx hb dX12_beach_34 rfl (lv_at hl 0 rfl) ?_
          have hpd9 := pdf_N (cx := [oX12 g0 m_refused m_kind m_figure m_weight m_got m_setting (nI n) (nI sn) dn m_tape m_letter m_letterAt m_told (nI lz) (nI a) (nI k) m_kept him ki crs m_price m_offer m_gets m_yes m_buys m_ends m_carried m_row rm m_keptRow m_likeGets m_likePrice m_ahead, cI aC m_tape 64 tpf, cI aC m_letter 32 lf9, cI aC m_letterAt 32 laf9, cI aC m_told 96 td9]) hP hD hS hA [0, 1, 2, 3, 4] (by decide) rfl
          have hPc := hpd9.1
          have hDc := hpd9.2.1
          have hFc := hpd9.2.2
          clear hpd9
          refine va_calli (va_runV (As := []) (rest := []) ⟨hx, hb, hml, hown, hts⟩ (c_X12_statement l dC dI aC H.size g0 m_refused m_kind m_figure m_weight m_got m_setting m_tape m_letter m_letterAt m_told m_kept m_price m_offer m_gets m_yes m_buys m_ends m_carried m_row m_keptRow m_likeGets m_likePrice m_ahead (nI n) (nI sn) dn him ki crs rm lz a k Lt tpf lf9 laf9 td9 (hlt0) (hal) (hprs.2.1) (haz) (h3k)) ⟨(callB_of 0 hts (gG kw_835) rfl rfl rfl (hts _ (gw kw_13 rfl)) (hts _ (gw kw_832 rfl)) hd_X12_statement ⟨Nat.le_of_ble_eq_true rfl, Nat.le_of_ble_eq_true rfl⟩), (hts _ (gw kw_834 rfl)), (hts _ (gw ks_36 rfl))⟩ ⟨fb_std, va_recv (q := (RX12, TX12, 33)) hK hPc (ci := 12) (q0 := 0) rfl rfl, pre_std hPc hK hDc hN⟩ rfl rfl hl.1 rfl (lv_room (Nat.le_of_ble_eq_true rfl)) dX12_beach_35 ⟨Nat.le_of_ble_eq_true rfl, Nat.le_of_ble_eq_true rfl⟩) hS (fun q _ h => hFc q h) hFc (fun x_5 u9 t9 H1 locs ht hvm hw_5 hB hz1 hk1 hS => ?_)
          obtain ⟨u_6, u_7, u_8, u_9⟩ := u9
          obtain ⟨hP1, hK1, hD1⟩ := hB
          rw [ht] at hP1
          clear hK1
          try dsimp only at hw_5
          have hpd9 : PDx (dC, dI) classes A H1 [cI aC m_kept 100 kp, cI aC m_kind 9 kf, cI aC m_figure 9 ff, cI aC m_weight 9 wf, cI aC m_got 8 pf, cI aC m_setting 5 stf, oX12 g0 m_refused m_kind m_figure m_weight m_got m_setting (nI n) (nI sn) dn m_tape m_letter m_letterAt m_told (nI lz) u_6 (nI k) m_kept him ki crs m_price m_offer m_gets m_yes m_buys m_ends m_carried m_row rm m_keptRow m_likeGets m_likePrice m_ahead, cI aC m_tape 64 tpf, cI aC m_letter 32 u_7, cI aC m_letterAt 32 u_8, cI aC m_told 96 u_9] := jn_N (wr := [cI aC m_kept 100 kp, cI aC m_kind 9 kf, cI aC m_figure 9 ff, cI aC m_weight 9 wf, cI aC m_got 8 pf, cI aC m_setting 5 stf]) hFc hk1 hP1 hD1 hP hD [0, 1, 2, 3, 4] [5, 6, 7, 8, 9, 10] rfl rfl (by decide) (by decide)
          have hP := hpd9.1
          have hD := hpd9.2
          clear hpd9
          generalize H1 = H at hP hS ⊢
          clear hPc hDc hFc hz1 hk1 hP1 hD1 ht hvm
          have hz_35 := hw_5
          refine lv_istore_n (lv' := [(1, Value.int x_5), (0, Value.ref g0)]) hx hb dX12_beach_38 rfl hl (by decide) rfl (fun ls hl => ?_)
          refine lv_aload_n hx hb dX12_beach_39 rfl (lv_at hl 1 rfl) ?_
          refine lv_dup hx hb dX12_beach_40 rfl ?_
          refine va_get (D := (dC, dI)) (ci := 12) (v := Value.int (nI k)) (C := RX12) (T := TX12) (N := 33) hx hb hts inX12 hown hK hP 6 rfl rfl 15 (by decide) (hts _ (gw kw_732 rfl)) (fun _ h9 => h9) rfl dX12_beach_41 ?_
          refine lv_iload_n hx hb dX12_beach_44 rfl (lv_at hl 0 rfl) ?_
          refine lv_if_eq (tgt := 52) hx hb dX12_beach_45 (by decide) (fun c_10 => ?_) (fun c_10 => ?_)
          · obtain ⟨q, hfl, hat⟩ := hz_35.1 c_10
            have h9 : u_6 = nI q := hat
            subst h9
            refine lv_iconst (v := 0) hx hb dX12_beach_52 (by decide) ?_
            refine lv_iadd hx hb dX12_beach_53 ?_
            refine lv_topi (fun x_11 e_11 => ?_)
            have h9 : x_11 = nI k := by rw [e_11]; exact Int32.add_zero _
            subst h9
            refine va_put (D := (dC, dI)) (ci := 12) (v := Value.int (nI k)) (ty := .int) (C := RX12) (T := TX12) (N := 33) hx hb hts inX12 tyX12 tyX12_ok nmX12 hown hK hP hD hS 6 rfl rfl 15 (by decide) (hts _ (gw kw_732 rfl)) (fun _ h9 => h9) rfl (by decide +kernel) rfl rfl (Nat.le_of_ble_eq_true rfl) dX12_beach_54 (fun H locs hP hD hS => ?_)
            have hpd9 : PDx (dC, dI) classes A H [cI aC m_kept 100 kp, cI aC m_kind 9 kf, cI aC m_figure 9 ff, cI aC m_weight 9 wf, cI aC m_got 8 pf, cI aC m_setting 5 stf, oX12 g0 m_refused m_kind m_figure m_weight m_got m_setting (nI n) (nI sn) dn m_tape m_letter m_letterAt m_told (nI lz) (nI q) (nI k) m_kept him ki crs m_price m_offer m_gets m_yes m_buys m_ends m_carried m_row rm m_keptRow m_likeGets m_likePrice m_ahead, cI aC m_tape 64 tpf, cI aC m_letter 32 u_7, cI aC m_letterAt 32 u_8, cI aC m_told 96 u_9] := ⟨hP, hD⟩
            have hP := hpd9.1
            have hD := hpd9.2
            clear hpd9
            have m1 := bm_1 (d := lz - a) c_1
            have hin2 : (x_5 = 0 → FLP Lt lz q) ∧ (¬ x_5 = 0 → PRS Lt lz q k u_7 u_8 u_9) := ⟨fun _ => hfl, fun z => absurd c_10 z⟩
            have m2 := bm_0 (d := lz - q) c_10
            have hms : bm x_5 (lz - q) < fu := by omega
            refine lv_goto (tgt := 12) hx hb dX12_beach_57 (by decide) ?_
            exact ih_12 q k x_5 u_7 u_8 u_9 (hms) (hin2) _ _ _ (hP.sub [6, 7, 8, 9, 10, 0, 1, 2, 3, 4, 5] rfl) (hD.sub [6, 7, 8, 9, 10, 0, 1, 2, 3, 4, 5] (by decide) rfl) hS (lv_sub hl [1, 0] rfl)
          · obtain ⟨q, hst, hql, hq5, hat, hlf, hla, htl, hfr⟩ := hz_35.2 c_10
            have h9 : u_6 = nI (q + 1) := hat
            subst h9
            refine lv_iconst (v := 1) hx hb dX12_beach_48 (by decide) ?_
            refine lv_goto (tgt := 53) hx hb dX12_beach_49 (by decide) ?_
            refine lv_iadd hx hb dX12_beach_53 ?_
            refine lv_topi (fun x_12 e_12 => ?_)
            have h9 : x_12 = nI (k + 1) := by rw [e_12, nI_1]
            subst h9
            refine va_put (D := (dC, dI)) (ci := 12) (v := Value.int (nI (k + 1))) (ty := .int) (C := RX12) (T := TX12) (N := 33) hx hb hts inX12 tyX12 tyX12_ok nmX12 hown hK hP hD hS 6 rfl rfl 15 (by decide) (hts _ (gw kw_732 rfl)) (fun _ h9 => h9) rfl (by decide +kernel) rfl rfl (Nat.le_of_ble_eq_true rfl) dX12_beach_54 (fun H locs hP hD hS => ?_)
            have hpd9 : PDx (dC, dI) classes A H [cI aC m_kept 100 kp, cI aC m_kind 9 kf, cI aC m_figure 9 ff, cI aC m_weight 9 wf, cI aC m_got 8 pf, cI aC m_setting 5 stf, oX12 g0 m_refused m_kind m_figure m_weight m_got m_setting (nI n) (nI sn) dn m_tape m_letter m_letterAt m_told (nI lz) (nI (q + 1)) (nI (k + 1)) m_kept him ki crs m_price m_offer m_gets m_yes m_buys m_ends m_carried m_row rm m_keptRow m_likeGets m_likePrice m_ahead, cI aC m_tape 64 tpf, cI aC m_letter 32 u_7, cI aC m_letterAt 32 u_8, cI aC m_told 96 u_9] := ⟨hP, hD⟩
            have hP := hpd9.1
            have hD := hpd9.2
            clear hpd9
            have m1 := bm_1 (d := lz - a) c_1
            have hin2 : (x_5 = 0 → FLP Lt lz (q + 1)) ∧ (¬ x_5 = 0 → PRS Lt lz (q + 1) (k + 1) u_7 u_8 u_9) := ⟨fun z => absurd z c_10, fun _ => PRS_s hprs hst hql hq5 hlf hla htl hfr⟩
            have m2 := bm_1 (d := lz - (q + 1)) c_10
            have m3 := (STM_k hst).2
            have hms : bm x_5 (lz - (q + 1)) < fu := by omega
            refine lv_goto (tgt := 12) hx hb dX12_beach_57 (by decide) ?_
            exact ih_12 (q + 1) (k + 1) x_5 u_7 u_8 u_9 (hms) (hin2) _ _ _ (hP.sub [6, 7, 8, 9, 10, 0, 1, 2, 3, 4, 5] rfl) (hD.sub [6, 7, 8, 9, 10, 0, 1, 2, 3, 4, 5] (by decide) rfl) hS (lv_sub hl [1, 0] rfl)
        · refine lv_aload_n hx hb dX12_beach_27 rfl (lv_at hl 0 rfl) ?_
          refine va_get (D := (dC, dI)) (ci := 12) (v := Value.int (nI k)) (C := RX12) (T := TX12) (N := 33) hx hb hts inX12 hown hK hP 0 rfl rfl 15 (by decide) (hts _ (gw kw_732 rfl)) (fun _ h9 => h9) rfl dX12_beach_28 ?_
          refine lv_if_ne (tgt := 60) hx hb dX12_beach_31 (by decide) (fun c_13 => ?_) (fun c_13 => ?_)
          · have hae : a = lz := by
              rcases Nat.lt_or_ge a lz with q | q
              · exact absurd (nI_lt q (by omega)) c_4
              · omega
            have h0z : lrn Lt lz = 0 := hae ▸ hprs.2.1
            have hkz : k = scn Lt lz := hprs.2.2.1.trans (by rw [hae])
            have hk0 : k ≠ 0 := fun z => c_13 (by rw [z]; rfl)
            have hlz0 : 0 < lz := by omega
            have hpr : ∀ e, e < lz → Lt e = 59 → scn Lt e < k ∧ lf9 (scn Lt e) = nI (Lt (lst Lt e)) ∧ laf9 (scn Lt e) = nI (lst Lt e) ∧ TLD Lt (lst Lt e) e (scn Lt e) td9 := fun e q1 q2 => hprs.2.2.2.2.2 e (by omega) q2
            subst hkz
            refine lv_aload_n hx hb dX12_beach_60 rfl (lv_at hl 0 rfl) ?_
            refine lv_iconst (v := 0) hx hb dX12_beach_61 (by decide) ?_
            refine va_put (D := (dC, dI)) (ci := 12) (v := Value.int 0) (ty := .int) (C := RX12) (T := TX12) (N := 33) hx hb hts inX12 tyX12 tyX12_ok nmX12 hown hK hP hD hS 0 rfl rfl 13 (by decide) (hts _ (gw kw_730 rfl)) (fun _ h9 => h9) rfl (by decide +kernel) rfl rfl (Nat.le_of_ble_eq_true rfl) dX12_beach_62 (fun H locs hP hD hS => ?_)
            have hpd9 : PDx (dC, dI) classes A H [oX12 g0 m_refused m_kind m_figure m_weight m_got m_setting (nI n) (nI sn) dn m_tape m_letter m_letterAt m_told 0 (nI a) (nI (scn Lt lz)) m_kept him ki crs m_price m_offer m_gets m_yes m_buys m_ends m_carried m_row rm m_keptRow m_likeGets m_likePrice m_ahead, cI aC m_tape 64 tpf, cI aC m_letter 32 lf9, cI aC m_letterAt 32 laf9, cI aC m_told 96 td9, cI aC m_kept 100 kp, cI aC m_kind 9 kf, cI aC m_figure 9 ff, cI aC m_weight 9 wf, cI aC m_got 8 pf, cI aC m_setting 5 stf] := ⟨hP, hD⟩
            have hP := hpd9.1
            have hD := hpd9.2
            clear hpd9
            refine lv_iload_n hx hb dX12_beach_65 rfl (lv_at hl 1 rfl) ?_
            refine lv_if_ne (tgt := 78) hx hb dX12_beach_66 (by decide) (fun c_14 => ?_) (fun c_14 => ?_)
            · refine lv_aload_n hx hb dX12_beach_78 rfl (lv_at hl 0 rfl) ?_
              refine lv_iconst (v := 1) hx hb dX12_beach_79 (by decide) ?_
              refine lv_iconst (v := 1) hx hb dX12_beach_80 (by decide) ?_
              have hpd9 := pdf_N (cx := [oX12 g0 m_refused m_kind m_figure m_weight m_got m_setting (nI n) (nI sn) dn m_tape m_letter m_letterAt m_told 0 (nI a) (nI (scn Lt lz)) m_kept him ki crs m_price m_offer m_gets m_yes m_buys m_ends m_carried m_row rm m_keptRow m_likeGets m_likePrice m_ahead, cI aC m_kept 100 kp, cI aC m_kind 9 kf, cI aC m_figure 9 ff, cI aC m_weight 9 wf, cI aC m_got 8 pf, cI aC m_setting 5 stf]) hP hD hS hA [0, 5, 6, 7, 8, 9, 10] (by decide) rfl
              have hPc := hpd9.1
              have hDc := hpd9.2.1
              have hFc := hpd9.2.2
              clear hpd9
              refine va_callv (va_runV (As := [Value.int 1, Value.int 1]) (rest := []) ⟨hx, hb, hml, hown, hts⟩ (c_X12_passesAll_k l dC dI aC H.size g0 m_refused m_kind m_figure m_weight m_got m_setting m_tape m_letter m_letterAt m_told m_kept m_price m_offer m_gets m_yes m_buys m_ends m_carried m_row m_keptRow m_likeGets m_likePrice m_ahead (nI n) (nI sn) dn 0 (nI a) (nI (scn Lt lz)) him ki crs rm kp 1 kf ff wf pf stf (by omega)) ⟨(callB_of 2 hts (gG kw_850) rfl rfl rfl (hts _ (gw kw_13 rfl)) (hts _ (gw kw_847 rfl)) hd_X12_passesAll ⟨Nat.le_of_ble_eq_true rfl, Nat.le_of_ble_eq_true rfl⟩), (hts _ (gw kw_849 rfl)), (hts _ (gw ks_39 rfl))⟩ ⟨fb_std, va_recv (q := (RX12, TX12, 33)) hK hPc (ci := 12) (q0 := 0) rfl rfl, pre_std hPc hK hDc hN⟩ rfl rfl hl.1 rfl (lv_room (Nat.le_of_ble_eq_true rfl)) dX12_beach_81 ⟨Nat.le_of_ble_eq_true rfl, Nat.le_of_ble_eq_true rfl⟩) hS (fun q _ h => hFc q h) hFc (fun u9 t9 H1 locs ht hvm hw_15 hB hz1 hk1 hS => ?_)
              obtain ⟨u_16, u_17⟩ := u9
              obtain ⟨hP1, hK1, hD1⟩ := hB
              rw [ht] at hP1
              clear hK1
              try dsimp only at hw_15
              have hpd9 : PDx (dC, dI) classes A H1 [cI aC m_tape 64 tpf, cI aC m_letter 32 lf9, cI aC m_letterAt 32 laf9, cI aC m_told 96 td9, oX12 g0 m_refused m_kind m_figure m_weight m_got m_setting (nI n) (nI sn) dn m_tape m_letter m_letterAt m_told 0 (nI a) (nI (scn Lt lz)) m_kept him 1 u_16 m_price m_offer m_gets m_yes m_buys m_ends m_carried m_row rm m_keptRow m_likeGets m_likePrice m_ahead, cI aC m_kept 100 u_17, cI aC m_kind 9 kf, cI aC m_figure 9 ff, cI aC m_weight 9 wf, cI aC m_got 8 pf, cI aC m_setting 5 stf] := jn_N (wr := [cI aC m_tape 64 tpf, cI aC m_letter 32 lf9, cI aC m_letterAt 32 laf9, cI aC m_told 96 td9]) hFc hk1 hP1 hD1 hP hD [0, 5, 6, 7, 8, 9, 10] [1, 2, 3, 4] rfl rfl (by decide) (by decide)
              have hP := hpd9.1
              have hD := hpd9.2
              clear hpd9
              generalize H1 = H at hP hS ⊢
              clear hPc hDc hFc hz1 hk1 hP1 hD1 ht hvm
              obtain ⟨hpk, hpq⟩ := hw_15
              refine lv_iconst (v := 0) hx hb dX12_beach_84 (by decide) ?_
              refine lv_istore_n (lv' := [(2, Value.int 0), (0, Value.ref g0), (1, Value.int x1)]) hx hb dX12_beach_85 rfl hl (by decide) rfl (fun ls hl => ?_)
              have lp_86 : ∀ (fu : Nat) (p9 : Nat) (kc : Nat → Int32) (fc : Nat → Int32) (wc : Nat → Int32) (sc9 : Nat → Int32) (hfu : lz - p9 < fu) (hp : p9 ≤ lz) (hr0 : lrn Lt p9 = 0) (hf : fwr Lt n dn 0 lz = fwr Lt n dn p9 (lz - p9)) (hev9 : EVT Lt p9 n sn dn K F W0 S5 kc fc wc sc9) (H : Heap) (locs : List Loc) (ls : Array Slot), va_P (dC, dI) classes [cI aC m_tape 64 tpf, cI aC m_letter 32 lf9, cI aC m_letterAt 32 laf9, cI aC m_told 96 td9, oX12 g0 m_refused m_kind m_figure m_weight m_got m_setting (nI (n + cm Lt p9)) (nI sn) dn m_tape m_letter m_letterAt m_told 0 (nI a) (nI (scn Lt lz)) m_kept him 1 u_16 m_price m_offer m_gets m_yes m_buys m_ends m_carried m_row rm m_keptRow m_likeGets m_likePrice m_ahead, cI aC m_kept 100 u_17, cI aC m_kind 9 kc, cI aC m_figure 9 fc, cI aC m_weight 9 wc, cI aC m_got 8 pf, cI aC m_setting 5 sc9] H → va_D A [cI aC m_tape 64 tpf, cI aC m_letter 32 lf9, cI aC m_letterAt 32 laf9, cI aC m_told 96 td9, oX12 g0 m_refused m_kind m_figure m_weight m_got m_setting (nI (n + cm Lt p9)) (nI sn) dn m_tape m_letter m_letterAt m_told 0 (nI a) (nI (scn Lt lz)) m_kept him 1 u_16 m_price m_offer m_gets m_yes m_buys m_ends m_carried m_row rm m_keptRow m_likeGets m_likePrice m_ahead, cI aC m_kept 100 u_17, cI aC m_kind 9 kc, cI aC m_figure 9 fc, cI aC m_weight 9 wc, cI aC m_got 8 pf, cI aC m_setting 5 sc9] → va_S A s.heap H locs → lv_has ls 3 [(0, Value.ref g0), (1, Value.int x1), (2, Value.int (nI (scn Lt p9)))] → W p l e (headSpec (wW yX12_beach cX12_beach 3 (some .int)) ({ frames := 3, cells := 0, slots := 0, locals := 69 } : Room)).room s m ([Value.ref g0] : List Value).toArray below meth c H locs 0 0 (MQ below (va_Qi (fun (r : Int32) (u : Int32 × Int32 × Int32 × Int32 × Int32 × (Nat → Int32) × (Nat → Int32) × (Nat → Int32) × (Nat → Int32) × (Nat → Int32) × (Nat → Int32) × (Nat → Int32) × (Nat → Int32) × (Nat → Int32)) => match u with | (men2, at2, stm2, ki2, cu2, kf2, ff2, wf2, pf2, stf2, kq, lf2, laf2, td2) => r = bcR Lt lz n dn ∧ men2 = nI (bcN Lt lz n dn) ∧ EVS (bcN Lt lz n dn) sn dn (bcM Lt lz n dn 1 K) (bcM Lt lz n dn 2 F) (bcM Lt lz n dn 3 W0) (bcS Lt lz n dn S5) kf2 ff2 wf2 stf2 ∧ (∀ j, j < 8 → pf2 j = pf j) ∧ ∀ q, q < 50 → kq q = kp q) (fun (u : Int32 × Int32 × Int32 × Int32 × Int32 × (Nat → Int32) × (Nat → Int32) × (Nat → Int32) × (Nat → Int32) × (Nat → Int32) × (Nat → Int32) × (Nat → Int32) × (Nat → Int32) × (Nat → Int32)) (t : State) => match u with | (men2, at2, stm2, ki2, cu2, kf2, ff2, wf2, pf2, stf2, kq, lf2, laf2, td2) => va_P (dC, dI) classes [oX12 g0 m_refused m_kind m_figure m_weight m_got m_setting men2 (nI sn) dn m_tape m_letter m_letterAt m_told 0 at2 stm2 m_kept him ki2 cu2 m_price m_offer m_gets m_yes m_buys m_ends m_carried m_row rm m_keptRow m_likeGets m_likePrice m_ahead, cI aC m_tape 64 tpf, cI aC m_letter 32 lf2, cI aC m_letterAt 32 laf2, cI aC m_told 96 td2, cI aC m_kept 100 kq, cI aC m_kind 9 kf2, cI aC m_figure 9 ff2, cI aC m_weight 9 wf2, cI aC m_got 8 pf2, cI aC m_setting 5 stf2] t.heap ∧ va_K (dC, dI) classes (TY aC) t ∧ va_D A [oX12 g0 m_refused m_kind m_figure m_weight m_got m_setting men2 (nI sn) dn m_tape m_letter m_letterAt m_told 0 at2 stm2 m_kept him ki2 cu2 m_price m_offer m_gets m_yes m_buys m_ends m_carried m_row rm m_keptRow m_likeGets m_likePrice m_ahead, cI aC m_tape 64 tpf, cI aC m_letter 32 lf2, cI aC m_letterAt 32 laf2, cI aC m_told 96 td2, cI aC m_kept 100 kq, cI aC m_kind 9 kf2, cI aC m_figure 9 ff2, cI aC m_weight 9 wf2, cI aC m_got 8 pf2, cI aC m_setting 5 stf2]) A) ([Value.ref g0] : List Value).toArray s 0 0 A) (F0 m 86 ls []) := by
                intro fu
                induction fu with
                | zero => intro p9 kc fc wc sc9 hfu; exact absurd hfu (Nat.not_lt_zero _)
                | succ fu ih_86 =>
                  intro p9 kc fc wc sc9 hfu hp hr0 hf hev9 H locs ls hP hD hS hl
                  refine lv_iload_n hx hb dX12_beach_86 rfl (lv_at hl 2 rfl) ?_
                  refine lv_aload_n hx hb dX12_beach_87 rfl (lv_at hl 0 rfl) ?_
                  refine va_get (D := (dC, dI)) (ci := 12) (v := Value.int (nI (scn Lt lz))) (C := RX12) (T := TX12) (N := 33) hx hb hts inX12 hown hK hP 4 rfl rfl 15 (by decide) (hts _ (gw kw_732 rfl)) (fun _ h9 => h9) rfl dX12_beach_88 ?_
                  refine lv_icmp_ge (tgt := 128) hx hb dX12_beach_91 (by decide) (fun c_18 => ?_) (fun c_18 => ?_)
                  · have hpz : p9 = lz := by
                      rcases Nat.lt_or_ge p9 lz with q | q
                      · exfalso
                        obtain ⟨e9, he1, he2, he3, he4⟩ := nxe h0z hr0 q
                        have m1 := scn_mono (L := Lt) (p := p9) (e9 - p9)
                        rw [show p9 + (e9 - p9) = e9 by omega] at m1
                        have m2 := scn_mono (L := Lt) (p := e9 + 1) (lz - (e9 + 1))
                        rw [show e9 + 1 + (lz - (e9 + 1)) = lz by omega, scn_y he3] at m2
                        have m3 := (nI_leI (a := scn Lt lz) (b := scn Lt p9) (by omega) (by omega)).mp c_18
                        omega
                      · omega
                    have hbo : BOK Lt lz n dn := ⟨⟨h0z, hlz0⟩, by rw [hf, hpz, Nat.sub_self]; rfl⟩
                    refine lv_aload_n hx hb dX12_beach_128 rfl (lv_at hl 0 rfl) ?_
                    refine va_get (D := (dC, dI)) (ci := 12) (v := Value.int (nI (scn Lt lz))) (C := RX12) (T := TX12) (N := 33) hx hb hts inX12 hown hK hP 4 rfl rfl 15 (by decide) (hts _ (gw kw_732 rfl)) (fun _ h9 => h9) rfl dX12_beach_129 ?_
                    have hpd9 := pd_N (cx := [oX12 g0 m_refused m_kind m_figure m_weight m_got m_setting (nI (n + cm Lt p9)) (nI sn) dn m_tape m_letter m_letterAt m_told 0 (nI a) (nI (scn Lt lz)) m_kept him 1 u_16 m_price m_offer m_gets m_yes m_buys m_ends m_carried m_row rm m_keptRow m_likeGets m_likePrice m_ahead, cI aC m_tape 64 tpf, cI aC m_letter 32 lf9, cI aC m_letterAt 32 laf9, cI aC m_told 96 td9, cI aC m_kept 100 u_17, cI aC m_kind 9 kc, cI aC m_figure 9 fc, cI aC m_weight 9 wc, cI aC m_got 8 pf, cI aC m_setting 5 sc9]) hP hD [4, 0, 1, 2, 3, 5, 6, 7, 8, 9, 10] (by decide) rfl
                    have hP9 := hpd9.1
                    have hD9 := hpd9.2
                    refine W.widen (k := 0) (n := 0) (by omega) (by omega) ?_
                    exact W.iret (v := nI (scn Lt lz)) hx hb hr (fun t ht hW => ⟨⟨(nI (scn Lt lz)), ((nI (n + cm Lt p9)), (nI a), (nI (scn Lt lz)), 1, u_16, kc, fc, wc, pf, sc9, u_17, lf9, laf9, td9), rfl, ⟨by unfold bcR; rw [if_pos hbo], by unfold bcN; rw [if_pos hbo, hpz], by unfold bcN bcM bcS; rw [if_pos hbo, if_pos hbo, if_pos hbo, if_pos hbo, if_pos hbo, ← hpz]; exact hev9, fun j _ => rfl, fun q hq => hpq q (Or.inl (by omega))⟩, by rw [ht]; exact hP9, va_K.moved hW.alike hK, hD9⟩, hS.F ht⟩) hS.2.2 dX12_beach_132
                  · have hpl : p9 < lz := by
                      rcases Nat.lt_or_ge p9 lz with q | q
                      · exact q
                      · have e : p9 = lz := by omega
                        rw [e] at c_18
                        exact absurd (Int32.le_refl _) c_18
                    obtain ⟨e9, he1, he2, he3, he4⟩ := nxe h0z hr0 hpl
                    have hpe : p9 + (e9 - p9) = e9 := by omega
                    obtain ⟨hn1, hn2, hn3, hn4⟩ := nose (L := Lt) (n := n) (dn := dn) (lz := lz) (p := p9) (e9 - p9) (fun j q1 q2 => he4 j q1 (by omega))
                    have hevE := nosE hev9 (e9 - p9) (fun j q1 q2 => he4 j q1 (by omega))
                    rw [hpe] at hn1 hn2 hn3 hn4 hevE
                    have hst := STM_r (z := lz) (by rw [h0z]; decide) he2 he3
                    obtain ⟨hs1, hs2, hs3, hs4⟩ := hpr e9 he2 he3
                    have hfe : fwr Lt n dn 0 lz = fwr Lt n dn e9 (lz - e9) := hf.trans (hn4 (by omega))
                    have hle9 := lst_le Lt e9
                    have hl : lv_has ls 3 [(0, Value.ref g0), (1, Value.int x1), (2, Value.int (nI (scn Lt e9)))] := by rw [← (show nI (scn Lt p9) = nI (scn Lt e9) by rw [hn1])]; exact hl
                    have hsz : nI (n + cm Lt p9) = nI (n + cm Lt e9) := by rw [hn3]
                    have hP : va_P (dC, dI) classes [cI aC m_tape 64 tpf, cI aC m_letter 32 lf9, cI aC m_letterAt 32 laf9, cI aC m_told 96 td9, oX12 g0 m_refused m_kind m_figure m_weight m_got m_setting (nI (n + cm Lt e9)) (nI sn) dn m_tape m_letter m_letterAt m_told 0 (nI a) (nI (scn Lt lz)) m_kept him 1 u_16 m_price m_offer m_gets m_yes m_buys m_ends m_carried m_row rm m_keptRow m_likeGets m_likePrice m_ahead, cI aC m_kept 100 u_17, cI aC m_kind 9 kc, cI aC m_figure 9 fc, cI aC m_weight 9 wc, cI aC m_got 8 pf, cI aC m_setting 5 sc9] H := by rw [← hsz]; exact hP
                    have hD : va_D A [cI aC m_tape 64 tpf, cI aC m_letter 32 lf9, cI aC m_letterAt 32 laf9, cI aC m_told 96 td9, oX12 g0 m_refused m_kind m_figure m_weight m_got m_setting (nI (n + cm Lt e9)) (nI sn) dn m_tape m_letter m_letterAt m_told 0 (nI a) (nI (scn Lt lz)) m_kept him 1 u_16 m_price m_offer m_gets m_yes m_buys m_ends m_carried m_row rm m_keptRow m_likeGets m_likePrice m_ahead, cI aC m_kept 100 u_17, cI aC m_kind 9 kc, cI aC m_figure 9 fc, cI aC m_weight 9 wc, cI aC m_got 8 pf, cI aC m_setting 5 sc9] := by rw [← hsz]; exact hD
                    refine lv_aload_n hx hb dX12_beach_94 rfl (lv_at hl 0 rfl) ?_
                    refine lv_iload_n hx hb dX12_beach_95 rfl (lv_at hl 2 rfl) ?_
                    have hpd9 := pdf_N (cx := [oX12 g0 m_refused m_kind m_figure m_weight m_got m_setting (nI (n + cm Lt e9)) (nI sn) dn m_tape m_letter m_letterAt m_told 0 (nI a) (nI (scn Lt lz)) m_kept him 1 u_16 m_price m_offer m_gets m_yes m_buys m_ends m_carried m_row rm m_keptRow m_likeGets m_likePrice m_ahead, cI aC m_kind 9 kc, cI aC m_figure 9 fc, cI aC m_weight 9 wc, cI aC m_setting 5 sc9, cI aC m_letter 32 lf9, cI aC m_told 96 td9]) hP hD hS hA [4, 6, 7, 8, 10, 1, 3] (by decide) rfl
                    have hPc := hpd9.1
                    have hDc := hpd9.2.1
                    have hFc := hpd9.2.2
                    clear hpd9
                    refine va_calli (va_runV (As := [Value.int (nI (scn Lt e9))]) (rest := []) ⟨hx, hb, hml, hown, hts⟩ (c_X12_comes l dC dI aC H.size g0 m_refused m_kind m_figure m_weight m_got m_setting m_tape m_letter m_letterAt m_told m_kept m_price m_offer m_gets m_yes m_buys m_ends m_carried m_row m_keptRow m_likeGets m_likePrice m_ahead 0 (nI a) (nI (scn Lt lz)) him 1 u_16 rm n sn dn K F W0 S5 kc fc wc sc9 lz Lt e9 lf9 td9 (hst) (he3) ((hlt0.2 _ (by omega)).2) (hs2) (hs4) (by omega) (hevE)) ⟨(callB_of 1 hts (gG kw_862) rfl rfl rfl (hts _ (gw kw_13 rfl)) (hts _ (gw kw_859 rfl)) hd_X12_comes ⟨Nat.le_of_ble_eq_true rfl, Nat.le_of_ble_eq_true rfl⟩), (hts _ (gw kw_861 rfl)), (hts _ (gw ks_42 rfl))⟩ ⟨fb_std, va_recv (q := (RX12, TX12, 33)) hK hPc (ci := 12) (q0 := 0) rfl rfl, pre_std hPc hK hDc hN⟩ rfl rfl hl.1 rfl (lv_room (Nat.le_of_ble_eq_true rfl)) dX12_beach_96 ⟨Nat.le_of_ble_eq_true rfl, Nat.le_of_ble_eq_true rfl⟩) hS (fun q _ h => hFc q h) hFc (fun x_19 u9 t9 H1 locs ht hvm hw_19 hB hz1 hk1 hS => ?_)
                    obtain ⟨u_20, u_21, u_22, u_23, u_24⟩ := u9
                    obtain ⟨hP1, hK1, hD1⟩ := hB
                    rw [ht] at hP1
                    clear hK1
                    try dsimp only at hw_19
                    have hpd9 : PDx (dC, dI) classes A H1 [cI aC m_tape 64 tpf, cI aC m_letterAt 32 laf9, cI aC m_kept 100 u_17, cI aC m_got 8 pf, oX12 g0 m_refused m_kind m_figure m_weight m_got m_setting u_20 (nI sn) dn m_tape m_letter m_letterAt m_told 0 (nI a) (nI (scn Lt lz)) m_kept him 1 u_16 m_price m_offer m_gets m_yes m_buys m_ends m_carried m_row rm m_keptRow m_likeGets m_likePrice m_ahead, cI aC m_kind 9 u_21, cI aC m_figure 9 u_22, cI aC m_weight 9 u_23, cI aC m_setting 5 u_24, cI aC m_letter 32 lf9, cI aC m_told 96 td9] := jn_N (wr := [cI aC m_tape 64 tpf, cI aC m_letterAt 32 laf9, cI aC m_kept 100 u_17, cI aC m_got 8 pf]) hFc hk1 hP1 hD1 hP hD [4, 6, 7, 8, 10, 1, 3] [0, 2, 5, 9] rfl rfl (by decide) (by decide)
                    have hP := hpd9.1
                    have hD := hpd9.2
                    clear hpd9
                    generalize H1 = H at hP hS ⊢
                    clear hPc hDc hFc hz1 hk1 hP1 hD1 ht hvm
                    have hz_96 := hw_19
                    refine lv_if_eq (tgt := 105) hx hb dX12_beach_99 (by decide) (fun c_25 => ?_) (fun c_25 => ?_)
                    · refine lv_aload_n hx hb dX12_beach_105 rfl (lv_at hl 0 rfl) ?_
                      refine lv_iconst (v := 1) hx hb dX12_beach_106 (by decide) ?_
                      refine lv_iconst (v := 0) hx hb dX12_beach_107 (by decide) ?_
                      have hpd9 := pdf_N (cx := [oX12 g0 m_refused m_kind m_figure m_weight m_got m_setting u_20 (nI sn) dn m_tape m_letter m_letterAt m_told 0 (nI a) (nI (scn Lt lz)) m_kept him 1 u_16 m_price m_offer m_gets m_yes m_buys m_ends m_carried m_row rm m_keptRow m_likeGets m_likePrice m_ahead, cI aC m_kept 100 u_17, cI aC m_kind 9 u_21, cI aC m_figure 9 u_22, cI aC m_weight 9 u_23, cI aC m_got 8 pf, cI aC m_setting 5 u_24]) hP hD hS hA [4, 2, 5, 6, 7, 3, 8] (by decide) rfl
                      have hPc := hpd9.1
                      have hDc := hpd9.2.1
                      have hFc := hpd9.2.2
                      clear hpd9
                      refine va_callv (va_runV (As := [Value.int 1, Value.int 0]) (rest := []) ⟨hx, hb, hml, hown, hts⟩ (c_X12_passesAll_l l dC dI aC H.size g0 m_refused m_kind m_figure m_weight m_got m_setting m_tape m_letter m_letterAt m_told m_kept m_price m_offer m_gets m_yes m_buys m_ends m_carried m_row m_keptRow m_likeGets m_likePrice m_ahead u_20 (nI sn) dn 0 (nI a) (nI (scn Lt lz)) him 1 u_16 rm u_17 1 u_21 u_22 u_23 pf u_24 (by omega)) ⟨(callB_of 2 hts (gG kw_850) rfl rfl rfl (hts _ (gw kw_13 rfl)) (hts _ (gw kw_847 rfl)) hd_X12_passesAll ⟨Nat.le_of_ble_eq_true rfl, Nat.le_of_ble_eq_true rfl⟩), (hts _ (gw kw_849 rfl)), (hts _ (gw ks_39 rfl))⟩ ⟨fb_std, va_recv (q := (RX12, TX12, 33)) hK hPc (ci := 12) (q0 := 0) rfl rfl, pre_std hPc hK hDc hN⟩ rfl rfl hl.1 rfl (lv_room (Nat.le_of_ble_eq_true rfl)) dX12_beach_108 ⟨Nat.le_of_ble_eq_true rfl, Nat.le_of_ble_eq_true rfl⟩) hS (fun q _ h => hFc q h) hFc (fun u9 t9 H1 locs ht hvm hw_26 hB hz1 hk1 hS => ?_)
                      obtain ⟨u_27, u_28, u_29, u_30, u_31, u_32, u_33, u_34, u_35⟩ := u9
                      obtain ⟨hP1, hK1, hD1⟩ := hB
                      rw [ht] at hP1
                      clear hK1
                      try dsimp only at hw_26
                      have hpd9 : PDx (dC, dI) classes A H1 [cI aC m_tape 64 tpf, cI aC m_letterAt 32 laf9, cI aC m_letter 32 lf9, cI aC m_told 96 td9, oX12 g0 m_refused m_kind m_figure m_weight m_got m_setting u_28 u_29 u_30 m_tape m_letter m_letterAt m_told 0 (nI a) (nI (scn Lt lz)) m_kept him 0 u_27 m_price m_offer m_gets m_yes m_buys m_ends m_carried m_row rm m_keptRow m_likeGets m_likePrice m_ahead, cI aC m_kept 100 u_17, cI aC m_kind 9 u_31, cI aC m_figure 9 u_32, cI aC m_weight 9 u_33, cI aC m_got 8 u_34, cI aC m_setting 5 u_35] := jn_N (wr := [cI aC m_tape 64 tpf, cI aC m_letterAt 32 laf9, cI aC m_letter 32 lf9, cI aC m_told 96 td9]) hFc hk1 hP1 hD1 hP hD [4, 2, 5, 6, 7, 3, 8] [0, 1, 9, 10] rfl rfl (by decide) (by decide)
                      have hP := hpd9.1
                      have hD := hpd9.2
                      clear hpd9
                      generalize H1 = H at hP hS ⊢
                      clear hPc hDc hFc hz1 hk1 hP1 hD1 ht hvm
                      obtain ⟨hre, hr1, hr2, hr3⟩ := PK_eq hpk hw_26
                      have h9 : u_28 = nI n := hr1
                      subst h9
                      have h9 : u_29 = nI sn := hr2
                      subst h9
                      have h9 : dn = u_30 := Eq.symm (show u_30 = dn from hr3)
                      subst h9
                      have hfv : fwr Lt n dn 0 lz = nI (lst Lt e9) := by rw [hfe, fwr_s he2, if_pos ⟨he3, hz_96.1 c_25⟩]
                      have hne : ¬ fwr Lt n dn 0 lz = -9 := by rw [hfv]; exact nI_n9 (by omega)
                      have hbo : ¬ BOK Lt lz n dn := fun z => hne z.2
                      refine lv_sipush (v := -2000) hx hb dX12_beach_111 (by decide) ?_
                      refine lv_aload_n hx hb dX12_beach_114 rfl (lv_at hl 0 rfl) ?_
                      refine va_get (D := (dC, dI)) (ci := 12) (v := Value.ref m_letterAt) (C := RX12) (T := TX12) (N := 33) hx hb hts inX12 hown hK hP 4 rfl rfl 11 (by decide) (hts _ (gw kw_728 rfl)) (fun _ h9 => h9) rfl dX12_beach_115 ?_
                      refine lv_iload_n hx hb dX12_beach_118 rfl (lv_at hl 2 rfl) ?_
                      have h_36 : vp_in (nI (scn Lt e9)) 32 := vp_in_nI (by omega) (by omega)
                      refine va_iald hx hb hK hP 1 0 rfl rfl h_36 dX12_beach_119 ?_
                      refine lv_topi (fun x_37 e_37 => ?_)
                      have h9 : x_37 = nI (lst Lt e9) := by rw [e_37, nI_clamp (by omega)]; exact hs3
                      subst h9
                      refine lv_isub hx hb dX12_beach_120 ?_
                      refine lv_topi (fun x_38 e_38 => ?_)
                      have hpd9 := pd_N (cx := [oX12 g0 m_refused m_kind m_figure m_weight m_got m_setting (nI n) (nI sn) dn m_tape m_letter m_letterAt m_told 0 (nI a) (nI (scn Lt lz)) m_kept him 0 u_27 m_price m_offer m_gets m_yes m_buys m_ends m_carried m_row rm m_keptRow m_likeGets m_likePrice m_ahead, cI aC m_tape 64 tpf, cI aC m_letter 32 lf9, cI aC m_letterAt 32 laf9, cI aC m_told 96 td9, cI aC m_kept 100 u_17, cI aC m_kind 9 u_31, cI aC m_figure 9 u_32, cI aC m_weight 9 u_33, cI aC m_got 8 u_34, cI aC m_setting 5 u_35]) hP hD [4, 0, 2, 1, 3, 5, 6, 7, 8, 9, 10] (by decide) rfl
                      have hP9 := hpd9.1
                      have hD9 := hpd9.2
                      refine W.widen (k := 0) (n := 0) (by omega) (by omega) ?_
                      exact W.iret (v := x_38) hx hb hr (fun t ht hW => ⟨⟨x_38, ((nI n), (nI a), (nI (scn Lt lz)), 0, u_27, u_31, u_32, u_33, u_34, u_35, u_17, lf9, laf9, td9), rfl, ⟨by rw [e_38]; unfold bcR; rw [if_neg hbo]; unfold flR; rw [if_pos ⟨h0z, hlz0⟩, if_neg hne, hfv], by unfold bcN; rw [if_neg hbo], by unfold bcN bcM bcS; rw [if_neg hbo, if_neg hbo, if_neg hbo, if_neg hbo, if_neg hbo]; exact EVS_cp hev (fun j hj => hre.1 j (by omega)) (fun j hj => hre.2.1 j (by omega)) (fun j hj => hre.2.2.1 j (by omega)) hre.2.2.2.2, fun j hj => hre.2.2.2.1 j hj, fun q hq => hpq q (Or.inl (by omega))⟩, by rw [ht]; exact hP9, va_K.moved hW.alike hK, hD9⟩, hS.F ht⟩) hS.2.2 dX12_beach_121
                    · refine lv_goto (tgt := 122) hx hb dX12_beach_102 (by decide) ?_
                      obtain ⟨x_39, e_39⟩ : ∃ y : Int32, y = (nI (scn Lt e9)) + 1 := ⟨_, rfl⟩
                      refine lv_iinc (v := x_39) (lv' := [(2, Value.int x_39), (0, Value.ref g0), (1, Value.int x1)]) hx hb dX12_beach_122 hl (k := 2) rfl (by rw [e_39]; rfl) (by decide) rfl (fun ls hl => ?_)
                      obtain ⟨hrg, hmen, hev2⟩ := hz_96.2 c_25
                      have hsz : u_20 = nI (n + cm Lt (e9 + 1)) := hmen
                      have hP : va_P (dC, dI) classes [cI aC m_tape 64 tpf, cI aC m_letterAt 32 laf9, cI aC m_kept 100 u_17, cI aC m_got 8 pf, oX12 g0 m_refused m_kind m_figure m_weight m_got m_setting (nI (n + cm Lt (e9 + 1))) (nI sn) dn m_tape m_letter m_letterAt m_told 0 (nI a) (nI (scn Lt lz)) m_kept him 1 u_16 m_price m_offer m_gets m_yes m_buys m_ends m_carried m_row rm m_keptRow m_likeGets m_likePrice m_ahead, cI aC m_kind 9 u_21, cI aC m_figure 9 u_22, cI aC m_weight 9 u_23, cI aC m_setting 5 u_24, cI aC m_letter 32 lf9, cI aC m_told 96 td9] H := by rw [← hsz]; exact hP
                      have hD : va_D A [cI aC m_tape 64 tpf, cI aC m_letterAt 32 laf9, cI aC m_kept 100 u_17, cI aC m_got 8 pf, oX12 g0 m_refused m_kind m_figure m_weight m_got m_setting (nI (n + cm Lt (e9 + 1))) (nI sn) dn m_tape m_letter m_letterAt m_told 0 (nI a) (nI (scn Lt lz)) m_kept him 1 u_16 m_price m_offer m_gets m_yes m_buys m_ends m_carried m_row rm m_keptRow m_likeGets m_likePrice m_ahead, cI aC m_kind 9 u_21, cI aC m_figure 9 u_22, cI aC m_weight 9 u_23, cI aC m_setting 5 u_24, cI aC m_letter 32 lf9, cI aC m_told 96 td9] := by rw [← hsz]; exact hD
                      have h9 : x_39 = nI (scn Lt (e9 + 1)) := by rw [e_39, nI_1, scn_y he3]
                      subst h9
                      have hf2 : fwr Lt n dn 0 lz = fwr Lt n dn (e9 + 1) (lz - (e9 + 1)) := by rw [hfe, fwr_s he2, if_neg (fun z => z.2 hrg)]
                      have hrn2 : lrn Lt (e9 + 1) = 0 := lrn_se (z := lz) (by rw [h0z]; decide) he2 he3
                      refine lv_goto (tgt := 86) hx hb dX12_beach_125 (by decide) ?_
                      exact ih_86 (e9 + 1) u_21 u_22 u_23 u_24 (by omega) (by omega) (hrn2) (hf2) (hev2) _ _ _ (hP.sub [0, 9, 1, 10, 4, 2, 5, 6, 7, 3, 8] rfl) (hD.sub [0, 9, 1, 10, 4, 2, 5, 6, 7, 3, 8] (by decide) rfl) hS (lv_sub hl [1, 2, 0] rfl)
              exact lp_86 ((lz - 0) + 1) 0 kf ff wf stf (Nat.lt_succ_self _) (by omega) (rfl) (rfl) (hev) _ _ _ (hP.sub [0, 1, 2, 3, 4, 5, 6, 7, 8, 9, 10] rfl) (hD.sub [0, 1, 2, 3, 4, 5, 6, 7, 8, 9, 10] (by decide) rfl) hS (lv_sub hl [1, 2, 0] rfl)
            · exact absurd c_14 c_1
          · have haz : a < lz ∨ a = 0 := Or.inr (hprs.2.2.2.2.1 ((nI_eq (a := k) (b := 0) (by omega) (by omega)).mp c_13))
            refine lv_aload_n hx hb dX12_beach_34 rfl (lv_at hl 0 rfl) ?_
            have hpd9 := pdf_N (cx := [oX12 g0 m_refused m_kind m_figure m_weight m_got m_setting (nI n) (nI sn) dn m_tape m_letter m_letterAt m_told (nI lz) (nI a) (nI k) m_kept him ki crs m_price m_offer m_gets m_yes m_buys m_ends m_carried m_row rm m_keptRow m_likeGets m_likePrice m_ahead, cI aC m_tape 64 tpf, cI aC m_letter 32 lf9, cI aC m_letterAt 32 laf9, cI aC m_told 96 td9]) hP hD hS hA [0, 1, 2, 3, 4] (by decide) rfl
            have hPc := hpd9.1
            have hDc := hpd9.2.1
            have hFc := hpd9.2.2
            clear hpd9
            refine va_calli (va_runV (As := []) (rest := []) ⟨hx, hb, hml, hown, hts⟩ (c_X12_statement l dC dI aC H.size g0 m_refused m_kind m_figure m_weight m_got m_setting m_tape m_letter m_letterAt m_told m_kept m_price m_offer m_gets m_yes m_buys m_ends m_carried m_row m_keptRow m_likeGets m_likePrice m_ahead (nI n) (nI sn) dn him ki crs rm lz a k Lt tpf lf9 laf9 td9 (hlt0) (hal) (hprs.2.1) (haz) (h3k)) ⟨(callB_of 0 hts (gG kw_835) rfl rfl rfl (hts _ (gw kw_13 rfl)) (hts _ (gw kw_832 rfl)) hd_X12_statement ⟨Nat.le_of_ble_eq_true rfl, Nat.le_of_ble_eq_true rfl⟩), (hts _ (gw kw_834 rfl)), (hts _ (gw ks_36 rfl))⟩ ⟨fb_std, va_recv (q := (RX12, TX12, 33)) hK hPc (ci := 12) (q0 := 0) rfl rfl, pre_std hPc hK hDc hN⟩ rfl rfl hl.1 rfl (lv_room (Nat.le_of_ble_eq_true rfl)) dX12_beach_35 ⟨Nat.le_of_ble_eq_true rfl, Nat.le_of_ble_eq_true rfl⟩) hS (fun q _ h => hFc q h) hFc (fun x_40 u9 t9 H1 locs ht hvm hw_40 hB hz1 hk1 hS => ?_)
            obtain ⟨u_41, u_42, u_43, u_44⟩ := u9
            obtain ⟨hP1, hK1, hD1⟩ := hB
            rw [ht] at hP1
            clear hK1
            try dsimp only at hw_40
            have hpd9 : PDx (dC, dI) classes A H1 [cI aC m_kept 100 kp, cI aC m_kind 9 kf, cI aC m_figure 9 ff, cI aC m_weight 9 wf, cI aC m_got 8 pf, cI aC m_setting 5 stf, oX12 g0 m_refused m_kind m_figure m_weight m_got m_setting (nI n) (nI sn) dn m_tape m_letter m_letterAt m_told (nI lz) u_41 (nI k) m_kept him ki crs m_price m_offer m_gets m_yes m_buys m_ends m_carried m_row rm m_keptRow m_likeGets m_likePrice m_ahead, cI aC m_tape 64 tpf, cI aC m_letter 32 u_42, cI aC m_letterAt 32 u_43, cI aC m_told 96 u_44] := jn_N (wr := [cI aC m_kept 100 kp, cI aC m_kind 9 kf, cI aC m_figure 9 ff, cI aC m_weight 9 wf, cI aC m_got 8 pf, cI aC m_setting 5 stf]) hFc hk1 hP1 hD1 hP hD [0, 1, 2, 3, 4] [5, 6, 7, 8, 9, 10] rfl rfl (by decide) (by decide)
            have hP := hpd9.1
            have hD := hpd9.2
            clear hpd9
            generalize H1 = H at hP hS ⊢
            clear hPc hDc hFc hz1 hk1 hP1 hD1 ht hvm
            have hz_35 := hw_40
            refine lv_istore_n (lv' := [(1, Value.int x_40), (0, Value.ref g0)]) hx hb dX12_beach_38 rfl hl (by decide) rfl (fun ls hl => ?_)
            refine lv_aload_n hx hb dX12_beach_39 rfl (lv_at hl 1 rfl) ?_
            refine lv_dup hx hb dX12_beach_40 rfl ?_
            refine va_get (D := (dC, dI)) (ci := 12) (v := Value.int (nI k)) (C := RX12) (T := TX12) (N := 33) hx hb hts inX12 hown hK hP 6 rfl rfl 15 (by decide) (hts _ (gw kw_732 rfl)) (fun _ h9 => h9) rfl dX12_beach_41 ?_
            refine lv_iload_n hx hb dX12_beach_44 rfl (lv_at hl 0 rfl) ?_
            refine lv_if_eq (tgt := 52) hx hb dX12_beach_45 (by decide) (fun c_45 => ?_) (fun c_45 => ?_)
            · obtain ⟨q, hfl, hat⟩ := hz_35.1 c_45
              have h9 : u_41 = nI q := hat
              subst h9
              refine lv_iconst (v := 0) hx hb dX12_beach_52 (by decide) ?_
              refine lv_iadd hx hb dX12_beach_53 ?_
              refine lv_topi (fun x_46 e_46 => ?_)
              have h9 : x_46 = nI k := by rw [e_46]; exact Int32.add_zero _
              subst h9
              refine va_put (D := (dC, dI)) (ci := 12) (v := Value.int (nI k)) (ty := .int) (C := RX12) (T := TX12) (N := 33) hx hb hts inX12 tyX12 tyX12_ok nmX12 hown hK hP hD hS 6 rfl rfl 15 (by decide) (hts _ (gw kw_732 rfl)) (fun _ h9 => h9) rfl (by decide +kernel) rfl rfl (Nat.le_of_ble_eq_true rfl) dX12_beach_54 (fun H locs hP hD hS => ?_)
              have hpd9 : PDx (dC, dI) classes A H [cI aC m_kept 100 kp, cI aC m_kind 9 kf, cI aC m_figure 9 ff, cI aC m_weight 9 wf, cI aC m_got 8 pf, cI aC m_setting 5 stf, oX12 g0 m_refused m_kind m_figure m_weight m_got m_setting (nI n) (nI sn) dn m_tape m_letter m_letterAt m_told (nI lz) (nI q) (nI k) m_kept him ki crs m_price m_offer m_gets m_yes m_buys m_ends m_carried m_row rm m_keptRow m_likeGets m_likePrice m_ahead, cI aC m_tape 64 tpf, cI aC m_letter 32 u_42, cI aC m_letterAt 32 u_43, cI aC m_told 96 u_44] := ⟨hP, hD⟩
              have hP := hpd9.1
              have hD := hpd9.2
              clear hpd9
              have m1 := bm_1 (d := lz - a) c_1
              have hin2 : (x_40 = 0 → FLP Lt lz q) ∧ (¬ x_40 = 0 → PRS Lt lz q k u_42 u_43 u_44) := ⟨fun _ => hfl, fun z => absurd c_45 z⟩
              have m2 := bm_0 (d := lz - q) c_45
              have hms : bm x_40 (lz - q) < fu := by omega
              refine lv_goto (tgt := 12) hx hb dX12_beach_57 (by decide) ?_
              exact ih_12 q k x_40 u_42 u_43 u_44 (hms) (hin2) _ _ _ (hP.sub [6, 7, 8, 9, 10, 0, 1, 2, 3, 4, 5] rfl) (hD.sub [6, 7, 8, 9, 10, 0, 1, 2, 3, 4, 5] (by decide) rfl) hS (lv_sub hl [1, 0] rfl)
            · obtain ⟨q, hst, hql, hq5, hat, hlf, hla, htl, hfr⟩ := hz_35.2 c_45
              have h9 : u_41 = nI (q + 1) := hat
              subst h9
              refine lv_iconst (v := 1) hx hb dX12_beach_48 (by decide) ?_
              refine lv_goto (tgt := 53) hx hb dX12_beach_49 (by decide) ?_
              refine lv_iadd hx hb dX12_beach_53 ?_
              refine lv_topi (fun x_47 e_47 => ?_)
              have h9 : x_47 = nI (k + 1) := by rw [e_47, nI_1]
              subst h9
              refine va_put (D := (dC, dI)) (ci := 12) (v := Value.int (nI (k + 1))) (ty := .int) (C := RX12) (T := TX12) (N := 33) hx hb hts inX12 tyX12 tyX12_ok nmX12 hown hK hP hD hS 6 rfl rfl 15 (by decide) (hts _ (gw kw_732 rfl)) (fun _ h9 => h9) rfl (by decide +kernel) rfl rfl (Nat.le_of_ble_eq_true rfl) dX12_beach_54 (fun H locs hP hD hS => ?_)
              have hpd9 : PDx (dC, dI) classes A H [cI aC m_kept 100 kp, cI aC m_kind 9 kf, cI aC m_figure 9 ff, cI aC m_weight 9 wf, cI aC m_got 8 pf, cI aC m_setting 5 stf, oX12 g0 m_refused m_kind m_figure m_weight m_got m_setting (nI n) (nI sn) dn m_tape m_letter m_letterAt m_told (nI lz) (nI (q + 1)) (nI (k + 1)) m_kept him ki crs m_price m_offer m_gets m_yes m_buys m_ends m_carried m_row rm m_keptRow m_likeGets m_likePrice m_ahead, cI aC m_tape 64 tpf, cI aC m_letter 32 u_42, cI aC m_letterAt 32 u_43, cI aC m_told 96 u_44] := ⟨hP, hD⟩
              have hP := hpd9.1
              have hD := hpd9.2
              clear hpd9
              have m1 := bm_1 (d := lz - a) c_1
              have hin2 : (x_40 = 0 → FLP Lt lz (q + 1)) ∧ (¬ x_40 = 0 → PRS Lt lz (q + 1) (k + 1) u_42 u_43 u_44) := ⟨fun z => absurd z c_45, fun _ => PRS_s hprs hst hql hq5 hlf hla htl hfr⟩
              have m2 := bm_1 (d := lz - (q + 1)) c_45
              have m3 := (STM_k hst).2
              have hms : bm x_40 (lz - (q + 1)) < fu := by omega
              refine lv_goto (tgt := 12) hx hb dX12_beach_57 (by decide) ?_
              exact ih_12 (q + 1) (k + 1) x_40 u_42 u_43 u_44 (hms) (hin2) _ _ _ (hP.sub [6, 7, 8, 9, 10, 0, 1, 2, 3, 4, 5] rfl) (hD.sub [6, 7, 8, 9, 10, 0, 1, 2, 3, 4, 5] (by decide) rfl) hS (lv_sub hl [1, 0] rfl)
  exact lp_12 ((bm 1 (lz - 0)) + 1) 0 0 1 lf laf tdf (Nat.lt_succ_self _) (⟨fun z => absurd z (by decide), fun _ => PRS_0⟩) _ _ _ (hP.sub [0, 1, 2, 3, 4, 5, 6, 7, 8, 9, 10] rfl) (hD.sub [0, 1, 2, 3, 4, 5, 6, 7, 8, 9, 10] (by decide) rfl) hS (lv_sub hl [1, 0] rfl)

end

